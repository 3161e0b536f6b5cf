set_option maxRecDepth 100000 in
theorem okL_0 : ((m_L_law.1.drop 0).take 30).all (am_row 20 ((am_y 301).name == "<init>") (am_cc 301) (am_rt 301) (am_nL 301) m_L_law) = true := by decide +kernel
set_option maxRecDepth 100000 in
theorem okL_1 : ((m_L_law.1.drop 30).take 30).all (am_row 20 ((am_y 301).name == "<init>") (am_cc 301) (am_rt 301) (am_nL 301) m_L_law) = true := by decide +kernel
set_option maxRecDepth 100000 in
theorem okL_2 : ((m_L_law.1.drop 60).take 30).all (am_row 20 ((am_y 301).name == "<init>") (am_cc 301) (am_rt 301) (am_nL 301) m_L_law) = true := by decide +kernel
set_option maxRecDepth 100000 in
theorem okL_3 : ((m_L_law.1.drop 90).take 30).all (am_row 20 ((am_y 301).name == "<init>") (am_cc 301) (am_rt 301) (am_nL 301) m_L_law) = true := by decide +kernel
set_option maxRecDepth 100000 in
theorem okL_4 : ((m_L_law.1.drop 120).take 30).all (am_row 20 ((am_y 301).name == "<init>") (am_cc 301) (am_rt 301) (am_nL 301) m_L_law) = true := by decide +kernel
set_option maxRecDepth 100000 in
theorem okL_5 : ((m_L_law.1.drop 150).take 30).all (am_row 20 ((am_y 301).name == "<init>") (am_cc 301) (am_rt 301) (am_nL 301) m_L_law) = true := by decide +kernel
set_option maxRecDepth 100000 in
theorem okL_6 : ((m_L_law.1.drop 180).take 30).all (am_row 20 ((am_y 301).name == "<init>") (am_cc 301) (am_rt 301) (am_nL 301) m_L_law) = true := by decide +kernel
set_option maxRecDepth 100000 in
theorem okL_7 : ((m_L_law.1.drop 210).take 30).all (am_row 20 ((am_y 301).name == "<init>") (am_cc 301) (am_rt 301) (am_nL 301) m_L_law) = true := by decide +kernel
