set_option maxRecDepth 100000 in
theorem okL_8 : ((m_L_law.1.drop 240).take 30).all (am_row 20 ((am_y 301).name == "<init>") (am_cc 301) (am_rt 301) (am_nL 301) m_L_law) = true := by decide +kernel
set_option maxRecDepth 100000 in
theorem okL_9 : ((m_L_law.1.drop 270).take 30).all (am_row 20 ((am_y 301).name == "<init>") (am_cc 301) (am_rt 301) (am_nL 301) m_L_law) = true := by decide +kernel
set_option maxRecDepth 100000 in
theorem okL_10 : ((m_L_law.1.drop 300).take 30).all (am_row 20 ((am_y 301).name == "<init>") (am_cc 301) (am_rt 301) (am_nL 301) m_L_law) = true := by decide +kernel
set_option maxRecDepth 100000 in
theorem okL_11 : ((m_L_law.1.drop 330).take 30).all (am_row 20 ((am_y 301).name == "<init>") (am_cc 301) (am_rt 301) (am_nL 301) m_L_law) = true := by decide +kernel
set_option maxRecDepth 100000 in
theorem okL_12 : ((m_L_law.1.drop 360).take 30).all (am_row 20 ((am_y 301).name == "<init>") (am_cc 301) (am_rt 301) (am_nL 301) m_L_law) = true := by decide +kernel
set_option maxRecDepth 100000 in
theorem okL_13 : ((m_L_law.1.drop 390).take 30).all (am_row 20 ((am_y 301).name == "<init>") (am_cc 301) (am_rt 301) (am_nL 301) m_L_law) = true := by decide +kernel
set_option maxRecDepth 100000 in
theorem okL_14 : ((m_L_law.1.drop 420).take 30).all (am_row 20 ((am_y 301).name == "<init>") (am_cc 301) (am_rt 301) (am_nL 301) m_L_law) = true := by decide +kernel
set_option maxRecDepth 100000 in
theorem okL_15 : ((m_L_law.1.drop 450).take 30).all (am_row 20 ((am_y 301).name == "<init>") (am_cc 301) (am_rt 301) (am_nL 301) m_L_law) = true := by decide +kernel
