set_option maxRecDepth 100000 in
theorem okL_16 : ((m_L_law.1.drop 480).take 30).all (am_row 20 ((am_y 301).name == "<init>") (am_cc 301) (am_rt 301) (am_nL 301) m_L_law) = true := by decide +kernel
set_option maxRecDepth 100000 in
theorem okL_17 : ((m_L_law.1.drop 510).take 30).all (am_row 20 ((am_y 301).name == "<init>") (am_cc 301) (am_rt 301) (am_nL 301) m_L_law) = true := by decide +kernel
set_option maxRecDepth 100000 in
theorem okL_18 : ((m_L_law.1.drop 540).take 30).all (am_row 20 ((am_y 301).name == "<init>") (am_cc 301) (am_rt 301) (am_nL 301) m_L_law) = true := by decide +kernel
set_option maxRecDepth 100000 in
theorem okL_19 : ((m_L_law.1.drop 570).take 30).all (am_row 20 ((am_y 301).name == "<init>") (am_cc 301) (am_rt 301) (am_nL 301) m_L_law) = true := by decide +kernel
set_option maxRecDepth 100000 in
theorem okL_20 : ((m_L_law.1.drop 600).take 30).all (am_row 20 ((am_y 301).name == "<init>") (am_cc 301) (am_rt 301) (am_nL 301) m_L_law) = true := by decide +kernel
set_option maxRecDepth 100000 in
theorem okL_21 : ((m_L_law.1.drop 630).take 30).all (am_row 20 ((am_y 301).name == "<init>") (am_cc 301) (am_rt 301) (am_nL 301) m_L_law) = true := by decide +kernel
set_option maxRecDepth 100000 in
theorem okL_22 : ((m_L_law.1.drop 660).take 30).all (am_row 20 ((am_y 301).name == "<init>") (am_cc 301) (am_rt 301) (am_nL 301) m_L_law) = true := by decide +kernel
set_option maxRecDepth 100000 in
theorem okL_23 : ((m_L_law.1.drop 690).take 30).all (am_row 20 ((am_y 301).name == "<init>") (am_cc 301) (am_rt 301) (am_nL 301) m_L_law) = true := by decide +kernel
