set_option maxRecDepth 100000 in
theorem okL_32 : ((m_L_law.1.drop 960).take 30).all (am_row 20 ((am_y 301).name == "<init>") (am_cc 301) (am_rt 301) (am_nL 301) m_L_law) = true := by decide +kernel
set_option maxRecDepth 100000 in
theorem okL_33 : ((m_L_law.1.drop 990).take 30).all (am_row 20 ((am_y 301).name == "<init>") (am_cc 301) (am_rt 301) (am_nL 301) m_L_law) = true := by decide +kernel
set_option maxRecDepth 100000 in
theorem okL_34 : ((m_L_law.1.drop 1020).take 30).all (am_row 20 ((am_y 301).name == "<init>") (am_cc 301) (am_rt 301) (am_nL 301) m_L_law) = true := by decide +kernel
set_option maxRecDepth 100000 in
theorem okL_35 : ((m_L_law.1.drop 1050).take 30).all (am_row 20 ((am_y 301).name == "<init>") (am_cc 301) (am_rt 301) (am_nL 301) m_L_law) = true := by decide +kernel
set_option maxRecDepth 100000 in
theorem okL_36 : ((m_L_law.1.drop 1080).take 30).all (am_row 20 ((am_y 301).name == "<init>") (am_cc 301) (am_rt 301) (am_nL 301) m_L_law) = true := by decide +kernel
set_option maxRecDepth 100000 in
theorem okL_37 : ((m_L_law.1.drop 1110).take 30).all (am_row 20 ((am_y 301).name == "<init>") (am_cc 301) (am_rt 301) (am_nL 301) m_L_law) = true := by decide +kernel
set_option maxRecDepth 100000 in
theorem okL_38 : ((m_L_law.1.drop 1140).take 30).all (am_row 20 ((am_y 301).name == "<init>") (am_cc 301) (am_rt 301) (am_nL 301) m_L_law) = true := by decide +kernel
set_option maxRecDepth 100000 in
theorem okL_39 : ((m_L_law.1.drop 1170).take 30).all (am_row 20 ((am_y 301).name == "<init>") (am_cc 301) (am_rt 301) (am_nL 301) m_L_law) = true := by decide +kernel
