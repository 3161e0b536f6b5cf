set_option maxRecDepth 100000 in
theorem okL_24 : ((m_L_law.1.drop 720).take 30).all (am_row 20 ((am_y 301).name == "<init>") (am_cc 301) (am_rt 301) (am_nL 301) m_L_law) = true := by decide +kernel
set_option maxRecDepth 100000 in
theorem okL_25 : ((m_L_law.1.drop 750).take 30).all (am_row 20 ((am_y 301).name == "<init>") (am_cc 301) (am_rt 301) (am_nL 301) m_L_law) = true := by decide +kernel
set_option maxRecDepth 100000 in
theorem okL_26 : ((m_L_law.1.drop 780).take 30).all (am_row 20 ((am_y 301).name == "<init>") (am_cc 301) (am_rt 301) (am_nL 301) m_L_law) = true := by decide +kernel
set_option maxRecDepth 100000 in
theorem okL_27 : ((m_L_law.1.drop 810).take 30).all (am_row 20 ((am_y 301).name == "<init>") (am_cc 301) (am_rt 301) (am_nL 301) m_L_law) = true := by decide +kernel
set_option maxRecDepth 100000 in
theorem okL_28 : ((m_L_law.1.drop 840).take 30).all (am_row 20 ((am_y 301).name == "<init>") (am_cc 301) (am_rt 301) (am_nL 301) m_L_law) = true := by decide +kernel
set_option maxRecDepth 100000 in
theorem okL_29 : ((m_L_law.1.drop 870).take 30).all (am_row 20 ((am_y 301).name == "<init>") (am_cc 301) (am_rt 301) (am_nL 301) m_L_law) = true := by decide +kernel
set_option maxRecDepth 100000 in
theorem okL_30 : ((m_L_law.1.drop 900).take 30).all (am_row 20 ((am_y 301).name == "<init>") (am_cc 301) (am_rt 301) (am_nL 301) m_L_law) = true := by decide +kernel
set_option maxRecDepth 100000 in
theorem okL_31 : ((m_L_law.1.drop 930).take 30).all (am_row 20 ((am_y 301).name == "<init>") (am_cc 301) (am_rt 301) (am_nL 301) m_L_law) = true := by decide +kernel
