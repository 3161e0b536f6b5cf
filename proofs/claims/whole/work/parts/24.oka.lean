set_option maxRecDepth 100000 in
theorem ok_X8_append : am_mok 8 90 m_X8_append = true := by decide +kernel
set_option maxRecDepth 100000 in
theorem ok_X11_feed : am_mok 11 146 m_X11_feed = true := by decide +kernel
set_option maxRecDepth 100000 in
theorem ok_X11_end : am_mok 11 147 m_X11_end = true := by decide +kernel
set_option maxRecDepth 100000 in
theorem ok_X11_fault : am_mok 11 150 m_X11_fault = true := by decide +kernel
set_option maxRecDepth 100000 in
theorem ok_X11_later : am_mok 11 157 m_X11_later = true := by decide +kernel
set_option maxRecDepth 100000 in
theorem ok_X11_isDay : am_mok 11 181 m_X11_isDay = true := by decide +kernel
set_option maxRecDepth 100000 in
theorem ok_X11_isUnder : am_mok 11 182 m_X11_isUnder = true := by decide +kernel
set_option maxRecDepth 100000 in
theorem ok_X12_feed : am_mok 12 184 m_X12_feed = true := by decide +kernel
set_option maxRecDepth 100000 in
theorem ok_X12_four : am_mok 12 185 m_X12_four = true := by decide +kernel
set_option maxRecDepth 100000 in
theorem ok_X12_end : am_mok 12 186 m_X12_end = true := by decide +kernel
set_option maxRecDepth 100000 in
theorem ok_X12_isPoint : am_mok 12 203 m_X12_isPoint = true := by decide +kernel
set_option maxRecDepth 100000 in
theorem ok_X12_isDay : am_mok 12 219 m_X12_isDay = true := by decide +kernel
set_option maxRecDepth 100000 in
theorem ok_X12_fault : am_mok 12 221 m_X12_fault = true := by decide +kernel
set_option maxRecDepth 100000 in
theorem ok_X12_isSmall : am_mok 12 229 m_X12_isSmall = true := by decide +kernel
