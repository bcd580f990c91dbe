set_option maxRecDepth 1000000 in
theorem t_o1 : a_ok m_F t_Z t_W a_noG a_one 40000 (t_at 427) = true := by decide +kernel
set_option maxRecDepth 1000000 in
theorem t_o3 : a_ok m_F t_Z t_W a_noG a_one 40000 (t_at 463) = true := by decide +kernel
set_option maxRecDepth 1000000 in
theorem t_o4 : a_ok m_F t_Z t_W a_noG a_one 40000 (t_at 486) = true := by decide +kernel
set_option maxRecDepth 1000000 in
theorem t_o5 : a_ok m_F t_Z t_W a_noG a_one 40000 (t_at 519) = true := by decide +kernel
set_option maxRecDepth 1000000 in
theorem t_o6 : a_ok m_F t_Z t_W a_noG a_one 40000 (t_at 542) = true := by decide +kernel
set_option maxRecDepth 1000000 in
theorem t_o7 : a_ok m_F t_Z t_W a_noG a_one 40000 (t_at 575) = true := by decide +kernel
set_option maxRecDepth 1000000 in
theorem t_o8 : a_ok m_F t_Z t_W a_noG a_one 40000 (t_at 598) = true := by decide +kernel
set_option maxRecDepth 1000000 in
theorem t_o9 : a_ok m_F t_Z t_W a_noG a_one 40000 (t_at 621) = true := by decide +kernel
set_option maxRecDepth 1000000 in
theorem t_o10 : a_ok m_F t_Z t_W a_noG a_one 40000 (t_at 654) = true := by decide +kernel
set_option maxRecDepth 1000000 in
theorem t_o11 : a_ok m_F t_Z t_W a_noG a_one 40000 (t_at 677) = true := by decide +kernel
set_option maxRecDepth 1000000 in
theorem t_o12 : a_ok m_F t_Z t_W a_noG a_one 40000 (t_at 700) = true := by decide +kernel
set_option maxRecDepth 1000000 in
theorem t_o13 : a_ok m_F t_Z t_W a_noG a_one 40000 (t_at 723) = true := by decide +kernel
set_option maxRecDepth 1000000 in
theorem t_o14 : a_ok m_F t_Z t_W a_noG a_one 40000 (t_at 746) = true := by decide +kernel
set_option maxRecDepth 1000000 in
theorem t_o15 : a_ok m_F t_Z t_W a_noG a_one 40000 (t_at 759) = true := by decide +kernel
set_option maxRecDepth 1000000 in
theorem t_o16 : a_ok m_F t_Z t_W a_noG a_one 40000 (t_at 792) = true := by decide +kernel
set_option maxRecDepth 1000000 in
theorem t_o17 : a_ok m_F t_Z t_W a_noG a_one 40000 (t_at 825) = true := by decide +kernel
set_option maxRecDepth 1000000 in
theorem t_o18 : a_ok m_F t_Z t_W a_noG a_one 40000 (t_at 848) = true := by decide +kernel
set_option maxRecDepth 1000000 in
theorem t_o19 : a_ok m_F t_Z t_W a_noG a_one 40000 (t_at 871) = true := by decide +kernel
set_option maxRecDepth 1000000 in
theorem t_o20 : a_ok m_F t_Z t_W a_noG a_one 40000 (t_at 894) = true := by decide +kernel
set_option maxRecDepth 1000000 in
theorem t_o21 : a_ok m_F t_Z t_W a_noG a_one 40000 (t_at 917) = true := by decide +kernel
set_option maxRecDepth 1000000 in
theorem t_o22 : a_ok m_F t_Z t_W a_noG a_one 40000 (t_at 950) = true := by decide +kernel
set_option maxRecDepth 1000000 in
theorem t_o23 : a_ok m_F t_Z t_W a_noG a_one 40000 (t_at 973) = true := by decide +kernel
set_option maxRecDepth 1000000 in
theorem t_o24 : a_ok m_F t_Z t_W a_noG a_one 40000 (t_at 1006) = true := by decide +kernel
set_option maxRecDepth 1000000 in
theorem t_o25 : a_ok m_F t_Z t_W a_noG a_one 40000 (t_at 1029) = true := by decide +kernel
set_option maxRecDepth 1000000 in
theorem t_o26 : a_ok m_F t_Z t_W a_noG a_one 40000 (t_at 1042) = true := by decide +kernel
set_option maxRecDepth 1000000 in
theorem t_o27 : a_ok m_F t_Z t_W a_noG a_one 40000 (t_at 1055) = true := by decide +kernel
set_option maxRecDepth 1000000 in
theorem t_o28 : a_ok m_F t_Z t_W a_noG a_one 40000 (t_at 1068) = true := by decide +kernel
set_option maxRecDepth 1000000 in
theorem t_o29 : a_ok m_F t_Z t_W a_noG a_one 40000 (t_at 1091) = true := by decide +kernel
set_option maxRecDepth 1000000 in
theorem t_o30 : a_ok m_F t_Z t_W a_noG a_one 40000 (t_at 1114) = true := by decide +kernel
set_option maxRecDepth 1000000 in
theorem t_o31 : a_ok m_F t_Z t_W a_noG a_one 40000 (t_at 1127) = true := by decide +kernel
set_option maxRecDepth 1000000 in
theorem t_o32 : a_ok m_F t_Z t_W a_noG a_one 40000 (t_at 1140) = true := by decide +kernel
set_option maxRecDepth 1000000 in
theorem t_o33 : a_ok m_F t_Z t_W a_noG a_one 40000 (t_at 1163) = true := by decide +kernel
set_option maxRecDepth 1000000 in
theorem t_o34 : a_ok m_F t_Z t_W a_noG a_one 40000 (t_at 1186) = true := by decide +kernel
set_option maxRecDepth 1000000 in
theorem t_o35 : a_ok m_F t_Z t_W a_noG a_one 40000 (t_at 1209) = true := by decide +kernel
set_option maxRecDepth 1000000 in
theorem t_o36 : a_ok m_F t_Z t_W a_noG a_one 40000 (t_at 1232) = true := by decide +kernel
set_option maxRecDepth 1000000 in
theorem t_o37 : a_ok m_F t_Z t_W a_noG a_one 40000 (t_at 1255) = true := by decide +kernel
set_option maxRecDepth 1000000 in
theorem t_o38 : a_ok m_F t_Z t_W a_noG a_one 40000 (t_at 1268) = true := by decide +kernel
set_option maxRecDepth 1000000 in
theorem t_o39 : a_ok m_F t_Z t_W a_noG a_one 40000 (t_at 1281) = true := by decide +kernel
set_option maxRecDepth 1000000 in
theorem t_o40 : a_ok m_F t_Z t_W a_noG a_one 40000 (t_at 1304) = true := by decide +kernel
set_option maxRecDepth 1000000 in
theorem t_o41 : a_ok m_F t_Z t_W a_noG a_one 40000 (t_at 1327) = true := by decide +kernel
