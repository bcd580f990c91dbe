/-! contracts and their checks (by program, cert3.py) -/
def x_k241 : b_K := (274, 2, ([(0, 7, 0), (0, 27, 0)], [], [], [(2, (113, [])), (0, (0, [(0, 1)]))], [(135, (0, [(0, 1)]), (0, (0, [(1, 1)])))]), [], [([(0, 7, 0), (0, 27, 0), (0, 2147483647, 0)], [], [], [(0, (0, [(2, 1)]))], [(135, (0, [(0, 1)]), (0, (0, [(1, 1)])))])])
def x_u241 : List b_Cu := []
-- M.apartOf, 209 steps
theorem x_z241 : b_chk0 x_T x_k241 x_u241 = true := by decide +kernel
theorem x_e241 : b_chkE x_F x_T x_Z x_dep x_hn [] x_k241 x_u241 269 = true := by decide +kernel
theorem x_v241 {N : Int} {fz : List (List Int32)} (hZ : b_ZOk x_Z (x_G N) fz) : b_Valid x_F fz x_T (x_G N) x_k241 := b_valid (x_gOk N) x_depOk hZ x_hn_ok (Γ := []) (fun _ h => absurd h List.not_mem_nil) x_z241 x_e241 (fun _ h => absurd h List.not_mem_nil)
def x_k242 : b_K := (273, 6, ([((-2147483648), 2147483647, 0)], [], [], [(2, (113, [])), (0, (0, [(0, 1)]))], []), [(113, 1), (113, 24), (113, 25), (113, 26), (113, 31), (126, 0), (127, 0), (128, 0), (129, 0), (130, 0), (131, 0), (132, 0), (133, 0), (134, 0), (135, 0), (136, 0)], [([((-2147483648), 2147483647, 0), ((-2), 2147483647, 0)], [], [], [(0, (0, [(1, 1)]))], [])])
def x_u242 : List b_Cu := []
-- M.apart, 75 steps
theorem x_z242 : b_chk0 x_T x_k242 x_u242 = true := by decide +kernel
theorem x_e242 : b_chkE x_F x_T x_Z x_dep x_hn [x_k228, x_k234, x_k241] x_k242 x_u242 135 = true := by decide +kernel
theorem x_v242 {N : Int} {fz : List (List Int32)} (hZ : b_ZOk x_Z (x_G N) fz) : b_Valid x_F fz x_T (x_G N) x_k242 := b_valid (x_gOk N) x_depOk hZ x_hn_ok (Γ := [x_k228, x_k234, x_k241]) (List.forall_mem_cons.mpr ⟨x_v228 hZ, List.forall_mem_cons.mpr ⟨x_v234 hZ, List.forall_mem_cons.mpr ⟨x_v241 hZ, fun _ h => absurd h List.not_mem_nil⟩⟩⟩) x_z242 x_e242 (fun _ h => absurd h List.not_mem_nil)
def x_k243 : b_K := (275, 6, ([], [], [], [(2, (113, []))], []), [(113, 1), (113, 24), (113, 25), (113, 26), (113, 31), (126, 0), (127, 0), (128, 0), (129, 0), (130, 0), (131, 0), (132, 0), (133, 0), (134, 0), (135, 0), (136, 0)], [([((-2147483648), 2147483647, 0)], [], [], [(0, (0, [(0, 1)]))], [])])
def x_u243_0 : b_Cu := (23, ([((-2147483648), 2147483647, 0), (0, 8, 0)], [], [(0, (2, (113, []))), (1, (0, (0, [(0, 1)]))), (2, (0, (0, [(1, 1)])))], [], []), (8, [(1, (-1))]))
def x_u243 : List b_Cu := [x_u243_0]
-- M.unheard, 71 steps
theorem x_z243 : b_chk0 x_T x_k243 x_u243 = true := by decide +kernel
theorem x_e243 : b_chkE x_F x_T x_Z x_dep x_hn [x_k228, x_k234] x_k243 x_u243 131 = true := by decide +kernel
theorem x_c243_0 : b_chkC x_F x_T x_Z x_dep x_hn [x_k228, x_k234] x_k243 x_u243 131 x_u243_0 = true := by decide +kernel
theorem x_v243 {N : Int} {fz : List (List Int32)} (hZ : b_ZOk x_Z (x_G N) fz) : b_Valid x_F fz x_T (x_G N) x_k243 := b_valid (x_gOk N) x_depOk hZ x_hn_ok (Γ := [x_k228, x_k234]) (List.forall_mem_cons.mpr ⟨x_v228 hZ, List.forall_mem_cons.mpr ⟨x_v234 hZ, fun _ h => absurd h List.not_mem_nil⟩⟩) x_z243 x_e243 (List.forall_mem_cons.mpr ⟨x_c243_0, fun _ h => absurd h List.not_mem_nil⟩)
def x_k244 : b_K := (277, 6, ([((-2147483648), 2147483647, 0), ((-2147483648), 2147483647, 0)], [], [], [(2, (113, [])), (0, (0, [(0, 1)])), (0, (0, [(1, 1)]))], []), [(113, 1), (113, 24), (113, 25), (113, 26), (113, 31), (126, 0), (127, 0), (128, 0), (129, 0), (130, 0), (131, 0), (132, 0), (133, 0), (134, 0), (135, 0), (136, 0)], [([((-2147483648), 2147483647, 0), ((-2147483648), 2147483647, 0), ((-2), 60, 0)], [], [], [(0, (0, [(2, 1)]))], [])])
def x_u244 : List b_Cu := []
-- M.strict, 127 steps
theorem x_z244 : b_chk0 x_T x_k244 x_u244 = true := by decide +kernel
theorem x_e244 : b_chkE x_F x_T x_Z x_dep x_hn [x_k228, x_k234] x_k244 x_u244 187 = true := by decide +kernel
theorem x_v244 {N : Int} {fz : List (List Int32)} (hZ : b_ZOk x_Z (x_G N) fz) : b_Valid x_F fz x_T (x_G N) x_k244 := b_valid (x_gOk N) x_depOk hZ x_hn_ok (Γ := [x_k228, x_k234]) (List.forall_mem_cons.mpr ⟨x_v228 hZ, List.forall_mem_cons.mpr ⟨x_v234 hZ, fun _ h => absurd h List.not_mem_nil⟩⟩) x_z244 x_e244 (fun _ h => absurd h List.not_mem_nil)
def x_k245 : b_K := (279, 6, ([((-2147483648), 2147483647, 0), ((-2147483648), 2147483647, 0)], [], [], [(2, (113, [])), (0, (0, [(0, 1)])), (0, (0, [(1, 1)]))], []), [(113, 1), (113, 24), (113, 25), (113, 26), (113, 31), (126, 0), (127, 0), (128, 0), (129, 0), (130, 0), (131, 0), (132, 0), (133, 0), (134, 0), (135, 0), (136, 0)], [([((-2147483648), 2147483647, 0), ((-2147483648), 2147483647, 0), ((-2147483648), 2147483647, 0)], [], [], [(0, (0, [(2, 1)]))], [])])
def x_u245 : List b_Cu := []
-- M.sat, 127 steps
theorem x_z245 : b_chk0 x_T x_k245 x_u245 = true := by decide +kernel
theorem x_e245 : b_chkE x_F x_T x_Z x_dep x_hn [x_k228, x_k234] x_k245 x_u245 187 = true := by decide +kernel
theorem x_v245 {N : Int} {fz : List (List Int32)} (hZ : b_ZOk x_Z (x_G N) fz) : b_Valid x_F fz x_T (x_G N) x_k245 := b_valid (x_gOk N) x_depOk hZ x_hn_ok (Γ := [x_k228, x_k234]) (List.forall_mem_cons.mpr ⟨x_v228 hZ, List.forall_mem_cons.mpr ⟨x_v234 hZ, fun _ h => absurd h List.not_mem_nil⟩⟩) x_z245 x_e245 (fun _ h => absurd h List.not_mem_nil)
def x_k246 : b_K := (280, 6, ([((-2147483648), 2147483647, 0)], [], [], [(2, (113, [])), (0, (0, [(0, 1)]))], []), [(113, 1), (113, 24), (113, 25), (113, 26), (113, 31), (126, 0), (127, 0), (128, 0), (129, 0), (130, 0), (131, 0), (132, 0), (133, 0), (134, 0), (135, 0), (136, 0)], [([((-2147483648), 2147483647, 0), ((-2147483648), 2147483647, 0)], [], [], [(0, (0, [(1, 1)]))], [])])
def x_u246_0 : b_Cu := (24, ([(0, 6, 0), ((-2147483648), 2147483647, 0), (0, 28, 0)], [], [(0, (2, (113, []))), (1, (0, (0, [(0, 1)]))), (2, (0, (0, [(1, 1)]))), (3, (0, (0, [(2, 1)])))], [], []), (28, [(2, (-1))]))
def x_u246 : List b_Cu := [x_u246_0]
-- M.hers, 111 steps
theorem x_z246 : b_chk0 x_T x_k246 x_u246 = true := by decide +kernel
theorem x_e246 : b_chkE x_F x_T x_Z x_dep x_hn [x_k228, x_k234] x_k246 x_u246 171 = true := by decide +kernel
theorem x_c246_0 : b_chkC x_F x_T x_Z x_dep x_hn [x_k228, x_k234] x_k246 x_u246 171 x_u246_0 = true := by decide +kernel
theorem x_v246 {N : Int} {fz : List (List Int32)} (hZ : b_ZOk x_Z (x_G N) fz) : b_Valid x_F fz x_T (x_G N) x_k246 := b_valid (x_gOk N) x_depOk hZ x_hn_ok (Γ := [x_k228, x_k234]) (List.forall_mem_cons.mpr ⟨x_v228 hZ, List.forall_mem_cons.mpr ⟨x_v234 hZ, fun _ h => absurd h List.not_mem_nil⟩⟩) x_z246 x_e246 (List.forall_mem_cons.mpr ⟨x_c246_0, fun _ h => absurd h List.not_mem_nil⟩)
def x_k247 : b_K := (282, 6, ([((-2147483648), 2147483647, 0)], [], [], [(2, (113, [])), (0, (0, [(0, 1)]))], []), [(113, 1), (113, 24), (113, 25), (113, 26), (113, 31), (126, 0), (127, 0), (128, 0), (129, 0), (130, 0), (131, 0), (132, 0), (133, 0), (134, 0), (135, 0), (136, 0)], [([((-2147483648), 2147483647, 0), ((-2), 7, 0)], [], [], [(0, (0, [(1, 1)]))], [])])
def x_u247_0 : b_Cu := (22, ([(0, 6, 0), (0, 28, 0)], [], [(0, (2, (113, []))), (1, (0, (0, [(0, 1)]))), (2, (0, (0, [(1, 1)])))], [], []), (28, [(1, (-1))]))
def x_u247 : List b_Cu := [x_u247_0]
-- M.first, 99 steps
theorem x_z247 : b_chk0 x_T x_k247 x_u247 = true := by decide +kernel
theorem x_e247 : b_chkE x_F x_T x_Z x_dep x_hn [x_k228, x_k234] x_k247 x_u247 159 = true := by decide +kernel
theorem x_c247_0 : b_chkC x_F x_T x_Z x_dep x_hn [x_k228, x_k234] x_k247 x_u247 159 x_u247_0 = true := by decide +kernel
theorem x_v247 {N : Int} {fz : List (List Int32)} (hZ : b_ZOk x_Z (x_G N) fz) : b_Valid x_F fz x_T (x_G N) x_k247 := b_valid (x_gOk N) x_depOk hZ x_hn_ok (Γ := [x_k228, x_k234]) (List.forall_mem_cons.mpr ⟨x_v228 hZ, List.forall_mem_cons.mpr ⟨x_v234 hZ, fun _ h => absurd h List.not_mem_nil⟩⟩) x_z247 x_e247 (List.forall_mem_cons.mpr ⟨x_c247_0, fun _ h => absurd h List.not_mem_nil⟩)
def x_k248 : b_K := (284, 3, ([(0, 6, 0), (0, 27, 0)], [], [], [(2, (113, [])), (0, (0, [(0, 1)])), (0, (0, [(1, 1)]))], []), [], [([(0, 6, 0), (0, 27, 0), (0, 2147483647, 0)], [], [], [(0, (0, [(2, 1)]))], [])])
def x_u248_0 : b_Cu := (5, ([(0, 6, 0), (0, 27, 0)], [], [(0, (2, (113, []))), (1, (0, (0, [(0, 1)]))), (2, (0, (0, [(1, 1)]))), (3, (0, (0, []))), (4, (0, (0, [])))], [], []), (21, []))
def x_u248_1 : b_Cu := (5, ([(1, 6, 0), (0, 27, 0), (0, 112, 10428486789048937261349481963236010)], [], [(0, (2, (113, []))), (1, (0, (0, [(0, 1)]))), (2, (0, (0, [(1, 1)]))), (3, (0, (0, []))), (4, (0, (1, [])))], [], [(130, (2, [(1, 7)]), (0, (0, [(2, 1)])))]), (17, []))
def x_u248_2 : b_Cu := (5, ([(1, 6, 0), (0, 27, 0), (1, 97, 316917506199329373219861058900)], [], [(0, (2, (113, []))), (1, (0, (0, [(0, 1)]))), (2, (0, (0, [(1, 1)]))), (3, (0, (1, []))), (4, (0, (1, [])))], [], [(130, (2, [(1, 7)]), (0, (0, [(2, 1)])))]), (20, []))
def x_u248_3 : b_Cu := (5, ([(2, 6, 0), (0, 27, 0), (0, 112, 10427852954037128898413538387829282)], [], [(0, (2, (113, []))), (1, (0, (0, [(0, 1)]))), (2, (0, (0, [(1, 1)]))), (3, (0, (0, []))), (4, (0, (2, [])))], [], [(130, (2, [(1, 7)]), (0, (0, [(2, 1)])))]), (13, []))
def x_u248_4 : b_Cu := (5, ([(2, 6, 0), (0, 27, 0), (1, 98, 950752517712544403915363110092)], [], [(0, (2, (113, []))), (1, (0, (0, [(0, 1)]))), (2, (0, (0, [(1, 1)]))), (3, (0, (1, []))), (4, (0, (2, [])))], [], [(130, (2, [(1, 7)]), (0, (0, [(2, 1)])))]), (16, []))
def x_u248_5 : b_Cu := (5, ([(2, 6, 0), (0, 27, 0), (3, 67, 295147905248073355536)], [], [(0, (2, (113, []))), (1, (0, (0, [(0, 1)]))), (2, (0, (0, [(1, 1)]))), (3, (0, (2, []))), (4, (0, (2, [])))], [], [(130, (2, [(1, 7)]), (0, (0, [(2, 1)])))]), (19, []))
def x_u248_6 : b_Cu := (5, ([(3, 6, 0), (0, 27, 0), (0, 112, 10425317613999340179637702433571330)], [], [(0, (2, (113, []))), (1, (0, (0, [(0, 1)]))), (2, (0, (0, [(1, 1)]))), (3, (0, (0, []))), (4, (0, (3, [])))], [], [(130, (2, [(1, 7)]), (0, (0, [(2, 1)])))]), (9, []))
def x_u248_7 : b_Cu := (5, ([(3, 6, 0), (0, 27, 0), (1, 100, 3486092551959488316774437104684)], [], [(0, (2, (113, []))), (1, (0, (0, [(0, 1)]))), (2, (0, (0, [(1, 1)]))), (3, (0, (1, []))), (4, (0, (3, [])))], [], [(130, (2, [(1, 7)]), (0, (0, [(2, 1)])))]), (12, []))
def x_u248_8 : b_Cu := (5, ([(3, 6, 0), (0, 27, 0), (3, 70, 3836922768224953618640)], [], [(0, (2, (113, []))), (1, (0, (0, [(0, 1)]))), (2, (0, (0, [(1, 1)]))), (3, (0, (2, []))), (4, (0, (3, [])))], [], [(130, (2, [(1, 7)]), (0, (0, [(2, 1)])))]), (15, []))
def x_u248_9 : b_Cu := (5, ([(3, 6, 0), (0, 27, 0)], [], [(0, (2, (113, []))), (1, (0, (0, [(0, 1)]))), (2, (0, (0, [(1, 1)]))), (3, (0, (3, []))), (4, (0, (3, [])))], [], [(130, (2, [(1, 7)]), (0, (7, [])))]), (18, []))
def x_u248_10 : b_Cu := (5, ([(4, 6, 0), (0, 27, 0), (0, 112, 10384752175812572319016544058343426)], [], [(0, (2, (113, []))), (1, (0, (0, [(0, 1)]))), (2, (0, (0, [(1, 1)]))), (3, (0, (0, []))), (4, (0, (4, [])))], [], [(130, (2, [(1, 7)]), (0, (0, [(2, 1)])))]), (5, []))
def x_u248_11 : b_Cu := (5, ([(4, 6, 0), (0, 27, 0), (1, 104, 44051530530943223643289173099052)], [], [(0, (2, (113, []))), (1, (0, (0, [(0, 1)]))), (2, (0, (0, [(1, 1)]))), (3, (0, (1, []))), (4, (0, (4, [])))], [], [(130, (2, [(1, 7)]), (0, (0, [(2, 1)])))]), (8, []))
def x_u248_12 : b_Cu := (5, ([(4, 6, 0), (0, 27, 0), (3, 76, 211621048062868592798928)], [], [(0, (2, (113, []))), (1, (0, (0, [(0, 1)]))), (2, (0, (0, [(1, 1)]))), (3, (0, (2, []))), (4, (0, (4, [])))], [], [(130, (2, [(1, 7)]), (0, (0, [(2, 1)])))]), (11, []))
def x_u248_13 : b_Cu := (5, ([(4, 6, 0), (0, 27, 0), (7, 14, 53504)], [], [(0, (2, (113, []))), (1, (0, (0, [(0, 1)]))), (2, (0, (0, [(1, 1)]))), (3, (0, (3, []))), (4, (0, (4, [])))], [], [(130, (2, [(1, 7)]), (0, (0, [(2, 1)])))]), (14, []))
def x_u248_14 : b_Cu := (5, ([(5, 6, 0), (0, 27, 0), (1, 112, 10428644577855694258262581910307372)], [], [(0, (2, (113, []))), (1, (0, (0, [(0, 1)]))), (2, (0, (0, [(1, 1)]))), (3, (0, (1, []))), (4, (0, (5, [])))], [], [(130, (2, [(1, 7)]), (0, (0, [(2, 1)])))]), (2, []))
def x_u248_15 : b_Cu := (5, ([(5, 6, 0), (0, 27, 0), (0, 96, 158456325065422163343096938498)], [], [(0, (2, (113, []))), (1, (0, (0, [(0, 1)]))), (2, (0, (0, [(1, 1)]))), (3, (0, (0, []))), (4, (0, (5, [])))], [], [(130, (2, [(1, 7)]), (0, (0, [(2, 1)])))]), (4, []))
def x_u248_16 : b_Cu := (5, ([(5, 6, 0), (0, 27, 0), (3, 88, 672374376910296776065166544)], [], [(0, (2, (113, []))), (1, (0, (0, [(0, 1)]))), (2, (0, (0, [(1, 1)]))), (3, (0, (2, []))), (4, (0, (5, [])))], [], [(130, (2, [(1, 7)]), (0, (0, [(2, 1)])))]), (7, []))
def x_u248_17 : b_Cu := (5, ([(5, 6, 0), (0, 27, 0), (7, 28, 751882496)], [], [(0, (2, (113, []))), (1, (0, (0, [(0, 1)]))), (2, (0, (0, [(1, 1)]))), (3, (0, (3, []))), (4, (0, (5, [])))], [], [(130, (2, [(1, 7)]), (0, (0, [(2, 1)])))]), (10, []))
def x_u248_18 : b_Cu := (5, ([(6, 6, 0), (0, 27, 0), (3, 112, 10428645247801962983075758199286992)], [], [(0, (2, (113, []))), (1, (0, (0, [(0, 1)]))), (2, (0, (0, [(1, 1)]))), (3, (0, (2, []))), (4, (0, (6, [])))], [], [(130, (2, [(1, 7)]), (0, (0, [(2, 1)])))]), (0, []))
def x_u248_19 : b_Cu := (5, ([(6, 6, 0), (0, 27, 0), (1, 126, 158458753136557609436538077740)], [], [(0, (2, (113, []))), (1, (0, (0, [(0, 1)]))), (2, (0, (0, [(1, 1)]))), (3, (0, (1, []))), (4, (0, (6, [])))], [], [(130, (2, [(1, 7)]), (0, (0, [(2, 1)])))]), (1, []))
def x_u248_20 : b_Cu := (5, ([(6, 6, 0), (0, 27, 0), (0, 64, 36893488147419103234)], [], [(0, (2, (113, []))), (1, (0, (0, [(0, 1)]))), (2, (0, (0, [(1, 1)]))), (3, (0, (0, []))), (4, (0, (6, [])))], [], [(130, (2, [(1, 7)]), (0, (0, [(2, 1)])))]), (3, []))
def x_u248_21 : b_Cu := (5, ([(6, 6, 0), (0, 27, 0), (7, 56, 156549359667826944)], [], [(0, (2, (113, []))), (1, (0, (0, [(0, 1)]))), (2, (0, (0, [(1, 1)]))), (3, (0, (3, []))), (4, (0, (6, [])))], [], [(130, (2, [(1, 7)]), (0, (0, [(2, 1)])))]), (6, []))
def x_u248 : List b_Cu := [x_u248_0, x_u248_1, x_u248_2, x_u248_3, x_u248_4, x_u248_5, x_u248_6, x_u248_7, x_u248_8, x_u248_9, x_u248_10, x_u248_11, x_u248_12, x_u248_13, x_u248_14, x_u248_15, x_u248_16, x_u248_17, x_u248_18, x_u248_19, x_u248_20, x_u248_21]
-- M.foundBy, 12497 steps
theorem x_z248 : b_chk0 x_T x_k248 x_u248 = true := by decide +kernel
theorem x_e248 : b_chkE x_F x_T x_Z x_dep x_hn [] x_k248 x_u248 12557 = true := by decide +kernel
theorem x_c248_0 : b_chkC x_F x_T x_Z x_dep x_hn [] x_k248 x_u248 12557 x_u248_0 = true := by decide +kernel
theorem x_c248_1 : b_chkC x_F x_T x_Z x_dep x_hn [] x_k248 x_u248 12557 x_u248_1 = true := by decide +kernel
theorem x_c248_2 : b_chkC x_F x_T x_Z x_dep x_hn [] x_k248 x_u248 12557 x_u248_2 = true := by decide +kernel
theorem x_c248_3 : b_chkC x_F x_T x_Z x_dep x_hn [] x_k248 x_u248 12557 x_u248_3 = true := by decide +kernel
theorem x_c248_4 : b_chkC x_F x_T x_Z x_dep x_hn [] x_k248 x_u248 12557 x_u248_4 = true := by decide +kernel
theorem x_c248_5 : b_chkC x_F x_T x_Z x_dep x_hn [] x_k248 x_u248 12557 x_u248_5 = true := by decide +kernel
theorem x_c248_6 : b_chkC x_F x_T x_Z x_dep x_hn [] x_k248 x_u248 12557 x_u248_6 = true := by decide +kernel
theorem x_c248_7 : b_chkC x_F x_T x_Z x_dep x_hn [] x_k248 x_u248 12557 x_u248_7 = true := by decide +kernel
theorem x_c248_8 : b_chkC x_F x_T x_Z x_dep x_hn [] x_k248 x_u248 12557 x_u248_8 = true := by decide +kernel
theorem x_c248_9 : b_chkC x_F x_T x_Z x_dep x_hn [] x_k248 x_u248 12557 x_u248_9 = true := by decide +kernel
theorem x_c248_10 : b_chkC x_F x_T x_Z x_dep x_hn [] x_k248 x_u248 12557 x_u248_10 = true := by decide +kernel
theorem x_c248_11 : b_chkC x_F x_T x_Z x_dep x_hn [] x_k248 x_u248 12557 x_u248_11 = true := by decide +kernel
theorem x_c248_12 : b_chkC x_F x_T x_Z x_dep x_hn [] x_k248 x_u248 12557 x_u248_12 = true := by decide +kernel
theorem x_c248_13 : b_chkC x_F x_T x_Z x_dep x_hn [] x_k248 x_u248 12557 x_u248_13 = true := by decide +kernel
theorem x_c248_14 : b_chkC x_F x_T x_Z x_dep x_hn [] x_k248 x_u248 12557 x_u248_14 = true := by decide +kernel
theorem x_c248_15 : b_chkC x_F x_T x_Z x_dep x_hn [] x_k248 x_u248 12557 x_u248_15 = true := by decide +kernel
theorem x_c248_16 : b_chkC x_F x_T x_Z x_dep x_hn [] x_k248 x_u248 12557 x_u248_16 = true := by decide +kernel
theorem x_c248_17 : b_chkC x_F x_T x_Z x_dep x_hn [] x_k248 x_u248 12557 x_u248_17 = true := by decide +kernel
theorem x_c248_18 : b_chkC x_F x_T x_Z x_dep x_hn [] x_k248 x_u248 12557 x_u248_18 = true := by decide +kernel
theorem x_c248_19 : b_chkC x_F x_T x_Z x_dep x_hn [] x_k248 x_u248 12557 x_u248_19 = true := by decide +kernel
theorem x_c248_20 : b_chkC x_F x_T x_Z x_dep x_hn [] x_k248 x_u248 12557 x_u248_20 = true := by decide +kernel
theorem x_c248_21 : b_chkC x_F x_T x_Z x_dep x_hn [] x_k248 x_u248 12557 x_u248_21 = true := by decide +kernel
theorem x_v248 {N : Int} {fz : List (List Int32)} (hZ : b_ZOk x_Z (x_G N) fz) : b_Valid x_F fz x_T (x_G N) x_k248 := b_valid (x_gOk N) x_depOk hZ x_hn_ok (Γ := []) (fun _ h => absurd h List.not_mem_nil) x_z248 x_e248 (List.forall_mem_cons.mpr ⟨x_c248_0, List.forall_mem_cons.mpr ⟨x_c248_1, List.forall_mem_cons.mpr ⟨x_c248_2, List.forall_mem_cons.mpr ⟨x_c248_3, List.forall_mem_cons.mpr ⟨x_c248_4, List.forall_mem_cons.mpr ⟨x_c248_5, List.forall_mem_cons.mpr ⟨x_c248_6, List.forall_mem_cons.mpr ⟨x_c248_7, List.forall_mem_cons.mpr ⟨x_c248_8, List.forall_mem_cons.mpr ⟨x_c248_9, List.forall_mem_cons.mpr ⟨x_c248_10, List.forall_mem_cons.mpr ⟨x_c248_11, List.forall_mem_cons.mpr ⟨x_c248_12, List.forall_mem_cons.mpr ⟨x_c248_13, List.forall_mem_cons.mpr ⟨x_c248_14, List.forall_mem_cons.mpr ⟨x_c248_15, List.forall_mem_cons.mpr ⟨x_c248_16, List.forall_mem_cons.mpr ⟨x_c248_17, List.forall_mem_cons.mpr ⟨x_c248_18, List.forall_mem_cons.mpr ⟨x_c248_19, List.forall_mem_cons.mpr ⟨x_c248_20, List.forall_mem_cons.mpr ⟨x_c248_21, fun _ h => absurd h List.not_mem_nil⟩⟩⟩⟩⟩⟩⟩⟩⟩⟩⟩⟩⟩⟩⟩⟩⟩⟩⟩⟩⟩⟩)
