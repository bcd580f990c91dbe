/-! contracts and their checks (by program, cert3.py) -/
def x_k157 : b_K := (166, 1, ([((-9223372036854775808), 9223372036854775807, 0), (1, 5040, 0)], [], [], [(2, (70, [])), (1, (0, [(0, 1)])), (1, (0, [(1, 1)]))], []), [], [([((-9223372036854775808), 9223372036854775807, 0), (1, 5040, 0), ((-9223372036854775808), 9223372036854775807, 0)], [], [], [(1, (0, [(2, 1)]))], [])])
def x_u157_0 : b_Cu := (9, ([((-9223372036854775808), 9223372036854775807, 0), (1, 5040, 0), ((-9223372036854775808), 9223372036854775807, 0), ((-9223372036854775808), 9223372036854775807, 0), (0, 200, 0)], [], [(5, (1, (0, [(2, 1)]))), (7, (1, (0, [(3, 1)]))), (9, (0, (0, [(4, 1)])))], [], []), (200, [(4, (-1))]))
def x_u157 : List b_Cu := [x_u157_0]
-- Fraction.greatestDivisor, 37 steps
theorem x_z157 : b_chk0 x_T x_k157 x_u157 = true := by decide +kernel
theorem x_e157 : b_chkE x_F x_T x_Z x_dep x_hn [] x_k157 x_u157 120 = true := by decide +kernel
theorem x_c157_0 : b_chkC x_F x_T x_Z x_dep x_hn [] x_k157 x_u157 120 x_u157_0 = true := by decide +kernel
theorem x_v157 {N : Int} {fz : List (List Int32)} (hZ : b_ZOk x_Z (x_G N) fz) : b_Valid x_F fz x_T (x_G N) x_k157 := b_valid (x_gOk N) x_depOk hZ x_hn_ok (Γ := []) (fun _ h => absurd h List.not_mem_nil) x_z157 x_e157 (List.forall_mem_cons.mpr ⟨x_c157_0, fun _ h => absurd h List.not_mem_nil⟩)
def x_k158 : b_K := (163, 6, ([(0, 6, 0), (1, 7, 0)], [(1, [(0, 1), (1, (-1))])], [], [(2, (42, [])), (0, (0, [(0, 1)]))], [(13, (4, []), (0, (0, [(1, 1)])))]), [(43, 1), (43, 2), (43, 3), (43, 4), (43, 5), (43, 6), (43, 7), (43, 8), (44, 0), (45, 0), (46, 0), (47, 0), (48, 0), (49, 0), (50, 0), (51, 0), (52, 0), (53, 2), (53, 7), (54, 0), (55, 0), (56, 0), (57, 0), (58, 0), (59, 0), (60, 0), (61, 0), (62, 0), (63, 0), (64, 0), (65, 0), (66, 0), (67, 0), (68, 0), (69, 0), (70, 1), (70, 2)], [([(0, 6, 0), (1, 7, 0)], [], [], [], [(13, (4, []), (0, (0, [(1, 1)])))])])
def x_u158_0 : b_Cu := (17, ([(0, 6, 0), (7, 7, 0), ((-9223372036854775808), 9223372036854775807, 0), (0, 128, 0)], [(1, [(0, 1), (1, (-1))])], [(0, (2, (42, []))), (1, (0, (0, [(0, 1)]))), (2, (0, (0, [(1, 1)]))), (3, (1, (0, [(2, 1)]))), (5, (0, (0, [(3, 1)])))], [], [(43, (4, []), (0, (0, [(1, 1)]))), (13, (4, []), (0, (0, [(1, 1)])))]), (128, [(3, (-1))]))
def x_u158_1 : b_Cu := (17, ([(0, 5, 0), (6, 6, 0), ((-9223372036854775808), 9223372036854775807, 0), (0, 127, 0)], [(1, [(0, 1), (1, (-1))])], [(0, (2, (42, []))), (1, (0, (0, [(0, 1)]))), (2, (0, (0, [(1, 1)]))), (3, (1, (0, [(2, 1)]))), (5, (0, (0, [(3, 1)])))], [], [(43, (4, []), (0, (0, [(1, 1)]))), (13, (4, []), (0, (0, [(1, 1)])))]), (256, [(3, (-1))]))
def x_u158_2 : b_Cu := (17, ([(0, 4, 0), (5, 5, 0), ((-9223372036854775808), 9223372036854775807, 0), (0, 40, 0)], [(1, [(0, 1), (1, (-1))])], [(0, (2, (42, []))), (1, (0, (0, [(0, 1)]))), (2, (0, (0, [(1, 1)]))), (3, (1, (0, [(2, 1)]))), (5, (0, (0, [(3, 1)])))], [], [(43, (4, []), (0, (0, [(1, 1)]))), (13, (4, []), (0, (0, [(1, 1)])))]), (298, [(3, (-1))]))
def x_u158_3 : b_Cu := (17, ([(0, 3, 0), (4, 4, 0), ((-9223372036854775808), 9223372036854775807, 0), (0, 19, 0)], [(1, [(0, 1), (1, (-1))])], [(0, (2, (42, []))), (1, (0, (0, [(0, 1)]))), (2, (0, (0, [(1, 1)]))), (3, (1, (0, [(2, 1)]))), (5, (0, (0, [(3, 1)])))], [], [(43, (4, []), (0, (0, [(1, 1)]))), (13, (4, []), (0, (0, [(1, 1)])))]), (406, [(3, (-1))]))
def x_u158_4 : b_Cu := (17, ([(0, 2, 0), (3, 3, 0), ((-9223372036854775808), 9223372036854775807, 0), (0, 8, 0)], [(1, [(0, 1), (1, (-1))])], [(0, (2, (42, []))), (1, (0, (0, [(0, 1)]))), (2, (0, (0, [(1, 1)]))), (3, (1, (0, [(2, 1)]))), (5, (0, (0, [(3, 1)])))], [], [(43, (4, []), (0, (0, [(1, 1)]))), (13, (4, []), (0, (0, [(1, 1)])))]), (524, [(3, (-1))]))
def x_u158_5 : b_Cu := (17, ([(0, 1, 0), (2, 2, 0), ((-9223372036854775808), 9223372036854775807, 0), (0, 4, 0)], [(1, [(0, 1), (1, (-1))])], [(0, (2, (42, []))), (1, (0, (0, [(0, 1)]))), (2, (0, (0, [(1, 1)]))), (3, (1, (0, [(2, 1)]))), (5, (0, (0, [(3, 1)])))], [], [(43, (4, []), (0, (0, [(1, 1)]))), (13, (4, []), (0, (0, [(1, 1)])))]), (649, [(3, (-1))]))
def x_u158_6 : b_Cu := (17, ([(0, 0, 0), (1, 1, 0), ((-9223372036854775808), 9223372036854775807, 0), (0, 2, 0)], [(1, [(0, 1), (1, (-1))])], [(0, (2, (42, []))), (1, (0, (0, [(0, 1)]))), (2, (0, (0, [(1, 1)]))), (3, (1, (0, [(2, 1)]))), (5, (0, (0, [(3, 1)])))], [], [(43, (4, []), (0, (0, [(1, 1)]))), (13, (4, []), (0, (0, [(1, 1)])))]), (776, [(3, (-1))]))
def x_u158 : List b_Cu := [x_u158_0, x_u158_1, x_u158_2, x_u158_3, x_u158_4, x_u158_5, x_u158_6]
-- Trial.shareOut, 2110 steps
theorem x_z158 : b_chk0 x_T x_k158 x_u158 = true := by decide +kernel
theorem x_e158 : b_chkE x_F x_T x_Z x_dep x_hn [x_k122, x_k156, x_k131, x_k137, x_k157] x_k158 x_u158 2170 = true := by decide +kernel
theorem x_c158_0 : b_chkC x_F x_T x_Z x_dep x_hn [x_k122, x_k156, x_k131, x_k137, x_k157] x_k158 x_u158 2170 x_u158_0 = true := by decide +kernel
theorem x_c158_1 : b_chkC x_F x_T x_Z x_dep x_hn [x_k122, x_k156, x_k131, x_k137, x_k157] x_k158 x_u158 2170 x_u158_1 = true := by decide +kernel
theorem x_c158_2 : b_chkC x_F x_T x_Z x_dep x_hn [x_k122, x_k156, x_k131, x_k137, x_k157] x_k158 x_u158 2170 x_u158_2 = true := by decide +kernel
theorem x_c158_3 : b_chkC x_F x_T x_Z x_dep x_hn [x_k122, x_k156, x_k131, x_k137, x_k157] x_k158 x_u158 2170 x_u158_3 = true := by decide +kernel
theorem x_c158_4 : b_chkC x_F x_T x_Z x_dep x_hn [x_k122, x_k156, x_k131, x_k137, x_k157] x_k158 x_u158 2170 x_u158_4 = true := by decide +kernel
theorem x_c158_5 : b_chkC x_F x_T x_Z x_dep x_hn [x_k122, x_k156, x_k131, x_k137, x_k157] x_k158 x_u158 2170 x_u158_5 = true := by decide +kernel
theorem x_c158_6 : b_chkC x_F x_T x_Z x_dep x_hn [x_k122, x_k156, x_k131, x_k137, x_k157] x_k158 x_u158 2170 x_u158_6 = true := by decide +kernel
theorem x_v158 {N : Int} {fz : List (List Int32)} (hZ : b_ZOk x_Z (x_G N) fz) : b_Valid x_F fz x_T (x_G N) x_k158 := b_valid (x_gOk N) x_depOk hZ x_hn_ok (Γ := [x_k122, x_k156, x_k131, x_k137, x_k157]) (List.forall_mem_cons.mpr ⟨x_v122 hZ, List.forall_mem_cons.mpr ⟨x_v156 hZ, List.forall_mem_cons.mpr ⟨x_v131 hZ, List.forall_mem_cons.mpr ⟨x_v137 hZ, List.forall_mem_cons.mpr ⟨x_v157 hZ, fun _ h => absurd h List.not_mem_nil⟩⟩⟩⟩⟩) x_z158 x_e158 (List.forall_mem_cons.mpr ⟨x_c158_0, List.forall_mem_cons.mpr ⟨x_c158_1, List.forall_mem_cons.mpr ⟨x_c158_2, List.forall_mem_cons.mpr ⟨x_c158_3, List.forall_mem_cons.mpr ⟨x_c158_4, List.forall_mem_cons.mpr ⟨x_c158_5, List.forall_mem_cons.mpr ⟨x_c158_6, fun _ h => absurd h List.not_mem_nil⟩⟩⟩⟩⟩⟩⟩)
def x_k159 : b_K := (162, 7, ([((-2147483648), 2147483647, 0), ((-2147483648), 2147483647, 0)], [], [], [(2, (0, [])), (0, (0, [(0, 1)])), (0, (0, [(1, 1)]))], []), [(43, 1), (43, 2), (43, 3), (43, 4), (43, 5), (43, 6), (43, 7), (43, 8), (44, 0), (45, 0), (46, 0), (47, 0), (48, 0), (49, 0), (50, 0), (51, 0), (52, 0), (53, 2), (53, 7), (54, 0), (55, 0), (56, 0), (57, 0), (58, 0), (59, 0), (60, 0), (61, 0), (62, 0), (63, 0), (64, 0), (65, 0), (66, 0), (67, 0), (68, 0), (69, 0), (70, 1), (70, 2)], [([((-2147483648), 2147483647, 0), ((-2147483648), 2147483647, 0), ((-2147483648), 2147483647, 0)], [], [], [(0, (0, [(2, 1)]))], [])])
def x_u159 : List b_Cu := []
-- B.share, 55 steps
theorem x_z159 : b_chk0 x_T x_k159 x_u159 = true := by decide +kernel
theorem x_e159 : b_chkE x_F x_T x_Z x_dep x_hn [x_k158] x_k159 x_u159 120 = true := by decide +kernel
theorem x_v159 {N : Int} {fz : List (List Int32)} (hZ : b_ZOk x_Z (x_G N) fz) : b_Valid x_F fz x_T (x_G N) x_k159 := b_valid (x_gOk N) x_depOk hZ x_hn_ok (Γ := [x_k158]) (List.forall_mem_cons.mpr ⟨x_v158 hZ, fun _ h => absurd h List.not_mem_nil⟩) x_z159 x_e159 (fun _ h => absurd h List.not_mem_nil)
def x_k160 : b_K := (173, 3, ([(0, 7, 0), (0, 1, 0)], [], [], [(2, (42, [])), (0, (0, [(0, 1)])), (0, (0, [(1, 1)]))], []), [], [([(0, 7, 0), (0, 1, 0), ((-2147483590), 60, 0)], [], [], [(0, (0, [(2, 1)]))], [])])
def x_u160 : List b_Cu := []
-- Trial.gain, 47 steps
theorem x_z160 : b_chk0 x_T x_k160 x_u160 = true := by decide +kernel
theorem x_e160 : b_chkE x_F x_T x_Z x_dep x_hn [] x_k160 x_u160 120 = true := by decide +kernel
theorem x_v160 {N : Int} {fz : List (List Int32)} (hZ : b_ZOk x_Z (x_G N) fz) : b_Valid x_F fz x_T (x_G N) x_k160 := b_valid (x_gOk N) x_depOk hZ x_hn_ok (Γ := []) (fun _ h => absurd h List.not_mem_nil) x_z160 x_e160 (fun _ h => absurd h List.not_mem_nil)
def x_k161 : b_K := (171, 6, ([(0, 7, 0), (0, 7, 0)], [], [], [(2, (42, [])), (0, (0, [(0, 1)])), (0, (0, [(1, 1)]))], []), [(43, 1), (43, 2), (43, 3), (43, 4), (43, 5), (43, 6), (43, 7), (43, 8), (44, 0), (45, 0), (46, 0), (47, 0), (48, 0), (49, 0), (50, 0), (51, 0), (52, 0), (53, 2), (53, 7), (54, 0), (55, 0), (56, 0), (57, 0), (58, 0), (59, 0), (60, 0), (61, 0), (62, 0), (63, 0), (64, 0), (65, 0), (66, 0), (67, 0), (68, 0), (69, 0), (71, 0), (72, 0)], [([(0, 7, 0), (0, 7, 0), (0, 15, 0)], [], [], [(0, (0, [(2, 1)]))], [])])
def x_u161 : List b_Cu := []
-- Trial.restingPairs, 2291 steps
theorem x_z161 : b_chk0 x_T x_k161 x_u161 = true := by decide +kernel
theorem x_e161 : b_chkE x_F x_T x_Z x_dep x_hn [x_k122, x_k131, x_k160] x_k161 x_u161 2351 = true := by decide +kernel
theorem x_v161 {N : Int} {fz : List (List Int32)} (hZ : b_ZOk x_Z (x_G N) fz) : b_Valid x_F fz x_T (x_G N) x_k161 := b_valid (x_gOk N) x_depOk hZ x_hn_ok (Γ := [x_k122, x_k131, x_k160]) (List.forall_mem_cons.mpr ⟨x_v122 hZ, List.forall_mem_cons.mpr ⟨x_v131 hZ, List.forall_mem_cons.mpr ⟨x_v160 hZ, fun _ h => absurd h List.not_mem_nil⟩⟩⟩) x_z161 x_e161 (fun _ h => absurd h List.not_mem_nil)
def x_k162 : b_K := (169, 7, ([((-2147483648), 2147483647, 0), ((-2147483648), 2147483647, 0)], [], [], [(2, (0, [])), (0, (0, [(0, 1)])), (0, (0, [(1, 1)]))], []), [(43, 1), (43, 2), (43, 3), (43, 4), (43, 5), (43, 6), (43, 7), (43, 8), (44, 0), (45, 0), (46, 0), (47, 0), (48, 0), (49, 0), (50, 0), (51, 0), (52, 0), (53, 2), (53, 7), (54, 0), (55, 0), (56, 0), (57, 0), (58, 0), (59, 0), (60, 0), (61, 0), (62, 0), (63, 0), (64, 0), (65, 0), (66, 0), (67, 0), (68, 0), (69, 0), (71, 0), (72, 0)], [([((-2147483648), 2147483647, 0), ((-2147483648), 2147483647, 0), ((-2), 15, 0)], [], [], [(0, (0, [(2, 1)]))], [])])
def x_u162 : List b_Cu := []
-- B.rests, 83 steps
theorem x_z162 : b_chk0 x_T x_k162 x_u162 = true := by decide +kernel
theorem x_e162 : b_chkE x_F x_T x_Z x_dep x_hn [x_k161] x_k162 x_u162 143 = true := by decide +kernel
theorem x_v162 {N : Int} {fz : List (List Int32)} (hZ : b_ZOk x_Z (x_G N) fz) : b_Valid x_F fz x_T (x_G N) x_k162 := b_valid (x_gOk N) x_depOk hZ x_hn_ok (Γ := [x_k161]) (List.forall_mem_cons.mpr ⟨x_v161 hZ, fun _ h => absurd h List.not_mem_nil⟩) x_z162 x_e162 (fun _ h => absurd h List.not_mem_nil)
def x_k163 : b_K := (174, 6, ([((-2147483648), 2147483647, 0), ((-2147483648), 2147483647, 0), ((-2147483648), 2147483647, 0), ((-2147483648), 2147483647, 0)], [], [], [(2, (0, [])), (0, (0, [(0, 1)])), (0, (0, [(1, 1)])), (0, (0, [(2, 1)])), (0, (0, [(3, 1)]))], []), [(43, 1), (43, 2), (43, 3), (43, 4), (43, 5), (43, 6), (43, 7), (43, 8), (44, 0), (45, 0), (46, 0), (47, 0), (48, 0), (49, 0), (50, 0), (51, 0), (52, 0), (53, 2), (53, 7), (54, 0), (55, 0), (56, 0), (57, 0), (58, 0), (59, 0), (60, 0), (61, 0), (62, 0), (63, 0), (64, 0), (65, 0), (66, 0), (67, 0), (68, 0), (69, 0)], [([((-2147483648), 2147483647, 0), ((-2147483648), 2147483647, 0), ((-2147483648), 2147483647, 0), ((-2147483648), 2147483647, 0), ((-2147483590), 60, 0)], [], [], [(0, (0, [(4, 1)]))], [])])
def x_u163 : List b_Cu := []
-- B.gets, 375 steps
theorem x_z163 : b_chk0 x_T x_k163 x_u163 = true := by decide +kernel
theorem x_e163 : b_chkE x_F x_T x_Z x_dep x_hn [x_k122, x_k131, x_k160] x_k163 x_u163 435 = true := by decide +kernel
theorem x_v163 {N : Int} {fz : List (List Int32)} (hZ : b_ZOk x_Z (x_G N) fz) : b_Valid x_F fz x_T (x_G N) x_k163 := b_valid (x_gOk N) x_depOk hZ x_hn_ok (Γ := [x_k122, x_k131, x_k160]) (List.forall_mem_cons.mpr ⟨x_v122 hZ, List.forall_mem_cons.mpr ⟨x_v131 hZ, List.forall_mem_cons.mpr ⟨x_v160 hZ, fun _ h => absurd h List.not_mem_nil⟩⟩⟩) x_z163 x_e163 (fun _ h => absurd h List.not_mem_nil)
def x_k164 : b_K := (178, 1, ([(0, 255, 0)], [], [], [(2, (80, [])), (0, (0, [(0, 1)]))], []), [], [([(0, 255, 0), ((-9223372036854775808), 9223372036854775807, 0)], [], [], [(1, (0, [(1, 1)]))], [])])
def x_u164_0 : b_Cu := (5, ([(0, 255, 0), ((-9223372036854775808), 9223372036854775807, 0), (0, 8, 0)], [], [(0, (2, (80, []))), (1, (0, (0, [(0, 1)]))), (2, (1, (0, [(1, 1)]))), (4, (0, (0, [(2, 1)])))], [], []), (8, [(2, (-1))]))
def x_u164 : List b_Cu := [x_u164_0]
-- Chances.weightOf, 40 steps
theorem x_z164 : b_chk0 x_T x_k164 x_u164 = true := by decide +kernel
theorem x_e164 : b_chkE x_F x_T x_Z x_dep x_hn [] x_k164 x_u164 120 = true := by decide +kernel
theorem x_c164_0 : b_chkC x_F x_T x_Z x_dep x_hn [] x_k164 x_u164 120 x_u164_0 = true := by decide +kernel
theorem x_v164 {N : Int} {fz : List (List Int32)} (hZ : b_ZOk x_Z (x_G N) fz) : b_Valid x_F fz x_T (x_G N) x_k164 := b_valid (x_gOk N) x_depOk hZ x_hn_ok (Γ := []) (fun _ h => absurd h List.not_mem_nil) x_z164 x_e164 (List.forall_mem_cons.mpr ⟨x_c164_0, fun _ h => absurd h List.not_mem_nil⟩)
def x_k165 : b_K := (179, 1, ([], [], [], [(2, (80, []))], []), [], [([((-9223372036854775808), 9223372036854775807, 0)], [], [], [(1, (0, [(0, 1)]))], [])])
def x_u165_0 : b_Cu := (4, ([((-9223372036854775808), 9223372036854775807, 0), (0, 8, 0)], [], [(0, (2, (80, []))), (1, (1, (0, [(0, 1)]))), (3, (0, (0, [(1, 1)])))], [], []), (8, [(1, (-1))]))
def x_u165 : List b_Cu := [x_u165_0]
-- Chances.weightOfAll, 18 steps
theorem x_z165 : b_chk0 x_T x_k165 x_u165 = true := by decide +kernel
theorem x_e165 : b_chkE x_F x_T x_Z x_dep x_hn [] x_k165 x_u165 120 = true := by decide +kernel
theorem x_c165_0 : b_chkC x_F x_T x_Z x_dep x_hn [] x_k165 x_u165 120 x_u165_0 = true := by decide +kernel
theorem x_v165 {N : Int} {fz : List (List Int32)} (hZ : b_ZOk x_Z (x_G N) fz) : b_Valid x_F fz x_T (x_G N) x_k165 := b_valid (x_gOk N) x_depOk hZ x_hn_ok (Γ := []) (fun _ h => absurd h List.not_mem_nil) x_z165 x_e165 (List.forall_mem_cons.mpr ⟨x_c165_0, fun _ h => absurd h List.not_mem_nil⟩)
def x_k166 : b_K := (166, 1, ([((-9223372036854775808), 9223372036854775807, 0), ((-9223372036854775808), 9223372036854775807, 0)], [], [], [(2, (81, [])), (1, (0, [(0, 1)])), (1, (0, [(1, 1)]))], []), [], [([((-9223372036854775808), 9223372036854775807, 0), ((-9223372036854775808), 9223372036854775807, 0), ((-9223372036854775808), 9223372036854775807, 0)], [], [], [(1, (0, [(2, 1)]))], [])])
def x_u166_0 : b_Cu := (9, ([((-9223372036854775808), 9223372036854775807, 0), ((-9223372036854775808), 9223372036854775807, 0), ((-9223372036854775808), 9223372036854775807, 0), ((-9223372036854775808), 9223372036854775807, 0), (0, 200, 0)], [], [(5, (1, (0, [(2, 1)]))), (7, (1, (0, [(3, 1)]))), (9, (0, (0, [(4, 1)])))], [], []), (200, [(4, (-1))]))
def x_u166 : List b_Cu := [x_u166_0]
-- Fraction.greatestDivisor, 37 steps
theorem x_z166 : b_chk0 x_T x_k166 x_u166 = true := by decide +kernel
theorem x_e166 : b_chkE x_F x_T x_Z x_dep x_hn [] x_k166 x_u166 120 = true := by decide +kernel
theorem x_c166_0 : b_chkC x_F x_T x_Z x_dep x_hn [] x_k166 x_u166 120 x_u166_0 = true := by decide +kernel
theorem x_v166 {N : Int} {fz : List (List Int32)} (hZ : b_ZOk x_Z (x_G N) fz) : b_Valid x_F fz x_T (x_G N) x_k166 := b_valid (x_gOk N) x_depOk hZ x_hn_ok (Γ := []) (fun _ h => absurd h List.not_mem_nil) x_z166 x_e166 (List.forall_mem_cons.mpr ⟨x_c166_0, fun _ h => absurd h List.not_mem_nil⟩)
def x_k167 : b_K := (177, 5, ([(0, 7, 0), (0, 200, 0)], [], [], [(2, (80, [])), (0, (0, [(0, 1)])), (0, (0, [(1, 1)]))], []), [(43, 1), (43, 2), (43, 3), (43, 4), (43, 5), (43, 6), (43, 7), (43, 8), (44, 0), (45, 0), (46, 0), (47, 0), (48, 0), (49, 0), (50, 0), (51, 0), (52, 0), (53, 2), (53, 7), (54, 0), (55, 0), (56, 0), (57, 0), (58, 0), (59, 0), (60, 0), (61, 0), (62, 0), (63, 0), (64, 0), (65, 0), (66, 0), (67, 0), (68, 0), (69, 0), (81, 1), (81, 2)], [([(0, 7, 0), (0, 200, 0)], [], [], [], [])])
def x_u167_0 : b_Cu := (12, ([(0, 7, 0), (0, 200, 0), ((-9223372036854775808), 9223372036854775807, 0), (0, 256, 0)], [], [(0, (2, (80, []))), (1, (0, (0, [(0, 1)]))), (2, (0, (0, [(1, 1)]))), (3, (1, (0, [(2, 1)]))), (5, (0, (0, [(3, 1)])))], [], []), (256, [(3, (-1))]))
def x_u167 : List b_Cu := [x_u167_0]
-- Chances.ofSentence, 185 steps
theorem x_z167 : b_chk0 x_T x_k167 x_u167 = true := by decide +kernel
theorem x_e167 : b_chkE x_F x_T x_Z x_dep x_hn [x_k122, x_k164, x_k131, x_k165, x_k166] x_k167 x_u167 245 = true := by decide +kernel
theorem x_c167_0 : b_chkC x_F x_T x_Z x_dep x_hn [x_k122, x_k164, x_k131, x_k165, x_k166] x_k167 x_u167 245 x_u167_0 = true := by decide +kernel
theorem x_v167 {N : Int} {fz : List (List Int32)} (hZ : b_ZOk x_Z (x_G N) fz) : b_Valid x_F fz x_T (x_G N) x_k167 := b_valid (x_gOk N) x_depOk hZ x_hn_ok (Γ := [x_k122, x_k164, x_k131, x_k165, x_k166]) (List.forall_mem_cons.mpr ⟨x_v122 hZ, List.forall_mem_cons.mpr ⟨x_v164 hZ, List.forall_mem_cons.mpr ⟨x_v131 hZ, List.forall_mem_cons.mpr ⟨x_v165 hZ, List.forall_mem_cons.mpr ⟨x_v166 hZ, fun _ h => absurd h List.not_mem_nil⟩⟩⟩⟩⟩) x_z167 x_e167 (List.forall_mem_cons.mpr ⟨x_c167_0, fun _ h => absurd h List.not_mem_nil⟩)
def x_k168 : b_K := (176, 6, ([((-2147483648), 2147483647, 0), ((-2147483648), 2147483647, 0), ((-2147483648), 2147483647, 0)], [], [], [(2, (0, [])), (0, (0, [(0, 1)])), (0, (0, [(1, 1)])), (0, (0, [(2, 1)]))], []), [(43, 1), (43, 2), (43, 3), (43, 4), (43, 5), (43, 6), (43, 7), (43, 8), (44, 0), (45, 0), (46, 0), (47, 0), (48, 0), (49, 0), (50, 0), (51, 0), (52, 0), (53, 2), (53, 7), (54, 0), (55, 0), (56, 0), (57, 0), (58, 0), (59, 0), (60, 0), (61, 0), (62, 0), (63, 0), (64, 0), (65, 0), (66, 0), (67, 0), (68, 0), (69, 0), (81, 1), (81, 2)], [([((-2147483648), 2147483647, 0), ((-2147483648), 2147483647, 0), ((-2147483648), 2147483647, 0), ((-2147483648), 2147483647, 0)], [], [], [(0, (0, [(3, 1)]))], [])])
def x_u168 : List b_Cu := []
-- B.chance, 65 steps
theorem x_z168 : b_chk0 x_T x_k168 x_u168 = true := by decide +kernel
theorem x_e168 : b_chkE x_F x_T x_Z x_dep x_hn [x_k167] x_k168 x_u168 125 = true := by decide +kernel
theorem x_v168 {N : Int} {fz : List (List Int32)} (hZ : b_ZOk x_Z (x_G N) fz) : b_Valid x_F fz x_T (x_G N) x_k168 := b_valid (x_gOk N) x_depOk hZ x_hn_ok (Γ := [x_k167]) (List.forall_mem_cons.mpr ⟨x_v167 hZ, fun _ h => absurd h List.not_mem_nil⟩) x_z168 x_e168 (fun _ h => absurd h List.not_mem_nil)
def x_k169 : b_K := (181, 5, ([], [], [], [(2, (80, []))], []), [(43, 1), (43, 2), (43, 3), (43, 4), (43, 5), (43, 6), (43, 7), (43, 8), (44, 0), (45, 0), (46, 0), (47, 0), (48, 0), (49, 0), (50, 0), (51, 0), (52, 0), (53, 2), (53, 7), (54, 0), (55, 0), (56, 0), (57, 0), (58, 0), (59, 0), (60, 0), (61, 0), (62, 0), (63, 0), (64, 0), (65, 0), (66, 0), (67, 0), (68, 0), (69, 0), (81, 1), (81, 2)], [([], [], [], [], [])])
def x_u169_0 : b_Cu := (11, ([((-9223372036854775808), 9223372036854775807, 0), (0, 256, 0)], [], [(0, (2, (80, []))), (1, (1, (0, [(0, 1)]))), (3, (0, (0, [(1, 1)])))], [], []), (256, [(1, (-1))]))
def x_u169 : List b_Cu := [x_u169_0]
-- Chances.ofTotal, 87 steps
theorem x_z169 : b_chk0 x_T x_k169 x_u169 = true := by decide +kernel
theorem x_e169 : b_chkE x_F x_T x_Z x_dep x_hn [x_k122, x_k164, x_k131, x_k137, x_k165, x_k166] x_k169 x_u169 147 = true := by decide +kernel
theorem x_c169_0 : b_chkC x_F x_T x_Z x_dep x_hn [x_k122, x_k164, x_k131, x_k137, x_k165, x_k166] x_k169 x_u169 147 x_u169_0 = true := by decide +kernel
theorem x_v169 {N : Int} {fz : List (List Int32)} (hZ : b_ZOk x_Z (x_G N) fz) : b_Valid x_F fz x_T (x_G N) x_k169 := b_valid (x_gOk N) x_depOk hZ x_hn_ok (Γ := [x_k122, x_k164, x_k131, x_k137, x_k165, x_k166]) (List.forall_mem_cons.mpr ⟨x_v122 hZ, List.forall_mem_cons.mpr ⟨x_v164 hZ, List.forall_mem_cons.mpr ⟨x_v131 hZ, List.forall_mem_cons.mpr ⟨x_v137 hZ, List.forall_mem_cons.mpr ⟨x_v165 hZ, List.forall_mem_cons.mpr ⟨x_v166 hZ, fun _ h => absurd h List.not_mem_nil⟩⟩⟩⟩⟩⟩) x_z169 x_e169 (List.forall_mem_cons.mpr ⟨x_c169_0, fun _ h => absurd h List.not_mem_nil⟩)
def x_k170 : b_K := (180, 6, ([((-2147483648), 2147483647, 0)], [], [], [(2, (0, [])), (0, (0, [(0, 1)]))], []), [(43, 1), (43, 2), (43, 3), (43, 4), (43, 5), (43, 6), (43, 7), (43, 8), (44, 0), (45, 0), (46, 0), (47, 0), (48, 0), (49, 0), (50, 0), (51, 0), (52, 0), (53, 2), (53, 7), (54, 0), (55, 0), (56, 0), (57, 0), (58, 0), (59, 0), (60, 0), (61, 0), (62, 0), (63, 0), (64, 0), (65, 0), (66, 0), (67, 0), (68, 0), (69, 0), (81, 1), (81, 2)], [([((-2147483648), 2147483647, 0), ((-9223372036854775808), 9223372036854775807, 0)], [], [], [(1, (0, [(1, 1)]))], [])])
def x_u170 : List b_Cu := []
-- B.mean, 43 steps
theorem x_z170 : b_chk0 x_T x_k170 x_u170 = true := by decide +kernel
theorem x_e170 : b_chkE x_F x_T x_Z x_dep x_hn [x_k169] x_k170 x_u170 120 = true := by decide +kernel
theorem x_v170 {N : Int} {fz : List (List Int32)} (hZ : b_ZOk x_Z (x_G N) fz) : b_Valid x_F fz x_T (x_G N) x_k170 := b_valid (x_gOk N) x_depOk hZ x_hn_ok (Γ := [x_k169]) (List.forall_mem_cons.mpr ⟨x_v169 hZ, fun _ h => absurd h List.not_mem_nil⟩) x_z170 x_e170 (fun _ h => absurd h List.not_mem_nil)
def x_k171 : b_K := (182, 6, ([((-2147483648), 2147483647, 0), ((-2147483648), 2147483647, 0)], [], [], [(2, (0, [])), (0, (0, [(0, 1)])), (0, (0, [(1, 1)]))], []), [(13, 8), (20, 0), (21, 0), (22, 0), (23, 2), (23, 7), (24, 0), (25, 0), (26, 0), (27, 0), (28, 0), (29, 0), (30, 0), (31, 0), (32, 0), (33, 0), (34, 0), (35, 0), (36, 0), (37, 0), (38, 0), (39, 0)], [([((-2147483648), 2147483647, 0), ((-2147483648), 2147483647, 0), ((-5), 2147483647, 0)], [], [], [(0, (0, [(2, 1)]))], [])])
def x_u171 : List b_Cu := []
-- B.appeals, 137 steps
theorem x_z171 : b_chk0 x_T x_k171 x_u171 = true := by decide +kernel
theorem x_e171 : b_chkE x_F x_T x_Z x_dep x_hn [x_k46, x_k55] x_k171 x_u171 197 = true := by decide +kernel
theorem x_v171 {N : Int} {fz : List (List Int32)} (hZ : b_ZOk x_Z (x_G N) fz) : b_Valid x_F fz x_T (x_G N) x_k171 := b_valid (x_gOk N) x_depOk hZ x_hn_ok (Γ := [x_k46, x_k55]) (List.forall_mem_cons.mpr ⟨x_v46 hZ, List.forall_mem_cons.mpr ⟨x_v55 hZ, fun _ h => absurd h List.not_mem_nil⟩⟩) x_z171 x_e171 (fun _ h => absurd h List.not_mem_nil)
def x_k172 : b_K := (185, 2, ([], [], [], [(2, (23, []))], []), [], [([((-2147483648), 2147483647, 0)], [], [], [(0, (0, [(0, 1)]))], [])])
def x_u172_0 : b_Cu := (4, ([((-2147483648), 2147483647, 0), (0, 8, 0)], [], [(0, (2, (23, []))), (1, (0, (0, [(0, 1)]))), (2, (0, (0, [(1, 1)])))], [], []), (8, [(1, (-1))]))
def x_u172 : List b_Cu := [x_u172_0]
-- Court.causesHeard, 39 steps
theorem x_z172 : b_chk0 x_T x_k172 x_u172 = true := by decide +kernel
theorem x_e172 : b_chkE x_F x_T x_Z x_dep x_hn [] x_k172 x_u172 120 = true := by decide +kernel
theorem x_c172_0 : b_chkC x_F x_T x_Z x_dep x_hn [] x_k172 x_u172 120 x_u172_0 = true := by decide +kernel
theorem x_v172 {N : Int} {fz : List (List Int32)} (hZ : b_ZOk x_Z (x_G N) fz) : b_Valid x_F fz x_T (x_G N) x_k172 := b_valid (x_gOk N) x_depOk hZ x_hn_ok (Γ := []) (fun _ h => absurd h List.not_mem_nil) x_z172 x_e172 (List.forall_mem_cons.mpr ⟨x_c172_0, fun _ h => absurd h List.not_mem_nil⟩)
def x_k173 : b_K := (184, 6, ([((-2147483648), 2147483647, 0), ((-2147483648), 2147483647, 0)], [], [], [(2, (0, [])), (0, (0, [(0, 1)])), (0, (0, [(1, 1)]))], []), [(13, 8), (20, 0), (21, 0), (22, 0), (23, 2), (23, 7), (24, 0), (25, 0), (26, 0), (27, 0), (28, 0), (29, 0), (30, 0), (31, 0), (32, 0), (33, 0), (34, 0), (35, 0), (36, 0), (37, 0), (38, 0), (39, 0)], [([((-2147483648), 2147483647, 0), ((-2147483648), 2147483647, 0), ((-2147483648), 2147483647, 0)], [], [], [(0, (0, [(2, 1)]))], [])])
def x_u173 : List b_Cu := []
-- B.misses, 107 steps
theorem x_z173 : b_chk0 x_T x_k173 x_u173 = true := by decide +kernel
theorem x_e173 : b_chkE x_F x_T x_Z x_dep x_hn [x_k46, x_k55, x_k172] x_k173 x_u173 167 = true := by decide +kernel
theorem x_v173 {N : Int} {fz : List (List Int32)} (hZ : b_ZOk x_Z (x_G N) fz) : b_Valid x_F fz x_T (x_G N) x_k173 := b_valid (x_gOk N) x_depOk hZ x_hn_ok (Γ := [x_k46, x_k55, x_k172]) (List.forall_mem_cons.mpr ⟨x_v46 hZ, List.forall_mem_cons.mpr ⟨x_v55 hZ, List.forall_mem_cons.mpr ⟨x_v172 hZ, fun _ h => absurd h List.not_mem_nil⟩⟩⟩) x_z173 x_e173 (fun _ h => absurd h List.not_mem_nil)
def x_k174 : b_K := (186, 6, ([], [], [], [(2, (0, []))], []), [(13, 8), (23, 2), (23, 7), (24, 0), (25, 0), (26, 0), (27, 0), (28, 0), (29, 0), (30, 0), (31, 0), (32, 0), (33, 0), (34, 0), (35, 0), (36, 0), (37, 0), (38, 0), (39, 0)], [([((-5), 19, 0)], [], [], [(0, (0, [(0, 1)]))], [])])
def x_u174 : List b_Cu := []
-- B.undo, 43 steps
theorem x_z174 : b_chk0 x_T x_k174 x_u174 = true := by decide +kernel
theorem x_e174 : b_chkE x_F x_T x_Z x_dep x_hn [x_k46, x_k55] x_k174 x_u174 120 = true := by decide +kernel
theorem x_v174 {N : Int} {fz : List (List Int32)} (hZ : b_ZOk x_Z (x_G N) fz) : b_Valid x_F fz x_T (x_G N) x_k174 := b_valid (x_gOk N) x_depOk hZ x_hn_ok (Γ := [x_k46, x_k55]) (List.forall_mem_cons.mpr ⟨x_v46 hZ, List.forall_mem_cons.mpr ⟨x_v55 hZ, fun _ h => absurd h List.not_mem_nil⟩⟩) x_z174 x_e174 (fun _ h => absurd h List.not_mem_nil)
def x_k175 : b_K := (187, 6, ([], [], [], [(2, (0, []))], []), [(13, 8), (23, 2), (23, 7), (24, 0), (25, 0), (26, 0), (27, 0), (28, 0), (29, 0), (30, 0), (31, 0), (32, 0), (33, 0), (34, 0), (35, 0), (36, 0), (37, 0), (38, 0), (39, 0)], [([((-2), 20, 0)], [], [], [(0, (0, [(0, 1)]))], [])])
def x_u175 : List b_Cu := []
-- B.anew, 36 steps
theorem x_z175 : b_chk0 x_T x_k175 x_u175 = true := by decide +kernel
theorem x_e175 : b_chkE x_F x_T x_Z x_dep x_hn [x_k46, x_k55] x_k175 x_u175 120 = true := by decide +kernel
theorem x_v175 {N : Int} {fz : List (List Int32)} (hZ : b_ZOk x_Z (x_G N) fz) : b_Valid x_F fz x_T (x_G N) x_k175 := b_valid (x_gOk N) x_depOk hZ x_hn_ok (Γ := [x_k46, x_k55]) (List.forall_mem_cons.mpr ⟨x_v46 hZ, List.forall_mem_cons.mpr ⟨x_v55 hZ, fun _ h => absurd h List.not_mem_nil⟩⟩) x_z175 x_e175 (fun _ h => absurd h List.not_mem_nil)
def x_k176 : b_K := (190, 1, ([(0, 2147483647, 0)], [], [], [(2, (80, [])), (0, (0, [(0, 1)]))], []), [], [([(0, 2147483647, 0), ((-2147483648), 2147483647, 0)], [], [], [(0, (0, [(1, 1)]))], [])])
def x_u176_0 : b_Cu := (9, ([(0, 2147483647, 0), ((-9223372036854775808), 9223372036854775807, 0), ((-2147483648), 2147483647, 0), (0, 8, 0)], [], [(0, (2, (80, []))), (2, (1, (0, [(1, 1)]))), (4, (0, (0, [(2, 1)]))), (5, (0, (0, [(3, 1)])))], [], []), (8, [(3, (-1))]))
def x_u176 : List b_Cu := [x_u176_0]
-- Chances.draw, 49 steps
theorem x_z176 : b_chk0 x_T x_k176 x_u176 = true := by decide +kernel
theorem x_e176 : b_chkE x_F x_T x_Z x_dep x_hn [] x_k176 x_u176 120 = true := by decide +kernel
theorem x_c176_0 : b_chkC x_F x_T x_Z x_dep x_hn [] x_k176 x_u176 120 x_u176_0 = true := by decide +kernel
theorem x_v176 {N : Int} {fz : List (List Int32)} (hZ : b_ZOk x_Z (x_G N) fz) : b_Valid x_F fz x_T (x_G N) x_k176 := b_valid (x_gOk N) x_depOk hZ x_hn_ok (Γ := []) (fun _ h => absurd h List.not_mem_nil) x_z176 x_e176 (List.forall_mem_cons.mpr ⟨x_c176_0, fun _ h => absurd h List.not_mem_nil⟩)
def x_k177 : b_K := (188, 6, ([((-2147483648), 2147483647, 0), ((-2147483648), 2147483647, 0)], [], [], [(2, (0, [])), (0, (0, [(0, 1)])), (0, (0, [(1, 1)]))], []), [(43, 1), (43, 2), (43, 3), (43, 4), (43, 5), (43, 6), (43, 7), (43, 8), (44, 0), (45, 0), (46, 0), (47, 0), (48, 0), (49, 0), (50, 0), (51, 0), (52, 0), (53, 2), (53, 7), (54, 0), (55, 0), (56, 0), (57, 0), (58, 0), (59, 0), (60, 0), (61, 0), (62, 0), (63, 0), (64, 0), (65, 0), (66, 0), (67, 0), (68, 0), (69, 0)], [([((-2147483648), 2147483647, 0), ((-2147483648), 2147483647, 0), ((-2147483648), 2147483647, 0)], [], [], [(0, (0, [(2, 1)]))], [])])
def x_u177 : List b_Cu := []
-- B.drawn, 76 steps
theorem x_z177 : b_chk0 x_T x_k177 x_u177 = true := by decide +kernel
theorem x_e177 : b_chkE x_F x_T x_Z x_dep x_hn [x_k176, x_k122, x_k131, x_k137] x_k177 x_u177 136 = true := by decide +kernel
theorem x_v177 {N : Int} {fz : List (List Int32)} (hZ : b_ZOk x_Z (x_G N) fz) : b_Valid x_F fz x_T (x_G N) x_k177 := b_valid (x_gOk N) x_depOk hZ x_hn_ok (Γ := [x_k176, x_k122, x_k131, x_k137]) (List.forall_mem_cons.mpr ⟨x_v176 hZ, List.forall_mem_cons.mpr ⟨x_v122 hZ, List.forall_mem_cons.mpr ⟨x_v131 hZ, List.forall_mem_cons.mpr ⟨x_v137 hZ, fun _ h => absurd h List.not_mem_nil⟩⟩⟩⟩) x_z177 x_e177 (fun _ h => absurd h List.not_mem_nil)
def x_k178 : b_K := (193, 5, ([(0, 2000000000, 0), (1, 20, 0), (0, 7, 0)], [], [], [(2, (80, [])), (0, (0, [(0, 1)])), (0, (0, [(1, 1)])), (0, (0, [(2, 1)]))], []), [(43, 1), (43, 2), (43, 3), (43, 4), (43, 5), (43, 6), (43, 7), (43, 8), (44, 0), (45, 0), (46, 0), (47, 0), (48, 0), (49, 0), (50, 0), (51, 0), (52, 0), (53, 2), (53, 7), (54, 0), (55, 0), (56, 0), (57, 0), (58, 0), (59, 0), (60, 0), (61, 0), (62, 0), (63, 0), (64, 0), (65, 0), (66, 0), (67, 0), (68, 0), (69, 0)], [([(0, 2000000000, 0), (1, 20, 0), (0, 7, 0), ((-2147483648), 2147483647, 0)], [], [], [(0, (0, [(3, 1)]))], [])])
def x_u178_0 : b_Cu := (13, ([(0, 2000000000, 0), (1, 20, 0), (0, 7, 0), ((-2147483648), 2147483647, 0), (0, 20, 0)], [], [(0, (2, (80, []))), (1, (0, (0, [(0, 1)]))), (2, (0, (0, [(1, 1)]))), (3, (0, (0, [(2, 1)]))), (4, (0, (0, [(3, 1)]))), (5, (0, (0, [(4, 1)])))], [], []), (20, [(4, (-1))]))
def x_u178 : List b_Cu := [x_u178_0]
-- Chances.decadesHeard, 52 steps
theorem x_z178 : b_chk0 x_T x_k178 x_u178 = true := by decide +kernel
theorem x_e178 : b_chkE x_F x_T x_Z x_dep x_hn [x_k122, x_k176, x_k131] x_k178 x_u178 120 = true := by decide +kernel
theorem x_c178_0 : b_chkC x_F x_T x_Z x_dep x_hn [x_k122, x_k176, x_k131] x_k178 x_u178 120 x_u178_0 = true := by decide +kernel
theorem x_v178 {N : Int} {fz : List (List Int32)} (hZ : b_ZOk x_Z (x_G N) fz) : b_Valid x_F fz x_T (x_G N) x_k178 := b_valid (x_gOk N) x_depOk hZ x_hn_ok (Γ := [x_k122, x_k176, x_k131]) (List.forall_mem_cons.mpr ⟨x_v122 hZ, List.forall_mem_cons.mpr ⟨x_v176 hZ, List.forall_mem_cons.mpr ⟨x_v131 hZ, fun _ h => absurd h List.not_mem_nil⟩⟩⟩) x_z178 x_e178 (List.forall_mem_cons.mpr ⟨x_c178_0, fun _ h => absurd h List.not_mem_nil⟩)
def x_k179 : b_K := (192, 6, ([((-2147483648), 2147483647, 0), ((-2147483648), 2147483647, 0), ((-2147483648), 2147483647, 0)], [], [], [(2, (0, [])), (0, (0, [(0, 1)])), (0, (0, [(1, 1)])), (0, (0, [(2, 1)]))], []), [(43, 1), (43, 2), (43, 3), (43, 4), (43, 5), (43, 6), (43, 7), (43, 8), (44, 0), (45, 0), (46, 0), (47, 0), (48, 0), (49, 0), (50, 0), (51, 0), (52, 0), (53, 2), (53, 7), (54, 0), (55, 0), (56, 0), (57, 0), (58, 0), (59, 0), (60, 0), (61, 0), (62, 0), (63, 0), (64, 0), (65, 0), (66, 0), (67, 0), (68, 0), (69, 0)], [([((-2147483648), 2147483647, 0), ((-2147483648), 2147483647, 0), ((-2147483648), 2147483647, 0), ((-2147483648), 2147483647, 0)], [], [], [(0, (0, [(3, 1)]))], [])])
def x_u179 : List b_Cu := []
-- B.luck, 64 steps
theorem x_z179 : b_chk0 x_T x_k179 x_u179 = true := by decide +kernel
theorem x_e179 : b_chkE x_F x_T x_Z x_dep x_hn [x_k178] x_k179 x_u179 124 = true := by decide +kernel
theorem x_v179 {N : Int} {fz : List (List Int32)} (hZ : b_ZOk x_Z (x_G N) fz) : b_Valid x_F fz x_T (x_G N) x_k179 := b_valid (x_gOk N) x_depOk hZ x_hn_ok (Γ := [x_k178]) (List.forall_mem_cons.mpr ⟨x_v178 hZ, fun _ h => absurd h List.not_mem_nil⟩) x_z179 x_e179 (fun _ h => absurd h List.not_mem_nil)
def x_k180 : b_K := (194, 6, ([((-2147483648), 2147483647, 0), ((-2147483648), 2147483647, 0)], [], [], [(2, (0, [])), (0, (0, [(0, 1)])), (0, (0, [(1, 1)]))], []), [(18, 0), (23, 2), (23, 7), (24, 0), (25, 0), (26, 0), (27, 0), (28, 0), (29, 0), (30, 0), (31, 0), (32, 0), (33, 0), (34, 0), (35, 0), (36, 0), (37, 0), (38, 0), (39, 0)], [([((-2147483648), 2147483647, 0), ((-2147483648), 2147483647, 0), ((-5), 15, 0)], [], [], [(0, (0, [(2, 1)]))], [])])
def x_u180 : List b_Cu := []
-- B.rate, 64 steps
theorem x_z180 : b_chk0 x_T x_k180 x_u180 = true := by decide +kernel
theorem x_e180 : b_chkE x_F x_T x_Z x_dep x_hn [x_k46, x_k55] x_k180 x_u180 124 = true := by decide +kernel
theorem x_v180 {N : Int} {fz : List (List Int32)} (hZ : b_ZOk x_Z (x_G N) fz) : b_Valid x_F fz x_T (x_G N) x_k180 := b_valid (x_gOk N) x_depOk hZ x_hn_ok (Γ := [x_k46, x_k55]) (List.forall_mem_cons.mpr ⟨x_v46 hZ, List.forall_mem_cons.mpr ⟨x_v55 hZ, fun _ h => absurd h List.not_mem_nil⟩⟩) x_z180 x_e180 (fun _ h => absurd h List.not_mem_nil)
def x_k181 : b_K := (196, 2, ([], [], [], [(2, (73, []))], []), [], [([((-2147483648), 2147483647, 0)], [], [], [(0, (0, [(0, 1)]))], [])])
def x_u181_0 : b_Cu := (4, ([((-2147483648), 2147483647, 0), (0, 4, 0)], [], [(0, (2, (73, []))), (1, (0, (0, [(0, 1)]))), (2, (0, (0, [(1, 1)])))], [], []), (4, [(1, (-1))]))
def x_u181 : List b_Cu := [x_u181_0]
-- Rows.howMany, 37 steps
theorem x_z181 : b_chk0 x_T x_k181 x_u181 = true := by decide +kernel
theorem x_e181 : b_chkE x_F x_T x_Z x_dep x_hn [] x_k181 x_u181 120 = true := by decide +kernel
theorem x_c181_0 : b_chkC x_F x_T x_Z x_dep x_hn [] x_k181 x_u181 120 x_u181_0 = true := by decide +kernel
theorem x_v181 {N : Int} {fz : List (List Int32)} (hZ : b_ZOk x_Z (x_G N) fz) : b_Valid x_F fz x_T (x_G N) x_k181 := b_valid (x_gOk N) x_depOk hZ x_hn_ok (Γ := []) (fun _ h => absurd h List.not_mem_nil) x_z181 x_e181 (List.forall_mem_cons.mpr ⟨x_c181_0, fun _ h => absurd h List.not_mem_nil⟩)
def x_k182 : b_K := (195, 3, ([((-2147483648), 2147483647, 0)], [], [], [(2, (0, [])), (0, (0, [(0, 1)]))], []), [], [([((-2147483648), 2147483647, 0), ((-2147483648), 2147483647, 0)], [], [], [(0, (0, [(1, 1)]))], [])])
def x_u182 : List b_Cu := []
-- B.count, 46 steps
theorem x_z182 : b_chk0 x_T x_k182 x_u182 = true := by decide +kernel
theorem x_e182 : b_chkE x_F x_T x_Z x_dep x_hn [x_k181] x_k182 x_u182 120 = true := by decide +kernel
theorem x_v182 {N : Int} {fz : List (List Int32)} (hZ : b_ZOk x_Z (x_G N) fz) : b_Valid x_F fz x_T (x_G N) x_k182 := b_valid (x_gOk N) x_depOk hZ x_hn_ok (Γ := [x_k181]) (List.forall_mem_cons.mpr ⟨x_v181 hZ, fun _ h => absurd h List.not_mem_nil⟩) x_z182 x_e182 (fun _ h => absurd h List.not_mem_nil)
def x_k183 : b_K := (197, 2, ([((-2147483648), 2147483647, 0)], [], [], [(2, (0, [])), (0, (0, [(0, 1)]))], []), [(0, 10), (83, 1), (83, 2), (83, 3), (83, 4), (83, 5), (83, 6), (83, 7), (83, 8), (84, 0), (85, 0), (86, 0), (87, 0), (88, 0), (89, 0), (90, 0), (91, 0), (92, 0), (93, 1), (93, 2), (93, 3), (93, 4), (93, 5), (93, 6), (93, 7), (93, 8), (94, 0), (95, 0), (96, 0), (97, 0), (98, 0), (99, 0), (100, 0), (101, 0), (102, 0), (103, 1), (103, 2), (103, 3), (103, 4), (103, 5), (103, 6), (103, 7), (103, 8), (104, 0), (105, 0), (106, 0), (107, 0), (108, 0), (109, 0), (110, 0), (111, 0), (112, 0)], [([((-2147483648), 2147483647, 0), ((-2), 0, 0)], [], [], [(0, (0, [(1, 1)]))], [])])
def x_u183 : List b_Cu := []
-- B.image, 367 steps
theorem x_z183 : b_chk0 x_T x_k183 x_u183 = true := by decide +kernel
theorem x_e183 : b_chkE x_F x_T x_Z x_dep x_hn [] x_k183 x_u183 427 = true := by decide +kernel
theorem x_v183 {N : Int} {fz : List (List Int32)} (hZ : b_ZOk x_Z (x_G N) fz) : b_Valid x_F fz x_T (x_G N) x_k183 := b_valid (x_gOk N) x_depOk hZ x_hn_ok (Γ := []) (fun _ h => absurd h List.not_mem_nil) x_z183 x_e183 (fun _ h => absurd h List.not_mem_nil)
def x_k184 : b_K := (198, 6, ([((-2147483648), 2147483647, 0)], [], [], [(2, (0, [])), (0, (0, [(0, 1)]))], []), [(13, 1), (13, 2), (13, 3), (13, 4), (13, 5), (13, 6), (13, 7), (13, 8), (14, 0), (15, 0), (16, 0), (17, 0), (18, 0), (19, 0), (20, 0), (21, 0), (22, 0), (23, 2), (23, 7), (24, 0), (25, 0), (26, 0), (27, 0), (28, 0), (29, 0), (30, 0), (31, 0), (32, 0), (33, 0), (34, 0), (35, 0), (36, 0), (37, 0), (38, 0), (39, 0)], [([((-2147483648), 2147483647, 0), ((-6), 0, 0)], [], [], [(0, (0, [(1, 1)]))], [])])
def x_u184 : List b_Cu := []
-- B.back, 381 steps
theorem x_z184 : b_chk0 x_T x_k184 x_u184 = true := by decide +kernel
theorem x_e184 : b_chkE x_F x_T x_Z x_dep x_hn [x_k46, x_k55] x_k184 x_u184 441 = true := by decide +kernel
theorem x_v184 {N : Int} {fz : List (List Int32)} (hZ : b_ZOk x_Z (x_G N) fz) : b_Valid x_F fz x_T (x_G N) x_k184 := b_valid (x_gOk N) x_depOk hZ x_hn_ok (Γ := [x_k46, x_k55]) (List.forall_mem_cons.mpr ⟨x_v46 hZ, List.forall_mem_cons.mpr ⟨x_v55 hZ, fun _ h => absurd h List.not_mem_nil⟩⟩) x_z184 x_e184 (fun _ h => absurd h List.not_mem_nil)
def x_k185 : b_K := (201, 1, ([(0, 3, 0), (0, 3, 0), (0, 60, 0)], [], [], [(2, (73, [])), (0, (0, [(0, 1)])), (0, (0, [(1, 1)])), (0, (0, [(2, 1)]))], []), [(74, 0), (75, 0), (76, 0)], [([(0, 3, 0), (0, 3, 0), (0, 60, 0)], [], [], [], [])])
def x_u185_0 : b_Cu := (17, ([(0, 3, 0), (0, 3, 0), (0, 60, 0), (0, 60, 0)], [], [(0, (2, (73, []))), (1, (0, (0, [(0, 1)]))), (3, (0, (0, [(2, 1)]))), (4, (0, (0, [(3, 1)])))], [], []), (60, [(3, (-1))]))
def x_u185 : List b_Cu := [x_u185_0]
-- Rows.lay, 30 steps
theorem x_z185 : b_chk0 x_T x_k185 x_u185 = true := by decide +kernel
theorem x_e185 : b_chkE x_F x_T x_Z x_dep x_hn [] x_k185 x_u185 120 = true := by decide +kernel
theorem x_c185_0 : b_chkC x_F x_T x_Z x_dep x_hn [] x_k185 x_u185 120 x_u185_0 = true := by decide +kernel
theorem x_v185 {N : Int} {fz : List (List Int32)} (hZ : b_ZOk x_Z (x_G N) fz) : b_Valid x_F fz x_T (x_G N) x_k185 := b_valid (x_gOk N) x_depOk hZ x_hn_ok (Γ := []) (fun _ h => absurd h List.not_mem_nil) x_z185 x_e185 (List.forall_mem_cons.mpr ⟨x_c185_0, fun _ h => absurd h List.not_mem_nil⟩)
def x_k186 : b_K := (199, 2, ([((-2147483648), 2147483647, 0), ((-2147483648), 2147483647, 0), ((-2147483648), 2147483647, 0)], [], [], [(2, (0, [])), (0, (0, [(0, 1)])), (0, (0, [(1, 1)])), (0, (0, [(2, 1)]))], []), [(74, 0), (75, 0), (76, 0)], [([((-2147483648), 2147483647, 0), ((-2147483648), 2147483647, 0), ((-2147483648), 2147483647, 0), ((-3), 0, 0)], [], [], [(0, (0, [(3, 1)]))], [])])
def x_u186 : List b_Cu := []
-- B.row, 63 steps
theorem x_z186 : b_chk0 x_T x_k186 x_u186 = true := by decide +kernel
theorem x_e186 : b_chkE x_F x_T x_Z x_dep x_hn [x_k185] x_k186 x_u186 123 = true := by decide +kernel
theorem x_v186 {N : Int} {fz : List (List Int32)} (hZ : b_ZOk x_Z (x_G N) fz) : b_Valid x_F fz x_T (x_G N) x_k186 := b_valid (x_gOk N) x_depOk hZ x_hn_ok (Γ := [x_k185]) (List.forall_mem_cons.mpr ⟨x_v185 hZ, fun _ h => absurd h List.not_mem_nil⟩) x_z186 x_e186 (fun _ h => absurd h List.not_mem_nil)
def x_k187 : b_K := (202, 3, ([((-2147483648), 2147483647, 0), ((-2147483648), 2147483647, 0), ((-9223372036854775808), 9223372036854775807, 0)], [], [], [(2, (0, [])), (0, (0, [(0, 1)])), (0, (0, [(1, 1)])), (1, (0, [(2, 1)]))], []), [(74, 0)], [([((-2147483648), 2147483647, 0), ((-2147483648), 2147483647, 0), ((-9223372036854775808), 9223372036854775807, 0), ((-7), 0, 0)], [], [], [(0, (0, [(3, 1)]))], [])])
def x_u187 : List b_Cu := []
-- B.write, 126 steps
theorem x_z187 : b_chk0 x_T x_k187 x_u187 = true := by decide +kernel
theorem x_e187 : b_chkE x_F x_T x_Z x_dep x_hn [] x_k187 x_u187 186 = true := by decide +kernel
theorem x_v187 {N : Int} {fz : List (List Int32)} (hZ : b_ZOk x_Z (x_G N) fz) : b_Valid x_F fz x_T (x_G N) x_k187 := b_valid (x_gOk N) x_depOk hZ x_hn_ok (Γ := []) (fun _ h => absurd h List.not_mem_nil) x_z187 x_e187 (fun _ h => absurd h List.not_mem_nil)
def x_k188 : b_K := (205, 3, ([((-2147483648), 2147483647, 0), ((-2147483648), 2147483647, 0), ((-2147483648), 2147483647, 0), ((-2147483648), 2147483647, 0), ((-2147483648), 2147483647, 0)], [], [], [(2, (0, [])), (0, (0, [(0, 1)])), (0, (0, [(1, 1)])), (0, (0, [(2, 1)])), (0, (0, [(3, 1)])), (0, (0, [(4, 1)]))], []), [(74, 0)], [([((-2147483648), 2147483647, 0), ((-2147483648), 2147483647, 0), ((-2147483648), 2147483647, 0), ((-2147483648), 2147483647, 0), ((-2147483648), 2147483647, 0), ((-8), 0, 0)], [], [], [(0, (0, [(5, 1)]))], [])])
def x_u188 : List b_Cu := []
-- B.paste, 227 steps
theorem x_z188 : b_chk0 x_T x_k188 x_u188 = true := by decide +kernel
theorem x_e188 : b_chkE x_F x_T x_Z x_dep x_hn [] x_k188 x_u188 287 = true := by decide +kernel
theorem x_v188 {N : Int} {fz : List (List Int32)} (hZ : b_ZOk x_Z (x_G N) fz) : b_Valid x_F fz x_T (x_G N) x_k188 := b_valid (x_gOk N) x_depOk hZ x_hn_ok (Γ := []) (fun _ h => absurd h List.not_mem_nil) x_z188 x_e188 (fun _ h => absurd h List.not_mem_nil)
def x_k189 : b_K := (210, 3, ([((-2147483648), 2147483647, 0), ((-2147483648), 2147483647, 0), ((-2147483648), 2147483647, 0)], [], [], [(2, (113, [])), (0, (0, [(0, 1)])), (0, (0, [(1, 1)])), (0, (0, [(2, 1)]))], []), [(113, 1), (114, 0), (115, 0), (116, 0)], [([((-2147483648), 2147483647, 0), ((-2147483648), 2147483647, 0), ((-2147483648), 2147483647, 0), ((-3), 0, 0)], [], [], [(0, (0, [(3, 1)]))], [])])
def x_u189_0 : b_Cu := (57, ([(0, 3, 0), (0, 3, 0), (0, 60, 0), (0, 60, 0)], [], [(0, (2, (113, []))), (1, (0, (0, [(0, 1)]))), (3, (0, (0, [(2, 1)]))), (4, (0, (0, [(3, 1)])))], [], []), (60, [(3, (-1))]))
def x_u189 : List b_Cu := [x_u189_0]
-- M.row, 99 steps
theorem x_z189 : b_chk0 x_T x_k189 x_u189 = true := by decide +kernel
theorem x_e189 : b_chkE x_F x_T x_Z x_dep x_hn [] x_k189 x_u189 159 = true := by decide +kernel
theorem x_c189_0 : b_chkC x_F x_T x_Z x_dep x_hn [] x_k189 x_u189 159 x_u189_0 = true := by decide +kernel
theorem x_v189 {N : Int} {fz : List (List Int32)} (hZ : b_ZOk x_Z (x_G N) fz) : b_Valid x_F fz x_T (x_G N) x_k189 := b_valid (x_gOk N) x_depOk hZ x_hn_ok (Γ := []) (fun _ h => absurd h List.not_mem_nil) x_z189 x_e189 (List.forall_mem_cons.mpr ⟨x_c189_0, fun _ h => absurd h List.not_mem_nil⟩)
def x_k190 : b_K := (213, 3, ([((-2147483648), 2147483647, 0), ((-2147483648), 2147483647, 0), ((-9223372036854775808), 9223372036854775807, 0)], [], [], [(2, (113, [])), (0, (0, [(0, 1)])), (0, (0, [(1, 1)])), (1, (0, [(2, 1)]))], []), [(113, 1), (116, 0)], [([((-2147483648), 2147483647, 0), ((-2147483648), 2147483647, 0), ((-9223372036854775808), 9223372036854775807, 0), ((-7), 0, 0)], [], [], [(0, (0, [(3, 1)]))], [])])
def x_u190 : List b_Cu := []
-- M.write, 128 steps
theorem x_z190 : b_chk0 x_T x_k190 x_u190 = true := by decide +kernel
theorem x_e190 : b_chkE x_F x_T x_Z x_dep x_hn [] x_k190 x_u190 188 = true := by decide +kernel
theorem x_v190 {N : Int} {fz : List (List Int32)} (hZ : b_ZOk x_Z (x_G N) fz) : b_Valid x_F fz x_T (x_G N) x_k190 := b_valid (x_gOk N) x_depOk hZ x_hn_ok (Γ := []) (fun _ h => absurd h List.not_mem_nil) x_z190 x_e190 (fun _ h => absurd h List.not_mem_nil)
def x_k191 : b_K := (215, 3, ([((-2147483648), 2147483647, 0), ((-2147483648), 2147483647, 0), ((-2147483648), 2147483647, 0), ((-2147483648), 2147483647, 0), ((-2147483648), 2147483647, 0)], [], [], [(2, (113, [])), (0, (0, [(0, 1)])), (0, (0, [(1, 1)])), (0, (0, [(2, 1)])), (0, (0, [(3, 1)])), (0, (0, [(4, 1)]))], []), [(113, 1), (116, 0), (117, 0)], [([((-2147483648), 2147483647, 0), ((-2147483648), 2147483647, 0), ((-2147483648), 2147483647, 0), ((-2147483648), 2147483647, 0), ((-2147483648), 2147483647, 0), ((-8), 0, 0)], [], [], [(0, (0, [(5, 1)]))], [])])
def x_u191_0 : b_Cu := (118, ([(0, 3, 0), (0, 60, 0), (0, 3, 0), (0, 60, 0), (0, 60, 0), (0, 60, 0)], [((-60), [(1, 1), (4, 1)]), ((-60), [(3, 1), (4, 1)])], [(0, (2, (113, []))), (1, (0, (0, [(0, 1)]))), (2, (0, (0, [(1, 1)]))), (3, (0, (0, [(2, 1)]))), (4, (0, (0, [(3, 1)]))), (5, (0, (0, [(4, 1)]))), (6, (0, (0, [(5, 1)])))], [], [(113, (0, []), (0, (0, [])))]), (121, [(5, (-1))]))
def x_u191_1 : b_Cu := (155, ([(0, 3, 0), (0, 60, 0), (0, 3, 0), (0, 60, 0), ((-2147483648), 2147483647, 0), (0, 60, 0)], [((-60), [(1, 1), (4, 1)]), ((-60), [(3, 1), (4, 1)])], [(0, (2, (113, []))), (3, (0, (0, [(2, 1)]))), (4, (0, (0, [(3, 1)]))), (5, (0, (0, [(4, 1)]))), (6, (0, (0, [(5, 1)])))], [], [(113, (0, []), (0, (0, [])))]), (60, [(5, (-1))]))
def x_u191 : List b_Cu := [x_u191_0, x_u191_1]
-- M.paste, 178 steps
theorem x_z191 : b_chk0 x_T x_k191 x_u191 = true := by decide +kernel
theorem x_e191 : b_chkE x_F x_T x_Z x_dep x_hn [] x_k191 x_u191 238 = true := by decide +kernel
theorem x_c191_0 : b_chkC x_F x_T x_Z x_dep x_hn [] x_k191 x_u191 238 x_u191_0 = true := by decide +kernel
theorem x_c191_1 : b_chkC x_F x_T x_Z x_dep x_hn [] x_k191 x_u191 238 x_u191_1 = true := by decide +kernel
theorem x_v191 {N : Int} {fz : List (List Int32)} (hZ : b_ZOk x_Z (x_G N) fz) : b_Valid x_F fz x_T (x_G N) x_k191 := b_valid (x_gOk N) x_depOk hZ x_hn_ok (Γ := []) (fun _ h => absurd h List.not_mem_nil) x_z191 x_e191 (List.forall_mem_cons.mpr ⟨x_c191_0, List.forall_mem_cons.mpr ⟨x_c191_1, fun _ h => absurd h List.not_mem_nil⟩⟩)
def x_k192 : b_K := (216, 2, ([((-2147483648), 2147483647, 0), ((-2147483648), 2147483647, 0), ((-2147483648), 2147483647, 0), ((-2147483648), 2147483647, 0), ((-2147483648), 2147483647, 0)], [], [], [(2, (113, [])), (0, (0, [(0, 1)])), (0, (0, [(1, 1)])), (0, (0, [(2, 1)])), (0, (0, [(3, 1)])), (0, (0, [(4, 1)]))], []), [(113, 1), (113, 7), (118, 0)], [([((-2147483648), 2147483647, 0), ((-2147483648), 2147483647, 0), ((-2147483648), 2147483647, 0), ((-2147483648), 2147483647, 0), ((-2147483648), 2147483647, 0), ((-1), 700, 0)], [], [], [(0, (0, [(5, 1)]))], [])])
def x_u192 : List b_Cu := []
-- M.feed, 434 steps
theorem x_z192 : b_chk0 x_T x_k192 x_u192 = true := by decide +kernel
theorem x_e192 : b_chkE x_F x_T x_Z x_dep x_hn [] x_k192 x_u192 494 = true := by decide +kernel
theorem x_v192 {N : Int} {fz : List (List Int32)} (hZ : b_ZOk x_Z (x_G N) fz) : b_Valid x_F fz x_T (x_G N) x_k192 := b_valid (x_gOk N) x_depOk hZ x_hn_ok (Γ := []) (fun _ h => absurd h List.not_mem_nil) x_z192 x_e192 (fun _ h => absurd h List.not_mem_nil)
