/-! contracts and their checks (by program, cert3.py) -/
def x_k193 : b_K := (218, 2, ([((-2147483648), 2147483647, 0)], [], [], [(2, (113, [])), (0, (0, [(0, 1)]))], []), [(113, 1), (113, 7)], [([((-2147483648), 2147483647, 0), ((-1), 700, 0)], [], [], [(0, (0, [(1, 1)]))], [])])
def x_u193 : List b_Cu := []
-- M.end, 37 steps
theorem x_z193 : b_chk0 x_T x_k193 x_u193 = true := by decide +kernel
theorem x_e193 : b_chkE x_F x_T x_Z x_dep x_hn [] x_k193 x_u193 120 = true := by decide +kernel
theorem x_v193 {N : Int} {fz : List (List Int32)} (hZ : b_ZOk x_Z (x_G N) fz) : b_Valid x_F fz x_T (x_G N) x_k193 := b_valid (x_gOk N) x_depOk hZ x_hn_ok (Γ := []) (fun _ h => absurd h List.not_mem_nil) x_z193 x_e193 (fun _ h => absurd h List.not_mem_nil)
def x_k194 : b_K := (219, 1, ([((-2147483648), 2147483647, 0)], [], [], [(2, (113, [])), (0, (0, [(0, 1)]))], []), [(113, 1)], [([((-2147483648), 2147483647, 0), ((-1), 700, 0)], [], [], [(0, (0, [(1, 1)]))], [])])
def x_u194 : List b_Cu := []
-- M.fault, 23 steps
theorem x_z194 : b_chk0 x_T x_k194 x_u194 = true := by decide +kernel
theorem x_e194 : b_chkE x_F x_T x_Z x_dep x_hn [] x_k194 x_u194 120 = true := by decide +kernel
theorem x_v194 {N : Int} {fz : List (List Int32)} (hZ : b_ZOk x_Z (x_G N) fz) : b_Valid x_F fz x_T (x_G N) x_k194 := b_valid (x_gOk N) x_depOk hZ x_hn_ok (Γ := []) (fun _ h => absurd h List.not_mem_nil) x_z194 x_e194 (fun _ h => absurd h List.not_mem_nil)
def x_k195 : b_K := (221, 2, ([], [], [], [(2, (113, []))], []), [(119, 0), (120, 0)], [([], [], [], [], [])])
def x_u195_0 : b_Cu := (9, ([(0, 7, 0)], [], [(0, (2, (113, []))), (1, (0, (0, [(0, 1)])))], [], []), (7, [(0, (-1))]))
def x_u195 : List b_Cu := [x_u195_0]
-- M.clears, 25 steps
theorem x_z195 : b_chk0 x_T x_k195 x_u195 = true := by decide +kernel
theorem x_e195 : b_chkE x_F x_T x_Z x_dep x_hn [] x_k195 x_u195 120 = true := by decide +kernel
theorem x_c195_0 : b_chkC x_F x_T x_Z x_dep x_hn [] x_k195 x_u195 120 x_u195_0 = true := by decide +kernel
theorem x_v195 {N : Int} {fz : List (List Int32)} (hZ : b_ZOk x_Z (x_G N) fz) : b_Valid x_F fz x_T (x_G N) x_k195 := b_valid (x_gOk N) x_depOk hZ x_hn_ok (Γ := []) (fun _ h => absurd h List.not_mem_nil) x_z195 x_e195 (List.forall_mem_cons.mpr ⟨x_c195_0, fun _ h => absurd h List.not_mem_nil⟩)
def x_k196 : b_K := (224, 2, ([(0, 700, 0), (0, 700, 0)], [(0, [(0, 1), (1, (-1))])], [], [(2, (113, []))], [(113, (7, []), (0, (0, [(0, 1)]))), (113, (6, []), (0, (0, [(1, 1)])))]), [(113, 8), (113, 9), (113, 10), (113, 11), (113, 12)], [([(0, 699, 0), (1, 700, 0), (1, 700, 0), (1, 4, 0)], [(0, [(0, 1), (2, (-1))]), (0, [(1, (-1)), (2, 1)]), (1, [(0, 1), (2, (-1))])], [], [], [(113, (7, []), (0, (0, [(2, 1)]))), (113, (8, []), (0, (0, [(3, 1)]))), (113, (6, []), (0, (0, [(1, 1)])))]),
  ([(0, 700, 0), (0, 700, 0), (0, 700, 0)], [(0, [(0, 1), (2, (-1))]), (0, [(1, (-1)), (2, 1)])], [], [], [(113, (8, []), (0, (0, []))), (113, (7, []), (0, (0, [(2, 1)]))), (113, (6, []), (0, (0, [(1, 1)])))])])
def x_u196_0 : b_Cu := (0, ([(0, 700, 0), (0, 700, 0), ((-9223372036854775808), 9223372036854775807, 0), (0, 100000000, 0), (0, 700, 0), (0, 4, 0), (0, 700, 0)], [(0, [(0, 1), (6, (-1))]), (0, [(1, (-1)), (6, 1)])], [(0, (2, (113, [])))], [], [(113, (11, []), (1, (0, [(2, 1)]))), (113, (10, []), (0, (0, [(3, 1)]))), (113, (9, []), (0, (0, [(4, 1)]))), (113, (8, []), (0, (0, [(5, 1)]))), (113, (7, []), (0, (0, [(6, 1)]))), (113, (6, []), (0, (0, [(1, 1)])))]), (2102, [(6, (-1))]))
def x_u196_1 : b_Cu := (182, ([(0, 699, 0), (1, 700, 0), ((-2147483648), 2147483647, 0), (1, 700, 0), ((-9223372036854775808), 9223372036854775807, 0), (0, 699, 0)], [(0, [(0, 1), (3, (-1))]), (0, [(1, (-1)), (3, 1)]), (1, [(0, 1), (3, (-1))])], [(0, (2, (113, []))), (1, (0, (0, [(2, 1)])))], [], [(113, (7, []), (0, (0, [(3, 1)]))), (113, (11, []), (1, (0, [(4, 1)]))), (113, (8, []), (0, (1, []))), (113, (10, []), (0, (0, []))), (113, (9, []), (0, (0, [(5, 1)]))), (113, (6, []), (0, (0, [(1, 1)])))]), (700, [(3, (-1))]))
def x_u196_2 : b_Cu := (271, ([(0, 699, 0), (1, 700, 0), (1, 700, 0), (0, 100000000, 0), (0, 699, 0)], [(0, [(0, 1), (2, (-1))]), (0, [(1, (-1)), (2, 1)]), (1, [(0, 1), (2, (-1))])], [(0, (2, (113, [])))], [], [(113, (7, []), (0, (0, [(2, 1)]))), (113, (10, []), (0, (0, [(3, 1)]))), (113, (8, []), (0, (2, []))), (113, (11, []), (1, (0, []))), (113, (9, []), (0, (0, [(4, 1)]))), (113, (6, []), (0, (0, [(1, 1)])))]), (1401, [(2, (-1))]))
def x_u196 : List b_Cu := [x_u196_0, x_u196_1, x_u196_2]
-- M.next, 723 steps
theorem x_z196 : b_chk0 x_T x_k196 x_u196 = true := by decide +kernel
theorem x_e196 : b_chkE x_F x_T x_Z x_dep x_hn [] x_k196 x_u196 783 = true := by decide +kernel
theorem x_c196_0 : b_chkC x_F x_T x_Z x_dep x_hn [] x_k196 x_u196 783 x_u196_0 = true := by decide +kernel
theorem x_c196_1 : b_chkC x_F x_T x_Z x_dep x_hn [] x_k196 x_u196 783 x_u196_1 = true := by decide +kernel
theorem x_c196_2 : b_chkC x_F x_T x_Z x_dep x_hn [] x_k196 x_u196 783 x_u196_2 = true := by decide +kernel
theorem x_v196 {N : Int} {fz : List (List Int32)} (hZ : b_ZOk x_Z (x_G N) fz) : b_Valid x_F fz x_T (x_G N) x_k196 := b_valid (x_gOk N) x_depOk hZ x_hn_ok (Γ := []) (fun _ h => absurd h List.not_mem_nil) x_z196 x_e196 (List.forall_mem_cons.mpr ⟨x_c196_0, List.forall_mem_cons.mpr ⟨x_c196_1, List.forall_mem_cons.mpr ⟨x_c196_2, fun _ h => absurd h List.not_mem_nil⟩⟩⟩)
def x_k197 : b_K := (243, 1, ([(1, 1, 0), (0, 4, 0), (0, 3, 0)], [], [], [(2, (119, [])), (0, (0, [(0, 1)])), (0, (0, [(1, 1)])), (0, (0, [(2, 1)]))], []), [(119, 0)], [([(1, 1, 0), (0, 4, 0), (0, 3, 0)], [], [], [], [])])
def x_u197_0 : b_Cu := (3, ([(1, 1, 0), (0, 4, 0), (0, 3, 0), (0, 1, 0)], [], [(0, (2, (119, []))), (1, (0, (0, [(0, 1)]))), (2, (0, (0, [(1, 1)]))), (3, (0, (0, [(2, 1)]))), (4, (0, (0, [(3, 1)])))], [], []), (1, [(3, (-1))]))
def x_u197 : List b_Cu := [x_u197_0]
-- M.copyRow, 22 steps
theorem x_z197 : b_chk0 x_T x_k197 x_u197 = true := by decide +kernel
theorem x_e197 : b_chkE x_F x_T x_Z x_dep x_hn [] x_k197 x_u197 120 = true := by decide +kernel
theorem x_c197_0 : b_chkC x_F x_T x_Z x_dep x_hn [] x_k197 x_u197 120 x_u197_0 = true := by decide +kernel
theorem x_v197 {N : Int} {fz : List (List Int32)} (hZ : b_ZOk x_Z (x_G N) fz) : b_Valid x_F fz x_T (x_G N) x_k197 := b_valid (x_gOk N) x_depOk hZ x_hn_ok (Γ := []) (fun _ h => absurd h List.not_mem_nil) x_z197 x_e197 (List.forall_mem_cons.mpr ⟨x_c197_0, fun _ h => absurd h List.not_mem_nil⟩)
def x_k198 : b_K := (243, 1, ([(7, 7, 0), (0, 4, 0), (0, 3, 0)], [], [], [(2, (120, [])), (0, (0, [(0, 1)])), (0, (0, [(1, 1)])), (0, (0, [(2, 1)]))], []), [(120, 0)], [([(7, 7, 0), (0, 4, 0), (0, 3, 0)], [], [], [], [])])
def x_u198_0 : b_Cu := (3, ([(7, 7, 0), (0, 4, 0), (0, 3, 0), (0, 1, 0)], [], [(0, (2, (120, []))), (1, (0, (0, [(0, 1)]))), (2, (0, (0, [(1, 1)]))), (3, (0, (0, [(2, 1)]))), (4, (0, (0, [(3, 7)])))], [], []), (55, [(3, (-49))]))
def x_u198_1 : b_Cu := (3, ([(7, 7, 0), (0, 4, 0), (0, 3, 0)], [], [(0, (2, (120, []))), (1, (0, (0, [(0, 1)]))), (2, (0, (0, [(1, 1)]))), (3, (0, (0, [(2, 1)]))), (4, (0, (1, [])))], [], []), (47, []))
def x_u198_2 : b_Cu := (3, ([(7, 7, 0), (0, 4, 0), (0, 3, 0)], [], [(0, (2, (120, []))), (1, (0, (0, [(0, 1)]))), (2, (0, (0, [(1, 1)]))), (3, (0, (0, [(2, 1)]))), (4, (0, (2, [])))], [], []), (39, []))
def x_u198_3 : b_Cu := (3, ([(7, 7, 0), (0, 4, 0), (0, 3, 0)], [], [(0, (2, (120, []))), (1, (0, (0, [(0, 1)]))), (2, (0, (0, [(1, 1)]))), (3, (0, (0, [(2, 1)]))), (4, (0, (3, [])))], [], []), (31, []))
def x_u198_4 : b_Cu := (3, ([(7, 7, 0), (0, 4, 0), (0, 3, 0)], [], [(0, (2, (120, []))), (1, (0, (0, [(0, 1)]))), (2, (0, (0, [(1, 1)]))), (3, (0, (0, [(2, 1)]))), (4, (0, (4, [])))], [], []), (23, []))
def x_u198_5 : b_Cu := (3, ([(7, 7, 0), (0, 4, 0), (0, 3, 0)], [], [(0, (2, (120, []))), (1, (0, (0, [(0, 1)]))), (2, (0, (0, [(1, 1)]))), (3, (0, (0, [(2, 1)]))), (4, (0, (5, [])))], [], []), (15, []))
def x_u198_6 : b_Cu := (3, ([(7, 7, 0), (0, 4, 0), (0, 3, 0)], [], [(0, (2, (120, []))), (1, (0, (0, [(0, 1)]))), (2, (0, (0, [(1, 1)]))), (3, (0, (0, [(2, 1)]))), (4, (0, (6, [])))], [], []), (7, []))
def x_u198 : List b_Cu := [x_u198_0, x_u198_1, x_u198_2, x_u198_3, x_u198_4, x_u198_5, x_u198_6]
-- M.copyRow, 136 steps
theorem x_z198 : b_chk0 x_T x_k198 x_u198 = true := by decide +kernel
theorem x_e198 : b_chkE x_F x_T x_Z x_dep x_hn [] x_k198 x_u198 196 = true := by decide +kernel
theorem x_c198_0 : b_chkC x_F x_T x_Z x_dep x_hn [] x_k198 x_u198 196 x_u198_0 = true := by decide +kernel
theorem x_c198_1 : b_chkC x_F x_T x_Z x_dep x_hn [] x_k198 x_u198 196 x_u198_1 = true := by decide +kernel
theorem x_c198_2 : b_chkC x_F x_T x_Z x_dep x_hn [] x_k198 x_u198 196 x_u198_2 = true := by decide +kernel
theorem x_c198_3 : b_chkC x_F x_T x_Z x_dep x_hn [] x_k198 x_u198 196 x_u198_3 = true := by decide +kernel
theorem x_c198_4 : b_chkC x_F x_T x_Z x_dep x_hn [] x_k198 x_u198 196 x_u198_4 = true := by decide +kernel
theorem x_c198_5 : b_chkC x_F x_T x_Z x_dep x_hn [] x_k198 x_u198 196 x_u198_5 = true := by decide +kernel
theorem x_c198_6 : b_chkC x_F x_T x_Z x_dep x_hn [] x_k198 x_u198 196 x_u198_6 = true := by decide +kernel
theorem x_v198 {N : Int} {fz : List (List Int32)} (hZ : b_ZOk x_Z (x_G N) fz) : b_Valid x_F fz x_T (x_G N) x_k198 := b_valid (x_gOk N) x_depOk hZ x_hn_ok (Γ := []) (fun _ h => absurd h List.not_mem_nil) x_z198 x_e198 (List.forall_mem_cons.mpr ⟨x_c198_0, List.forall_mem_cons.mpr ⟨x_c198_1, List.forall_mem_cons.mpr ⟨x_c198_2, List.forall_mem_cons.mpr ⟨x_c198_3, List.forall_mem_cons.mpr ⟨x_c198_4, List.forall_mem_cons.mpr ⟨x_c198_5, List.forall_mem_cons.mpr ⟨x_c198_6, fun _ h => absurd h List.not_mem_nil⟩⟩⟩⟩⟩⟩⟩)
def x_k199 : b_K := (243, 1, ([(35, 35, 0), (0, 4, 0), (0, 3, 0)], [], [], [(2, (121, [])), (0, (0, [(0, 1)])), (0, (0, [(1, 1)])), (0, (0, [(2, 1)]))], []), [(121, 0)], [([(35, 35, 0), (0, 4, 0), (0, 3, 0)], [], [], [], [])])
def x_u199_0 : b_Cu := (3, ([(35, 35, 0), (0, 4, 0), (0, 3, 0), (0, 40, 0)], [], [(0, (2, (121, []))), (1, (0, (0, [(0, 1)]))), (2, (0, (0, [(1, 1)]))), (3, (0, (0, [(2, 1)]))), (4, (0, (0, [(3, 1)])))], [], []), (40, [(3, (-1))]))
def x_u199 : List b_Cu := [x_u199_0]
-- M.copyRow, 22 steps
theorem x_z199 : b_chk0 x_T x_k199 x_u199 = true := by decide +kernel
theorem x_e199 : b_chkE x_F x_T x_Z x_dep x_hn [] x_k199 x_u199 120 = true := by decide +kernel
theorem x_c199_0 : b_chkC x_F x_T x_Z x_dep x_hn [] x_k199 x_u199 120 x_u199_0 = true := by decide +kernel
theorem x_v199 {N : Int} {fz : List (List Int32)} (hZ : b_ZOk x_Z (x_G N) fz) : b_Valid x_F fz x_T (x_G N) x_k199 := b_valid (x_gOk N) x_depOk hZ x_hn_ok (Γ := []) (fun _ h => absurd h List.not_mem_nil) x_z199 x_e199 (List.forall_mem_cons.mpr ⟨x_c199_0, fun _ h => absurd h List.not_mem_nil⟩)
def x_k200 : b_K := (243, 1, ([(16, 16, 0), (0, 4, 0), (0, 3, 0)], [], [], [(2, (122, [])), (0, (0, [(0, 1)])), (0, (0, [(1, 1)])), (0, (0, [(2, 1)]))], []), [(122, 0)], [([(16, 16, 0), (0, 4, 0), (0, 3, 0)], [], [], [], [])])
def x_u200_0 : b_Cu := (3, ([(16, 16, 0), (0, 4, 0), (0, 3, 0), (0, 19, 0)], [], [(0, (2, (122, []))), (1, (0, (0, [(0, 1)]))), (2, (0, (0, [(1, 1)]))), (3, (0, (0, [(2, 1)]))), (4, (0, (0, [(3, 1)])))], [], []), (19, [(3, (-1))]))
def x_u200 : List b_Cu := [x_u200_0]
-- M.copyRow, 22 steps
theorem x_z200 : b_chk0 x_T x_k200 x_u200 = true := by decide +kernel
theorem x_e200 : b_chkE x_F x_T x_Z x_dep x_hn [] x_k200 x_u200 120 = true := by decide +kernel
theorem x_c200_0 : b_chkC x_F x_T x_Z x_dep x_hn [] x_k200 x_u200 120 x_u200_0 = true := by decide +kernel
theorem x_v200 {N : Int} {fz : List (List Int32)} (hZ : b_ZOk x_Z (x_G N) fz) : b_Valid x_F fz x_T (x_G N) x_k200 := b_valid (x_gOk N) x_depOk hZ x_hn_ok (Γ := []) (fun _ h => absurd h List.not_mem_nil) x_z200 x_e200 (List.forall_mem_cons.mpr ⟨x_c200_0, fun _ h => absurd h List.not_mem_nil⟩)
def x_k201 : b_K := (243, 1, ([(24, 24, 0), (0, 4, 0), (0, 3, 0)], [], [], [(2, (123, [])), (0, (0, [(0, 1)])), (0, (0, [(1, 1)])), (0, (0, [(2, 1)]))], []), [(123, 0)], [([(24, 24, 0), (0, 4, 0), (0, 3, 0)], [], [], [], [])])
def x_u201_0 : b_Cu := (3, ([(24, 24, 0), (0, 4, 0), (0, 3, 0), (0, 27, 0)], [], [(0, (2, (123, []))), (1, (0, (0, [(0, 1)]))), (2, (0, (0, [(1, 1)]))), (3, (0, (0, [(2, 1)]))), (4, (0, (0, [(3, 1)])))], [], []), (27, [(3, (-1))]))
def x_u201 : List b_Cu := [x_u201_0]
-- M.copyRow, 22 steps
theorem x_z201 : b_chk0 x_T x_k201 x_u201 = true := by decide +kernel
theorem x_e201 : b_chkE x_F x_T x_Z x_dep x_hn [] x_k201 x_u201 120 = true := by decide +kernel
theorem x_c201_0 : b_chkC x_F x_T x_Z x_dep x_hn [] x_k201 x_u201 120 x_u201_0 = true := by decide +kernel
theorem x_v201 {N : Int} {fz : List (List Int32)} (hZ : b_ZOk x_Z (x_G N) fz) : b_Valid x_F fz x_T (x_G N) x_k201 := b_valid (x_gOk N) x_depOk hZ x_hn_ok (Γ := []) (fun _ h => absurd h List.not_mem_nil) x_z201 x_e201 (List.forall_mem_cons.mpr ⟨x_c201_0, fun _ h => absurd h List.not_mem_nil⟩)
def x_k202 : b_K := (243, 1, ([(60, 60, 0), (0, 4, 0), (0, 3, 0)], [], [], [(2, (124, [])), (0, (0, [(0, 1)])), (0, (0, [(1, 1)])), (0, (0, [(2, 1)]))], []), [(124, 0)], [([(60, 60, 0), (0, 4, 0), (0, 3, 0)], [], [], [], [])])
def x_u202_0 : b_Cu := (3, ([(60, 60, 0), (0, 4, 0), (0, 3, 0), (0, 20, 0)], [], [(0, (2, (124, []))), (1, (0, (0, [(0, 1)]))), (2, (0, (0, [(1, 1)]))), (3, (0, (0, [(2, 1)]))), (4, (0, (0, [(3, 3)])))], [], []), (182, [(3, (-9))]))
def x_u202_1 : b_Cu := (3, ([(60, 60, 0), (0, 4, 0), (0, 3, 0), (0, 19, 0)], [], [(0, (2, (124, []))), (1, (0, (0, [(0, 1)]))), (2, (0, (0, [(1, 1)]))), (3, (0, (0, [(2, 1)]))), (4, (0, (1, [(3, 3)])))], [], []), (178, [(3, (-9))]))
def x_u202_2 : b_Cu := (3, ([(60, 60, 0), (0, 4, 0), (0, 3, 0), (0, 19, 0)], [], [(0, (2, (124, []))), (1, (0, (0, [(0, 1)]))), (2, (0, (0, [(1, 1)]))), (3, (0, (0, [(2, 1)]))), (4, (0, (2, [(3, 3)])))], [], []), (174, [(3, (-9))]))
def x_u202 : List b_Cu := [x_u202_0, x_u202_1, x_u202_2]
-- M.copyRow, 60 steps
theorem x_z202 : b_chk0 x_T x_k202 x_u202 = true := by decide +kernel
theorem x_e202 : b_chkE x_F x_T x_Z x_dep x_hn [] x_k202 x_u202 120 = true := by decide +kernel
theorem x_c202_0 : b_chkC x_F x_T x_Z x_dep x_hn [] x_k202 x_u202 120 x_u202_0 = true := by decide +kernel
theorem x_c202_1 : b_chkC x_F x_T x_Z x_dep x_hn [] x_k202 x_u202 120 x_u202_1 = true := by decide +kernel
theorem x_c202_2 : b_chkC x_F x_T x_Z x_dep x_hn [] x_k202 x_u202 120 x_u202_2 = true := by decide +kernel
theorem x_v202 {N : Int} {fz : List (List Int32)} (hZ : b_ZOk x_Z (x_G N) fz) : b_Valid x_F fz x_T (x_G N) x_k202 := b_valid (x_gOk N) x_depOk hZ x_hn_ok (Γ := []) (fun _ h => absurd h List.not_mem_nil) x_z202 x_e202 (List.forall_mem_cons.mpr ⟨x_c202_0, List.forall_mem_cons.mpr ⟨x_c202_1, List.forall_mem_cons.mpr ⟨x_c202_2, fun _ h => absurd h List.not_mem_nil⟩⟩⟩)
def x_k203 : b_K := (232, 3, ([(1, 1, 0), (14, 14, 0), (1, 700, 0), (1, 700, 0)], [(0, [(2, 1), (3, (-1))])], [], [(2, (113, [])), (0, (0, [(0, 1)])), (0, (0, [(1, 1)]))], [(113, (7, []), (0, (0, [(2, 1)]))), (113, (6, []), (0, (0, [(3, 1)])))]), [(113, 8), (113, 9), (113, 10), (113, 11), (113, 12), (113, 13), (113, 14)], [([(1, 1, 0), (14, 14, 0), (1, 700, 0), (1, 700, 0), (1, 14, 0), (1, 700, 0)], [(0, [(2, 1), (5, (-1))]), (0, [(3, (-1)), (5, 1)])], [], [(0, (0, [(4, 1)]))], [(113, (7, []), (0, (0, [(5, 1)]))), (113, (6, []), (0, (0, [(3, 1)])))])])
def x_u203 : List b_Cu := []
-- M.number, 108 steps
theorem x_z203 : b_chk0 x_T x_k203 x_u203 = true := by decide +kernel
theorem x_e203 : b_chkE x_F x_T x_Z x_dep x_hn [x_k196] x_k203 x_u203 168 = true := by decide +kernel
theorem x_v203 {N : Int} {fz : List (List Int32)} (hZ : b_ZOk x_Z (x_G N) fz) : b_Valid x_F fz x_T (x_G N) x_k203 := b_valid (x_gOk N) x_depOk hZ x_hn_ok (Γ := [x_k196]) (List.forall_mem_cons.mpr ⟨x_v196 hZ, fun _ h => absurd h List.not_mem_nil⟩) x_z203 x_e203 (fun _ h => absurd h List.not_mem_nil)
def x_k204 : b_K := (231, 5, ([(80155, 80155, 0), (1, 1, 0), (14, 14, 0), (1, 700, 0), (1, 700, 0)], [(0, [(3, 1), (4, (-1))])], [], [(2, (113, [])), (1, (0, [(0, 1)])), (0, (0, [(1, 1)])), (0, (0, [(2, 1)]))], [(113, (7, []), (0, (0, [(3, 1)]))), (113, (6, []), (0, (0, [(4, 1)])))]), [(113, 8), (113, 9), (113, 10), (113, 11), (113, 12), (113, 13), (113, 14)], [([(80155, 80155, 0), (1, 1, 0), (14, 14, 0), (1, 700, 0), (1, 700, 0), (1, 14, 0), (1, 700, 0)], [(0, [(3, 1), (6, (-1))]), (0, [(4, (-1)), (6, 1)])], [], [(0, (0, [(5, 1)]))], [(113, (7, []), (0, (0, [(6, 1)]))), (113, (6, []), (0, (0, [(4, 1)])))])])
def x_u204 : List b_Cu := []
-- M.number, 142 steps
theorem x_z204 : b_chk0 x_T x_k204 x_u204 = true := by decide +kernel
theorem x_e204 : b_chkE x_F x_T x_Z x_dep x_hn [x_k196, x_k203] x_k204 x_u204 202 = true := by decide +kernel
theorem x_v204 {N : Int} {fz : List (List Int32)} (hZ : b_ZOk x_Z (x_G N) fz) : b_Valid x_F fz x_T (x_G N) x_k204 := b_valid (x_gOk N) x_depOk hZ x_hn_ok (Γ := [x_k196, x_k203]) (List.forall_mem_cons.mpr ⟨x_v196 hZ, List.forall_mem_cons.mpr ⟨x_v203 hZ, fun _ h => absurd h List.not_mem_nil⟩⟩) x_z204 x_e204 (fun _ h => absurd h List.not_mem_nil)
def x_k205 : b_K := (232, 3, ([(0, 0, 0), (3, 3, 0), (1, 700, 0), (1, 700, 0)], [(0, [(2, 1), (3, (-1))])], [], [(2, (113, [])), (0, (0, [(0, 1)])), (0, (0, [(1, 1)]))], [(113, (7, []), (0, (0, [(2, 1)]))), (113, (6, []), (0, (0, [(3, 1)])))]), [(113, 8), (113, 9), (113, 10), (113, 11), (113, 12), (113, 13), (113, 14)], [([(0, 0, 0), (3, 3, 0), (1, 700, 0), (1, 700, 0), (0, 3, 0), (1, 700, 0)], [(0, [(2, 1), (5, (-1))]), (0, [(3, (-1)), (5, 1)])], [], [(0, (0, [(4, 1)]))], [(113, (7, []), (0, (0, [(5, 1)]))), (113, (6, []), (0, (0, [(3, 1)])))])])
def x_u205 : List b_Cu := []
-- M.number, 89 steps
theorem x_z205 : b_chk0 x_T x_k205 x_u205 = true := by decide +kernel
theorem x_e205 : b_chkE x_F x_T x_Z x_dep x_hn [x_k196] x_k205 x_u205 149 = true := by decide +kernel
theorem x_v205 {N : Int} {fz : List (List Int32)} (hZ : b_ZOk x_Z (x_G N) fz) : b_Valid x_F fz x_T (x_G N) x_k205 := b_valid (x_gOk N) x_depOk hZ x_hn_ok (Γ := [x_k196]) (List.forall_mem_cons.mpr ⟨x_v196 hZ, fun _ h => absurd h List.not_mem_nil⟩) x_z205 x_e205 (fun _ h => absurd h List.not_mem_nil)
def x_k206 : b_K := (231, 5, ([(8798, 8798, 0), (0, 0, 0), (3, 3, 0), (1, 700, 0), (1, 700, 0)], [(0, [(3, 1), (4, (-1))])], [], [(2, (113, [])), (1, (0, [(0, 1)])), (0, (0, [(1, 1)])), (0, (0, [(2, 1)]))], [(113, (7, []), (0, (0, [(3, 1)]))), (113, (6, []), (0, (0, [(4, 1)])))]), [(113, 8), (113, 9), (113, 10), (113, 11), (113, 12), (113, 13), (113, 14)], [([(8798, 8798, 0), (0, 0, 0), (3, 3, 0), (1, 700, 0), (1, 700, 0), (0, 3, 0), (1, 700, 0)], [(0, [(3, 1), (6, (-1))]), (0, [(4, (-1)), (6, 1)])], [], [(0, (0, [(5, 1)]))], [(113, (7, []), (0, (0, [(6, 1)]))), (113, (6, []), (0, (0, [(4, 1)])))])])
def x_u206 : List b_Cu := []
-- M.number, 142 steps
theorem x_z206 : b_chk0 x_T x_k206 x_u206 = true := by decide +kernel
theorem x_e206 : b_chkE x_F x_T x_Z x_dep x_hn [x_k196, x_k205] x_k206 x_u206 202 = true := by decide +kernel
theorem x_v206 {N : Int} {fz : List (List Int32)} (hZ : b_ZOk x_Z (x_G N) fz) : b_Valid x_F fz x_T (x_G N) x_k206 := b_valid (x_gOk N) x_depOk hZ x_hn_ok (Γ := [x_k196, x_k205]) (List.forall_mem_cons.mpr ⟨x_v196 hZ, List.forall_mem_cons.mpr ⟨x_v205 hZ, fun _ h => absurd h List.not_mem_nil⟩⟩) x_z206 x_e206 (fun _ h => absurd h List.not_mem_nil)
def x_k207 : b_K := (232, 3, ([(0, 0, 0), (10, 10, 0), (1, 700, 0), (1, 700, 0)], [(0, [(2, 1), (3, (-1))])], [], [(2, (113, [])), (0, (0, [(0, 1)])), (0, (0, [(1, 1)]))], [(113, (7, []), (0, (0, [(2, 1)]))), (113, (6, []), (0, (0, [(3, 1)])))]), [(113, 8), (113, 9), (113, 10), (113, 11), (113, 12), (113, 13), (113, 14)], [([(0, 0, 0), (10, 10, 0), (1, 700, 0), (1, 700, 0), (0, 10, 0), (1, 700, 0)], [(0, [(2, 1), (5, (-1))]), (0, [(3, (-1)), (5, 1)])], [], [(0, (0, [(4, 1)]))], [(113, (7, []), (0, (0, [(5, 1)]))), (113, (6, []), (0, (0, [(3, 1)])))])])
def x_u207 : List b_Cu := []
-- M.number, 89 steps
theorem x_z207 : b_chk0 x_T x_k207 x_u207 = true := by decide +kernel
theorem x_e207 : b_chkE x_F x_T x_Z x_dep x_hn [x_k196] x_k207 x_u207 149 = true := by decide +kernel
theorem x_v207 {N : Int} {fz : List (List Int32)} (hZ : b_ZOk x_Z (x_G N) fz) : b_Valid x_F fz x_T (x_G N) x_k207 := b_valid (x_gOk N) x_depOk hZ x_hn_ok (Γ := [x_k196]) (List.forall_mem_cons.mpr ⟨x_v196 hZ, fun _ h => absurd h List.not_mem_nil⟩) x_z207 x_e207 (fun _ h => absurd h List.not_mem_nil)
def x_k208 : b_K := (231, 5, ([(298288, 298288, 0), (0, 0, 0), (10, 10, 0), (1, 700, 0), (1, 700, 0)], [(0, [(3, 1), (4, (-1))])], [], [(2, (113, [])), (1, (0, [(0, 1)])), (0, (0, [(1, 1)])), (0, (0, [(2, 1)]))], [(113, (7, []), (0, (0, [(3, 1)]))), (113, (6, []), (0, (0, [(4, 1)])))]), [(113, 8), (113, 9), (113, 10), (113, 11), (113, 12), (113, 13), (113, 14)], [([(298288, 298288, 0), (0, 0, 0), (10, 10, 0), (1, 700, 0), (1, 700, 0), (0, 10, 0), (1, 700, 0)], [(0, [(3, 1), (6, (-1))]), (0, [(4, (-1)), (6, 1)])], [], [(0, (0, [(5, 1)]))], [(113, (7, []), (0, (0, [(6, 1)]))), (113, (6, []), (0, (0, [(4, 1)])))])])
def x_u208 : List b_Cu := []
-- M.number, 142 steps
theorem x_z208 : b_chk0 x_T x_k208 x_u208 = true := by decide +kernel
theorem x_e208 : b_chkE x_F x_T x_Z x_dep x_hn [x_k196, x_k207] x_k208 x_u208 202 = true := by decide +kernel
theorem x_v208 {N : Int} {fz : List (List Int32)} (hZ : b_ZOk x_Z (x_G N) fz) : b_Valid x_F fz x_T (x_G N) x_k208 := b_valid (x_gOk N) x_depOk hZ x_hn_ok (Γ := [x_k196, x_k207]) (List.forall_mem_cons.mpr ⟨x_v196 hZ, List.forall_mem_cons.mpr ⟨x_v207 hZ, fun _ h => absurd h List.not_mem_nil⟩⟩) x_z208 x_e208 (fun _ h => absurd h List.not_mem_nil)
def x_k209 : b_K := (240, 3, ([(1, 700, 0), (1, 700, 0)], [(0, [(0, 1), (1, (-1))])], [], [(2, (113, []))], [(113, (7, []), (0, (0, [(0, 1)]))), (113, (6, []), (0, (0, [(1, 1)])))]), [(113, 8), (113, 9), (113, 10), (113, 11), (113, 12), (113, 13), (113, 14)], [([(1, 700, 0), (1, 700, 0), (1, 3, 0), (0, 2, 0)], [(0, [(0, 1), (1, (-1))])], [], [], [(113, (12, []), (0, (0, [(2, 1)]))), (113, (8, []), (0, (0, [(3, 1)]))), (113, (7, []), (0, (0, [(0, 1)]))), (113, (6, []), (0, (0, [(1, 1)])))]),
  ([(1, 700, 0), (1, 700, 0), (1, 3, 0), (3, 4, 0)], [(0, [(0, 1), (1, (-1))])], [], [], [(113, (12, []), (0, (0, [(2, 1)]))), (113, (8, []), (0, (0, [(3, 1)]))), (113, (7, []), (0, (0, [(0, 1)]))), (113, (6, []), (0, (0, [(1, 1)])))]),
  ([(1, 700, 0), (1, 700, 0), (1, 700, 0)], [(0, [(0, 1), (2, (-1))]), (0, [(1, (-1)), (2, 1)])], [], [], [(113, (8, []), (0, (0, []))), (113, (7, []), (0, (0, [(2, 1)]))), (113, (6, []), (0, (0, [(1, 1)]))), (113, (12, []), (0, (0, [])))]),
  ([(1, 699, 0), (2, 700, 0), (2, 700, 0), (1, 4, 0)], [(0, [(0, 1), (2, (-1))]), (0, [(1, (-1)), (2, 1)]), (1, [(0, 1), (2, (-1))])], [], [], [(113, (7, []), (0, (0, [(2, 1)]))), (113, (8, []), (0, (0, [(3, 1)]))), (113, (6, []), (0, (0, [(1, 1)]))), (113, (12, []), (0, (0, [])))])])
def x_u209 : List b_Cu := []
-- M.ends, 58 steps
theorem x_z209 : b_chk0 x_T x_k209 x_u209 = true := by decide +kernel
theorem x_e209 : b_chkE x_F x_T x_Z x_dep x_hn [x_k196] x_k209 x_u209 120 = true := by decide +kernel
theorem x_v209 {N : Int} {fz : List (List Int32)} (hZ : b_ZOk x_Z (x_G N) fz) : b_Valid x_F fz x_T (x_G N) x_k209 := b_valid (x_gOk N) x_depOk hZ x_hn_ok (Γ := [x_k196]) (List.forall_mem_cons.mpr ⟨x_v196 hZ, fun _ h => absurd h List.not_mem_nil⟩) x_z209 x_e209 (fun _ h => absurd h List.not_mem_nil)
def x_k210 : b_K := (232, 3, ([(0, 0, 0), (40, 40, 0), (1, 700, 0), (1, 700, 0)], [(0, [(2, 1), (3, (-1))])], [], [(2, (113, [])), (0, (0, [(0, 1)])), (0, (0, [(1, 1)]))], [(113, (7, []), (0, (0, [(2, 1)]))), (113, (6, []), (0, (0, [(3, 1)])))]), [(113, 8), (113, 9), (113, 10), (113, 11), (113, 12), (113, 13), (113, 14)], [([(0, 0, 0), (40, 40, 0), (1, 700, 0), (1, 700, 0), (0, 40, 0), (1, 700, 0)], [(0, [(2, 1), (5, (-1))]), (0, [(3, (-1)), (5, 1)])], [], [(0, (0, [(4, 1)]))], [(113, (7, []), (0, (0, [(5, 1)]))), (113, (6, []), (0, (0, [(3, 1)])))])])
def x_u210 : List b_Cu := []
-- M.number, 89 steps
theorem x_z210 : b_chk0 x_T x_k210 x_u210 = true := by decide +kernel
theorem x_e210 : b_chkE x_F x_T x_Z x_dep x_hn [x_k196] x_k210 x_u210 149 = true := by decide +kernel
theorem x_v210 {N : Int} {fz : List (List Int32)} (hZ : b_ZOk x_Z (x_G N) fz) : b_Valid x_F fz x_T (x_G N) x_k210 := b_valid (x_gOk N) x_depOk hZ x_hn_ok (Γ := [x_k196]) (List.forall_mem_cons.mpr ⟨x_v196 hZ, fun _ h => absurd h List.not_mem_nil⟩) x_z210 x_e210 (fun _ h => absurd h List.not_mem_nil)
def x_k211 : b_K := (231, 5, ([(283619009, 283619009, 0), (0, 0, 0), (40, 40, 0), (1, 700, 0), (1, 700, 0)], [(0, [(3, 1), (4, (-1))])], [], [(2, (113, [])), (1, (0, [(0, 1)])), (0, (0, [(1, 1)])), (0, (0, [(2, 1)]))], [(113, (7, []), (0, (0, [(3, 1)]))), (113, (6, []), (0, (0, [(4, 1)])))]), [(113, 8), (113, 9), (113, 10), (113, 11), (113, 12), (113, 13), (113, 14)], [([(283619009, 283619009, 0), (0, 0, 0), (40, 40, 0), (1, 700, 0), (1, 700, 0), (0, 40, 0), (1, 700, 0)], [(0, [(3, 1), (6, (-1))]), (0, [(4, (-1)), (6, 1)])], [], [(0, (0, [(5, 1)]))], [(113, (7, []), (0, (0, [(6, 1)]))), (113, (6, []), (0, (0, [(4, 1)])))])])
def x_u211 : List b_Cu := []
-- M.number, 142 steps
theorem x_z211 : b_chk0 x_T x_k211 x_u211 = true := by decide +kernel
theorem x_e211 : b_chkE x_F x_T x_Z x_dep x_hn [x_k196, x_k210] x_k211 x_u211 202 = true := by decide +kernel
theorem x_v211 {N : Int} {fz : List (List Int32)} (hZ : b_ZOk x_Z (x_G N) fz) : b_Valid x_F fz x_T (x_G N) x_k211 := b_valid (x_gOk N) x_depOk hZ x_hn_ok (Γ := [x_k196, x_k210]) (List.forall_mem_cons.mpr ⟨x_v196 hZ, List.forall_mem_cons.mpr ⟨x_v210 hZ, fun _ h => absurd h List.not_mem_nil⟩⟩) x_z211 x_e211 (fun _ h => absurd h List.not_mem_nil)
def x_k212 : b_K := (232, 3, ([(0, 0, 0), (20, 20, 0), (1, 700, 0), (1, 700, 0)], [(0, [(2, 1), (3, (-1))])], [], [(2, (113, [])), (0, (0, [(0, 1)])), (0, (0, [(1, 1)]))], [(113, (7, []), (0, (0, [(2, 1)]))), (113, (6, []), (0, (0, [(3, 1)])))]), [(113, 8), (113, 9), (113, 10), (113, 11), (113, 12), (113, 13), (113, 14)], [([(0, 0, 0), (20, 20, 0), (1, 700, 0), (1, 700, 0), (0, 20, 0), (1, 700, 0)], [(0, [(2, 1), (5, (-1))]), (0, [(3, (-1)), (5, 1)])], [], [(0, (0, [(4, 1)]))], [(113, (7, []), (0, (0, [(5, 1)]))), (113, (6, []), (0, (0, [(3, 1)])))])])
def x_u212 : List b_Cu := []
-- M.number, 89 steps
theorem x_z212 : b_chk0 x_T x_k212 x_u212 = true := by decide +kernel
theorem x_e212 : b_chkE x_F x_T x_Z x_dep x_hn [x_k196] x_k212 x_u212 149 = true := by decide +kernel
theorem x_v212 {N : Int} {fz : List (List Int32)} (hZ : b_ZOk x_Z (x_G N) fz) : b_Valid x_F fz x_T (x_G N) x_k212 := b_valid (x_gOk N) x_depOk hZ x_hn_ok (Γ := [x_k196]) (List.forall_mem_cons.mpr ⟨x_v196 hZ, fun _ h => absurd h List.not_mem_nil⟩) x_z212 x_e212 (fun _ h => absurd h List.not_mem_nil)
def x_k213 : b_K := (231, 5, ([(454132, 454132, 0), (0, 0, 0), (20, 20, 0), (1, 700, 0), (1, 700, 0)], [(0, [(3, 1), (4, (-1))])], [], [(2, (113, [])), (1, (0, [(0, 1)])), (0, (0, [(1, 1)])), (0, (0, [(2, 1)]))], [(113, (7, []), (0, (0, [(3, 1)]))), (113, (6, []), (0, (0, [(4, 1)])))]), [(113, 8), (113, 9), (113, 10), (113, 11), (113, 12), (113, 13), (113, 14)], [([(454132, 454132, 0), (0, 0, 0), (20, 20, 0), (1, 700, 0), (1, 700, 0), (0, 20, 0), (1, 700, 0)], [(0, [(3, 1), (6, (-1))]), (0, [(4, (-1)), (6, 1)])], [], [(0, (0, [(5, 1)]))], [(113, (7, []), (0, (0, [(6, 1)]))), (113, (6, []), (0, (0, [(4, 1)])))])])
def x_u213 : List b_Cu := []
-- M.number, 142 steps
theorem x_z213 : b_chk0 x_T x_k213 x_u213 = true := by decide +kernel
theorem x_e213 : b_chkE x_F x_T x_Z x_dep x_hn [x_k196, x_k212] x_k213 x_u213 202 = true := by decide +kernel
theorem x_v213 {N : Int} {fz : List (List Int32)} (hZ : b_ZOk x_Z (x_G N) fz) : b_Valid x_F fz x_T (x_G N) x_k213 := b_valid (x_gOk N) x_depOk hZ x_hn_ok (Γ := [x_k196, x_k212]) (List.forall_mem_cons.mpr ⟨x_v196 hZ, List.forall_mem_cons.mpr ⟨x_v212 hZ, fun _ h => absurd h List.not_mem_nil⟩⟩) x_z213 x_e213 (fun _ h => absurd h List.not_mem_nil)
def x_k214 : b_K := (232, 3, ([(0, 0, 0), ((-1), 6, 0), (1, 700, 0), (1, 700, 0)], [(0, [(2, 1), (3, (-1))])], [], [(2, (113, [])), (0, (0, [(0, 1)])), (0, (0, [(1, 1)]))], [(113, (7, []), (0, (0, [(2, 1)]))), (113, (6, []), (0, (0, [(3, 1)])))]), [(113, 8), (113, 9), (113, 10), (113, 11), (113, 12), (113, 13), (113, 14)], [([(0, 0, 0), ((-1), 6, 0), (1, 700, 0), (1, 700, 0), (0, 6, 0), (1, 700, 0)], [(0, [(2, 1), (5, (-1))]), (0, [(3, (-1)), (5, 1)])], [], [(0, (0, [(4, 1)]))], [(113, (7, []), (0, (0, [(5, 1)]))), (113, (6, []), (0, (0, [(3, 1)])))])])
def x_u214 : List b_Cu := []
-- M.number, 89 steps
theorem x_z214 : b_chk0 x_T x_k214 x_u214 = true := by decide +kernel
theorem x_e214 : b_chkE x_F x_T x_Z x_dep x_hn [x_k196] x_k214 x_u214 149 = true := by decide +kernel
theorem x_v214 {N : Int} {fz : List (List Int32)} (hZ : b_ZOk x_Z (x_G N) fz) : b_Valid x_F fz x_T (x_G N) x_k214 := b_valid (x_gOk N) x_depOk hZ x_hn_ok (Γ := [x_k196]) (List.forall_mem_cons.mpr ⟨x_v196 hZ, fun _ h => absurd h List.not_mem_nil⟩) x_z214 x_e214 (fun _ h => absurd h List.not_mem_nil)
def x_k215 : b_K := (238, 2, ([(0, 6, 0), (0, 100000000, 0)], [], [], [(2, (113, [])), (0, (0, [(0, 1)])), (0, (0, [(1, 1)]))], []), [], [([(0, 6, 0), (0, 6, 0)], [], [], [(0, (1, []))], []),
  ([(0, 6, 0), (0, 100000000, 0)], [], [], [(0, (0, []))], [])])
def x_u215_0 : b_Cu := (2, ([(0, 6, 0), (0, 100000000, 0), (0, 8, 0)], [], [(0, (2, (113, []))), (1, (0, (0, [(0, 1)]))), (2, (0, (0, [(1, 1)]))), (3, (0, (0, [(2, 1)])))], [], []), (8, [(2, (-1))]))
def x_u215 : List b_Cu := [x_u215_0]
-- M.areKin, 68 steps
theorem x_z215 : b_chk0 x_T x_k215 x_u215 = true := by decide +kernel
theorem x_e215 : b_chkE x_F x_T x_Z x_dep x_hn [] x_k215 x_u215 128 = true := by decide +kernel
theorem x_c215_0 : b_chkC x_F x_T x_Z x_dep x_hn [] x_k215 x_u215 128 x_u215_0 = true := by decide +kernel
theorem x_v215 {N : Int} {fz : List (List Int32)} (hZ : b_ZOk x_Z (x_G N) fz) : b_Valid x_F fz x_T (x_G N) x_k215 := b_valid (x_gOk N) x_depOk hZ x_hn_ok (Γ := []) (fun _ h => absurd h List.not_mem_nil) x_z215 x_e215 (List.forall_mem_cons.mpr ⟨x_c215_0, fun _ h => absurd h List.not_mem_nil⟩)
def x_k216 : b_K := (232, 3, ([(0, 0, 0), (30, 30, 0), (1, 700, 0), (1, 700, 0)], [(0, [(2, 1), (3, (-1))])], [], [(2, (113, [])), (0, (0, [(0, 1)])), (0, (0, [(1, 1)]))], [(113, (7, []), (0, (0, [(2, 1)]))), (113, (6, []), (0, (0, [(3, 1)])))]), [(113, 8), (113, 9), (113, 10), (113, 11), (113, 12), (113, 13), (113, 14)], [([(0, 0, 0), (30, 30, 0), (1, 700, 0), (1, 700, 0), (0, 30, 0), (1, 700, 0)], [(0, [(2, 1), (5, (-1))]), (0, [(3, (-1)), (5, 1)])], [], [(0, (0, [(4, 1)]))], [(113, (7, []), (0, (0, [(5, 1)]))), (113, (6, []), (0, (0, [(3, 1)])))])])
def x_u216 : List b_Cu := []
-- M.number, 89 steps
theorem x_z216 : b_chk0 x_T x_k216 x_u216 = true := by decide +kernel
theorem x_e216 : b_chkE x_F x_T x_Z x_dep x_hn [x_k196] x_k216 x_u216 149 = true := by decide +kernel
theorem x_v216 {N : Int} {fz : List (List Int32)} (hZ : b_ZOk x_Z (x_G N) fz) : b_Valid x_F fz x_T (x_G N) x_k216 := b_valid (x_gOk N) x_depOk hZ x_hn_ok (Γ := [x_k196]) (List.forall_mem_cons.mpr ⟨x_v196 hZ, fun _ h => absurd h List.not_mem_nil⟩) x_z216 x_e216 (fun _ h => absurd h List.not_mem_nil)
def x_k217 : b_K := (231, 5, ([(332864551, 332864551, 0), (0, 0, 0), (30, 30, 0), (1, 700, 0), (1, 700, 0)], [(0, [(3, 1), (4, (-1))])], [], [(2, (113, [])), (1, (0, [(0, 1)])), (0, (0, [(1, 1)])), (0, (0, [(2, 1)]))], [(113, (7, []), (0, (0, [(3, 1)]))), (113, (6, []), (0, (0, [(4, 1)])))]), [(113, 8), (113, 9), (113, 10), (113, 11), (113, 12), (113, 13), (113, 14)], [([(332864551, 332864551, 0), (0, 0, 0), (30, 30, 0), (1, 700, 0), (1, 700, 0), (0, 30, 0), (1, 700, 0)], [(0, [(3, 1), (6, (-1))]), (0, [(4, (-1)), (6, 1)])], [], [(0, (0, [(5, 1)]))], [(113, (7, []), (0, (0, [(6, 1)]))), (113, (6, []), (0, (0, [(4, 1)])))])])
def x_u217 : List b_Cu := []
-- M.number, 142 steps
theorem x_z217 : b_chk0 x_T x_k217 x_u217 = true := by decide +kernel
theorem x_e217 : b_chkE x_F x_T x_Z x_dep x_hn [x_k196, x_k216] x_k217 x_u217 202 = true := by decide +kernel
theorem x_v217 {N : Int} {fz : List (List Int32)} (hZ : b_ZOk x_Z (x_G N) fz) : b_Valid x_F fz x_T (x_G N) x_k217 := b_valid (x_gOk N) x_depOk hZ x_hn_ok (Γ := [x_k196, x_k216]) (List.forall_mem_cons.mpr ⟨x_v196 hZ, List.forall_mem_cons.mpr ⟨x_v216 hZ, fun _ h => absurd h List.not_mem_nil⟩⟩) x_z217 x_e217 (fun _ h => absurd h List.not_mem_nil)
def x_k218 : b_K := (232, 3, ([(0, 0, 0), (15, 15, 0), (1, 700, 0), (1, 700, 0)], [(0, [(2, 1), (3, (-1))])], [], [(2, (113, [])), (0, (0, [(0, 1)])), (0, (0, [(1, 1)]))], [(113, (7, []), (0, (0, [(2, 1)]))), (113, (6, []), (0, (0, [(3, 1)])))]), [(113, 8), (113, 9), (113, 10), (113, 11), (113, 12), (113, 13), (113, 14)], [([(0, 0, 0), (15, 15, 0), (1, 700, 0), (1, 700, 0), (0, 15, 0), (1, 700, 0)], [(0, [(2, 1), (5, (-1))]), (0, [(3, (-1)), (5, 1)])], [], [(0, (0, [(4, 1)]))], [(113, (7, []), (0, (0, [(5, 1)]))), (113, (6, []), (0, (0, [(3, 1)])))])])
def x_u218 : List b_Cu := []
-- M.number, 89 steps
theorem x_z218 : b_chk0 x_T x_k218 x_u218 = true := by decide +kernel
theorem x_e218 : b_chkE x_F x_T x_Z x_dep x_hn [x_k196] x_k218 x_u218 149 = true := by decide +kernel
theorem x_v218 {N : Int} {fz : List (List Int32)} (hZ : b_ZOk x_Z (x_G N) fz) : b_Valid x_F fz x_T (x_G N) x_k218 := b_valid (x_gOk N) x_depOk hZ x_hn_ok (Γ := [x_k196]) (List.forall_mem_cons.mpr ⟨x_v196 hZ, fun _ h => absurd h List.not_mem_nil⟩) x_z218 x_e218 (fun _ h => absurd h List.not_mem_nil)
def x_k219 : b_K := (231, 5, ([(10280026, 10280026, 0), (0, 0, 0), (15, 15, 0), (1, 700, 0), (1, 700, 0)], [(0, [(3, 1), (4, (-1))])], [], [(2, (113, [])), (1, (0, [(0, 1)])), (0, (0, [(1, 1)])), (0, (0, [(2, 1)]))], [(113, (7, []), (0, (0, [(3, 1)]))), (113, (6, []), (0, (0, [(4, 1)])))]), [(113, 8), (113, 9), (113, 10), (113, 11), (113, 12), (113, 13), (113, 14)], [([(10280026, 10280026, 0), (0, 0, 0), (15, 15, 0), (1, 700, 0), (1, 700, 0), (0, 15, 0), (1, 700, 0)], [(0, [(3, 1), (6, (-1))]), (0, [(4, (-1)), (6, 1)])], [], [(0, (0, [(5, 1)]))], [(113, (7, []), (0, (0, [(6, 1)]))), (113, (6, []), (0, (0, [(4, 1)])))])])
def x_u219 : List b_Cu := []
-- M.number, 142 steps
theorem x_z219 : b_chk0 x_T x_k219 x_u219 = true := by decide +kernel
theorem x_e219 : b_chkE x_F x_T x_Z x_dep x_hn [x_k196, x_k218] x_k219 x_u219 202 = true := by decide +kernel
theorem x_v219 {N : Int} {fz : List (List Int32)} (hZ : b_ZOk x_Z (x_G N) fz) : b_Valid x_F fz x_T (x_G N) x_k219 := b_valid (x_gOk N) x_depOk hZ x_hn_ok (Γ := [x_k196, x_k218]) (List.forall_mem_cons.mpr ⟨x_v196 hZ, List.forall_mem_cons.mpr ⟨x_v218 hZ, fun _ h => absurd h List.not_mem_nil⟩⟩) x_z219 x_e219 (fun _ h => absurd h List.not_mem_nil)
def x_k220 : b_K := (232, 3, ([(0, 0, 0), (13, 13, 0), (1, 700, 0), (1, 700, 0)], [(0, [(2, 1), (3, (-1))])], [], [(2, (113, [])), (0, (0, [(0, 1)])), (0, (0, [(1, 1)]))], [(113, (7, []), (0, (0, [(2, 1)]))), (113, (6, []), (0, (0, [(3, 1)])))]), [(113, 8), (113, 9), (113, 10), (113, 11), (113, 12), (113, 13), (113, 14)], [([(0, 0, 0), (13, 13, 0), (1, 700, 0), (1, 700, 0), (0, 13, 0), (1, 700, 0)], [(0, [(2, 1), (5, (-1))]), (0, [(3, (-1)), (5, 1)])], [], [(0, (0, [(4, 1)]))], [(113, (7, []), (0, (0, [(5, 1)]))), (113, (6, []), (0, (0, [(3, 1)])))])])
def x_u220 : List b_Cu := []
-- M.number, 89 steps
theorem x_z220 : b_chk0 x_T x_k220 x_u220 = true := by decide +kernel
theorem x_e220 : b_chkE x_F x_T x_Z x_dep x_hn [x_k196] x_k220 x_u220 149 = true := by decide +kernel
theorem x_v220 {N : Int} {fz : List (List Int32)} (hZ : b_ZOk x_Z (x_G N) fz) : b_Valid x_F fz x_T (x_G N) x_k220 := b_valid (x_gOk N) x_depOk hZ x_hn_ok (Γ := [x_k196]) (List.forall_mem_cons.mpr ⟨x_v196 hZ, fun _ h => absurd h List.not_mem_nil⟩) x_z220 x_e220 (fun _ h => absurd h List.not_mem_nil)
def x_k221 : b_K := (231, 5, ([(47, 47, 0), (0, 0, 0), (13, 13, 0), (1, 700, 0), (1, 700, 0)], [(0, [(3, 1), (4, (-1))])], [], [(2, (113, [])), (1, (0, [(0, 1)])), (0, (0, [(1, 1)])), (0, (0, [(2, 1)]))], [(113, (7, []), (0, (0, [(3, 1)]))), (113, (6, []), (0, (0, [(4, 1)])))]), [(113, 8), (113, 9), (113, 10), (113, 11), (113, 12), (113, 13), (113, 14)], [([(47, 47, 0), (0, 0, 0), (13, 13, 0), (1, 700, 0), (1, 700, 0), (0, 13, 0), (1, 700, 0)], [(0, [(3, 1), (6, (-1))]), (0, [(4, (-1)), (6, 1)])], [], [(0, (0, [(5, 1)]))], [(113, (7, []), (0, (0, [(6, 1)]))), (113, (6, []), (0, (0, [(4, 1)])))])])
def x_u221 : List b_Cu := []
-- M.number, 142 steps
theorem x_z221 : b_chk0 x_T x_k221 x_u221 = true := by decide +kernel
theorem x_e221 : b_chkE x_F x_T x_Z x_dep x_hn [x_k196, x_k220] x_k221 x_u221 202 = true := by decide +kernel
theorem x_v221 {N : Int} {fz : List (List Int32)} (hZ : b_ZOk x_Z (x_G N) fz) : b_Valid x_F fz x_T (x_G N) x_k221 := b_valid (x_gOk N) x_depOk hZ x_hn_ok (Γ := [x_k196, x_k220]) (List.forall_mem_cons.mpr ⟨x_v196 hZ, List.forall_mem_cons.mpr ⟨x_v220 hZ, fun _ h => absurd h List.not_mem_nil⟩⟩) x_z221 x_e221 (fun _ h => absurd h List.not_mem_nil)
def x_k222 : b_K := (233, 7, ([(1, 700, 0), (1, 700, 0)], [(0, [(0, 1), (1, (-1))])], [], [(2, (113, []))], [(113, (7, []), (0, (0, [(0, 1)]))), (113, (6, []), (0, (0, [(1, 1)])))]), [(113, 8), (113, 9), (113, 10), (113, 11), (113, 12), (113, 13), (113, 14), (120, 0), (121, 0), (122, 0), (123, 0)], [([(1, 700, 0), (1, 700, 0), (1, 700, 0)], [(0, [(0, 1), (2, (-1))]), (0, [(1, (-1)), (2, 1)])], [], [], [(113, (7, []), (0, (0, [(2, 1)]))), (113, (6, []), (0, (0, [(1, 1)])))])])
def x_u222 : List b_Cu := []
-- M.lineHere, 1860 steps
theorem x_z222 : b_chk0 x_T x_k222 x_u222 = true := by decide +kernel
theorem x_e222 : b_chkE x_F x_T x_Z x_dep x_hn [x_k196, x_k211, x_k213, x_k212, x_k214, x_k215, x_k217, x_k219, x_k221] x_k222 x_u222 1920 = true := by decide +kernel
theorem x_v222 {N : Int} {fz : List (List Int32)} (hZ : b_ZOk x_Z (x_G N) fz) : b_Valid x_F fz x_T (x_G N) x_k222 := b_valid (x_gOk N) x_depOk hZ x_hn_ok (Γ := [x_k196, x_k211, x_k213, x_k212, x_k214, x_k215, x_k217, x_k219, x_k221]) (List.forall_mem_cons.mpr ⟨x_v196 hZ, List.forall_mem_cons.mpr ⟨x_v211 hZ, List.forall_mem_cons.mpr ⟨x_v213 hZ, List.forall_mem_cons.mpr ⟨x_v212 hZ, List.forall_mem_cons.mpr ⟨x_v214 hZ, List.forall_mem_cons.mpr ⟨x_v215 hZ, List.forall_mem_cons.mpr ⟨x_v217 hZ, List.forall_mem_cons.mpr ⟨x_v219 hZ, List.forall_mem_cons.mpr ⟨x_v221 hZ, fun _ h => absurd h List.not_mem_nil⟩⟩⟩⟩⟩⟩⟩⟩⟩) x_z222 x_e222 (fun _ h => absurd h List.not_mem_nil)
def x_k223 : b_K := (220, 8, ([], [], [], [(2, (113, []))], []), [(113, 1), (113, 7), (113, 8), (113, 9), (113, 10), (113, 11), (113, 12), (113, 13), (113, 14), (113, 15), (113, 16), (119, 0), (120, 0), (121, 0), (122, 0), (123, 0), (124, 0)], [([((-2147483648), 2147483647, 0)], [], [], [(0, (0, [(0, 1)]))], [])])
def x_u223_0 : b_Cu := (27, ([((-1), 700, 0), (0, 3, 0), (1, 700, 0), (1, 4, 0), (1, 700, 0), ((-1), 700, 0)], [(0, [(2, 1), (4, (-1))])], [(0, (2, (113, [])))], [], [(113, (15, []), (0, (0, [(0, 1)]))), (113, (14, []), (0, (0, [(1, 1)]))), (113, (7, []), (0, (0, [(2, 1)]))), (113, (8, []), (0, (0, [(3, 1)]))), (113, (6, []), (0, (0, [(4, 1)]))), (113, (13, []), (0, (0, [(5, 1)]))), (113, (12, []), (0, (0, []))), (113, (0, []), (0, (0, [])))]), (700, [(2, (-1))]))
def x_u223 : List b_Cu := [x_u223_0]
-- M.circuit, 2135 steps
theorem x_z223 : b_chk0 x_T x_k223 x_u223 = true := by decide +kernel
theorem x_e223 : b_chkE x_F x_T x_Z x_dep x_hn [x_k195, x_k196, x_k197, x_k198, x_k199, x_k200, x_k201, x_k202, x_k204, x_k206, x_k208, x_k209, x_k222] x_k223 x_u223 2195 = true := by decide +kernel
theorem x_c223_0 : b_chkC x_F x_T x_Z x_dep x_hn [x_k195, x_k196, x_k197, x_k198, x_k199, x_k200, x_k201, x_k202, x_k204, x_k206, x_k208, x_k209, x_k222] x_k223 x_u223 2195 x_u223_0 = true := by decide +kernel
theorem x_v223 {N : Int} {fz : List (List Int32)} (hZ : b_ZOk x_Z (x_G N) fz) : b_Valid x_F fz x_T (x_G N) x_k223 := b_valid (x_gOk N) x_depOk hZ x_hn_ok (Γ := [x_k195, x_k196, x_k197, x_k198, x_k199, x_k200, x_k201, x_k202, x_k204, x_k206, x_k208, x_k209, x_k222]) (List.forall_mem_cons.mpr ⟨x_v195 hZ, List.forall_mem_cons.mpr ⟨x_v196 hZ, List.forall_mem_cons.mpr ⟨x_v197 hZ, List.forall_mem_cons.mpr ⟨x_v198 hZ, List.forall_mem_cons.mpr ⟨x_v199 hZ, List.forall_mem_cons.mpr ⟨x_v200 hZ, List.forall_mem_cons.mpr ⟨x_v201 hZ, List.forall_mem_cons.mpr ⟨x_v202 hZ, List.forall_mem_cons.mpr ⟨x_v204 hZ, List.forall_mem_cons.mpr ⟨x_v206 hZ, List.forall_mem_cons.mpr ⟨x_v208 hZ, List.forall_mem_cons.mpr ⟨x_v209 hZ, List.forall_mem_cons.mpr ⟨x_v222 hZ, fun _ h => absurd h List.not_mem_nil⟩⟩⟩⟩⟩⟩⟩⟩⟩⟩⟩⟩⟩) x_z223 x_e223 (List.forall_mem_cons.mpr ⟨x_c223_0, fun _ h => absurd h List.not_mem_nil⟩)
def x_k224 : b_K := (244, 3, ([((-2147483648), 2147483647, 0), ((-2147483648), 2147483647, 0)], [], [], [(2, (113, [])), (0, (0, [(0, 1)])), (0, (0, [(1, 1)]))], []), [(113, 1)], [([((-2147483648), 2147483647, 0), ((-2147483648), 2147483647, 0), ((-2), 40, 0)], [], [], [(0, (0, [(2, 1)]))], [])])
def x_u224 : List b_Cu := []
-- M.mother, 82 steps
theorem x_z224 : b_chk0 x_T x_k224 x_u224 = true := by decide +kernel
theorem x_e224 : b_chkE x_F x_T x_Z x_dep x_hn [] x_k224 x_u224 142 = true := by decide +kernel
theorem x_v224 {N : Int} {fz : List (List Int32)} (hZ : b_ZOk x_Z (x_G N) fz) : b_Valid x_F fz x_T (x_G N) x_k224 := b_valid (x_gOk N) x_depOk hZ x_hn_ok (Γ := []) (fun _ h => absurd h List.not_mem_nil) x_z224 x_e224 (fun _ h => absurd h List.not_mem_nil)
def x_k225 : b_K := (248, 1, ([(0, 6, 0)], [], [], [(2, (113, [])), (0, (0, [(0, 1)]))], []), [], [([(0, 6, 0), ((-2147483648), 2147483647, 0)], [], [], [(0, (0, [(1, 1)]))], [])])
def x_u225_0 : b_Cu := (4, ([(0, 6, 0), ((-2147483648), 2147483647, 0), (0, 8, 0)], [], [(0, (2, (113, []))), (1, (0, (0, [(0, 1)]))), (2, (0, (0, [(1, 1)]))), (3, (0, (0, [(2, 1)])))], [], []), (8, [(2, (-1))]))
def x_u225 : List b_Cu := [x_u225_0]
-- M.kinBits, 83 steps
theorem x_z225 : b_chk0 x_T x_k225 x_u225 = true := by decide +kernel
theorem x_e225 : b_chkE x_F x_T x_Z x_dep x_hn [] x_k225 x_u225 143 = true := by decide +kernel
theorem x_c225_0 : b_chkC x_F x_T x_Z x_dep x_hn [] x_k225 x_u225 143 x_u225_0 = true := by decide +kernel
theorem x_v225 {N : Int} {fz : List (List Int32)} (hZ : b_ZOk x_Z (x_G N) fz) : b_Valid x_F fz x_T (x_G N) x_k225 := b_valid (x_gOk N) x_depOk hZ x_hn_ok (Γ := []) (fun _ h => absurd h List.not_mem_nil) x_z225 x_e225 (List.forall_mem_cons.mpr ⟨x_c225_0, fun _ h => absurd h List.not_mem_nil⟩)
def x_k226 : b_K := (247, 3, ([((-2147483648), 2147483647, 0)], [], [], [(2, (113, [])), (0, (0, [(0, 1)]))], []), [(113, 1)], [([((-2147483648), 2147483647, 0), ((-2147483648), 2147483647, 0)], [], [], [(0, (0, [(1, 1)]))], [])])
def x_u226 : List b_Cu := []
-- M.kin, 50 steps
theorem x_z226 : b_chk0 x_T x_k226 x_u226 = true := by decide +kernel
theorem x_e226 : b_chkE x_F x_T x_Z x_dep x_hn [x_k225] x_k226 x_u226 120 = true := by decide +kernel
theorem x_v226 {N : Int} {fz : List (List Int32)} (hZ : b_ZOk x_Z (x_G N) fz) : b_Valid x_F fz x_T (x_G N) x_k226 := b_valid (x_gOk N) x_depOk hZ x_hn_ok (Γ := [x_k225]) (List.forall_mem_cons.mpr ⟨x_v225 hZ, fun _ h => absurd h List.not_mem_nil⟩) x_z226 x_e226 (fun _ h => absurd h List.not_mem_nil)
def x_k227 : b_K := (249, 3, ([((-2147483648), 2147483647, 0), ((-2147483648), 2147483647, 0)], [], [], [(2, (113, [])), (0, (0, [(0, 1)])), (0, (0, [(1, 1)]))], []), [(113, 1)], [([((-2147483648), 2147483647, 0), ((-2147483648), 2147483647, 0), ((-2), 30, 0)], [], [], [(0, (0, [(2, 1)]))], [])])
def x_u227 : List b_Cu := []
-- M.cause, 82 steps
theorem x_z227 : b_chk0 x_T x_k227 x_u227 = true := by decide +kernel
theorem x_e227 : b_chkE x_F x_T x_Z x_dep x_hn [] x_k227 x_u227 142 = true := by decide +kernel
theorem x_v227 {N : Int} {fz : List (List Int32)} (hZ : b_ZOk x_Z (x_G N) fz) : b_Valid x_F fz x_T (x_G N) x_k227 := b_valid (x_gOk N) x_depOk hZ x_hn_ok (Γ := []) (fun _ h => absurd h List.not_mem_nil) x_z227 x_e227 (fun _ h => absurd h List.not_mem_nil)
def x_k228 : b_K := (254, 2, ([], [], [], [(2, (113, []))], []), [(113, 24), (113, 25), (113, 26), (126, 0), (127, 0), (128, 0), (129, 0)], [([], [], [], [], [])])
def x_u228_0 : b_Cu := (22, ([(0, 7, 0)], [], [(0, (2, (113, []))), (1, (0, (0, [(0, 1)])))], [], []), (16, [(0, (-1))]))
def x_u228_1 : b_Cu := (52, ([(0, 8, 0)], [], [(0, (2, (113, []))), (1, (0, (0, [(0, 1)])))], [], []), (8, [(0, (-1))]))
def x_u228 : List b_Cu := [x_u228_0, x_u228_1]
-- M.lays, 83 steps
theorem x_z228 : b_chk0 x_T x_k228 x_u228 = true := by decide +kernel
theorem x_e228 : b_chkE x_F x_T x_Z x_dep x_hn [] x_k228 x_u228 143 = true := by decide +kernel
theorem x_c228_0 : b_chkC x_F x_T x_Z x_dep x_hn [] x_k228 x_u228 143 x_u228_0 = true := by decide +kernel
theorem x_c228_1 : b_chkC x_F x_T x_Z x_dep x_hn [] x_k228 x_u228 143 x_u228_1 = true := by decide +kernel
theorem x_v228 {N : Int} {fz : List (List Int32)} (hZ : b_ZOk x_Z (x_G N) fz) : b_Valid x_F fz x_T (x_G N) x_k228 := b_valid (x_gOk N) x_depOk hZ x_hn_ok (Γ := []) (fun _ h => absurd h List.not_mem_nil) x_z228 x_e228 (List.forall_mem_cons.mpr ⟨x_c228_0, List.forall_mem_cons.mpr ⟨x_c228_1, fun _ h => absurd h List.not_mem_nil⟩⟩)
def x_k229 : b_K := (257, 1, ([(0, 14, 0)], [], [], [(2, (113, [])), (0, (0, [(0, 1)]))], []), [], [([(0, 14, 0), ((-2147483648), 2147483647, 0)], [], [], [(0, (0, [(1, 1)]))], [])])
def x_u229_0 : b_Cu := (7, ([(0, 14, 0), ((-2147483648), 2147483647, 0), (0, 20, 0)], [], [(0, (2, (113, []))), (1, (0, (0, [(0, 1)]))), (2, (0, (0, [(1, 1)]))), (3, (0, (0, [(2, 1)])))], [], []), (20, [(2, (-1))]))
def x_u229 : List b_Cu := [x_u229_0]
-- M.awayOn, 50 steps
theorem x_z229 : b_chk0 x_T x_k229 x_u229 = true := by decide +kernel
theorem x_e229 : b_chkE x_F x_T x_Z x_dep x_hn [] x_k229 x_u229 120 = true := by decide +kernel
theorem x_c229_0 : b_chkC x_F x_T x_Z x_dep x_hn [] x_k229 x_u229 120 x_u229_0 = true := by decide +kernel
theorem x_v229 {N : Int} {fz : List (List Int32)} (hZ : b_ZOk x_Z (x_G N) fz) : b_Valid x_F fz x_T (x_G N) x_k229 := b_valid (x_gOk N) x_depOk hZ x_hn_ok (Γ := []) (fun _ h => absurd h List.not_mem_nil) x_z229 x_e229 (List.forall_mem_cons.mpr ⟨x_c229_0, fun _ h => absurd h List.not_mem_nil⟩)
def x_k230 : b_K := (260, 2, ([((-2147483648), 2147483647, 0)], [], [], [(2, (113, [])), (0, (0, [(0, 1)]))], []), [], [([((-2147483648), 2147483647, 0), (0, 126, 10428803706555136590722701824294910)], [], [], [(0, (0, [(1, 1)]))], [])])
def x_u230_0 : b_Cu := (7, ([((-2147483648), 2147483647, 0)], [], [(0, (2, (113, []))), (1, (0, (0, [(0, 1)]))), (2, (0, (0, []))), (3, (0, (0, []))), (4, (0, (0, [])))], [], []), (48, []))
def x_u230_1 : b_Cu := (19, ([((-2147483648), 2147483647, 0), ((-1), 6, 0), (0, 7, 0)], [], [(0, (2, (113, []))), (1, (0, (0, [(0, 1)]))), (2, (0, (0, []))), (3, (0, (0, []))), (4, (0, (0, []))), (5, (0, (0, [(1, 1)]))), (6, (0, (0, [(2, 1)])))], [], []), (47, [(2, (-1))]))
def x_u230_2 : b_Cu := (7, ([((-2147483648), 2147483647, 0), (1, 126, 36893488156009169452), ((-2147483648), 2147483647, 0)], [], [(0, (2, (113, []))), (1, (0, (0, [(0, 1)]))), (2, (0, (0, [(1, 1)]))), (3, (0, (0, [(2, 1)]))), (4, (0, (1, [])))], [], []), (32, []))
def x_u230_3 : b_Cu := (19, ([((-2147483648), 2147483647, 0), (1, 126, 36893488156009169452), ((-2147483648), 2147483647, 0), ((-1), 6, 0), (0, 7, 0)], [], [(0, (2, (113, []))), (1, (0, (0, [(0, 1)]))), (2, (0, (0, [(1, 1)]))), (3, (0, (0, [(2, 1)]))), (4, (0, (1, []))), (5, (0, (0, [(3, 1)]))), (6, (0, (0, [(4, 1)])))], [], []), (31, [(4, (-1))]))
def x_u230_4 : b_Cu := (7, ([((-2147483648), 2147483647, 0), (1, 126, 158458753173451662921948868348), ((-2147483648), 2147483647, 0)], [], [(0, (2, (113, []))), (1, (0, (0, [(0, 1)]))), (2, (0, (0, [(1, 1)]))), (3, (0, (0, [(2, 1)]))), (4, (0, (2, [])))], [], []), (16, []))
def x_u230_5 : b_Cu := (19, ([((-2147483648), 2147483647, 0), (1, 126, 158458753173451662921948868348), ((-2147483648), 2147483647, 0), ((-1), 6, 0), (0, 7, 0)], [], [(0, (2, (113, []))), (1, (0, (0, [(0, 1)]))), (2, (0, (0, [(1, 1)]))), (3, (0, (0, [(2, 1)]))), (4, (0, (2, []))), (5, (0, (0, [(3, 1)]))), (6, (0, (0, [(4, 1)])))], [], []), (15, [(4, (-1))]))
def x_u230_6 : b_Cu := (7, ([((-2147483648), 2147483647, 0), (1, 126, 10428803706555136590722701824294908), ((-2147483648), 2147483647, 0)], [], [(0, (2, (113, []))), (1, (0, (0, [(0, 1)]))), (2, (0, (0, [(1, 1)]))), (3, (0, (0, [(2, 1)]))), (4, (0, (3, [])))], [], []), (0, []))
def x_u230 : List b_Cu := [x_u230_0, x_u230_1, x_u230_2, x_u230_3, x_u230_4, x_u230_5, x_u230_6]
-- M.benchOf, 3879 steps
theorem x_z230 : b_chk0 x_T x_k230 x_u230 = true := by decide +kernel
theorem x_e230 : b_chkE x_F x_T x_Z x_dep x_hn [x_k225] x_k230 x_u230 3939 = true := by decide +kernel
theorem x_c230_0 : b_chkC x_F x_T x_Z x_dep x_hn [x_k225] x_k230 x_u230 3939 x_u230_0 = true := by decide +kernel
theorem x_c230_1 : b_chkC x_F x_T x_Z x_dep x_hn [x_k225] x_k230 x_u230 3939 x_u230_1 = true := by decide +kernel
theorem x_c230_2 : b_chkC x_F x_T x_Z x_dep x_hn [x_k225] x_k230 x_u230 3939 x_u230_2 = true := by decide +kernel
theorem x_c230_3 : b_chkC x_F x_T x_Z x_dep x_hn [x_k225] x_k230 x_u230 3939 x_u230_3 = true := by decide +kernel
theorem x_c230_4 : b_chkC x_F x_T x_Z x_dep x_hn [x_k225] x_k230 x_u230 3939 x_u230_4 = true := by decide +kernel
theorem x_c230_5 : b_chkC x_F x_T x_Z x_dep x_hn [x_k225] x_k230 x_u230 3939 x_u230_5 = true := by decide +kernel
theorem x_c230_6 : b_chkC x_F x_T x_Z x_dep x_hn [x_k225] x_k230 x_u230 3939 x_u230_6 = true := by decide +kernel
theorem x_v230 {N : Int} {fz : List (List Int32)} (hZ : b_ZOk x_Z (x_G N) fz) : b_Valid x_F fz x_T (x_G N) x_k230 := b_valid (x_gOk N) x_depOk hZ x_hn_ok (Γ := [x_k225]) (List.forall_mem_cons.mpr ⟨x_v225 hZ, fun _ h => absurd h List.not_mem_nil⟩) x_z230 x_e230 (List.forall_mem_cons.mpr ⟨x_c230_0, List.forall_mem_cons.mpr ⟨x_c230_1, List.forall_mem_cons.mpr ⟨x_c230_2, List.forall_mem_cons.mpr ⟨x_c230_3, List.forall_mem_cons.mpr ⟨x_c230_4, List.forall_mem_cons.mpr ⟨x_c230_5, List.forall_mem_cons.mpr ⟨x_c230_6, fun _ h => absurd h List.not_mem_nil⟩⟩⟩⟩⟩⟩⟩)
