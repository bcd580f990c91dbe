/-! contracts and their checks (by program, cert3.py) -/
def x_k287 : b_K := (327, 5, ([(0, 7, 0)], [], [], [(2, (113, [])), (0, (0, [(0, 1)]))], []), [(113, 24), (113, 25), (113, 26), (113, 31), (126, 0), (127, 0), (128, 0), (129, 0), (130, 0), (131, 0), (132, 0), (133, 0), (134, 0), (135, 0), (136, 0)], [([(0, 7, 0), ((-1), 15, 0)], [], [], [(0, (0, [(1, 1)]))], [])])
def x_u287_0 : b_Cu := (8, ([(0, 7, 0), ((-1), 15, 0), (0, 1000000, 0), (0, 16, 0)], [], [(0, (2, (113, []))), (1, (0, (0, [(0, 1)]))), (2, (0, (0, [(1, 1)]))), (3, (0, (0, [(2, 1)]))), (4, (0, (0, [(3, 1)])))], [], []), (16, [(3, (-1))]))
def x_u287 : List b_Cu := [x_u287_0]
-- M.pleaOf, 260 steps
theorem x_z287 : b_chk0 x_T x_k287 x_u287 = true := by decide +kernel
theorem x_e287 : b_chkE x_F x_T x_Z x_dep x_hn [x_k228, x_k234, x_k286] x_k287 x_u287 320 = true := by decide +kernel
theorem x_c287_0 : b_chkC x_F x_T x_Z x_dep x_hn [x_k228, x_k234, x_k286] x_k287 x_u287 320 x_u287_0 = true := by decide +kernel
theorem x_v287 {N : Int} {fz : List (List Int32)} (hZ : b_ZOk x_Z (x_G N) fz) : b_Valid x_F fz x_T (x_G N) x_k287 := b_valid (x_gOk N) x_depOk hZ x_hn_ok (Γ := [x_k228, x_k234, x_k286]) (List.forall_mem_cons.mpr ⟨x_v228 hZ, List.forall_mem_cons.mpr ⟨x_v234 hZ, List.forall_mem_cons.mpr ⟨x_v286 hZ, fun _ h => absurd h List.not_mem_nil⟩⟩⟩) x_z287 x_e287 (List.forall_mem_cons.mpr ⟨x_c287_0, fun _ h => absurd h List.not_mem_nil⟩)
def x_k288 : b_K := (326, 6, ([((-2147483648), 2147483647, 0)], [], [], [(2, (113, [])), (0, (0, [(0, 1)]))], []), [(113, 1), (113, 24), (113, 25), (113, 26), (113, 31), (126, 0), (127, 0), (128, 0), (129, 0), (130, 0), (131, 0), (132, 0), (133, 0), (134, 0), (135, 0), (136, 0)], [([((-2147483648), 2147483647, 0), ((-2), 4, 0)], [], [], [(0, (0, [(1, 1)]))], [])])
def x_u288 : List b_Cu := []
-- M.plea, 62 steps
theorem x_z288 : b_chk0 x_T x_k288 x_u288 = true := by decide +kernel
theorem x_e288 : b_chkE x_F x_T x_Z x_dep x_hn [x_k287, x_k286] x_k288 x_u288 122 = true := by decide +kernel
theorem x_v288 {N : Int} {fz : List (List Int32)} (hZ : b_ZOk x_Z (x_G N) fz) : b_Valid x_F fz x_T (x_G N) x_k288 := b_valid (x_gOk N) x_depOk hZ x_hn_ok (Γ := [x_k287, x_k286]) (List.forall_mem_cons.mpr ⟨x_v287 hZ, List.forall_mem_cons.mpr ⟨x_v286 hZ, fun _ h => absurd h List.not_mem_nil⟩⟩) x_z288 x_e288 (fun _ h => absurd h List.not_mem_nil)
def x_k289 : b_K := (328, 6, ([((-2147483648), 2147483647, 0)], [], [], [(2, (113, [])), (0, (0, [(0, 1)]))], []), [(113, 1), (113, 24), (113, 25), (113, 26), (113, 31), (126, 0), (127, 0), (128, 0), (129, 0), (130, 0), (131, 0), (132, 0), (133, 0), (134, 0), (135, 0), (136, 0)], [([((-2147483648), 2147483647, 0), ((-2), 15, 0)], [], [], [(0, (0, [(1, 1)]))], [])])
def x_u289 : List b_Cu := []
-- M.pleas, 50 steps
theorem x_z289 : b_chk0 x_T x_k289 x_u289 = true := by decide +kernel
theorem x_e289 : b_chkE x_F x_T x_Z x_dep x_hn [x_k287] x_k289 x_u289 120 = true := by decide +kernel
theorem x_v289 {N : Int} {fz : List (List Int32)} (hZ : b_ZOk x_Z (x_G N) fz) : b_Valid x_F fz x_T (x_G N) x_k289 := b_valid (x_gOk N) x_depOk hZ x_hn_ok (Γ := [x_k287]) (List.forall_mem_cons.mpr ⟨x_v287 hZ, fun _ h => absurd h List.not_mem_nil⟩) x_z289 x_e289 (fun _ h => absurd h List.not_mem_nil)
def x_k290 : b_K := (329, 5, ([((-2147483648), 2147483647, 0)], [], [], [(2, (113, [])), (0, (0, [(0, 1)]))], []), [(113, 1), (113, 24), (113, 25), (113, 26), (113, 31), (126, 0), (127, 0), (128, 0), (129, 0), (130, 0), (131, 0), (132, 0), (133, 0), (134, 0), (135, 0), (136, 0)], [([((-2147483648), 2147483647, 0), ((-2), 13, 0)], [], [], [(0, (0, [(1, 1)]))], [])])
def x_u290_0 : b_Cu := (25, ([(0, 7, 0), ((-1), 13, 0), (0, 1000000, 0), (0, 14, 0)], [], [(0, (2, (113, []))), (1, (0, (0, [(0, 1)]))), (2, (0, (0, [(1, 1)]))), (3, (0, (0, [(2, 1)]))), (4, (0, (0, [(3, 1)])))], [], []), (14, [(3, (-1))]))
def x_u290 : List b_Cu := [x_u290_0]
-- M.when, 157 steps
theorem x_z290 : b_chk0 x_T x_k290 x_u290 = true := by decide +kernel
theorem x_e290 : b_chkE x_F x_T x_Z x_dep x_hn [x_k228, x_k234] x_k290 x_u290 217 = true := by decide +kernel
theorem x_c290_0 : b_chkC x_F x_T x_Z x_dep x_hn [x_k228, x_k234] x_k290 x_u290 217 x_u290_0 = true := by decide +kernel
theorem x_v290 {N : Int} {fz : List (List Int32)} (hZ : b_ZOk x_Z (x_G N) fz) : b_Valid x_F fz x_T (x_G N) x_k290 := b_valid (x_gOk N) x_depOk hZ x_hn_ok (Γ := [x_k228, x_k234]) (List.forall_mem_cons.mpr ⟨x_v228 hZ, List.forall_mem_cons.mpr ⟨x_v234 hZ, fun _ h => absurd h List.not_mem_nil⟩⟩) x_z290 x_e290 (List.forall_mem_cons.mpr ⟨x_c290_0, fun _ h => absurd h List.not_mem_nil⟩)
def x_k291 : b_K := (330, 6, ([], [], [], [(2, (113, []))], []), [(113, 1), (113, 24), (113, 25), (113, 26), (113, 31), (126, 0), (127, 0), (128, 0), (129, 0), (130, 0), (131, 0), (132, 0), (133, 0), (134, 0), (135, 0), (136, 0)], [([((-2), 7, 0)], [], [], [(0, (0, [(0, 1)]))], [])])
def x_u291_0 : b_Cu := (22, ([((-1), 7, 0), ((-2147483648), 1000000, 0), (0, 8, 0)], [], [(0, (2, (113, []))), (1, (0, (0, [(0, 1)]))), (2, (0, (0, [(1, 1)]))), (3, (0, (0, [(2, 1)])))], [], []), (8, [(2, (-1))]))
def x_u291 : List b_Cu := [x_u291_0]
-- M.blame, 155 steps
theorem x_z291 : b_chk0 x_T x_k291 x_u291 = true := by decide +kernel
theorem x_e291 : b_chkE x_F x_T x_Z x_dep x_hn [x_k228, x_k234, x_k258] x_k291 x_u291 215 = true := by decide +kernel
theorem x_c291_0 : b_chkC x_F x_T x_Z x_dep x_hn [x_k228, x_k234, x_k258] x_k291 x_u291 215 x_u291_0 = true := by decide +kernel
theorem x_v291 {N : Int} {fz : List (List Int32)} (hZ : b_ZOk x_Z (x_G N) fz) : b_Valid x_F fz x_T (x_G N) x_k291 := b_valid (x_gOk N) x_depOk hZ x_hn_ok (Γ := [x_k228, x_k234, x_k258]) (List.forall_mem_cons.mpr ⟨x_v228 hZ, List.forall_mem_cons.mpr ⟨x_v234 hZ, List.forall_mem_cons.mpr ⟨x_v258 hZ, fun _ h => absurd h List.not_mem_nil⟩⟩⟩) x_z291 x_e291 (List.forall_mem_cons.mpr ⟨x_c291_0, fun _ h => absurd h List.not_mem_nil⟩)
def x_k292 : b_K := (332, 3, ([((-2147483648), 2147483647, 0), (0, 1, 0)], [], [], [(2, (113, [])), (0, (0, [(0, 1)])), (0, (0, [(1, 1)]))], []), [], [([((-2147483648), 2147483647, 0), (0, 1, 0)], [], [], [(0, ((-2), []))], []),
  ([(0, 3, 0), (1, 1, 0)], [], [], [(0, ((-6), []))], []),
  ([(0, 3, 0), (1, 1, 0), (0, 60, 0)], [], [], [(0, (0, []))], [(143, (0, [(0, 1)]), (0, (1, []))), (115, (0, [(0, 1)]), (0, (0, [(2, 1)])))])])
def x_u292_0 : b_Cu := (50, ([(0, 3, 0), (1, 1, 0), (0, 30, 0)], [], [(0, (2, (113, []))), (1, (0, (0, [(0, 1)]))), (3, (0, (0, [(2, 2)])))], [], [(142, (0, [(0, 32), (2, 1)]), (0, (1, [])))]), (60, [(2, (-2))]))
def x_u292 : List b_Cu := [x_u292_0]
-- M.whyNot, 167 steps
theorem x_z292 : b_chk0 x_T x_k292 x_u292 = true := by decide +kernel
theorem x_e292 : b_chkE x_F x_T x_Z x_dep x_hn [] x_k292 x_u292 227 = true := by decide +kernel
theorem x_c292_0 : b_chkC x_F x_T x_Z x_dep x_hn [] x_k292 x_u292 227 x_u292_0 = true := by decide +kernel
theorem x_v292 {N : Int} {fz : List (List Int32)} (hZ : b_ZOk x_Z (x_G N) fz) : b_Valid x_F fz x_T (x_G N) x_k292 := b_valid (x_gOk N) x_depOk hZ x_hn_ok (Γ := []) (fun _ h => absurd h List.not_mem_nil) x_z292 x_e292 (List.forall_mem_cons.mpr ⟨x_c292_0, fun _ h => absurd h List.not_mem_nil⟩)
def x_k293 : b_K := (334, 3, ([(0, 3, 0), (0, 60, 0), (1, 1, 0)], [], [], [(2, (113, [])), (0, (0, [(0, 1)]))], [(115, (0, [(0, 1)]), (0, (0, [(1, 1)]))), (143, (0, [(0, 1)]), (0, (0, [(2, 1)])))]), [], [([(0, 3, 0), (1, 60, 0), (1, 1, 0)], [], [], [(0, (0, []))], [(115, (0, [(0, 1)]), (0, (0, [(1, 1)]))), (143, (0, [(0, 1)]), (0, (0, [(2, 1)])))]),
  ([(0, 3, 0), (0, 60, 0), (1, 1, 0)], [], [], [(0, (1, []))], [(115, (0, [(0, 1)]), (0, (0, [(1, 1)]))), (143, (0, [(0, 1)]), (0, (0, [(2, 1)])))])])
def x_u293_0 : b_Cu := (2, ([(0, 3, 0), (0, 60, 0), (1, 1, 0), (0, 30, 0)], [], [(0, (2, (113, []))), (1, (0, (0, [(0, 1)]))), (2, (0, (0, [(3, 2)])))], [], [(115, (0, [(0, 1)]), (0, (0, [(1, 1)]))), (143, (0, [(0, 1)]), (0, (0, [(2, 1)])))]), (60, [(3, (-2))]))
def x_u293 : List b_Cu := [x_u293_0]
-- M.isSo, 89 steps
theorem x_z293 : b_chk0 x_T x_k293 x_u293 = true := by decide +kernel
theorem x_e293 : b_chkE x_F x_T x_Z x_dep x_hn [] x_k293 x_u293 149 = true := by decide +kernel
theorem x_c293_0 : b_chkC x_F x_T x_Z x_dep x_hn [] x_k293 x_u293 149 x_u293_0 = true := by decide +kernel
theorem x_v293 {N : Int} {fz : List (List Int32)} (hZ : b_ZOk x_Z (x_G N) fz) : b_Valid x_F fz x_T (x_G N) x_k293 := b_valid (x_gOk N) x_depOk hZ x_hn_ok (Γ := []) (fun _ h => absurd h List.not_mem_nil) x_z293 x_e293 (List.forall_mem_cons.mpr ⟨x_c293_0, fun _ h => absurd h List.not_mem_nil⟩)
def x_k294 : b_K := (335, 2, ([], [], [], [(2, (113, []))], []), [], [([((-2147483648), 2147483647, 0)], [], [], [(0, (0, [(0, 1)]))], [])])
def x_u294_0 : b_Cu := (4, ([((-2147483648), 2147483647, 0), (0, 41, 0)], [], [(0, (2, (113, []))), (1, (0, (0, [(0, 1)]))), (2, (0, (0, [(1, 1)])))], [], []), (41, [(1, (-1))]))
def x_u294 : List b_Cu := [x_u294_0]
-- M.seenMany, 48 steps
theorem x_z294 : b_chk0 x_T x_k294 x_u294 = true := by decide +kernel
theorem x_e294 : b_chkE x_F x_T x_Z x_dep x_hn [] x_k294 x_u294 120 = true := by decide +kernel
theorem x_c294_0 : b_chkC x_F x_T x_Z x_dep x_hn [] x_k294 x_u294 120 x_u294_0 = true := by decide +kernel
theorem x_v294 {N : Int} {fz : List (List Int32)} (hZ : b_ZOk x_Z (x_G N) fz) : b_Valid x_F fz x_T (x_G N) x_k294 := b_valid (x_gOk N) x_depOk hZ x_hn_ok (Γ := []) (fun _ h => absurd h List.not_mem_nil) x_z294 x_e294 (List.forall_mem_cons.mpr ⟨x_c294_0, fun _ h => absurd h List.not_mem_nil⟩)
def x_k295 : b_K := (337, 2, ([(0, 7, 0)], [], [], [(2, (113, [])), (0, (0, [(0, 1)]))], []), [], [([(0, 7, 0), (0, 2147483647, 0)], [], [], [(0, (0, [(1, 1)]))], [])])
def x_u295_0 : b_Cu := (4, ([(0, 7, 0), (0, 2147483647, 0), (0, 41, 0)], [], [(0, (2, (113, []))), (1, (0, (0, [(0, 1)]))), (2, (0, (0, [(1, 1)]))), (3, (0, (0, [(2, 1)])))], [], []), (3486, [(2, (-84))]))
def x_u295_1 : b_Cu := (16, ([(0, 7, 0), (0, 2147483647, 0), (0, 40, 0), ((-2147483648), 2147483647, 0), (0, 41, 0)], [], [(0, (2, (113, []))), (1, (0, (0, [(0, 1)]))), (2, (0, (0, [(1, 1)]))), (3, (0, (0, [(2, 1)]))), (4, (0, (0, [(3, 1)]))), (5, (0, (0, [(4, 1)])))], [], []), (3485, [(2, (-84)), (4, (-1))]))
def x_u295 : List b_Cu := [x_u295_0, x_u295_1]
-- M.worstBy, 126 steps
theorem x_z295 : b_chk0 x_T x_k295 x_u295 = true := by decide +kernel
theorem x_e295 : b_chkE x_F x_T x_Z x_dep x_hn [] x_k295 x_u295 186 = true := by decide +kernel
theorem x_c295_0 : b_chkC x_F x_T x_Z x_dep x_hn [] x_k295 x_u295 186 x_u295_0 = true := by decide +kernel
theorem x_c295_1 : b_chkC x_F x_T x_Z x_dep x_hn [] x_k295 x_u295 186 x_u295_1 = true := by decide +kernel
theorem x_v295 {N : Int} {fz : List (List Int32)} (hZ : b_ZOk x_Z (x_G N) fz) : b_Valid x_F fz x_T (x_G N) x_k295 := b_valid (x_gOk N) x_depOk hZ x_hn_ok (Γ := []) (fun _ h => absurd h List.not_mem_nil) x_z295 x_e295 (List.forall_mem_cons.mpr ⟨x_c295_0, List.forall_mem_cons.mpr ⟨x_c295_1, fun _ h => absurd h List.not_mem_nil⟩⟩)
def x_k296 : b_K := (333, 5, ([(0, 3, 0), (0, 6, 0), (0, 60, 0), (1, 1, 0)], [], [], [(2, (113, [])), (0, (0, [(0, 1)])), (0, (0, [(1, 1)]))], [(115, (0, [(0, 1)]), (0, (0, [(2, 1)]))), (143, (0, [(0, 1)]), (0, (0, [(3, 1)])))]), [(113, 24), (113, 25), (113, 26), (113, 31), (113, 40), (113, 41), (113, 42), (126, 0), (127, 0), (128, 0), (129, 0), (130, 0), (131, 0), (132, 0), (133, 0), (134, 0), (135, 0), (136, 0), (138, 0)], [([(0, 3, 0), (0, 6, 0), (0, 60, 0), (1, 1, 0)], [], [], [], [(115, (0, [(0, 1)]), (0, (0, [(2, 1)]))), (143, (0, [(0, 1)]), (0, (0, [(3, 1)])))])])
def x_u296_0 : b_Cu := (7, ([(0, 3, 0), (0, 6, 0), (0, 60, 0), (1, 1, 0), (0, 41, 0)], [], [(0, (2, (113, []))), (1, (0, (0, [(0, 1)]))), (2, (0, (0, [(1, 1)]))), (3, (0, (0, [(4, 1)])))], [], [(115, (0, [(0, 1)]), (0, (0, [(2, 1)]))), (143, (0, [(0, 1)]), (0, (0, [(3, 1)])))]), (1503, [(4, (-18))]))
def x_u296_1 : b_Cu := (51, ([(0, 3, 0), (0, 6, 0), (0, 60, 0), (1, 1, 0), (0, 40, 0), (0, 8, 0)], [], [(0, (2, (113, []))), (1, (0, (0, [(0, 1)]))), (2, (0, (0, [(1, 1)]))), (3, (0, (0, [(4, 1)]))), (4, (0, (0, [(5, 1)])))], [], [(115, (0, [(0, 1)]), (0, (0, [(2, 1)]))), (143, (0, [(0, 1)]), (0, (0, [(3, 1)])))]), (1502, [(4, (-18)), (5, (-1))]))
def x_u296_2 : b_Cu := (105, ([(0, 3, 0), (0, 6, 0), (0, 60, 0), (1, 1, 0), (0, 8, 0)], [], [(0, (2, (113, []))), (3, (0, (0, [(4, 1)])))], [], [(115, (0, [(0, 1)]), (0, (0, [(2, 1)]))), (143, (0, [(0, 1)]), (0, (0, [(3, 1)])))]), (144, [(4, (-18))]))
def x_u296 : List b_Cu := [x_u296_0, x_u296_1, x_u296_2]
-- M.laysSeen, 130 steps
theorem x_z296 : b_chk0 x_T x_k296 x_u296 = true := by decide +kernel
theorem x_e296 : b_chkE x_F x_T x_Z x_dep x_hn [x_k228, x_k234, x_k293, x_k294, x_k295] x_k296 x_u296 190 = true := by decide +kernel
theorem x_c296_0 : b_chkC x_F x_T x_Z x_dep x_hn [x_k228, x_k234, x_k293, x_k294, x_k295] x_k296 x_u296 190 x_u296_0 = true := by decide +kernel
theorem x_c296_1 : b_chkC x_F x_T x_Z x_dep x_hn [x_k228, x_k234, x_k293, x_k294, x_k295] x_k296 x_u296 190 x_u296_1 = true := by decide +kernel
theorem x_c296_2 : b_chkC x_F x_T x_Z x_dep x_hn [x_k228, x_k234, x_k293, x_k294, x_k295] x_k296 x_u296 190 x_u296_2 = true := by decide +kernel
theorem x_v296 {N : Int} {fz : List (List Int32)} (hZ : b_ZOk x_Z (x_G N) fz) : b_Valid x_F fz x_T (x_G N) x_k296 := b_valid (x_gOk N) x_depOk hZ x_hn_ok (Γ := [x_k228, x_k234, x_k293, x_k294, x_k295]) (List.forall_mem_cons.mpr ⟨x_v228 hZ, List.forall_mem_cons.mpr ⟨x_v234 hZ, List.forall_mem_cons.mpr ⟨x_v293 hZ, List.forall_mem_cons.mpr ⟨x_v294 hZ, List.forall_mem_cons.mpr ⟨x_v295 hZ, fun _ h => absurd h List.not_mem_nil⟩⟩⟩⟩⟩) x_z296 x_e296 (List.forall_mem_cons.mpr ⟨x_c296_0, List.forall_mem_cons.mpr ⟨x_c296_1, List.forall_mem_cons.mpr ⟨x_c296_2, fun _ h => absurd h List.not_mem_nil⟩⟩⟩)
def x_k297 : b_K := (331, 6, ([((-2147483648), 2147483647, 0), ((-2147483648), 2147483647, 0)], [], [], [(2, (113, [])), (0, (0, [(0, 1)])), (0, (0, [(1, 1)]))], []), [(113, 1), (113, 24), (113, 25), (113, 26), (113, 31), (113, 40), (113, 41), (113, 42), (126, 0), (127, 0), (128, 0), (129, 0), (130, 0), (131, 0), (132, 0), (133, 0), (134, 0), (135, 0), (136, 0), (138, 0)], [([((-2147483648), 2147483647, 0), ((-2147483648), 2147483647, 0), ((-2147483648), 2147483647, 0)], [], [], [(0, (0, [(2, 1)]))], [])])
def x_u297 : List b_Cu := []
-- M.fits, 73 steps
theorem x_z297 : b_chk0 x_T x_k297 x_u297 = true := by decide +kernel
theorem x_e297 : b_chkE x_F x_T x_Z x_dep x_hn [x_k292, x_k296, x_k294] x_k297 x_u297 133 = true := by decide +kernel
theorem x_v297 {N : Int} {fz : List (List Int32)} (hZ : b_ZOk x_Z (x_G N) fz) : b_Valid x_F fz x_T (x_G N) x_k297 := b_valid (x_gOk N) x_depOk hZ x_hn_ok (Γ := [x_k292, x_k296, x_k294]) (List.forall_mem_cons.mpr ⟨x_v292 hZ, List.forall_mem_cons.mpr ⟨x_v296 hZ, List.forall_mem_cons.mpr ⟨x_v294 hZ, fun _ h => absurd h List.not_mem_nil⟩⟩⟩) x_z297 x_e297 (fun _ h => absurd h List.not_mem_nil)
def x_k298 : b_K := (338, 6, ([((-2147483648), 2147483647, 0), ((-2147483648), 2147483647, 0)], [], [], [(2, (113, [])), (0, (0, [(0, 1)])), (0, (0, [(1, 1)]))], []), [(113, 1), (113, 24), (113, 25), (113, 26), (113, 31), (113, 40), (113, 41), (113, 42), (126, 0), (127, 0), (128, 0), (129, 0), (130, 0), (131, 0), (132, 0), (133, 0), (134, 0), (135, 0), (136, 0), (138, 0)], [([((-2147483648), 2147483647, 0), ((-2147483648), 2147483647, 0), ((-6), 40, 0)], [], [], [(0, (0, [(2, 1)]))], [])])
def x_u298_0 : b_Cu := (31, ([(0, 3, 0), (0, 6, 0), (0, 41, 0)], [], [(0, (2, (113, []))), (4, (0, (0, [(2, 1)])))], [], []), (41, [(2, (-1))]))
def x_u298 : List b_Cu := [x_u298_0]
-- M.low, 105 steps
theorem x_z298 : b_chk0 x_T x_k298 x_u298 = true := by decide +kernel
theorem x_e298 : b_chkE x_F x_T x_Z x_dep x_hn [x_k292, x_k296] x_k298 x_u298 165 = true := by decide +kernel
theorem x_c298_0 : b_chkC x_F x_T x_Z x_dep x_hn [x_k292, x_k296] x_k298 x_u298 165 x_u298_0 = true := by decide +kernel
theorem x_v298 {N : Int} {fz : List (List Int32)} (hZ : b_ZOk x_Z (x_G N) fz) : b_Valid x_F fz x_T (x_G N) x_k298 := b_valid (x_gOk N) x_depOk hZ x_hn_ok (Γ := [x_k292, x_k296]) (List.forall_mem_cons.mpr ⟨x_v292 hZ, List.forall_mem_cons.mpr ⟨x_v296 hZ, fun _ h => absurd h List.not_mem_nil⟩⟩) x_z298 x_e298 (List.forall_mem_cons.mpr ⟨x_c298_0, fun _ h => absurd h List.not_mem_nil⟩)
def x_k299 : b_K := (339, 6, ([((-2147483648), 2147483647, 0), ((-2147483648), 2147483647, 0)], [], [], [(2, (113, [])), (0, (0, [(0, 1)])), (0, (0, [(1, 1)]))], []), [(113, 1), (113, 24), (113, 25), (113, 26), (113, 31), (113, 40), (113, 41), (113, 42), (126, 0), (127, 0), (128, 0), (129, 0), (130, 0), (131, 0), (132, 0), (133, 0), (134, 0), (135, 0), (136, 0), (138, 0)], [([((-2147483648), 2147483647, 0), ((-2147483648), 2147483647, 0), ((-6), 40, 0)], [], [], [(0, (0, [(2, 1)]))], [])])
def x_u299_0 : b_Cu := (32, ([(0, 3, 0), (0, 6, 0), ((-1), 40, 0)], [], [(0, (2, (113, []))), (4, (0, (0, [(2, 1)])))], [], []), (1, [(2, 1)]))
def x_u299 : List b_Cu := [x_u299_0]
-- M.high, 104 steps
theorem x_z299 : b_chk0 x_T x_k299 x_u299 = true := by decide +kernel
theorem x_e299 : b_chkE x_F x_T x_Z x_dep x_hn [x_k292, x_k296] x_k299 x_u299 164 = true := by decide +kernel
theorem x_c299_0 : b_chkC x_F x_T x_Z x_dep x_hn [x_k292, x_k296] x_k299 x_u299 164 x_u299_0 = true := by decide +kernel
theorem x_v299 {N : Int} {fz : List (List Int32)} (hZ : b_ZOk x_Z (x_G N) fz) : b_Valid x_F fz x_T (x_G N) x_k299 := b_valid (x_gOk N) x_depOk hZ x_hn_ok (Γ := [x_k292, x_k296]) (List.forall_mem_cons.mpr ⟨x_v292 hZ, List.forall_mem_cons.mpr ⟨x_v296 hZ, fun _ h => absurd h List.not_mem_nil⟩⟩) x_z299 x_e299 (List.forall_mem_cons.mpr ⟨x_c299_0, fun _ h => absurd h List.not_mem_nil⟩)
def x_k300 : b_K := (340, 6, ([((-2147483648), 2147483647, 0), ((-2147483648), 2147483647, 0)], [], [], [(2, (113, [])), (0, (0, [(0, 1)])), (0, (0, [(1, 1)]))], []), [(113, 1), (113, 24), (113, 25), (113, 26), (113, 31), (113, 40), (113, 41), (113, 42), (126, 0), (127, 0), (128, 0), (129, 0), (130, 0), (131, 0), (132, 0), (133, 0), (134, 0), (135, 0), (136, 0), (138, 0)], [([((-2147483648), 2147483647, 0), ((-2147483648), 2147483647, 0), ((-6), 7, 0)], [], [], [(0, (0, [(2, 1)]))], [])])
def x_u300 : List b_Cu := []
-- M.ask, 73 steps
theorem x_z300 : b_chk0 x_T x_k300 x_u300 = true := by decide +kernel
theorem x_e300 : b_chkE x_F x_T x_Z x_dep x_hn [x_k292, x_k296] x_k300 x_u300 133 = true := by decide +kernel
theorem x_v300 {N : Int} {fz : List (List Int32)} (hZ : b_ZOk x_Z (x_G N) fz) : b_Valid x_F fz x_T (x_G N) x_k300 := b_valid (x_gOk N) x_depOk hZ x_hn_ok (Γ := [x_k292, x_k296]) (List.forall_mem_cons.mpr ⟨x_v292 hZ, List.forall_mem_cons.mpr ⟨x_v296 hZ, fun _ h => absurd h List.not_mem_nil⟩⟩) x_z300 x_e300 (fun _ h => absurd h List.not_mem_nil)
def x_k301 : b_K := (341, 6, ([((-2147483648), 2147483647, 0), ((-2147483648), 2147483647, 0)], [], [], [(2, (113, [])), (0, (0, [(0, 1)])), (0, (0, [(1, 1)]))], []), [(113, 1), (113, 24), (113, 25), (113, 26), (113, 31), (113, 40), (113, 41), (113, 42), (126, 0), (127, 0), (128, 0), (129, 0), (130, 0), (131, 0), (132, 0), (133, 0), (134, 0), (135, 0), (136, 0), (138, 0)], [([((-2147483648), 2147483647, 0), ((-2147483648), 2147483647, 0), ((-2147483648), 2147483647, 0)], [], [], [(0, (0, [(2, 1)]))], [])])
def x_u301 : List b_Cu := []
-- M.leaves, 73 steps
theorem x_z301 : b_chk0 x_T x_k301 x_u301 = true := by decide +kernel
theorem x_e301 : b_chkE x_F x_T x_Z x_dep x_hn [x_k292, x_k296] x_k301 x_u301 133 = true := by decide +kernel
theorem x_v301 {N : Int} {fz : List (List Int32)} (hZ : b_ZOk x_Z (x_G N) fz) : b_Valid x_F fz x_T (x_G N) x_k301 := b_valid (x_gOk N) x_depOk hZ x_hn_ok (Γ := [x_k292, x_k296]) (List.forall_mem_cons.mpr ⟨x_v292 hZ, List.forall_mem_cons.mpr ⟨x_v296 hZ, fun _ h => absurd h List.not_mem_nil⟩⟩) x_z301 x_e301 (fun _ h => absurd h List.not_mem_nil)
def x_k302 : b_K := (342, 6, ([((-2147483648), 2147483647, 0)], [], [], [(2, (113, [])), (0, (0, [(0, 1)]))], []), [(113, 1), (113, 24), (113, 25), (113, 26), (113, 31), (126, 0), (127, 0), (128, 0), (129, 0), (130, 0), (131, 0), (132, 0), (133, 0), (134, 0), (135, 0), (136, 0)], [([((-2147483648), 2147483647, 0), ((-2147483648), 2147483647, 0)], [], [], [(0, (0, [(1, 1)]))], [])])
def x_u302_0 : b_Cu := (23, ([(0, 3, 0), ((-2147483648), 2147483647, 0), (0, 4, 0), (0, 60, 0)], [], [(0, (2, (113, []))), (1, (0, (0, [(0, 1)]))), (3, (0, (0, [(1, 1)]))), (4, (0, (0, [(2, 1)])))], [], [(143, (0, [(0, 1)]), (0, (1, []))), (115, (0, [(0, 1)]), (0, (0, [(3, 1)])))]), (4, [(2, (-1))]))
def x_u302 : List b_Cu := [x_u302_0]
-- M.laws, 62 steps
theorem x_z302 : b_chk0 x_T x_k302 x_u302 = true := by decide +kernel
theorem x_e302 : b_chkE x_F x_T x_Z x_dep x_hn [x_k292, x_k228, x_k234, x_k258, x_k293] x_k302 x_u302 122 = true := by decide +kernel
theorem x_c302_0 : b_chkC x_F x_T x_Z x_dep x_hn [x_k292, x_k228, x_k234, x_k258, x_k293] x_k302 x_u302 122 x_u302_0 = true := by decide +kernel
theorem x_v302 {N : Int} {fz : List (List Int32)} (hZ : b_ZOk x_Z (x_G N) fz) : b_Valid x_F fz x_T (x_G N) x_k302 := b_valid (x_gOk N) x_depOk hZ x_hn_ok (Γ := [x_k292, x_k228, x_k234, x_k258, x_k293]) (List.forall_mem_cons.mpr ⟨x_v292 hZ, List.forall_mem_cons.mpr ⟨x_v228 hZ, List.forall_mem_cons.mpr ⟨x_v234 hZ, List.forall_mem_cons.mpr ⟨x_v258 hZ, List.forall_mem_cons.mpr ⟨x_v293 hZ, fun _ h => absurd h List.not_mem_nil⟩⟩⟩⟩⟩) x_z302 x_e302 (List.forall_mem_cons.mpr ⟨x_c302_0, fun _ h => absurd h List.not_mem_nil⟩)
def x_k303 : b_K := (344, 6, ([((-2147483648), 2147483647, 0)], [], [], [(2, (113, [])), (0, (0, [(0, 1)]))], []), [(113, 1), (113, 24), (113, 25), (113, 26), (113, 31), (126, 0), (127, 0), (128, 0), (129, 0), (130, 0), (131, 0), (132, 0), (133, 0), (134, 0), (135, 0), (136, 0)], [([((-2147483648), 2147483647, 0), ((-2147483648), 2147483647, 0)], [], [], [(0, (0, [(1, 1)]))], [])])
def x_u303 : List b_Cu := []
-- M.by, 61 steps
theorem x_z303 : b_chk0 x_T x_k303 x_u303 = true := by decide +kernel
theorem x_e303 : b_chkE x_F x_T x_Z x_dep x_hn [x_k228, x_k234, x_k258] x_k303 x_u303 121 = true := by decide +kernel
theorem x_v303 {N : Int} {fz : List (List Int32)} (hZ : b_ZOk x_Z (x_G N) fz) : b_Valid x_F fz x_T (x_G N) x_k303 := b_valid (x_gOk N) x_depOk hZ x_hn_ok (Γ := [x_k228, x_k234, x_k258]) (List.forall_mem_cons.mpr ⟨x_v228 hZ, List.forall_mem_cons.mpr ⟨x_v234 hZ, List.forall_mem_cons.mpr ⟨x_v258 hZ, fun _ h => absurd h List.not_mem_nil⟩⟩⟩) x_z303 x_e303 (fun _ h => absurd h List.not_mem_nil)
def x_k304 : b_K := (345, 6, ([], [], [], [(2, (113, []))], []), [(113, 1), (113, 24), (113, 25), (113, 26), (113, 31), (126, 0), (127, 0), (128, 0), (129, 0), (130, 0), (131, 0), (132, 0), (133, 0), (134, 0), (135, 0), (136, 0)], [([((-2), 3, 0)], [], [], [(0, (0, [(0, 1)]))], [])])
def x_u304_0 : b_Cu := (19, ([(0, 3, 0), (1, 4, 0)], [], [(0, (2, (113, []))), (1, (0, (0, [(0, 1)]))), (2, (0, (0, [(1, 1)])))], [], []), (4, [(1, (-1))]))
def x_u304 : List b_Cu := [x_u304_0]
-- M.law, 61 steps
theorem x_z304 : b_chk0 x_T x_k304 x_u304 = true := by decide +kernel
theorem x_e304 : b_chkE x_F x_T x_Z x_dep x_hn [x_k228, x_k234, x_k258] x_k304 x_u304 121 = true := by decide +kernel
theorem x_c304_0 : b_chkC x_F x_T x_Z x_dep x_hn [x_k228, x_k234, x_k258] x_k304 x_u304 121 x_u304_0 = true := by decide +kernel
theorem x_v304 {N : Int} {fz : List (List Int32)} (hZ : b_ZOk x_Z (x_G N) fz) : b_Valid x_F fz x_T (x_G N) x_k304 := b_valid (x_gOk N) x_depOk hZ x_hn_ok (Γ := [x_k228, x_k234, x_k258]) (List.forall_mem_cons.mpr ⟨x_v228 hZ, List.forall_mem_cons.mpr ⟨x_v234 hZ, List.forall_mem_cons.mpr ⟨x_v258 hZ, fun _ h => absurd h List.not_mem_nil⟩⟩⟩) x_z304 x_e304 (List.forall_mem_cons.mpr ⟨x_c304_0, fun _ h => absurd h List.not_mem_nil⟩)
def x_k305 : b_K := (346, 6, ([((-2147483648), 2147483647, 0)], [], [], [(2, (113, [])), (0, (0, [(0, 1)]))], []), [(113, 1), (113, 24), (113, 25), (113, 26), (113, 31), (126, 0), (127, 0), (128, 0), (129, 0), (130, 0), (131, 0), (132, 0), (133, 0), (134, 0), (135, 0), (136, 0)], [([((-2147483648), 2147483647, 0), ((-2147483648), 2147483647, 0)], [], [], [(0, (0, [(1, 1)]))], [])])
def x_u305 : List b_Cu := []
-- M.worth, 86 steps
theorem x_z305 : b_chk0 x_T x_k305 x_u305 = true := by decide +kernel
theorem x_e305 : b_chkE x_F x_T x_Z x_dep x_hn [x_k228, x_k234, x_k258] x_k305 x_u305 146 = true := by decide +kernel
theorem x_v305 {N : Int} {fz : List (List Int32)} (hZ : b_ZOk x_Z (x_G N) fz) : b_Valid x_F fz x_T (x_G N) x_k305 := b_valid (x_gOk N) x_depOk hZ x_hn_ok (Γ := [x_k228, x_k234, x_k258]) (List.forall_mem_cons.mpr ⟨x_v228 hZ, List.forall_mem_cons.mpr ⟨x_v234 hZ, List.forall_mem_cons.mpr ⟨x_v258 hZ, fun _ h => absurd h List.not_mem_nil⟩⟩⟩) x_z305 x_e305 (fun _ h => absurd h List.not_mem_nil)
def x_k306 : b_K := (350, 1, ([((-1), 1, 0)], [], [], [(0, (0, [(0, 1)]))], []), [], [([((-1), 1, 0)], [], [], [(0, (1, []))], [])])
def x_u306 : List b_Cu := []
-- M.times, 6 steps
theorem x_z306 : b_chk0 x_T x_k306 x_u306 = true := by decide +kernel
theorem x_e306 : b_chkE x_F x_T x_Z x_dep x_hn [] x_k306 x_u306 120 = true := by decide +kernel
theorem x_v306 {N : Int} {fz : List (List Int32)} (hZ : b_ZOk x_Z (x_G N) fz) : b_Valid x_F fz x_T (x_G N) x_k306 := b_valid (x_gOk N) x_depOk hZ x_hn_ok (Γ := []) (fun _ h => absurd h List.not_mem_nil) x_z306 x_e306 (fun _ h => absurd h List.not_mem_nil)
def x_k307 : b_K := (350, 2, ([(2, 2, 0)], [], [], [(0, (0, [(0, 1)]))], []), [], [([(2, 2, 0)], [], [], [(0, (2, []))], [])])
def x_u307 : List b_Cu := []
-- M.times, 10 steps
theorem x_z307 : b_chk0 x_T x_k307 x_u307 = true := by decide +kernel
theorem x_e307 : b_chkE x_F x_T x_Z x_dep x_hn [x_k306] x_k307 x_u307 120 = true := by decide +kernel
theorem x_v307 {N : Int} {fz : List (List Int32)} (hZ : b_ZOk x_Z (x_G N) fz) : b_Valid x_F fz x_T (x_G N) x_k307 := b_valid (x_gOk N) x_depOk hZ x_hn_ok (Γ := [x_k306]) (List.forall_mem_cons.mpr ⟨x_v306 hZ, fun _ h => absurd h List.not_mem_nil⟩) x_z307 x_e307 (fun _ h => absurd h List.not_mem_nil)
def x_k308 : b_K := (350, 3, ([(3, 3, 0)], [], [], [(0, (0, [(0, 1)]))], []), [], [([(3, 3, 0)], [], [], [(0, (6, []))], [])])
def x_u308 : List b_Cu := []
-- M.times, 10 steps
theorem x_z308 : b_chk0 x_T x_k308 x_u308 = true := by decide +kernel
theorem x_e308 : b_chkE x_F x_T x_Z x_dep x_hn [x_k307] x_k308 x_u308 120 = true := by decide +kernel
theorem x_v308 {N : Int} {fz : List (List Int32)} (hZ : b_ZOk x_Z (x_G N) fz) : b_Valid x_F fz x_T (x_G N) x_k308 := b_valid (x_gOk N) x_depOk hZ x_hn_ok (Γ := [x_k307]) (List.forall_mem_cons.mpr ⟨x_v307 hZ, fun _ h => absurd h List.not_mem_nil⟩) x_z308 x_e308 (fun _ h => absurd h List.not_mem_nil)
def x_k309 : b_K := (350, 4, ([(4, 4, 0)], [], [], [(0, (0, [(0, 1)]))], []), [], [([(4, 4, 0)], [], [], [(0, (24, []))], [])])
def x_u309 : List b_Cu := []
-- M.times, 10 steps
theorem x_z309 : b_chk0 x_T x_k309 x_u309 = true := by decide +kernel
theorem x_e309 : b_chkE x_F x_T x_Z x_dep x_hn [x_k308] x_k309 x_u309 120 = true := by decide +kernel
theorem x_v309 {N : Int} {fz : List (List Int32)} (hZ : b_ZOk x_Z (x_G N) fz) : b_Valid x_F fz x_T (x_G N) x_k309 := b_valid (x_gOk N) x_depOk hZ x_hn_ok (Γ := [x_k308]) (List.forall_mem_cons.mpr ⟨x_v308 hZ, fun _ h => absurd h List.not_mem_nil⟩) x_z309 x_e309 (fun _ h => absurd h List.not_mem_nil)
def x_k310 : b_K := (350, 5, ([(5, 5, 0)], [], [], [(0, (0, [(0, 1)]))], []), [], [([(5, 5, 0)], [], [], [(0, (120, []))], [])])
def x_u310 : List b_Cu := []
-- M.times, 10 steps
theorem x_z310 : b_chk0 x_T x_k310 x_u310 = true := by decide +kernel
theorem x_e310 : b_chkE x_F x_T x_Z x_dep x_hn [x_k309] x_k310 x_u310 120 = true := by decide +kernel
theorem x_v310 {N : Int} {fz : List (List Int32)} (hZ : b_ZOk x_Z (x_G N) fz) : b_Valid x_F fz x_T (x_G N) x_k310 := b_valid (x_gOk N) x_depOk hZ x_hn_ok (Γ := [x_k309]) (List.forall_mem_cons.mpr ⟨x_v309 hZ, fun _ h => absurd h List.not_mem_nil⟩) x_z310 x_e310 (fun _ h => absurd h List.not_mem_nil)
def x_k311 : b_K := (350, 6, ([(6, 6, 0)], [], [], [(0, (0, [(0, 1)]))], []), [], [([(6, 6, 0)], [], [], [(0, (720, []))], [])])
def x_u311 : List b_Cu := []
-- M.times, 10 steps
theorem x_z311 : b_chk0 x_T x_k311 x_u311 = true := by decide +kernel
theorem x_e311 : b_chkE x_F x_T x_Z x_dep x_hn [x_k310] x_k311 x_u311 120 = true := by decide +kernel
theorem x_v311 {N : Int} {fz : List (List Int32)} (hZ : b_ZOk x_Z (x_G N) fz) : b_Valid x_F fz x_T (x_G N) x_k311 := b_valid (x_gOk N) x_depOk hZ x_hn_ok (Γ := [x_k310]) (List.forall_mem_cons.mpr ⟨x_v310 hZ, fun _ h => absurd h List.not_mem_nil⟩) x_z311 x_e311 (fun _ h => absurd h List.not_mem_nil)
def x_k312 : b_K := (352, 45, ([((-9223372036854775808), 9223372036854775807, 0), (1, 100000000, 0)], [], [], [(1, (0, [(0, 1)])), (1, (0, [(1, 1)]))], []), [], [([((-9223372036854775808), 9223372036854775807, 0), (1, 100000000, 0), (1, 100000000, 0)], [], [], [(1, (0, [(2, 1)]))], [])])
-- HAND M.common
