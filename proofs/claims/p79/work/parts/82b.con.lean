/-! contracts and their checks (by program, cert3.py) -/
def x_k93 : b_K := (98, 2, ([], [], [], [(2, (0, []))], []), [], [([((-2), 6, 0)], [], [], [(0, (0, [(0, 1)]))], [])])
def x_u93_0 : b_Cu := (17, ([((-1), 6, 0), (0, 7, 0)], [], [(0, (2, (0, []))), (1, (0, (0, [(0, 1)]))), (2, (0, (0, [(1, 1)])))], [], []), (7, [(1, (-1))]))
def x_u93 : List b_Cu := [x_u93_0]
-- B.busy, 72 steps
theorem x_z93 : b_chk0 x_T x_k93 x_u93 = true := by decide +kernel
theorem x_e93 : b_chkE x_F x_T x_Z x_dep x_hn [] x_k93 x_u93 132 = true := by decide +kernel
theorem x_c93_0 : b_chkC x_F x_T x_Z x_dep x_hn [] x_k93 x_u93 132 x_u93_0 = true := by decide +kernel
theorem x_v93 {N : Int} {fz : List (List Int32)} (hZ : b_ZOk x_Z (x_G N) fz) : b_Valid x_F fz x_T (x_G N) x_k93 := b_valid (x_gOk N) x_depOk hZ x_hn_ok (Γ := []) (fun _ h => absurd h List.not_mem_nil) x_z93 x_e93 (List.forall_mem_cons.mpr ⟨x_c93_0, fun _ h => absurd h List.not_mem_nil⟩)
def x_k94 : b_K := (99, 2, ([], [], [], [(2, (0, []))], []), [], [([((-2147483648), 2147483647, 0)], [], [], [(0, (0, [(0, 1)]))], [])])
def x_u94_0 : b_Cu := (17, ([((-2147483648), 2147483647, 0), (0, 7, 0)], [], [(0, (2, (0, []))), (1, (0, (0, [(0, 1)]))), (2, (0, (0, [(1, 1)])))], [], []), (7, [(1, (-1))]))
def x_u94 : List b_Cu := [x_u94_0]
-- B.idle, 62 steps
theorem x_z94 : b_chk0 x_T x_k94 x_u94 = true := by decide +kernel
theorem x_e94 : b_chkE x_F x_T x_Z x_dep x_hn [] x_k94 x_u94 122 = true := by decide +kernel
theorem x_c94_0 : b_chkC x_F x_T x_Z x_dep x_hn [] x_k94 x_u94 122 x_u94_0 = true := by decide +kernel
theorem x_v94 {N : Int} {fz : List (List Int32)} (hZ : b_ZOk x_Z (x_G N) fz) : b_Valid x_F fz x_T (x_G N) x_k94 := b_valid (x_gOk N) x_depOk hZ x_hn_ok (Γ := []) (fun _ h => absurd h List.not_mem_nil) x_z94 x_e94 (List.forall_mem_cons.mpr ⟨x_c94_0, fun _ h => absurd h List.not_mem_nil⟩)
def x_k95 : b_K := (102, 1, ([(0, 13, 0)], [], [], [(2, (23, [])), (0, (0, [(0, 1)]))], []), [], [([(0, 13, 0), ((-2147483648), 2147483647, 0)], [], [], [(0, (0, [(1, 1)]))], [])])
def x_u95_0 : b_Cu := (4, ([(0, 13, 0), ((-2147483648), 2147483647, 0), (0, 28, 0)], [], [(0, (2, (23, []))), (1, (0, (0, [(0, 1)]))), (2, (0, (0, [(1, 1)]))), (3, (0, (0, [(2, 1)])))], [], []), (28, [(2, (-1))]))
def x_u95 : List b_Cu := [x_u95_0]
-- Court.hearingsOn, 28 steps
theorem x_z95 : b_chk0 x_T x_k95 x_u95 = true := by decide +kernel
theorem x_e95 : b_chkE x_F x_T x_Z x_dep x_hn [] x_k95 x_u95 120 = true := by decide +kernel
theorem x_c95_0 : b_chkC x_F x_T x_Z x_dep x_hn [] x_k95 x_u95 120 x_u95_0 = true := by decide +kernel
theorem x_v95 {N : Int} {fz : List (List Int32)} (hZ : b_ZOk x_Z (x_G N) fz) : b_Valid x_F fz x_T (x_G N) x_k95 := b_valid (x_gOk N) x_depOk hZ x_hn_ok (Γ := []) (fun _ h => absurd h List.not_mem_nil) x_z95 x_e95 (List.forall_mem_cons.mpr ⟨x_c95_0, fun _ h => absurd h List.not_mem_nil⟩)
def x_k96 : b_K := (100, 2, ([((-2147483648), 2147483647, 0)], [], [], [(2, (0, [])), (0, (0, [(0, 1)]))], []), [], [([((-2147483648), 2147483647, 0), ((-2147483648), 2147483647, 0)], [], [], [(0, (0, [(1, 1)]))], [])])
def x_u96 : List b_Cu := []
-- B.docket, 30 steps
theorem x_z96 : b_chk0 x_T x_k96 x_u96 = true := by decide +kernel
theorem x_e96 : b_chkE x_F x_T x_Z x_dep x_hn [x_k95] x_k96 x_u96 120 = true := by decide +kernel
theorem x_v96 {N : Int} {fz : List (List Int32)} (hZ : b_ZOk x_Z (x_G N) fz) : b_Valid x_F fz x_T (x_G N) x_k96 := b_valid (x_gOk N) x_depOk hZ x_hn_ok (Γ := [x_k95]) (List.forall_mem_cons.mpr ⟨x_v95 hZ, fun _ h => absurd h List.not_mem_nil⟩) x_z96 x_e96 (fun _ h => absurd h List.not_mem_nil)
def x_k97 : b_K := (103, 2, ([((-2147483648), 2147483647, 0)], [], [], [(2, (0, [])), (0, (0, [(0, 1)]))], []), [], [([((-2147483648), 2147483647, 0), ((-1000), 60, 0)], [], [], [(0, (0, [(1, 1)]))], [])])
def x_u97 : List b_Cu := []
-- B.rise, 47 steps
theorem x_z97 : b_chk0 x_T x_k97 x_u97 = true := by decide +kernel
theorem x_e97 : b_chkE x_F x_T x_Z x_dep x_hn [] x_k97 x_u97 120 = true := by decide +kernel
theorem x_v97 {N : Int} {fz : List (List Int32)} (hZ : b_ZOk x_Z (x_G N) fz) : b_Valid x_F fz x_T (x_G N) x_k97 := b_valid (x_gOk N) x_depOk hZ x_hn_ok (Γ := []) (fun _ h => absurd h List.not_mem_nil) x_z97 x_e97 (fun _ h => absurd h List.not_mem_nil)
def x_k98 : b_K := (104, 3, ([((-2147483648), 2147483647, 0)], [], [], [(2, (0, [])), (0, (0, [(0, 1)]))], []), [], [([((-2147483648), 2147483647, 0), ((-2147483648), 2147483647, 0)], [], [], [(0, (0, [(1, 1)]))], [])])
def x_u98_0 : b_Cu := (15, ([(0, 14, 0), ((-2147483648), 2147483647, 0), (0, 8, 0)], [], [(0, (2, (0, []))), (1, (0, (0, [(0, 1)]))), (2, (0, (0, [(1, 1)]))), (3, (0, (0, [(2, 1)])))], [], []), (8, [(2, (-1))]))
def x_u98 : List b_Cu := [x_u98_0]
-- B.writers, 73 steps
theorem x_z98 : b_chk0 x_T x_k98 x_u98 = true := by decide +kernel
theorem x_e98 : b_chkE x_F x_T x_Z x_dep x_hn [x_k82] x_k98 x_u98 133 = true := by decide +kernel
theorem x_c98_0 : b_chkC x_F x_T x_Z x_dep x_hn [x_k82] x_k98 x_u98 133 x_u98_0 = true := by decide +kernel
theorem x_v98 {N : Int} {fz : List (List Int32)} (hZ : b_ZOk x_Z (x_G N) fz) : b_Valid x_F fz x_T (x_G N) x_k98 := b_valid (x_gOk N) x_depOk hZ x_hn_ok (Γ := [x_k82]) (List.forall_mem_cons.mpr ⟨x_v82 hZ, fun _ h => absurd h List.not_mem_nil⟩) x_z98 x_e98 (List.forall_mem_cons.mpr ⟨x_c98_0, fun _ h => absurd h List.not_mem_nil⟩)
def x_k99 : b_K := (106, 3, ([(0, 6, 0), ((-1), 1, 0)], [], [], [(2, (23, [])), (0, (0, [(0, 1)])), (0, (0, [(1, 1)]))], []), [], [([(0, 6, 0), ((-1), 1, 0), ((-2147483648), 2147483647, 0)], [], [], [(0, (0, [(2, 1)]))], [])])
def x_u99_0 : b_Cu := (5, ([(0, 6, 0), ((-1), 1, 0), ((-2147483648), 2147483647, 0), (0, 28, 0)], [], [(0, (2, (23, []))), (1, (0, (0, [(0, 1)]))), (2, (0, (0, [(1, 1)]))), (3, (0, (0, [(2, 1)]))), (4, (0, (0, [(3, 1)])))], [], []), (228, [(3, (-8))]))
def x_u99_1 : b_Cu := (29, ([(0, 6, 0), ((-1), 1, 0), ((-2147483648), 2147483647, 0), (0, 27, 0), ((-1), 2147483647, 0), ((-2147483648), 2147483647, 0), (0, 3, 0)], [], [(0, (2, (23, []))), (1, (0, (0, [(0, 1)]))), (2, (0, (0, [(1, 1)]))), (3, (0, (0, [(2, 1)]))), (4, (0, (0, [(3, 1)]))), (5, (0, (0, [(4, 1)]))), (6, (0, (0, [(5, 1)]))), (7, (0, (0, [(6, 1)])))], [], []), (227, [(3, (-8)), (6, (-1))]))
def x_u99 : List b_Cu := [x_u99_0, x_u99_1]
-- Court.timesBeyondOthers, 223 steps
theorem x_z99 : b_chk0 x_T x_k99 x_u99 = true := by decide +kernel
theorem x_e99 : b_chkE x_F x_T x_Z x_dep x_hn [] x_k99 x_u99 283 = true := by decide +kernel
theorem x_c99_0 : b_chkC x_F x_T x_Z x_dep x_hn [] x_k99 x_u99 283 x_u99_0 = true := by decide +kernel
theorem x_c99_1 : b_chkC x_F x_T x_Z x_dep x_hn [] x_k99 x_u99 283 x_u99_1 = true := by decide +kernel
theorem x_v99 {N : Int} {fz : List (List Int32)} (hZ : b_ZOk x_Z (x_G N) fz) : b_Valid x_F fz x_T (x_G N) x_k99 := b_valid (x_gOk N) x_depOk hZ x_hn_ok (Γ := []) (fun _ h => absurd h List.not_mem_nil) x_z99 x_e99 (List.forall_mem_cons.mpr ⟨x_c99_0, List.forall_mem_cons.mpr ⟨x_c99_1, fun _ h => absurd h List.not_mem_nil⟩⟩)
def x_k100 : b_K := (105, 4, ([((-2147483648), 2147483647, 0)], [], [], [(2, (0, [])), (0, (0, [(0, 1)]))], []), [], [([((-2147483648), 2147483647, 0), ((-2147483648), 2147483647, 0)], [], [], [(0, (0, [(1, 1)]))], [])])
def x_u100 : List b_Cu := []
-- B.above, 31 steps
theorem x_z100 : b_chk0 x_T x_k100 x_u100 = true := by decide +kernel
theorem x_e100 : b_chkE x_F x_T x_Z x_dep x_hn [x_k99] x_k100 x_u100 120 = true := by decide +kernel
theorem x_v100 {N : Int} {fz : List (List Int32)} (hZ : b_ZOk x_Z (x_G N) fz) : b_Valid x_F fz x_T (x_G N) x_k100 := b_valid (x_gOk N) x_depOk hZ x_hn_ok (Γ := [x_k99]) (List.forall_mem_cons.mpr ⟨x_v99 hZ, fun _ h => absurd h List.not_mem_nil⟩) x_z100 x_e100 (fun _ h => absurd h List.not_mem_nil)
def x_k101 : b_K := (107, 4, ([((-2147483648), 2147483647, 0)], [], [], [(2, (0, [])), (0, (0, [(0, 1)]))], []), [], [([((-2147483648), 2147483647, 0), ((-2147483648), 2147483647, 0)], [], [], [(0, (0, [(1, 1)]))], [])])
def x_u101 : List b_Cu := []
-- B.below, 31 steps
theorem x_z101 : b_chk0 x_T x_k101 x_u101 = true := by decide +kernel
theorem x_e101 : b_chkE x_F x_T x_Z x_dep x_hn [x_k99] x_k101 x_u101 120 = true := by decide +kernel
theorem x_v101 {N : Int} {fz : List (List Int32)} (hZ : b_ZOk x_Z (x_G N) fz) : b_Valid x_F fz x_T (x_G N) x_k101 := b_valid (x_gOk N) x_depOk hZ x_hn_ok (Γ := [x_k99]) (List.forall_mem_cons.mpr ⟨x_v99 hZ, fun _ h => absurd h List.not_mem_nil⟩) x_z101 x_e101 (fun _ h => absurd h List.not_mem_nil)
def x_k102 : b_K := (108, 4, ([], [], [], [(2, (0, []))], []), [], [([((-2), 7, 0)], [], [], [(0, (0, [(0, 1)]))], [])])
def x_u102_0 : b_Cu := (19, ([((-1), 7, 0), ((-2147483647), 2147483647, 0), (0, 8, 0)], [], [(0, (2, (0, []))), (1, (0, (0, [(0, 1)]))), (2, (0, (0, [(1, 1)]))), (3, (0, (0, [(2, 1)])))], [], []), (8, [(2, (-1))]))
def x_u102 : List b_Cu := [x_u102_0]
-- B.dissent, 313 steps
theorem x_z102 : b_chk0 x_T x_k102 x_u102 = true := by decide +kernel
theorem x_e102 : b_chkE x_F x_T x_Z x_dep x_hn [] x_k102 x_u102 373 = true := by decide +kernel
theorem x_c102_0 : b_chkC x_F x_T x_Z x_dep x_hn [] x_k102 x_u102 373 x_u102_0 = true := by decide +kernel
theorem x_v102 {N : Int} {fz : List (List Int32)} (hZ : b_ZOk x_Z (x_G N) fz) : b_Valid x_F fz x_T (x_G N) x_k102 := b_valid (x_gOk N) x_depOk hZ x_hn_ok (Γ := []) (fun _ h => absurd h List.not_mem_nil) x_z102 x_e102 (List.forall_mem_cons.mpr ⟨x_c102_0, fun _ h => absurd h List.not_mem_nil⟩)
def x_k103 : b_K := (109, 3, ([], [], [], [(2, (0, []))], []), [], [([((-2147483648), 2147483647, 0)], [], [], [(0, (0, [(0, 1)]))], [])])
def x_u103_0 : b_Cu := (17, ([((-2147483648), 2147483647, 0), (0, 8, 0)], [], [(0, (2, (0, []))), (1, (0, (0, [(0, 1)]))), (2, (0, (0, [(1, 1)])))], [], []), (136, [(1, (-16))]))
def x_u103_1 : b_Cu := (32, ([((-2147483648), 2147483647, 0), (0, 7, 0), (1, 8, 0)], [], [(0, (2, (0, []))), (1, (0, (0, [(0, 1)]))), (2, (0, (0, [(1, 1)]))), (3, (0, (0, [(2, 1)])))], [], []), (136, [(1, (-16)), (2, (-1))]))
def x_u103 : List b_Cu := [x_u103_0, x_u103_1]
-- B.same, 344 steps
theorem x_z103 : b_chk0 x_T x_k103 x_u103 = true := by decide +kernel
theorem x_e103 : b_chkE x_F x_T x_Z x_dep x_hn [] x_k103 x_u103 404 = true := by decide +kernel
theorem x_c103_0 : b_chkC x_F x_T x_Z x_dep x_hn [] x_k103 x_u103 404 x_u103_0 = true := by decide +kernel
theorem x_c103_1 : b_chkC x_F x_T x_Z x_dep x_hn [] x_k103 x_u103 404 x_u103_1 = true := by decide +kernel
theorem x_v103 {N : Int} {fz : List (List Int32)} (hZ : b_ZOk x_Z (x_G N) fz) : b_Valid x_F fz x_T (x_G N) x_k103 := b_valid (x_gOk N) x_depOk hZ x_hn_ok (Γ := []) (fun _ h => absurd h List.not_mem_nil) x_z103 x_e103 (List.forall_mem_cons.mpr ⟨x_c103_0, List.forall_mem_cons.mpr ⟨x_c103_1, fun _ h => absurd h List.not_mem_nil⟩⟩)
def x_k104 : b_K := (111, 1, ([(0, 13, 0)], [], [], [(2, (23, [])), (0, (0, [(0, 1)]))], []), [], [([(0, 13, 0), ((-2147483648), 2147483647, 0)], [], [], [(0, (0, [(1, 1)]))], [])])
def x_u104_0 : b_Cu := (4, ([(0, 13, 0), ((-2147483648), 2147483647, 0), (0, 28, 0)], [], [(0, (2, (23, []))), (1, (0, (0, [(0, 1)]))), (2, (0, (0, [(1, 1)]))), (3, (0, (0, [(2, 1)])))], [], []), (28, [(2, (-1))]))
def x_u104 : List b_Cu := [x_u104_0]
-- Court.sentencesOn, 31 steps
theorem x_z104 : b_chk0 x_T x_k104 x_u104 = true := by decide +kernel
theorem x_e104 : b_chkE x_F x_T x_Z x_dep x_hn [] x_k104 x_u104 120 = true := by decide +kernel
theorem x_c104_0 : b_chkC x_F x_T x_Z x_dep x_hn [] x_k104 x_u104 120 x_u104_0 = true := by decide +kernel
theorem x_v104 {N : Int} {fz : List (List Int32)} (hZ : b_ZOk x_Z (x_G N) fz) : b_Valid x_F fz x_T (x_G N) x_k104 := b_valid (x_gOk N) x_depOk hZ x_hn_ok (Γ := []) (fun _ h => absurd h List.not_mem_nil) x_z104 x_e104 (List.forall_mem_cons.mpr ⟨x_c104_0, fun _ h => absurd h List.not_mem_nil⟩)
def x_k105 : b_K := (110, 2, ([((-2147483648), 2147483647, 0)], [], [], [(2, (0, [])), (0, (0, [(0, 1)]))], []), [], [([((-2147483648), 2147483647, 0), ((-2147483648), 2147483647, 0)], [], [], [(0, (0, [(1, 1)]))], [])])
def x_u105 : List b_Cu := []
-- B.gavel, 30 steps
theorem x_z105 : b_chk0 x_T x_k105 x_u105 = true := by decide +kernel
theorem x_e105 : b_chkE x_F x_T x_Z x_dep x_hn [x_k104] x_k105 x_u105 120 = true := by decide +kernel
theorem x_v105 {N : Int} {fz : List (List Int32)} (hZ : b_ZOk x_Z (x_G N) fz) : b_Valid x_F fz x_T (x_G N) x_k105 := b_valid (x_gOk N) x_depOk hZ x_hn_ok (Γ := [x_k104]) (List.forall_mem_cons.mpr ⟨x_v104 hZ, fun _ h => absurd h List.not_mem_nil⟩) x_z105 x_e105 (fun _ h => absurd h List.not_mem_nil)
def x_k106 : b_K := (112, 2, ([((-2147483648), 2147483647, 0)], [], [], [(2, (0, [])), (0, (0, [(0, 1)]))], []), [], [([((-2147483648), 2147483647, 0), ((-2), 127, 0)], [], [], [(0, (0, [(1, 1)]))], [])])
def x_u106 : List b_Cu := []
-- B.fresh, 44 steps
theorem x_z106 : b_chk0 x_T x_k106 x_u106 = true := by decide +kernel
theorem x_e106 : b_chkE x_F x_T x_Z x_dep x_hn [] x_k106 x_u106 120 = true := by decide +kernel
theorem x_v106 {N : Int} {fz : List (List Int32)} (hZ : b_ZOk x_Z (x_G N) fz) : b_Valid x_F fz x_T (x_G N) x_k106 := b_valid (x_gOk N) x_depOk hZ x_hn_ok (Γ := []) (fun _ h => absurd h List.not_mem_nil) x_z106 x_e106 (fun _ h => absurd h List.not_mem_nil)
def x_k107 : b_K := (115, 2, ([(0, 127, 0)], [], [], [(2, (40, [])), (0, (0, [(0, 1)]))], []), [], [([(0, 127, 0)], [], [], [(0, (0, []))], []),
  ([(0, 127, 0)], [], [], [(0, (1, []))], [])])
def x_u107_0 : b_Cu := (12, ([(0, 127, 0), (0, 7, 0)], [], [(0, (2, (40, []))), (1, (0, (0, [(0, 1)]))), (2, (0, (0, [(1, 1)])))], [], []), (7, [(1, (-1))]))
def x_u107 : List b_Cu := [x_u107_0]
-- Panels.isPanel, 79 steps
theorem x_z107 : b_chk0 x_T x_k107 x_u107 = true := by decide +kernel
theorem x_e107 : b_chkE x_F x_T x_Z x_dep x_hn [] x_k107 x_u107 139 = true := by decide +kernel
theorem x_c107_0 : b_chkC x_F x_T x_Z x_dep x_hn [] x_k107 x_u107 139 x_u107_0 = true := by decide +kernel
theorem x_v107 {N : Int} {fz : List (List Int32)} (hZ : b_ZOk x_Z (x_G N) fz) : b_Valid x_F fz x_T (x_G N) x_k107 := b_valid (x_gOk N) x_depOk hZ x_hn_ok (Γ := []) (fun _ h => absurd h List.not_mem_nil) x_z107 x_e107 (List.forall_mem_cons.mpr ⟨x_c107_0, fun _ h => absurd h List.not_mem_nil⟩)
def x_k108 : b_K := (114, 3, ([], [], [], [(2, (40, []))], []), [], [([((-2147483648), 2147483647, 0)], [], [], [(0, (0, [(0, 1)]))], [])])
def x_u108_0 : b_Cu := (4, ([((-2147483648), 2147483647, 0), (0, 128, 0)], [], [(0, (2, (40, []))), (1, (0, (0, [(0, 1)]))), (2, (0, (0, [(1, 1)])))], [], []), (128, [(1, (-1))]))
def x_u108 : List b_Cu := [x_u108_0]
-- Panels.howMany, 35 steps
theorem x_z108 : b_chk0 x_T x_k108 x_u108 = true := by decide +kernel
theorem x_e108 : b_chkE x_F x_T x_Z x_dep x_hn [x_k107] x_k108 x_u108 120 = true := by decide +kernel
theorem x_c108_0 : b_chkC x_F x_T x_Z x_dep x_hn [x_k107] x_k108 x_u108 120 x_u108_0 = true := by decide +kernel
theorem x_v108 {N : Int} {fz : List (List Int32)} (hZ : b_ZOk x_Z (x_G N) fz) : b_Valid x_F fz x_T (x_G N) x_k108 := b_valid (x_gOk N) x_depOk hZ x_hn_ok (Γ := [x_k107]) (List.forall_mem_cons.mpr ⟨x_v107 hZ, fun _ h => absurd h List.not_mem_nil⟩) x_z108 x_e108 (List.forall_mem_cons.mpr ⟨x_c108_0, fun _ h => absurd h List.not_mem_nil⟩)
def x_k109 : b_K := (113, 4, ([], [], [], [(2, (0, []))], []), [], [([((-2147483648), 2147483647, 0)], [], [], [(0, (0, [(0, 1)]))], [])])
def x_u109 : List b_Cu := []
-- B.benches, 20 steps
theorem x_z109 : b_chk0 x_T x_k109 x_u109 = true := by decide +kernel
theorem x_e109 : b_chkE x_F x_T x_Z x_dep x_hn [x_k108] x_k109 x_u109 120 = true := by decide +kernel
theorem x_v109 {N : Int} {fz : List (List Int32)} (hZ : b_ZOk x_Z (x_G N) fz) : b_Valid x_F fz x_T (x_G N) x_k109 := b_valid (x_gOk N) x_depOk hZ x_hn_ok (Γ := [x_k108]) (List.forall_mem_cons.mpr ⟨x_v108 hZ, fun _ h => absurd h List.not_mem_nil⟩) x_z109 x_e109 (fun _ h => absurd h List.not_mem_nil)
def x_k110 : b_K := (116, 3, ([((-2147483648), 2147483647, 0), ((-2147483648), 2147483647, 0)], [], [], [(2, (0, [])), (0, (0, [(0, 1)])), (0, (0, [(1, 1)]))], []), [], [([((-2147483648), 2147483647, 0), ((-2147483648), 2147483647, 0), ((-2), 2147483647, 0)], [], [], [(0, (0, [(2, 1)]))], [])])
def x_u110 : List b_Cu := []
-- B.finds, 66 steps
theorem x_z110 : b_chk0 x_T x_k110 x_u110 = true := by decide +kernel
theorem x_e110 : b_chkE x_F x_T x_Z x_dep x_hn [x_k53] x_k110 x_u110 126 = true := by decide +kernel
theorem x_v110 {N : Int} {fz : List (List Int32)} (hZ : b_ZOk x_Z (x_G N) fz) : b_Valid x_F fz x_T (x_G N) x_k110 := b_valid (x_gOk N) x_depOk hZ x_hn_ok (Γ := [x_k53]) (List.forall_mem_cons.mpr ⟨x_v53 hZ, fun _ h => absurd h List.not_mem_nil⟩) x_z110 x_e110 (fun _ h => absurd h List.not_mem_nil)
def x_k111 : b_K := (120, 3, ([(0, 127, 0), (0, 7, 0)], [], [], [(2, (40, [])), (0, (0, [(0, 1)])), (0, (0, [(1, 1)]))], []), [(41, 0)], [([(0, 127, 0), (0, 7, 0), (0, 2147483647, 0)], [], [], [(0, (0, [(2, 1)]))], [])])
def x_u111_0 : b_Cu := (5, ([(0, 127, 0), (0, 7, 0), (0, 3, 0), (0, 7, 0)], [], [(0, (2, (40, []))), (1, (0, (0, [(0, 1)]))), (2, (0, (0, [(1, 1)]))), (3, (0, (0, [(2, 1)]))), (4, (0, (0, [(3, 1)])))], [], []), (7, [(3, (-1))]))
def x_u111 : List b_Cu := [x_u111_0]
-- Panels.middleOf, 90 steps
theorem x_z111 : b_chk0 x_T x_k111 x_u111 = true := by decide +kernel
theorem x_e111 : b_chkE x_F x_T x_Z x_dep x_hn [x_k53] x_k111 x_u111 150 = true := by decide +kernel
theorem x_c111_0 : b_chkC x_F x_T x_Z x_dep x_hn [x_k53] x_k111 x_u111 150 x_u111_0 = true := by decide +kernel
theorem x_v111 {N : Int} {fz : List (List Int32)} (hZ : b_ZOk x_Z (x_G N) fz) : b_Valid x_F fz x_T (x_G N) x_k111 := b_valid (x_gOk N) x_depOk hZ x_hn_ok (Γ := [x_k53]) (List.forall_mem_cons.mpr ⟨x_v53 hZ, fun _ h => absurd h List.not_mem_nil⟩) x_z111 x_e111 (List.forall_mem_cons.mpr ⟨x_c111_0, fun _ h => absurd h List.not_mem_nil⟩)
def x_k112 : b_K := (119, 4, ([(0, 7, 0)], [], [], [(2, (40, [])), (0, (0, [(0, 1)]))], []), [(41, 0)], [([(0, 7, 0), ((-1), 127, 0)], [], [], [(0, (0, [(1, 1)]))], [])])
def x_u112_0 : b_Cu := (7, ([(0, 7, 0), ((-1), 127, 0), (0, 2147483647, 0), (0, 128, 0)], [], [(0, (2, (40, []))), (1, (0, (0, [(0, 1)]))), (2, (0, (0, [(1, 1)]))), (3, (0, (0, [(2, 1)]))), (4, (0, (0, [(3, 1)])))], [], []), (128, [(3, (-1))]))
def x_u112 : List b_Cu := [x_u112_0]
-- Panels.mildest, 52 steps
theorem x_z112 : b_chk0 x_T x_k112 x_u112 = true := by decide +kernel
theorem x_e112 : b_chkE x_F x_T x_Z x_dep x_hn [x_k107, x_k111] x_k112 x_u112 120 = true := by decide +kernel
theorem x_c112_0 : b_chkC x_F x_T x_Z x_dep x_hn [x_k107, x_k111] x_k112 x_u112 120 x_u112_0 = true := by decide +kernel
theorem x_v112 {N : Int} {fz : List (List Int32)} (hZ : b_ZOk x_Z (x_G N) fz) : b_Valid x_F fz x_T (x_G N) x_k112 := b_valid (x_gOk N) x_depOk hZ x_hn_ok (Γ := [x_k107, x_k111]) (List.forall_mem_cons.mpr ⟨x_v107 hZ, List.forall_mem_cons.mpr ⟨x_v111 hZ, fun _ h => absurd h List.not_mem_nil⟩⟩) x_z112 x_e112 (List.forall_mem_cons.mpr ⟨x_c112_0, fun _ h => absurd h List.not_mem_nil⟩)
def x_k113 : b_K := (118, 5, ([((-2147483648), 2147483647, 0)], [], [], [(2, (0, [])), (0, (0, [(0, 1)]))], []), [(41, 0)], [([((-2147483648), 2147483647, 0), ((-2), 2147483647, 0)], [], [], [(0, (0, [(1, 1)]))], [])])
def x_u113 : List b_Cu := []
-- B.mild, 41 steps
theorem x_z113 : b_chk0 x_T x_k113 x_u113 = true := by decide +kernel
theorem x_e113 : b_chkE x_F x_T x_Z x_dep x_hn [x_k112, x_k111] x_k113 x_u113 120 = true := by decide +kernel
theorem x_v113 {N : Int} {fz : List (List Int32)} (hZ : b_ZOk x_Z (x_G N) fz) : b_Valid x_F fz x_T (x_G N) x_k113 := b_valid (x_gOk N) x_depOk hZ x_hn_ok (Γ := [x_k112, x_k111]) (List.forall_mem_cons.mpr ⟨x_v112 hZ, List.forall_mem_cons.mpr ⟨x_v111 hZ, fun _ h => absurd h List.not_mem_nil⟩⟩) x_z113 x_e113 (fun _ h => absurd h List.not_mem_nil)
def x_k114 : b_K := (121, 5, ([((-2147483648), 2147483647, 0)], [], [], [(2, (0, [])), (0, (0, [(0, 1)]))], []), [(41, 0)], [([((-2147483648), 2147483647, 0), ((-2), 127, 0)], [], [], [(0, (0, [(1, 1)]))], [])])
def x_u114 : List b_Cu := []
-- B.milds, 30 steps
theorem x_z114 : b_chk0 x_T x_k114 x_u114 = true := by decide +kernel
theorem x_e114 : b_chkE x_F x_T x_Z x_dep x_hn [x_k112] x_k114 x_u114 120 = true := by decide +kernel
theorem x_v114 {N : Int} {fz : List (List Int32)} (hZ : b_ZOk x_Z (x_G N) fz) : b_Valid x_F fz x_T (x_G N) x_k114 := b_valid (x_gOk N) x_depOk hZ x_hn_ok (Γ := [x_k112]) (List.forall_mem_cons.mpr ⟨x_v112 hZ, fun _ h => absurd h List.not_mem_nil⟩) x_z114 x_e114 (fun _ h => absurd h List.not_mem_nil)
def x_k115 : b_K := (123, 4, ([(0, 7, 0)], [], [], [(2, (40, [])), (0, (0, [(0, 1)]))], []), [(41, 0)], [([(0, 7, 0), ((-1), 127, 0)], [], [], [(0, (0, [(1, 1)]))], [])])
def x_u115_0 : b_Cu := (7, ([(0, 7, 0), ((-1), 127, 0), (0, 2147483647, 0), (0, 128, 0)], [], [(0, (2, (40, []))), (1, (0, (0, [(0, 1)]))), (2, (0, (0, [(1, 1)]))), (3, (0, (0, [(2, 1)]))), (4, (0, (0, [(3, 1)])))], [], []), (128, [(3, (-1))]))
def x_u115 : List b_Cu := [x_u115_0]
-- Panels.harshest, 52 steps
theorem x_z115 : b_chk0 x_T x_k115 x_u115 = true := by decide +kernel
theorem x_e115 : b_chkE x_F x_T x_Z x_dep x_hn [x_k107, x_k111] x_k115 x_u115 120 = true := by decide +kernel
theorem x_c115_0 : b_chkC x_F x_T x_Z x_dep x_hn [x_k107, x_k111] x_k115 x_u115 120 x_u115_0 = true := by decide +kernel
theorem x_v115 {N : Int} {fz : List (List Int32)} (hZ : b_ZOk x_Z (x_G N) fz) : b_Valid x_F fz x_T (x_G N) x_k115 := b_valid (x_gOk N) x_depOk hZ x_hn_ok (Γ := [x_k107, x_k111]) (List.forall_mem_cons.mpr ⟨x_v107 hZ, List.forall_mem_cons.mpr ⟨x_v111 hZ, fun _ h => absurd h List.not_mem_nil⟩⟩) x_z115 x_e115 (List.forall_mem_cons.mpr ⟨x_c115_0, fun _ h => absurd h List.not_mem_nil⟩)
def x_k116 : b_K := (122, 5, ([((-2147483648), 2147483647, 0)], [], [], [(2, (0, [])), (0, (0, [(0, 1)]))], []), [(41, 0)], [([((-2147483648), 2147483647, 0), ((-2), 2147483647, 0)], [], [], [(0, (0, [(1, 1)]))], [])])
def x_u116 : List b_Cu := []
-- B.harsh, 41 steps
theorem x_z116 : b_chk0 x_T x_k116 x_u116 = true := by decide +kernel
theorem x_e116 : b_chkE x_F x_T x_Z x_dep x_hn [x_k115, x_k111] x_k116 x_u116 120 = true := by decide +kernel
theorem x_v116 {N : Int} {fz : List (List Int32)} (hZ : b_ZOk x_Z (x_G N) fz) : b_Valid x_F fz x_T (x_G N) x_k116 := b_valid (x_gOk N) x_depOk hZ x_hn_ok (Γ := [x_k115, x_k111]) (List.forall_mem_cons.mpr ⟨x_v115 hZ, List.forall_mem_cons.mpr ⟨x_v111 hZ, fun _ h => absurd h List.not_mem_nil⟩⟩) x_z116 x_e116 (fun _ h => absurd h List.not_mem_nil)
def x_k117 : b_K := (124, 5, ([((-2147483648), 2147483647, 0)], [], [], [(2, (0, [])), (0, (0, [(0, 1)]))], []), [(41, 0)], [([((-2147483648), 2147483647, 0), ((-2), 127, 0)], [], [], [(0, (0, [(1, 1)]))], [])])
def x_u117 : List b_Cu := []
-- B.harshes, 30 steps
theorem x_z117 : b_chk0 x_T x_k117 x_u117 = true := by decide +kernel
theorem x_e117 : b_chkE x_F x_T x_Z x_dep x_hn [x_k115] x_k117 x_u117 120 = true := by decide +kernel
theorem x_v117 {N : Int} {fz : List (List Int32)} (hZ : b_ZOk x_Z (x_G N) fz) : b_Valid x_F fz x_T (x_G N) x_k117 := b_valid (x_gOk N) x_depOk hZ x_hn_ok (Γ := [x_k115]) (List.forall_mem_cons.mpr ⟨x_v115 hZ, fun _ h => absurd h List.not_mem_nil⟩) x_z117 x_e117 (fun _ h => absurd h List.not_mem_nil)
def x_k118 : b_K := (127, 4, ([(0, 6, 0), (0, 7, 0)], [], [], [(2, (40, [])), (0, (0, [(0, 1)])), (0, (0, [(1, 1)]))], []), [(41, 0)], [([(0, 6, 0), (0, 7, 0), ((-2147483648), 2147483647, 0)], [], [], [(0, (0, [(2, 1)]))], [])])
def x_u118_0 : b_Cu := (5, ([(0, 6, 0), (0, 7, 0), ((-2147483648), 2147483647, 0), (0, 128, 0)], [], [(0, (2, (40, []))), (1, (0, (0, [(0, 1)]))), (2, (0, (0, [(1, 1)]))), (3, (0, (0, [(2, 1)]))), (4, (0, (0, [(3, 1)])))], [], []), (128, [(3, (-1))]))
def x_u118 : List b_Cu := [x_u118_0]
-- Panels.letOff, 66 steps
theorem x_z118 : b_chk0 x_T x_k118 x_u118 = true := by decide +kernel
theorem x_e118 : b_chkE x_F x_T x_Z x_dep x_hn [x_k107, x_k111] x_k118 x_u118 126 = true := by decide +kernel
theorem x_c118_0 : b_chkC x_F x_T x_Z x_dep x_hn [x_k107, x_k111] x_k118 x_u118 126 x_u118_0 = true := by decide +kernel
theorem x_v118 {N : Int} {fz : List (List Int32)} (hZ : b_ZOk x_Z (x_G N) fz) : b_Valid x_F fz x_T (x_G N) x_k118 := b_valid (x_gOk N) x_depOk hZ x_hn_ok (Γ := [x_k107, x_k111]) (List.forall_mem_cons.mpr ⟨x_v107 hZ, List.forall_mem_cons.mpr ⟨x_v111 hZ, fun _ h => absurd h List.not_mem_nil⟩⟩) x_z118 x_e118 (List.forall_mem_cons.mpr ⟨x_c118_0, fun _ h => absurd h List.not_mem_nil⟩)
def x_k119 : b_K := (126, 5, ([(0, 7, 0)], [], [], [(2, (40, [])), (0, (0, [(0, 1)]))], []), [(41, 0)], [([(0, 7, 0), ((-1), 6, 0)], [], [], [(0, (0, [(1, 1)]))], [])])
def x_u119_0 : b_Cu := (7, ([(0, 7, 0), ((-1), 6, 0), (0, 2147483647, 0), (0, 7, 0)], [], [(0, (2, (40, []))), (1, (0, (0, [(0, 1)]))), (2, (0, (0, [(1, 1)]))), (3, (0, (0, [(2, 1)]))), (4, (0, (0, [(3, 1)])))], [], []), (7, [(3, (-1))]))
def x_u119 : List b_Cu := [x_u119_0]
-- Panels.kindest, 29 steps
theorem x_z119 : b_chk0 x_T x_k119 x_u119 = true := by decide +kernel
theorem x_e119 : b_chkE x_F x_T x_Z x_dep x_hn [x_k118] x_k119 x_u119 120 = true := by decide +kernel
theorem x_c119_0 : b_chkC x_F x_T x_Z x_dep x_hn [x_k118] x_k119 x_u119 120 x_u119_0 = true := by decide +kernel
theorem x_v119 {N : Int} {fz : List (List Int32)} (hZ : b_ZOk x_Z (x_G N) fz) : b_Valid x_F fz x_T (x_G N) x_k119 := b_valid (x_gOk N) x_depOk hZ x_hn_ok (Γ := [x_k118]) (List.forall_mem_cons.mpr ⟨x_v118 hZ, fun _ h => absurd h List.not_mem_nil⟩) x_z119 x_e119 (List.forall_mem_cons.mpr ⟨x_c119_0, fun _ h => absurd h List.not_mem_nil⟩)
def x_k120 : b_K := (125, 6, ([((-2147483648), 2147483647, 0)], [], [], [(2, (0, [])), (0, (0, [(0, 1)]))], []), [(41, 0)], [([((-2147483648), 2147483647, 0), ((-2), 6, 0)], [], [], [(0, (0, [(1, 1)]))], [])])
def x_u120 : List b_Cu := []
-- B.kind, 30 steps
theorem x_z120 : b_chk0 x_T x_k120 x_u120 = true := by decide +kernel
theorem x_e120 : b_chkE x_F x_T x_Z x_dep x_hn [x_k119] x_k120 x_u120 120 = true := by decide +kernel
theorem x_v120 {N : Int} {fz : List (List Int32)} (hZ : b_ZOk x_Z (x_G N) fz) : b_Valid x_F fz x_T (x_G N) x_k120 := b_valid (x_gOk N) x_depOk hZ x_hn_ok (Γ := [x_k119]) (List.forall_mem_cons.mpr ⟨x_v119 hZ, fun _ h => absurd h List.not_mem_nil⟩) x_z120 x_e120 (fun _ h => absurd h List.not_mem_nil)
def x_k121 : b_K := (36, 2, ([], [], [], [(2, (53, []))], []), [(53, 2), (54, 0), (55, 0), (56, 0), (57, 0)], [([], [], [], [], [])])
def x_u121_0 : b_Cu := (7, ([(0, 14, 0)], [], [(0, (2, (53, []))), (1, (0, (0, [(0, 1)])))], [], []), (924, [(0, (-63))]))
def x_u121_1 : b_Cu := (27, ([(0, 13, 0), (0, 8, 0)], [], [(0, (2, (53, []))), (1, (0, (0, [(0, 1)]))), (2, (0, (0, [(1, 1)])))], [], []), (911, [(0, (-63)), (1, (-1))]))
def x_u121_2 : b_Cu := (66, ([(0, 13, 0), (0, 20, 0)], [], [(0, (2, (53, []))), (1, (0, (0, [(0, 1)]))), (2, (0, (0, [(1, 1)])))], [], []), (902, [(0, (-63)), (1, (-1))]))
def x_u121 : List b_Cu := [x_u121_0, x_u121_1, x_u121_2]
-- Court.plan, 158 steps
theorem x_z121 : b_chk0 x_T x_k121 x_u121 = true := by decide +kernel
theorem x_e121 : b_chkE x_F x_T x_Z x_dep x_hn [] x_k121 x_u121 218 = true := by decide +kernel
theorem x_c121_0 : b_chkC x_F x_T x_Z x_dep x_hn [] x_k121 x_u121 218 x_u121_0 = true := by decide +kernel
theorem x_c121_1 : b_chkC x_F x_T x_Z x_dep x_hn [] x_k121 x_u121 218 x_u121_1 = true := by decide +kernel
theorem x_c121_2 : b_chkC x_F x_T x_Z x_dep x_hn [] x_k121 x_u121 218 x_u121_2 = true := by decide +kernel
theorem x_v121 {N : Int} {fz : List (List Int32)} (hZ : b_ZOk x_Z (x_G N) fz) : b_Valid x_F fz x_T (x_G N) x_k121 := b_valid (x_gOk N) x_depOk hZ x_hn_ok (Γ := []) (fun _ h => absurd h List.not_mem_nil) x_z121 x_e121 (List.forall_mem_cons.mpr ⟨x_c121_0, List.forall_mem_cons.mpr ⟨x_c121_1, List.forall_mem_cons.mpr ⟨x_c121_2, fun _ h => absurd h List.not_mem_nil⟩⟩⟩)
def x_k122 : b_K := (130, 3, ([(0, 7, 0)], [], [], [(2, (42, []))], [(13, (4, []), (0, (0, [(0, 1)])))]), [(43, 1), (43, 2), (43, 3), (43, 4), (43, 5), (43, 6), (43, 7), (43, 8), (44, 0), (45, 0), (46, 0), (47, 0), (48, 0), (49, 0), (50, 0), (51, 0), (52, 0), (53, 2), (54, 0), (55, 0), (56, 0), (57, 0)], [([(0, 7, 0)], [], [], [], [(43, (4, []), (0, (0, [(0, 1)]))), (13, (4, []), (0, (0, [(0, 1)])))])])
def x_u122 : List b_Cu := []
-- Trial.suppose, 114 steps
theorem x_z122 : b_chk0 x_T x_k122 x_u122 = true := by decide +kernel
theorem x_e122 : b_chkE x_F x_T x_Z x_dep x_hn [x_k121] x_k122 x_u122 174 = true := by decide +kernel
theorem x_v122 {N : Int} {fz : List (List Int32)} (hZ : b_ZOk x_Z (x_G N) fz) : b_Valid x_F fz x_T (x_G N) x_k122 := b_valid (x_gOk N) x_depOk hZ x_hn_ok (Γ := [x_k121]) (List.forall_mem_cons.mpr ⟨x_v121 hZ, fun _ h => absurd h List.not_mem_nil⟩) x_z122 x_e122 (fun _ h => absurd h List.not_mem_nil)
def x_k123 : b_K := (17, 1, ([((-1), (-1), 0)], [], [], [(2, (63, [])), (0, (0, [(0, 1)]))], []), [(63, 0)], [([((-1), (-1), 0)], [], [], [], [])])
def x_u123_0 : b_Cu := (5, ([((-1), (-1), 0), (0, 8, 0)], [], [(0, (2, (63, []))), (1, (0, (0, [(0, 1)]))), (2, (0, (0, [(1, 1)]))), (3, (0, (8, [])))], [], []), (8, [(1, (-1))]))
def x_u123 : List b_Cu := [x_u123_0]
-- java/util/Arrays.fill, 15 steps
theorem x_z123 : b_chk0 x_T x_k123 x_u123 = true := by decide +kernel
theorem x_e123 : b_chkE x_F x_T x_Z x_dep x_hn [] x_k123 x_u123 120 = true := by decide +kernel
theorem x_c123_0 : b_chkC x_F x_T x_Z x_dep x_hn [] x_k123 x_u123 120 x_u123_0 = true := by decide +kernel
theorem x_v123 {N : Int} {fz : List (List Int32)} (hZ : b_ZOk x_Z (x_G N) fz) : b_Valid x_F fz x_T (x_G N) x_k123 := b_valid (x_gOk N) x_depOk hZ x_hn_ok (Γ := []) (fun _ h => absurd h List.not_mem_nil) x_z123 x_e123 (List.forall_mem_cons.mpr ⟨x_c123_0, fun _ h => absurd h List.not_mem_nil⟩)
def x_k124 : b_K := (17, 1, ([(0, 0, 0)], [], [], [(2, (64, [])), (0, (0, [(0, 1)]))], []), [(64, 0)], [([(0, 0, 0)], [], [], [], [])])
def x_u124_0 : b_Cu := (5, ([(0, 0, 0), (0, 8, 0)], [], [(0, (2, (64, []))), (1, (0, (0, [(0, 1)]))), (2, (0, (0, [(1, 1)]))), (3, (0, (8, [])))], [], []), (8, [(1, (-1))]))
def x_u124 : List b_Cu := [x_u124_0]
-- java/util/Arrays.fill, 15 steps
theorem x_z124 : b_chk0 x_T x_k124 x_u124 = true := by decide +kernel
theorem x_e124 : b_chkE x_F x_T x_Z x_dep x_hn [] x_k124 x_u124 120 = true := by decide +kernel
theorem x_c124_0 : b_chkC x_F x_T x_Z x_dep x_hn [] x_k124 x_u124 120 x_u124_0 = true := by decide +kernel
theorem x_v124 {N : Int} {fz : List (List Int32)} (hZ : b_ZOk x_Z (x_G N) fz) : b_Valid x_F fz x_T (x_G N) x_k124 := b_valid (x_gOk N) x_depOk hZ x_hn_ok (Γ := []) (fun _ h => absurd h List.not_mem_nil) x_z124 x_e124 (List.forall_mem_cons.mpr ⟨x_c124_0, fun _ h => absurd h List.not_mem_nil⟩)
def x_k125 : b_K := (17, 1, ([(0, 0, 0)], [], [], [(2, (65, [])), (0, (0, [(0, 1)]))], []), [(65, 0)], [([(0, 0, 0)], [], [], [], [])])
def x_u125_0 : b_Cu := (5, ([(0, 0, 0), (0, 8, 0)], [], [(0, (2, (65, []))), (1, (0, (0, [(0, 1)]))), (2, (0, (0, [(1, 1)]))), (3, (0, (8, [])))], [], []), (8, [(1, (-1))]))
def x_u125 : List b_Cu := [x_u125_0]
-- java/util/Arrays.fill, 15 steps
theorem x_z125 : b_chk0 x_T x_k125 x_u125 = true := by decide +kernel
theorem x_e125 : b_chkE x_F x_T x_Z x_dep x_hn [] x_k125 x_u125 120 = true := by decide +kernel
theorem x_c125_0 : b_chkC x_F x_T x_Z x_dep x_hn [] x_k125 x_u125 120 x_u125_0 = true := by decide +kernel
theorem x_v125 {N : Int} {fz : List (List Int32)} (hZ : b_ZOk x_Z (x_G N) fz) : b_Valid x_F fz x_T (x_G N) x_k125 := b_valid (x_gOk N) x_depOk hZ x_hn_ok (Γ := []) (fun _ h => absurd h List.not_mem_nil) x_z125 x_e125 (List.forall_mem_cons.mpr ⟨x_c125_0, fun _ h => absurd h List.not_mem_nil⟩)
def x_k126 : b_K := (17, 1, ([(0, 0, 0)], [], [], [(2, (67, [])), (0, (0, [(0, 1)]))], []), [(67, 0)], [([(0, 0, 0)], [], [], [], [])])
def x_u126_0 : b_Cu := (5, ([(0, 0, 0), (0, 7, 0)], [], [(0, (2, (67, []))), (1, (0, (0, [(0, 1)]))), (2, (0, (0, [(1, 1)]))), (3, (0, (7, [])))], [], []), (7, [(1, (-1))]))
def x_u126 : List b_Cu := [x_u126_0]
-- java/util/Arrays.fill, 15 steps
theorem x_z126 : b_chk0 x_T x_k126 x_u126 = true := by decide +kernel
theorem x_e126 : b_chkE x_F x_T x_Z x_dep x_hn [] x_k126 x_u126 120 = true := by decide +kernel
theorem x_c126_0 : b_chkC x_F x_T x_Z x_dep x_hn [] x_k126 x_u126 120 x_u126_0 = true := by decide +kernel
theorem x_v126 {N : Int} {fz : List (List Int32)} (hZ : b_ZOk x_Z (x_G N) fz) : b_Valid x_F fz x_T (x_G N) x_k126 := b_valid (x_gOk N) x_depOk hZ x_hn_ok (Γ := []) (fun _ h => absurd h List.not_mem_nil) x_z126 x_e126 (List.forall_mem_cons.mpr ⟨x_c126_0, fun _ h => absurd h List.not_mem_nil⟩)
def x_k127 : b_K := (42, 1, ([(0, 127, 0)], [], [], [(2, (53, [])), (0, (0, [(0, 1)]))], []), [], [([(0, 127, 0), ((-1), 6, 0)], [], [], [(0, (0, [(1, 1)]))], [])])
def x_u127_0 : b_Cu := (4, ([(0, 127, 0), ((-1), 6, 0), (0, 7, 0)], [], [(0, (2, (53, []))), (1, (0, (0, [(0, 1)]))), (2, (0, (0, [(1, 1)]))), (3, (0, (0, [(2, 1)])))], [], []), (7, [(2, (-1))]))
def x_u127 : List b_Cu := [x_u127_0]
-- Court.leastBusy, 41 steps
theorem x_z127 : b_chk0 x_T x_k127 x_u127 = true := by decide +kernel
theorem x_e127 : b_chkE x_F x_T x_Z x_dep x_hn [] x_k127 x_u127 120 = true := by decide +kernel
theorem x_c127_0 : b_chkC x_F x_T x_Z x_dep x_hn [] x_k127 x_u127 120 x_u127_0 = true := by decide +kernel
theorem x_v127 {N : Int} {fz : List (List Int32)} (hZ : b_ZOk x_Z (x_G N) fz) : b_Valid x_F fz x_T (x_G N) x_k127 := b_valid (x_gOk N) x_depOk hZ x_hn_ok (Γ := []) (fun _ h => absurd h List.not_mem_nil) x_z127 x_e127 (List.forall_mem_cons.mpr ⟨x_c127_0, fun _ h => absurd h List.not_mem_nil⟩)
def x_k128 : b_K := (41, 2, ([(0, 127, 0)], [], [], [(2, (53, [])), (0, (0, [(0, 1)]))], []), [], [([(0, 127, 0), ((-2147483648), 2147483647, 0)], [], [], [(0, (0, [(1, 1)]))], [])])
def x_u128_0 : b_Cu := (7, ([(0, 127, 0), ((-2147483648), 2147483647, 0), (0, 127, 0), (0, 3, 0)], [], [(0, (2, (53, []))), (2, (0, (0, [(1, 1)]))), (3, (0, (0, [(2, 1)]))), (4, (0, (0, [(3, 1)])))], [], []), (3, [(3, (-1))]))
def x_u128 : List b_Cu := [x_u128_0]
-- Court.choose, 42 steps
theorem x_z128 : b_chk0 x_T x_k128 x_u128 = true := by decide +kernel
theorem x_e128 : b_chkE x_F x_T x_Z x_dep x_hn [x_k127] x_k128 x_u128 120 = true := by decide +kernel
theorem x_c128_0 : b_chkC x_F x_T x_Z x_dep x_hn [x_k127] x_k128 x_u128 120 x_u128_0 = true := by decide +kernel
theorem x_v128 {N : Int} {fz : List (List Int32)} (hZ : b_ZOk x_Z (x_G N) fz) : b_Valid x_F fz x_T (x_G N) x_k128 := b_valid (x_gOk N) x_depOk hZ x_hn_ok (Γ := [x_k127]) (List.forall_mem_cons.mpr ⟨x_v127 hZ, fun _ h => absurd h List.not_mem_nil⟩) x_z128 x_e128 (List.forall_mem_cons.mpr ⟨x_c128_0, fun _ h => absurd h List.not_mem_nil⟩)
def x_k129 : b_K := (44, 1, ([(0, 6, 0), (0, 60, 0), (0, 7, 0)], [], [], [(2, (43, [])), (0, (0, [(0, 1)])), (0, (0, [(1, 1)])), (0, (0, [(2, 1)]))], []), [], [([(0, 6, 0), (0, 60, 0), (0, 7, 0), (0, 2147483647, 0)], [], [], [(0, (0, [(3, 1)]))], [])])
def x_u129_0 : b_Cu := (13, ([(0, 6, 0), (0, 60, 0), (0, 7, 0), ((-2147483648), 2147483647, 0), (0, 4, 0)], [], [(0, (2, (43, []))), (1, (0, (0, [(0, 1)]))), (3, (0, (0, [(2, 1)]))), (4, (0, (0, [(3, 1)]))), (5, (0, (0, [(4, 1)])))], [], []), (4, [(4, (-1))]))
def x_u129 : List b_Cu := [x_u129_0]
-- Circuit.judge, 40 steps
theorem x_z129 : b_chk0 x_T x_k129 x_u129 = true := by decide +kernel
theorem x_e129 : b_chkE x_F x_T x_Z x_dep x_hn [] x_k129 x_u129 120 = true := by decide +kernel
theorem x_c129_0 : b_chkC x_F x_T x_Z x_dep x_hn [] x_k129 x_u129 120 x_u129_0 = true := by decide +kernel
theorem x_v129 {N : Int} {fz : List (List Int32)} (hZ : b_ZOk x_Z (x_G N) fz) : b_Valid x_F fz x_T (x_G N) x_k129 := b_valid (x_gOk N) x_depOk hZ x_hn_ok (Γ := []) (fun _ h => absurd h List.not_mem_nil) x_z129 x_e129 (List.forall_mem_cons.mpr ⟨x_c129_0, fun _ h => absurd h List.not_mem_nil⟩)
def x_k130 : b_K := (43, 3, ([(0, 7, 0), (0, 13, 0), ((-2147483648), 2147483647, 0), (0, 27, 0)], [], [], [(2, (53, [])), (0, (0, [(0, 1)])), (0, (0, [(1, 1)])), (0, (0, [(2, 1)]))], [(53, (6, []), (0, (0, [(3, 1)])))]), [(53, 7), (58, 0), (59, 0), (60, 0), (61, 0), (62, 0), (63, 0), (64, 0), (65, 0), (66, 0), (67, 0)], [([(0, 7, 0), (0, 13, 0), ((-2147483648), 2147483647, 0), (0, 27, 0)], [], [], [], [(53, (6, []), (0, (1, [(3, 1)])))])])
def x_u130_0 : b_Cu := (14, ([(0, 7, 0), (0, 13, 0), ((-2147483648), 2147483647, 0), (0, 27, 0), (0, 3, 0), (0, 7, 0)], [], [(0, (2, (53, []))), (1, (0, (0, [(0, 1)]))), (2, (0, (0, [(1, 1)]))), (3, (0, (0, [(2, 1)]))), (4, (0, (0, [(3, 3)]))), (5, (0, (0, [(4, 1)]))), (6, (0, (0, [(5, 1)])))], [], [(53, (6, []), (0, (0, [(3, 1)])))]), (15, [(5, (-1))]))
def x_u130_1 : b_Cu := (184, ([(0, 7, 0), (0, 13, 0), ((-2147483648), 2147483647, 0), (0, 27, 0), (0, 3, 0), (0, 2147483647, 0), (0, 7, 0)], [], [(0, (2, (53, []))), (1, (0, (0, [(0, 1)]))), (3, (0, (0, [(2, 1)]))), (4, (0, (0, [(3, 3)]))), (5, (0, (0, [(4, 1)]))), (6, (0, (0, [(5, 1)]))), (7, (0, (0, [(6, 1)])))], [], [(53, (6, []), (0, (0, [(3, 1)])))]), (7, [(6, (-1))]))
def x_u130 : List b_Cu := [x_u130_0, x_u130_1]
-- Court.hear, 466 steps
theorem x_z130 : b_chk0 x_T x_k130 x_u130 = true := by decide +kernel
theorem x_e130 : b_chkE x_F x_T x_Z x_dep x_hn [x_k129] x_k130 x_u130 526 = true := by decide +kernel
theorem x_c130_0 : b_chkC x_F x_T x_Z x_dep x_hn [x_k129] x_k130 x_u130 526 x_u130_0 = true := by decide +kernel
theorem x_c130_1 : b_chkC x_F x_T x_Z x_dep x_hn [x_k129] x_k130 x_u130 526 x_u130_1 = true := by decide +kernel
theorem x_v130 {N : Int} {fz : List (List Int32)} (hZ : b_ZOk x_Z (x_G N) fz) : b_Valid x_F fz x_T (x_G N) x_k130 := b_valid (x_gOk N) x_depOk hZ x_hn_ok (Γ := [x_k129]) (List.forall_mem_cons.mpr ⟨x_v129 hZ, fun _ h => absurd h List.not_mem_nil⟩) x_z130 x_e130 (List.forall_mem_cons.mpr ⟨x_c130_0, List.forall_mem_cons.mpr ⟨x_c130_1, fun _ h => absurd h List.not_mem_nil⟩⟩)
def x_k131 : b_K := (38, 4, ([((-2147483648), 2147483647, 0), ((-2147483648), 2147483647, 0)], [], [], [(2, (53, [])), (0, (0, [(0, 1)])), (0, (0, [(1, 1)]))], []), [(53, 7), (58, 0), (59, 0), (60, 0), (61, 0), (62, 0), (63, 0), (64, 0), (65, 0), (66, 0), (67, 0), (68, 0), (69, 0)], [([((-2147483648), 2147483647, 0), ((-2147483648), 2147483647, 0)], [], [], [], [])])
def x_u131_0 : b_Cu := (71, ([((-2147483648), 2147483647, 0), ((-2147483648), 2147483647, 0), (0, 127, 0), (0, 28, 0), (0, 15, 0)], [], [(0, (2, (53, []))), (1, (0, (0, [(0, 1)]))), (3, (0, (0, [(2, 1)]))), (4, (0, (0, [(3, 1)]))), (5, (0, (0, [(4, 1)])))], [], []), (927, [(3, (-32)), (4, (-2))]))
def x_u131_1 : b_Cu := (121, ([((-2147483648), 2147483647, 0), ((-2147483648), 2147483647, 0), (0, 127, 0), (0, 28, 0), (0, 14, 0)], [], [(0, (2, (53, []))), (1, (0, (0, [(0, 1)]))), (3, (0, (0, [(2, 1)]))), (4, (0, (0, [(3, 1)]))), (5, (0, (0, [(4, 1)])))], [], []), (926, [(3, (-32)), (4, (-2))]))
def x_u131 : List b_Cu := [x_u131_0, x_u131_1]
-- Court.hold, 245 steps
theorem x_z131 : b_chk0 x_T x_k131 x_u131 = true := by decide +kernel
theorem x_e131 : b_chkE x_F x_T x_Z x_dep x_hn [x_k123, x_k124, x_k125, x_k126, x_k128, x_k130] x_k131 x_u131 305 = true := by decide +kernel
theorem x_c131_0 : b_chkC x_F x_T x_Z x_dep x_hn [x_k123, x_k124, x_k125, x_k126, x_k128, x_k130] x_k131 x_u131 305 x_u131_0 = true := by decide +kernel
theorem x_c131_1 : b_chkC x_F x_T x_Z x_dep x_hn [x_k123, x_k124, x_k125, x_k126, x_k128, x_k130] x_k131 x_u131 305 x_u131_1 = true := by decide +kernel
theorem x_v131 {N : Int} {fz : List (List Int32)} (hZ : b_ZOk x_Z (x_G N) fz) : b_Valid x_F fz x_T (x_G N) x_k131 := b_valid (x_gOk N) x_depOk hZ x_hn_ok (Γ := [x_k123, x_k124, x_k125, x_k126, x_k128, x_k130]) (List.forall_mem_cons.mpr ⟨x_v123 hZ, List.forall_mem_cons.mpr ⟨x_v124 hZ, List.forall_mem_cons.mpr ⟨x_v125 hZ, List.forall_mem_cons.mpr ⟨x_v126 hZ, List.forall_mem_cons.mpr ⟨x_v128 hZ, List.forall_mem_cons.mpr ⟨x_v130 hZ, fun _ h => absurd h List.not_mem_nil⟩⟩⟩⟩⟩⟩) x_z131 x_e131 (List.forall_mem_cons.mpr ⟨x_c131_0, List.forall_mem_cons.mpr ⟨x_c131_1, fun _ h => absurd h List.not_mem_nil⟩⟩)
def x_k132 : b_K := (129, 5, ([(0, 7, 0)], [], [], [(2, (42, [])), (0, (0, [(0, 1)]))], []), [(43, 1), (43, 2), (43, 3), (43, 4), (43, 5), (43, 6), (43, 7), (43, 8), (44, 0), (45, 0), (46, 0), (47, 0), (48, 0), (49, 0), (50, 0), (51, 0), (52, 0), (53, 2), (53, 7), (54, 0), (55, 0), (56, 0), (57, 0), (58, 0), (59, 0), (60, 0), (61, 0), (62, 0), (63, 0), (64, 0), (65, 0), (66, 0), (67, 0), (68, 0), (69, 0)], [([(0, 7, 0), ((-1), 15, 0)], [], [], [(0, (0, [(1, 1)]))], [])])
def x_u132_0 : b_Cu := (11, ([(0, 7, 0), ((-1), 15, 0), (0, 2147483647, 0), (0, 16, 0)], [], [(0, (2, (42, []))), (1, (0, (0, [(0, 1)]))), (2, (0, (0, [(1, 1)]))), (3, (0, (0, [(2, 1)]))), (4, (0, (0, [(3, 1)])))], [], []), (16, [(3, (-1))]))
def x_u132 : List b_Cu := [x_u132_0]
-- Trial.bestSigns, 185 steps
theorem x_z132 : b_chk0 x_T x_k132 x_u132 = true := by decide +kernel
theorem x_e132 : b_chkE x_F x_T x_Z x_dep x_hn [x_k122, x_k131] x_k132 x_u132 245 = true := by decide +kernel
theorem x_c132_0 : b_chkC x_F x_T x_Z x_dep x_hn [x_k122, x_k131] x_k132 x_u132 245 x_u132_0 = true := by decide +kernel
theorem x_v132 {N : Int} {fz : List (List Int32)} (hZ : b_ZOk x_Z (x_G N) fz) : b_Valid x_F fz x_T (x_G N) x_k132 := b_valid (x_gOk N) x_depOk hZ x_hn_ok (Γ := [x_k122, x_k131]) (List.forall_mem_cons.mpr ⟨x_v122 hZ, List.forall_mem_cons.mpr ⟨x_v131 hZ, fun _ h => absurd h List.not_mem_nil⟩⟩) x_z132 x_e132 (List.forall_mem_cons.mpr ⟨x_c132_0, fun _ h => absurd h List.not_mem_nil⟩)
def x_k133 : b_K := (128, 6, ([((-2147483648), 2147483647, 0)], [], [], [(2, (0, [])), (0, (0, [(0, 1)]))], []), [(43, 1), (43, 2), (43, 3), (43, 4), (43, 5), (43, 6), (43, 7), (43, 8), (44, 0), (45, 0), (46, 0), (47, 0), (48, 0), (49, 0), (50, 0), (51, 0), (52, 0), (53, 2), (53, 7), (54, 0), (55, 0), (56, 0), (57, 0), (58, 0), (59, 0), (60, 0), (61, 0), (62, 0), (63, 0), (64, 0), (65, 0), (66, 0), (67, 0), (68, 0), (69, 0)], [([((-2147483648), 2147483647, 0), ((-2), 63, 0)], [], [], [(0, (0, [(1, 1)]))], [])])
def x_u133 : List b_Cu := []
-- B.plea, 80 steps
theorem x_z133 : b_chk0 x_T x_k133 x_u133 = true := by decide +kernel
theorem x_e133 : b_chkE x_F x_T x_Z x_dep x_hn [x_k132] x_k133 x_u133 140 = true := by decide +kernel
theorem x_v133 {N : Int} {fz : List (List Int32)} (hZ : b_ZOk x_Z (x_G N) fz) : b_Valid x_F fz x_T (x_G N) x_k133 := b_valid (x_gOk N) x_depOk hZ x_hn_ok (Γ := [x_k132]) (List.forall_mem_cons.mpr ⟨x_v132 hZ, fun _ h => absurd h List.not_mem_nil⟩) x_z133 x_e133 (fun _ h => absurd h List.not_mem_nil)
def x_k134 : b_K := (131, 6, ([((-2147483648), 2147483647, 0)], [], [], [(2, (0, [])), (0, (0, [(0, 1)]))], []), [(43, 1), (43, 2), (43, 3), (43, 4), (43, 5), (43, 6), (43, 7), (43, 8), (44, 0), (45, 0), (46, 0), (47, 0), (48, 0), (49, 0), (50, 0), (51, 0), (52, 0), (53, 2), (53, 7), (54, 0), (55, 0), (56, 0), (57, 0), (58, 0), (59, 0), (60, 0), (61, 0), (62, 0), (63, 0), (64, 0), (65, 0), (66, 0), (67, 0), (68, 0), (69, 0)], [([((-2147483648), 2147483647, 0), ((-2), 15, 0)], [], [], [(0, (0, [(1, 1)]))], [])])
def x_u134 : List b_Cu := []
-- B.pleas, 30 steps
theorem x_z134 : b_chk0 x_T x_k134 x_u134 = true := by decide +kernel
theorem x_e134 : b_chkE x_F x_T x_Z x_dep x_hn [x_k132] x_k134 x_u134 120 = true := by decide +kernel
theorem x_v134 {N : Int} {fz : List (List Int32)} (hZ : b_ZOk x_Z (x_G N) fz) : b_Valid x_F fz x_T (x_G N) x_k134 := b_valid (x_gOk N) x_depOk hZ x_hn_ok (Γ := [x_k132]) (List.forall_mem_cons.mpr ⟨x_v132 hZ, fun _ h => absurd h List.not_mem_nil⟩) x_z134 x_e134 (fun _ h => absurd h List.not_mem_nil)
def x_k135 : b_K := (133, 5, ([(0, 7, 0)], [], [], [(2, (42, [])), (0, (0, [(0, 1)]))], []), [(43, 1), (43, 2), (43, 3), (43, 4), (43, 5), (43, 6), (43, 7), (43, 8), (44, 0), (45, 0), (46, 0), (47, 0), (48, 0), (49, 0), (50, 0), (51, 0), (52, 0), (53, 2), (53, 7), (54, 0), (55, 0), (56, 0), (57, 0), (58, 0), (59, 0), (60, 0), (61, 0), (62, 0), (63, 0), (64, 0), (65, 0), (66, 0), (67, 0), (68, 0), (69, 0)], [([(0, 7, 0), ((-1), 13, 0)], [], [], [(0, (0, [(1, 1)]))], [])])
def x_u135_0 : b_Cu := (11, ([(0, 7, 0), ((-1), 13, 0), (0, 2147483647, 0), (0, 14, 0)], [], [(0, (2, (42, []))), (1, (0, (0, [(0, 1)]))), (2, (0, (0, [(1, 1)]))), (3, (0, (0, [(2, 1)]))), (4, (0, (0, [(3, 1)])))], [], []), (14, [(3, (-1))]))
def x_u135 : List b_Cu := [x_u135_0]
-- Trial.bestDay, 90 steps
theorem x_z135 : b_chk0 x_T x_k135 x_u135 = true := by decide +kernel
theorem x_e135 : b_chkE x_F x_T x_Z x_dep x_hn [x_k122, x_k121, x_k131] x_k135 x_u135 150 = true := by decide +kernel
theorem x_c135_0 : b_chkC x_F x_T x_Z x_dep x_hn [x_k122, x_k121, x_k131] x_k135 x_u135 150 x_u135_0 = true := by decide +kernel
theorem x_v135 {N : Int} {fz : List (List Int32)} (hZ : b_ZOk x_Z (x_G N) fz) : b_Valid x_F fz x_T (x_G N) x_k135 := b_valid (x_gOk N) x_depOk hZ x_hn_ok (Γ := [x_k122, x_k121, x_k131]) (List.forall_mem_cons.mpr ⟨x_v122 hZ, List.forall_mem_cons.mpr ⟨x_v121 hZ, List.forall_mem_cons.mpr ⟨x_v131 hZ, fun _ h => absurd h List.not_mem_nil⟩⟩⟩) x_z135 x_e135 (List.forall_mem_cons.mpr ⟨x_c135_0, fun _ h => absurd h List.not_mem_nil⟩)
def x_k136 : b_K := (132, 6, ([((-2147483648), 2147483647, 0)], [], [], [(2, (0, [])), (0, (0, [(0, 1)]))], []), [(43, 1), (43, 2), (43, 3), (43, 4), (43, 5), (43, 6), (43, 7), (43, 8), (44, 0), (45, 0), (46, 0), (47, 0), (48, 0), (49, 0), (50, 0), (51, 0), (52, 0), (53, 2), (53, 7), (54, 0), (55, 0), (56, 0), (57, 0), (58, 0), (59, 0), (60, 0), (61, 0), (62, 0), (63, 0), (64, 0), (65, 0), (66, 0), (67, 0), (68, 0), (69, 0)], [([((-2147483648), 2147483647, 0), ((-2), 13, 0)], [], [], [(0, (0, [(1, 1)]))], [])])
def x_u136 : List b_Cu := []
-- B.when, 30 steps
theorem x_z136 : b_chk0 x_T x_k136 x_u136 = true := by decide +kernel
theorem x_e136 : b_chkE x_F x_T x_Z x_dep x_hn [x_k135] x_k136 x_u136 120 = true := by decide +kernel
theorem x_v136 {N : Int} {fz : List (List Int32)} (hZ : b_ZOk x_Z (x_G N) fz) : b_Valid x_F fz x_T (x_G N) x_k136 := b_valid (x_gOk N) x_depOk hZ x_hn_ok (Γ := [x_k135]) (List.forall_mem_cons.mpr ⟨x_v135 hZ, fun _ h => absurd h List.not_mem_nil⟩) x_z136 x_e136 (fun _ h => absurd h List.not_mem_nil)
def x_k137 : b_K := (94, 3, ([], [], [], [(2, (53, []))], []), [], [([((-2147483648), 2147483647, 0)], [], [], [(0, (0, [(0, 1)]))], [])])
def x_u137_0 : b_Cu := (4, ([((-2147483648), 2147483647, 0), (0, 8, 0)], [], [(0, (2, (53, []))), (1, (0, (0, [(0, 1)]))), (2, (0, (0, [(1, 1)])))], [], []), (8, [(1, (-1))]))
def x_u137 : List b_Cu := [x_u137_0]
-- Court.total, 53 steps
theorem x_z137 : b_chk0 x_T x_k137 x_u137 = true := by decide +kernel
theorem x_e137 : b_chkE x_F x_T x_Z x_dep x_hn [] x_k137 x_u137 120 = true := by decide +kernel
theorem x_c137_0 : b_chkC x_F x_T x_Z x_dep x_hn [] x_k137 x_u137 120 x_u137_0 = true := by decide +kernel
theorem x_v137 {N : Int} {fz : List (List Int32)} (hZ : b_ZOk x_Z (x_G N) fz) : b_Valid x_F fz x_T (x_G N) x_k137 := b_valid (x_gOk N) x_depOk hZ x_hn_ok (Γ := []) (fun _ h => absurd h List.not_mem_nil) x_z137 x_e137 (List.forall_mem_cons.mpr ⟨x_c137_0, fun _ h => absurd h List.not_mem_nil⟩)
def x_k138 : b_K := (135, 5, ([], [], [], [(2, (42, [])), (2, (23, []))], []), [(43, 1), (43, 2), (43, 3), (43, 4), (43, 5), (43, 6), (43, 7), (43, 8), (44, 0), (45, 0), (46, 0), (47, 0), (48, 0), (49, 0), (50, 0), (51, 0), (52, 0), (53, 2), (53, 7), (54, 0), (55, 0), (56, 0), (57, 0), (58, 0), (59, 0), (60, 0), (61, 0), (62, 0), (63, 0), (64, 0), (65, 0), (66, 0), (67, 0), (68, 0), (69, 0)], [([((-1), 7, 0)], [], [], [(0, (0, [(0, 1)]))], [])])
def x_u138_0 : b_Cu := (11, ([((-1), 7, 0), ((-2147483648), 2147483646, 0), (0, 8, 0)], [], [(0, (2, (42, []))), (1, (2, (23, []))), (2, (0, (0, [(0, 1)]))), (3, (0, (0, [(1, 1)]))), (4, (0, (0, [(2, 1)])))], [], []), (8, [(2, (-1))]))
def x_u138 : List b_Cu := [x_u138_0]
-- Trial.costliest, 119 steps
theorem x_z138 : b_chk0 x_T x_k138 x_u138 = true := by decide +kernel
theorem x_e138 : b_chkE x_F x_T x_Z x_dep x_hn [x_k122, x_k131, x_k137, x_k88] x_k138 x_u138 179 = true := by decide +kernel
theorem x_c138_0 : b_chkC x_F x_T x_Z x_dep x_hn [x_k122, x_k131, x_k137, x_k88] x_k138 x_u138 179 x_u138_0 = true := by decide +kernel
theorem x_v138 {N : Int} {fz : List (List Int32)} (hZ : b_ZOk x_Z (x_G N) fz) : b_Valid x_F fz x_T (x_G N) x_k138 := b_valid (x_gOk N) x_depOk hZ x_hn_ok (Γ := [x_k122, x_k131, x_k137, x_k88]) (List.forall_mem_cons.mpr ⟨x_v122 hZ, List.forall_mem_cons.mpr ⟨x_v131 hZ, List.forall_mem_cons.mpr ⟨x_v137 hZ, List.forall_mem_cons.mpr ⟨x_v88 hZ, fun _ h => absurd h List.not_mem_nil⟩⟩⟩⟩) x_z138 x_e138 (List.forall_mem_cons.mpr ⟨x_c138_0, fun _ h => absurd h List.not_mem_nil⟩)
def x_k139 : b_K := (134, 6, ([], [], [], [(2, (0, []))], []), [(43, 1), (43, 2), (43, 3), (43, 4), (43, 5), (43, 6), (43, 7), (43, 8), (44, 0), (45, 0), (46, 0), (47, 0), (48, 0), (49, 0), (50, 0), (51, 0), (52, 0), (53, 2), (53, 7), (54, 0), (55, 0), (56, 0), (57, 0), (58, 0), (59, 0), (60, 0), (61, 0), (62, 0), (63, 0), (64, 0), (65, 0), (66, 0), (67, 0), (68, 0), (69, 0)], [([((-2), 7, 0)], [], [], [(0, (0, [(0, 1)]))], [])])
def x_u139 : List b_Cu := []
-- B.blame, 22 steps
theorem x_z139 : b_chk0 x_T x_k139 x_u139 = true := by decide +kernel
theorem x_e139 : b_chkE x_F x_T x_Z x_dep x_hn [x_k138] x_k139 x_u139 120 = true := by decide +kernel
theorem x_v139 {N : Int} {fz : List (List Int32)} (hZ : b_ZOk x_Z (x_G N) fz) : b_Valid x_F fz x_T (x_G N) x_k139 := b_valid (x_gOk N) x_depOk hZ x_hn_ok (Γ := [x_k138]) (List.forall_mem_cons.mpr ⟨x_v138 hZ, fun _ h => absurd h List.not_mem_nil⟩) x_z139 x_e139 (fun _ h => absurd h List.not_mem_nil)
def x_k140 : b_K := (141, 2, ([(0, 3, 0), (0, 60, 0)], [], [], [(2, (77, [])), (0, (0, [(0, 1)]))], [(76, (0, [(0, 1)]), (0, (0, [(1, 1)])))]), [], [([(0, 3, 0), (0, 60, 0)], [], [], [(0, (0, []))], [(76, (0, [(0, 1)]), (0, (0, [(1, 1)])))]),
  ([(0, 3, 0), (0, 60, 0)], [], [], [(0, (1, []))], [(141, (0, [(0, 1)]), (0, (1, []))), (76, (0, [(0, 1)]), (0, (0, [(1, 1)])))])])
def x_u140_0 : b_Cu := (11, ([(0, 3, 0), (0, 60, 0), (0, 30, 0)], [], [(0, (2, (77, []))), (1, (0, (0, [(0, 1)]))), (2, (0, (0, [(1, 1)]))), (3, (0, (0, [(2, 2)])))], [], [(76, (0, [(0, 1)]), (0, (0, [(1, 1)]))), (140, (0, [(0, 32), (2, 1)]), (0, (1, [])))]), (60, [(2, (-2))]))
def x_u140 : List b_Cu := [x_u140_0]
-- Seen.isReadable, 95 steps
theorem x_z140 : b_chk0 x_T x_k140 x_u140 = true := by decide +kernel
theorem x_e140 : b_chkE x_F x_T x_Z x_dep x_hn [] x_k140 x_u140 155 = true := by decide +kernel
theorem x_c140_0 : b_chkC x_F x_T x_Z x_dep x_hn [] x_k140 x_u140 155 x_u140_0 = true := by decide +kernel
theorem x_v140 {N : Int} {fz : List (List Int32)} (hZ : b_ZOk x_Z (x_G N) fz) : b_Valid x_F fz x_T (x_G N) x_k140 := b_valid (x_gOk N) x_depOk hZ x_hn_ok (Γ := []) (fun _ h => absurd h List.not_mem_nil) x_z140 x_e140 (List.forall_mem_cons.mpr ⟨x_c140_0, fun _ h => absurd h List.not_mem_nil⟩)
def x_k141 : b_K := (145, 3, ([(0, 3, 0), (0, 60, 0), (1, 1, 0)], [], [], [(2, (77, [])), (0, (0, [(0, 1)]))], [(76, (0, [(0, 1)]), (0, (0, [(1, 1)]))), (141, (0, [(0, 1)]), (0, (0, [(2, 1)])))]), [], [([(0, 3, 0), (2, 60, 0), (1, 1, 0)], [], [], [(0, (0, []))], [(76, (0, [(0, 1)]), (0, (0, [(1, 1)]))), (141, (0, [(0, 1)]), (0, (0, [(2, 1)])))]),
  ([(0, 3, 0), (0, 60, 0), (1, 1, 0)], [], [], [(0, (1, []))], [(76, (0, [(0, 1)]), (0, (0, [(1, 1)]))), (141, (0, [(0, 1)]), (0, (0, [(2, 1)])))])])
def x_u141_0 : b_Cu := (2, ([(0, 3, 0), (0, 60, 0), (1, 1, 0), (0, 30, 0)], [], [(0, (2, (77, []))), (1, (0, (0, [(0, 1)]))), (2, (0, (0, [(3, 2)])))], [], [(76, (0, [(0, 1)]), (0, (0, [(1, 1)]))), (141, (0, [(0, 1)]), (0, (0, [(2, 1)])))]), (60, [(3, (-2))]))
def x_u141 : List b_Cu := [x_u141_0]
-- Seen.isAsSeen, 116 steps
theorem x_z141 : b_chk0 x_T x_k141 x_u141 = true := by decide +kernel
theorem x_e141 : b_chkE x_F x_T x_Z x_dep x_hn [] x_k141 x_u141 176 = true := by decide +kernel
theorem x_c141_0 : b_chkC x_F x_T x_Z x_dep x_hn [] x_k141 x_u141 176 x_u141_0 = true := by decide +kernel
theorem x_v141 {N : Int} {fz : List (List Int32)} (hZ : b_ZOk x_Z (x_G N) fz) : b_Valid x_F fz x_T (x_G N) x_k141 := b_valid (x_gOk N) x_depOk hZ x_hn_ok (Γ := []) (fun _ h => absurd h List.not_mem_nil) x_z141 x_e141 (List.forall_mem_cons.mpr ⟨x_c141_0, fun _ h => absurd h List.not_mem_nil⟩)
def x_k142 : b_K := (144, 5, ([(0, 3, 0), (0, 6, 0), (0, 41, 0), (0, 60, 0), (1, 1, 0)], [], [], [(2, (77, [])), (0, (0, [(0, 1)])), (0, (0, [(1, 1)]))], [(77, (2, []), (0, (0, [(2, 1)]))), (76, (0, [(0, 1)]), (0, (0, [(3, 1)]))), (141, (0, [(0, 1)]), (0, (0, [(4, 1)])))]), [(43, 1), (43, 2), (43, 3), (43, 4), (43, 5), (43, 6), (43, 7), (43, 8), (44, 0), (45, 0), (46, 0), (47, 0), (48, 0), (49, 0), (50, 0), (51, 0), (52, 0), (53, 2), (53, 7), (54, 0), (55, 0), (56, 0), (57, 0), (58, 0), (59, 0), (60, 0), (61, 0), (62, 0), (63, 0), (64, 0), (65, 0), (66, 0), (67, 0), (68, 0), (69, 0), (77, 3), (78, 0), (79, 0)], [([(0, 3, 0), (0, 6, 0), (0, 41, 0), (0, 60, 0), (1, 1, 0), (0, 41, 0)], [], [], [], [(77, (2, []), (0, (0, [(5, 1)]))), (76, (0, [(0, 1)]), (0, (0, [(3, 1)]))), (141, (0, [(0, 1)]), (0, (0, [(4, 1)])))])])
def x_u142_0 : b_Cu := (14, ([(0, 3, 0), (0, 6, 0), (0, 41, 0), (0, 60, 0), (1, 1, 0), (0, 41, 0), (0, 41, 0), (0, 7, 0), (0, 7, 0)], [(0, [(5, (-1)), (6, 1)])], [(0, (2, (77, []))), (1, (0, (0, [(0, 1)]))), (2, (0, (0, [(1, 1)]))), (3, (0, (0, [(5, 1)])))], [], [(77, (2, []), (0, (0, [(6, 1)]))), (43, (4, []), (0, (0, [(7, 1)]))), (13, (4, []), (0, (0, [(8, 1)]))), (76, (0, [(0, 1)]), (0, (0, [(3, 1)]))), (141, (0, [(0, 1)]), (0, (0, [(4, 1)])))]), (747, [(5, (-18))]))
def x_u142_1 : b_Cu := (69, ([(0, 3, 0), (0, 6, 0), (0, 41, 0), (0, 60, 0), (1, 1, 0), (0, 40, 0), (0, 8, 0), (0, 40, 0), (0, 7, 0), (0, 7, 0)], [(0, [(5, (-1)), (7, 1)])], [(0, (2, (77, []))), (1, (0, (0, [(0, 1)]))), (2, (0, (0, [(1, 1)]))), (3, (0, (0, [(5, 1)]))), (4, (0, (0, [(6, 1)])))], [], [(76, (0, [(0, 1)]), (0, (0, [(3, 1)]))), (141, (0, [(0, 1)]), (0, (0, [(4, 1)]))), (77, (2, []), (0, (0, [(7, 1)]))), (43, (4, []), (0, (0, [(8, 1)]))), (13, (4, []), (0, (0, [(9, 1)])))]), (746, [(5, (-18)), (6, (-1))]))
def x_u142 : List b_Cu := [x_u142_0, x_u142_1]
-- Seen.gather, 100 steps
theorem x_z142 : b_chk0 x_T x_k142 x_u142 = true := by decide +kernel
theorem x_e142 : b_chkE x_F x_T x_Z x_dep x_hn [x_k122, x_k131, x_k141] x_k142 x_u142 160 = true := by decide +kernel
theorem x_c142_0 : b_chkC x_F x_T x_Z x_dep x_hn [x_k122, x_k131, x_k141] x_k142 x_u142 160 x_u142_0 = true := by decide +kernel
theorem x_c142_1 : b_chkC x_F x_T x_Z x_dep x_hn [x_k122, x_k131, x_k141] x_k142 x_u142 160 x_u142_1 = true := by decide +kernel
theorem x_v142 {N : Int} {fz : List (List Int32)} (hZ : b_ZOk x_Z (x_G N) fz) : b_Valid x_F fz x_T (x_G N) x_k142 := b_valid (x_gOk N) x_depOk hZ x_hn_ok (Γ := [x_k122, x_k131, x_k141]) (List.forall_mem_cons.mpr ⟨x_v122 hZ, List.forall_mem_cons.mpr ⟨x_v131 hZ, List.forall_mem_cons.mpr ⟨x_v141 hZ, fun _ h => absurd h List.not_mem_nil⟩⟩⟩) x_z142 x_e142 (List.forall_mem_cons.mpr ⟨x_c142_0, List.forall_mem_cons.mpr ⟨x_c142_1, fun _ h => absurd h List.not_mem_nil⟩⟩)
def x_k143 : b_K := (136, 7, ([((-2147483648), 2147483647, 0), ((-2147483648), 2147483647, 0)], [], [], [(2, (0, [])), (0, (0, [(0, 1)])), (0, (0, [(1, 1)]))], []), [(43, 1), (43, 2), (43, 3), (43, 4), (43, 5), (43, 6), (43, 7), (43, 8), (44, 0), (45, 0), (46, 0), (47, 0), (48, 0), (49, 0), (50, 0), (51, 0), (52, 0), (53, 2), (53, 7), (54, 0), (55, 0), (56, 0), (57, 0), (58, 0), (59, 0), (60, 0), (61, 0), (62, 0), (63, 0), (64, 0), (65, 0), (66, 0), (67, 0), (68, 0), (69, 0), (77, 3), (78, 0), (79, 0)], [([((-2147483648), 2147483647, 0), ((-2147483648), 2147483647, 0), ((-6), 41, 0)], [], [], [(0, (0, [(2, 1)]))], [])])
def x_u143 : List b_Cu := []
-- B.fits, 147 steps
theorem x_z143 : b_chk0 x_T x_k143 x_u143 = true := by decide +kernel
theorem x_e143 : b_chkE x_F x_T x_Z x_dep x_hn [x_k140, x_k142] x_k143 x_u143 207 = true := by decide +kernel
theorem x_v143 {N : Int} {fz : List (List Int32)} (hZ : b_ZOk x_Z (x_G N) fz) : b_Valid x_F fz x_T (x_G N) x_k143 := b_valid (x_gOk N) x_depOk hZ x_hn_ok (Γ := [x_k140, x_k142]) (List.forall_mem_cons.mpr ⟨x_v140 hZ, List.forall_mem_cons.mpr ⟨x_v142 hZ, fun _ h => absurd h List.not_mem_nil⟩⟩) x_z143 x_e143 (fun _ h => absurd h List.not_mem_nil)
def x_k144 : b_K := (146, 7, ([((-2147483648), 2147483647, 0), ((-2147483648), 2147483647, 0)], [], [], [(2, (0, [])), (0, (0, [(0, 1)])), (0, (0, [(1, 1)]))], []), [(43, 1), (43, 2), (43, 3), (43, 4), (43, 5), (43, 6), (43, 7), (43, 8), (44, 0), (45, 0), (46, 0), (47, 0), (48, 0), (49, 0), (50, 0), (51, 0), (52, 0), (53, 2), (53, 7), (54, 0), (55, 0), (56, 0), (57, 0), (58, 0), (59, 0), (60, 0), (61, 0), (62, 0), (63, 0), (64, 0), (65, 0), (66, 0), (67, 0), (68, 0), (69, 0), (77, 3), (78, 0), (79, 0)], [([((-2147483648), 2147483647, 0), ((-2147483648), 2147483647, 0), ((-6), 40, 0)], [], [], [(0, (0, [(2, 1)]))], [])])
def x_u144 : List b_Cu := []
-- B.low, 159 steps
theorem x_z144 : b_chk0 x_T x_k144 x_u144 = true := by decide +kernel
theorem x_e144 : b_chkE x_F x_T x_Z x_dep x_hn [x_k140, x_k142] x_k144 x_u144 219 = true := by decide +kernel
theorem x_v144 {N : Int} {fz : List (List Int32)} (hZ : b_ZOk x_Z (x_G N) fz) : b_Valid x_F fz x_T (x_G N) x_k144 := b_valid (x_gOk N) x_depOk hZ x_hn_ok (Γ := [x_k140, x_k142]) (List.forall_mem_cons.mpr ⟨x_v140 hZ, List.forall_mem_cons.mpr ⟨x_v142 hZ, fun _ h => absurd h List.not_mem_nil⟩⟩) x_z144 x_e144 (fun _ h => absurd h List.not_mem_nil)
def x_k145 : b_K := (148, 7, ([((-2147483648), 2147483647, 0), ((-2147483648), 2147483647, 0)], [], [], [(2, (0, [])), (0, (0, [(0, 1)])), (0, (0, [(1, 1)]))], []), [(43, 1), (43, 2), (43, 3), (43, 4), (43, 5), (43, 6), (43, 7), (43, 8), (44, 0), (45, 0), (46, 0), (47, 0), (48, 0), (49, 0), (50, 0), (51, 0), (52, 0), (53, 2), (53, 7), (54, 0), (55, 0), (56, 0), (57, 0), (58, 0), (59, 0), (60, 0), (61, 0), (62, 0), (63, 0), (64, 0), (65, 0), (66, 0), (67, 0), (68, 0), (69, 0), (77, 3), (78, 0), (79, 0)], [([((-2147483648), 2147483647, 0), ((-2147483648), 2147483647, 0), ((-6), 40, 0)], [], [], [(0, (0, [(2, 1)]))], [])])
def x_u145 : List b_Cu := []
-- B.high, 162 steps
theorem x_z145 : b_chk0 x_T x_k145 x_u145 = true := by decide +kernel
theorem x_e145 : b_chkE x_F x_T x_Z x_dep x_hn [x_k140, x_k142] x_k145 x_u145 222 = true := by decide +kernel
theorem x_v145 {N : Int} {fz : List (List Int32)} (hZ : b_ZOk x_Z (x_G N) fz) : b_Valid x_F fz x_T (x_G N) x_k145 := b_valid (x_gOk N) x_depOk hZ x_hn_ok (Γ := [x_k140, x_k142]) (List.forall_mem_cons.mpr ⟨x_v140 hZ, List.forall_mem_cons.mpr ⟨x_v142 hZ, fun _ h => absurd h List.not_mem_nil⟩⟩) x_z145 x_e145 (fun _ h => absurd h List.not_mem_nil)
def x_k146 : b_K := (152, 1, ([(0, 7, 0)], [], [], [(2, (77, [])), (0, (0, [(0, 1)]))], []), [], [([(0, 7, 0), (0, 2147483647, 0)], [], [], [(0, (0, [(1, 1)]))], [])])
def x_u146_0 : b_Cu := (4, ([(0, 7, 0), (0, 2147483647, 0), (0, 41, 0)], [], [(0, (2, (77, []))), (1, (0, (0, [(0, 1)]))), (2, (0, (0, [(1, 1)]))), (3, (0, (0, [(2, 1)])))], [], []), (3486, [(2, (-84))]))
def x_u146_1 : b_Cu := (18, ([(0, 7, 0), (0, 2147483647, 0), (0, 40, 0), ((-2147483648), 2147483647, 0), (0, 41, 0)], [], [(0, (2, (77, []))), (1, (0, (0, [(0, 1)]))), (2, (0, (0, [(1, 1)]))), (3, (0, (0, [(2, 1)]))), (4, (0, (0, [(3, 1)]))), (5, (0, (0, [(4, 1)])))], [], []), (3485, [(2, (-84)), (4, (-1))]))
def x_u146 : List b_Cu := [x_u146_0, x_u146_1]
-- Seen.leftAtWorst, 53 steps
theorem x_z146 : b_chk0 x_T x_k146 x_u146 = true := by decide +kernel
theorem x_e146 : b_chkE x_F x_T x_Z x_dep x_hn [] x_k146 x_u146 120 = true := by decide +kernel
theorem x_c146_0 : b_chkC x_F x_T x_Z x_dep x_hn [] x_k146 x_u146 120 x_u146_0 = true := by decide +kernel
theorem x_c146_1 : b_chkC x_F x_T x_Z x_dep x_hn [] x_k146 x_u146 120 x_u146_1 = true := by decide +kernel
theorem x_v146 {N : Int} {fz : List (List Int32)} (hZ : b_ZOk x_Z (x_G N) fz) : b_Valid x_F fz x_T (x_G N) x_k146 := b_valid (x_gOk N) x_depOk hZ x_hn_ok (Γ := []) (fun _ h => absurd h List.not_mem_nil) x_z146 x_e146 (List.forall_mem_cons.mpr ⟨x_c146_0, List.forall_mem_cons.mpr ⟨x_c146_1, fun _ h => absurd h List.not_mem_nil⟩⟩)
def x_k147 : b_K := (151, 2, ([], [], [], [(2, (77, []))], []), [], [([((-1), 7, 0)], [], [], [(0, (0, [(0, 1)]))], [])])
def x_u147_0 : b_Cu := (9, ([((-1), 7, 0), (0, 41, 0), (0, 8, 0)], [], [(0, (2, (77, []))), (1, (0, (0, [(0, 1)]))), (2, (0, (0, [(1, 1)]))), (3, (0, (0, [(2, 1)])))], [], []), (8, [(2, (-1))]))
def x_u147 : List b_Cu := [x_u147_0]
-- Seen.bestQuestion, 30 steps
theorem x_z147 : b_chk0 x_T x_k147 x_u147 = true := by decide +kernel
theorem x_e147 : b_chkE x_F x_T x_Z x_dep x_hn [x_k146] x_k147 x_u147 120 = true := by decide +kernel
theorem x_c147_0 : b_chkC x_F x_T x_Z x_dep x_hn [x_k146] x_k147 x_u147 120 x_u147_0 = true := by decide +kernel
theorem x_v147 {N : Int} {fz : List (List Int32)} (hZ : b_ZOk x_Z (x_G N) fz) : b_Valid x_F fz x_T (x_G N) x_k147 := b_valid (x_gOk N) x_depOk hZ x_hn_ok (Γ := [x_k146]) (List.forall_mem_cons.mpr ⟨x_v146 hZ, fun _ h => absurd h List.not_mem_nil⟩) x_z147 x_e147 (List.forall_mem_cons.mpr ⟨x_c147_0, fun _ h => absurd h List.not_mem_nil⟩)
def x_k148 : b_K := (150, 7, ([((-2147483648), 2147483647, 0), ((-2147483648), 2147483647, 0)], [], [], [(2, (0, [])), (0, (0, [(0, 1)])), (0, (0, [(1, 1)]))], []), [(43, 1), (43, 2), (43, 3), (43, 4), (43, 5), (43, 6), (43, 7), (43, 8), (44, 0), (45, 0), (46, 0), (47, 0), (48, 0), (49, 0), (50, 0), (51, 0), (52, 0), (53, 2), (53, 7), (54, 0), (55, 0), (56, 0), (57, 0), (58, 0), (59, 0), (60, 0), (61, 0), (62, 0), (63, 0), (64, 0), (65, 0), (66, 0), (67, 0), (68, 0), (69, 0), (77, 3), (78, 0), (79, 0)], [([((-2147483648), 2147483647, 0), ((-2147483648), 2147483647, 0), ((-6), 7, 0)], [], [], [(0, (0, [(2, 1)]))], [])])
def x_u148 : List b_Cu := []
-- B.ask, 147 steps
theorem x_z148 : b_chk0 x_T x_k148 x_u148 = true := by decide +kernel
theorem x_e148 : b_chkE x_F x_T x_Z x_dep x_hn [x_k140, x_k142, x_k147] x_k148 x_u148 207 = true := by decide +kernel
theorem x_v148 {N : Int} {fz : List (List Int32)} (hZ : b_ZOk x_Z (x_G N) fz) : b_Valid x_F fz x_T (x_G N) x_k148 := b_valid (x_gOk N) x_depOk hZ x_hn_ok (Γ := [x_k140, x_k142, x_k147]) (List.forall_mem_cons.mpr ⟨x_v140 hZ, List.forall_mem_cons.mpr ⟨x_v142 hZ, List.forall_mem_cons.mpr ⟨x_v147 hZ, fun _ h => absurd h List.not_mem_nil⟩⟩⟩) x_z148 x_e148 (fun _ h => absurd h List.not_mem_nil)
def x_k149 : b_K := (153, 7, ([((-2147483648), 2147483647, 0), ((-2147483648), 2147483647, 0)], [], [], [(2, (0, [])), (0, (0, [(0, 1)])), (0, (0, [(1, 1)]))], []), [(43, 1), (43, 2), (43, 3), (43, 4), (43, 5), (43, 6), (43, 7), (43, 8), (44, 0), (45, 0), (46, 0), (47, 0), (48, 0), (49, 0), (50, 0), (51, 0), (52, 0), (53, 2), (53, 7), (54, 0), (55, 0), (56, 0), (57, 0), (58, 0), (59, 0), (60, 0), (61, 0), (62, 0), (63, 0), (64, 0), (65, 0), (66, 0), (67, 0), (68, 0), (69, 0), (77, 3), (78, 0), (79, 0)], [([((-2147483648), 2147483647, 0), ((-2147483648), 2147483647, 0), ((-6), 2147483647, 0)], [], [], [(0, (0, [(2, 1)]))], [])])
def x_u149 : List b_Cu := []
-- B.leaves, 154 steps
theorem x_z149 : b_chk0 x_T x_k149 x_u149 = true := by decide +kernel
theorem x_e149 : b_chkE x_F x_T x_Z x_dep x_hn [x_k140, x_k142, x_k147, x_k146] x_k149 x_u149 214 = true := by decide +kernel
theorem x_v149 {N : Int} {fz : List (List Int32)} (hZ : b_ZOk x_Z (x_G N) fz) : b_Valid x_F fz x_T (x_G N) x_k149 := b_valid (x_gOk N) x_depOk hZ x_hn_ok (Γ := [x_k140, x_k142, x_k147, x_k146]) (List.forall_mem_cons.mpr ⟨x_v140 hZ, List.forall_mem_cons.mpr ⟨x_v142 hZ, List.forall_mem_cons.mpr ⟨x_v147 hZ, List.forall_mem_cons.mpr ⟨x_v146 hZ, fun _ h => absurd h List.not_mem_nil⟩⟩⟩⟩) x_z149 x_e149 (fun _ h => absurd h List.not_mem_nil)
def x_k150 : b_K := (155, 5, ([(0, 3, 0), (0, 60, 0), (1, 1, 0)], [], [], [(2, (77, [])), (0, (0, [(0, 1)]))], [(76, (0, [(0, 1)]), (0, (0, [(1, 1)]))), (141, (0, [(0, 1)]), (0, (0, [(2, 1)])))]), [(43, 1), (43, 2), (43, 3), (43, 4), (43, 5), (43, 6), (43, 7), (43, 8), (44, 0), (45, 0), (46, 0), (47, 0), (48, 0), (49, 0), (50, 0), (51, 0), (52, 0), (53, 2), (53, 7), (54, 0), (55, 0), (56, 0), (57, 0), (58, 0), (59, 0), (60, 0), (61, 0), (62, 0), (63, 0), (64, 0), (65, 0), (66, 0), (67, 0), (68, 0), (69, 0)], [([(0, 3, 0), (0, 60, 0), (1, 1, 0), ((-2147483648), 2147483647, 0)], [], [], [(0, (0, [(3, 1)]))], [(76, (0, [(0, 1)]), (0, (0, [(1, 1)]))), (141, (0, [(0, 1)]), (0, (0, [(2, 1)])))])])
def x_u150_0 : b_Cu := (11, ([(0, 3, 0), (0, 60, 0), (1, 1, 0), ((-2147483648), 2147483647, 0), (0, 4, 0)], [], [(0, (2, (77, []))), (1, (0, (0, [(0, 1)]))), (2, (0, (0, [(3, 1)]))), (3, (0, (0, [(4, 1)])))], [], [(76, (0, [(0, 1)]), (0, (0, [(1, 1)]))), (141, (0, [(0, 1)]), (0, (0, [(2, 1)])))]), (4, [(4, (-1))]))
def x_u150 : List b_Cu := [x_u150_0]
-- Seen.fittingLaws, 42 steps
theorem x_z150 : b_chk0 x_T x_k150 x_u150 = true := by decide +kernel
theorem x_e150 : b_chkE x_F x_T x_Z x_dep x_hn [x_k122, x_k131, x_k141] x_k150 x_u150 120 = true := by decide +kernel
theorem x_c150_0 : b_chkC x_F x_T x_Z x_dep x_hn [x_k122, x_k131, x_k141] x_k150 x_u150 120 x_u150_0 = true := by decide +kernel
theorem x_v150 {N : Int} {fz : List (List Int32)} (hZ : b_ZOk x_Z (x_G N) fz) : b_Valid x_F fz x_T (x_G N) x_k150 := b_valid (x_gOk N) x_depOk hZ x_hn_ok (Γ := [x_k122, x_k131, x_k141]) (List.forall_mem_cons.mpr ⟨x_v122 hZ, List.forall_mem_cons.mpr ⟨x_v131 hZ, List.forall_mem_cons.mpr ⟨x_v141 hZ, fun _ h => absurd h List.not_mem_nil⟩⟩⟩) x_z150 x_e150 (List.forall_mem_cons.mpr ⟨x_c150_0, fun _ h => absurd h List.not_mem_nil⟩)
def x_k151 : b_K := (154, 6, ([((-2147483648), 2147483647, 0)], [], [], [(2, (0, [])), (0, (0, [(0, 1)]))], []), [(43, 1), (43, 2), (43, 3), (43, 4), (43, 5), (43, 6), (43, 7), (43, 8), (44, 0), (45, 0), (46, 0), (47, 0), (48, 0), (49, 0), (50, 0), (51, 0), (52, 0), (53, 2), (53, 7), (54, 0), (55, 0), (56, 0), (57, 0), (58, 0), (59, 0), (60, 0), (61, 0), (62, 0), (63, 0), (64, 0), (65, 0), (66, 0), (67, 0), (68, 0), (69, 0)], [([((-2147483648), 2147483647, 0), ((-2147483648), 2147483647, 0)], [], [], [(0, (0, [(1, 1)]))], [])])
def x_u151 : List b_Cu := []
-- B.laws, 91 steps
theorem x_z151 : b_chk0 x_T x_k151 x_u151 = true := by decide +kernel
theorem x_e151 : b_chkE x_F x_T x_Z x_dep x_hn [x_k140, x_k150] x_k151 x_u151 151 = true := by decide +kernel
theorem x_v151 {N : Int} {fz : List (List Int32)} (hZ : b_ZOk x_Z (x_G N) fz) : b_Valid x_F fz x_T (x_G N) x_k151 := b_valid (x_gOk N) x_depOk hZ x_hn_ok (Γ := [x_k140, x_k150]) (List.forall_mem_cons.mpr ⟨x_v140 hZ, List.forall_mem_cons.mpr ⟨x_v150 hZ, fun _ h => absurd h List.not_mem_nil⟩⟩) x_z151 x_e151 (fun _ h => absurd h List.not_mem_nil)
def x_k152 : b_K := (156, 6, ([((-2147483648), 2147483647, 0)], [], [], [(2, (0, [])), (0, (0, [(0, 1)]))], []), [(43, 1), (43, 2), (43, 3), (43, 4), (43, 5), (43, 6), (43, 7), (43, 8), (44, 0), (45, 0), (46, 0), (47, 0), (48, 0), (49, 0), (50, 0), (51, 0), (52, 0), (53, 2), (53, 7), (54, 0), (55, 0), (56, 0), (57, 0), (58, 0), (59, 0), (60, 0), (61, 0), (62, 0), (63, 0), (64, 0), (65, 0), (66, 0), (67, 0), (68, 0), (69, 0)], [([((-2147483648), 2147483647, 0), ((-2147483648), 2147483647, 0)], [], [], [(0, (0, [(1, 1)]))], [])])
def x_u152 : List b_Cu := []
-- B.by, 44 steps
theorem x_z152 : b_chk0 x_T x_k152 x_u152 = true := by decide +kernel
theorem x_e152 : b_chkE x_F x_T x_Z x_dep x_hn [x_k122, x_k131, x_k137] x_k152 x_u152 120 = true := by decide +kernel
theorem x_v152 {N : Int} {fz : List (List Int32)} (hZ : b_ZOk x_Z (x_G N) fz) : b_Valid x_F fz x_T (x_G N) x_k152 := b_valid (x_gOk N) x_depOk hZ x_hn_ok (Γ := [x_k122, x_k131, x_k137]) (List.forall_mem_cons.mpr ⟨x_v122 hZ, List.forall_mem_cons.mpr ⟨x_v131 hZ, List.forall_mem_cons.mpr ⟨x_v137 hZ, fun _ h => absurd h List.not_mem_nil⟩⟩⟩) x_z152 x_e152 (fun _ h => absurd h List.not_mem_nil)
def x_k153 : b_K := (159, 6, ([], [], [], [(2, (42, []))], []), [(43, 1), (43, 2), (43, 3), (43, 4), (43, 5), (43, 6), (43, 7), (43, 8), (44, 0), (45, 0), (46, 0), (47, 0), (48, 0), (49, 0), (50, 0), (51, 0), (52, 0), (53, 2), (53, 7), (54, 0), (55, 0), (56, 0), (57, 0), (58, 0), (59, 0), (60, 0), (61, 0), (62, 0), (63, 0), (64, 0), (65, 0), (66, 0), (67, 0), (68, 0), (69, 0)], [([(0, 3, 0)], [], [], [(0, (0, [(0, 1)]))], [])])
def x_u153_0 : b_Cu := (10, ([(0, 3, 0), ((-2147483648), 2147483647, 0), (1, 4, 0)], [], [(0, (2, (42, []))), (1, (0, (0, [(0, 1)]))), (2, (0, (0, [(1, 1)]))), (3, (0, (0, [(2, 1)])))], [], []), (4, [(2, (-1))]))
def x_u153 : List b_Cu := [x_u153_0]
-- Trial.mildestLaw, 58 steps
theorem x_z153 : b_chk0 x_T x_k153 x_u153 = true := by decide +kernel
theorem x_e153 : b_chkE x_F x_T x_Z x_dep x_hn [x_k122, x_k131, x_k137] x_k153 x_u153 120 = true := by decide +kernel
theorem x_c153_0 : b_chkC x_F x_T x_Z x_dep x_hn [x_k122, x_k131, x_k137] x_k153 x_u153 120 x_u153_0 = true := by decide +kernel
theorem x_v153 {N : Int} {fz : List (List Int32)} (hZ : b_ZOk x_Z (x_G N) fz) : b_Valid x_F fz x_T (x_G N) x_k153 := b_valid (x_gOk N) x_depOk hZ x_hn_ok (Γ := [x_k122, x_k131, x_k137]) (List.forall_mem_cons.mpr ⟨x_v122 hZ, List.forall_mem_cons.mpr ⟨x_v131 hZ, List.forall_mem_cons.mpr ⟨x_v137 hZ, fun _ h => absurd h List.not_mem_nil⟩⟩⟩) x_z153 x_e153 (List.forall_mem_cons.mpr ⟨x_c153_0, fun _ h => absurd h List.not_mem_nil⟩)
def x_k154 : b_K := (158, 7, ([], [], [], [(2, (0, []))], []), [(43, 1), (43, 2), (43, 3), (43, 4), (43, 5), (43, 6), (43, 7), (43, 8), (44, 0), (45, 0), (46, 0), (47, 0), (48, 0), (49, 0), (50, 0), (51, 0), (52, 0), (53, 2), (53, 7), (54, 0), (55, 0), (56, 0), (57, 0), (58, 0), (59, 0), (60, 0), (61, 0), (62, 0), (63, 0), (64, 0), (65, 0), (66, 0), (67, 0), (68, 0), (69, 0)], [([((-2), 3, 0)], [], [], [(0, (0, [(0, 1)]))], [])])
def x_u154 : List b_Cu := []
-- B.law, 20 steps
theorem x_z154 : b_chk0 x_T x_k154 x_u154 = true := by decide +kernel
theorem x_e154 : b_chkE x_F x_T x_Z x_dep x_hn [x_k153] x_k154 x_u154 120 = true := by decide +kernel
theorem x_v154 {N : Int} {fz : List (List Int32)} (hZ : b_ZOk x_Z (x_G N) fz) : b_Valid x_F fz x_T (x_G N) x_k154 := b_valid (x_gOk N) x_depOk hZ x_hn_ok (Γ := [x_k153]) (List.forall_mem_cons.mpr ⟨x_v153 hZ, fun _ h => absurd h List.not_mem_nil⟩) x_z154 x_e154 (fun _ h => absurd h List.not_mem_nil)
def x_k155 : b_K := (160, 6, ([((-2147483648), 2147483647, 0)], [], [], [(2, (0, [])), (0, (0, [(0, 1)]))], []), [(43, 1), (43, 2), (43, 3), (43, 4), (43, 5), (43, 6), (43, 7), (43, 8), (44, 0), (45, 0), (46, 0), (47, 0), (48, 0), (49, 0), (50, 0), (51, 0), (52, 0), (53, 2), (53, 7), (54, 0), (55, 0), (56, 0), (57, 0), (58, 0), (59, 0), (60, 0), (61, 0), (62, 0), (63, 0), (64, 0), (65, 0), (66, 0), (67, 0), (68, 0), (69, 0)], [([((-2147483648), 2147483647, 0), ((-2147483648), 2147483647, 0)], [], [], [(0, (0, [(1, 1)]))], [])])
def x_u155 : List b_Cu := []
-- B.worth, 50 steps
theorem x_z155 : b_chk0 x_T x_k155 x_u155 = true := by decide +kernel
theorem x_e155 : b_chkE x_F x_T x_Z x_dep x_hn [x_k122, x_k131, x_k137] x_k155 x_u155 120 = true := by decide +kernel
theorem x_v155 {N : Int} {fz : List (List Int32)} (hZ : b_ZOk x_Z (x_G N) fz) : b_Valid x_F fz x_T (x_G N) x_k155 := b_valid (x_gOk N) x_depOk hZ x_hn_ok (Γ := [x_k122, x_k131, x_k137]) (List.forall_mem_cons.mpr ⟨x_v122 hZ, List.forall_mem_cons.mpr ⟨x_v131 hZ, List.forall_mem_cons.mpr ⟨x_v137 hZ, fun _ h => absurd h List.not_mem_nil⟩⟩⟩) x_z155 x_e155 (fun _ h => absurd h List.not_mem_nil)
def x_k156 : b_K := (67, 1, ([(0, 127, 0)], [], [], [(0, (0, [(0, 1)]))], []), [], [([(127, 127, 0)], [], [], [(0, (7, []))], []),
  ([(63, 126, 0)], [], [], [(0, (6, []))], []),
  ([(31, 124, 0)], [], [], [(0, (5, []))], []),
  ([(15, 120, 0)], [], [], [(0, (4, []))], []),
  ([(7, 112, 0)], [], [], [(0, (3, []))], []),
  ([(3, 96, 0)], [], [], [(0, (2, []))], []),
  ([(1, 64, 0)], [], [], [(0, (1, []))], []),
  ([(0, 0, 0)], [], [], [(0, (0, []))], [])])
def x_u156 : List b_Cu := []
-- java/lang/Integer.bitCount, 5377 steps
theorem x_z156 : b_chk0 x_T x_k156 x_u156 = true := by decide +kernel
theorem x_e156 : b_chkE x_F x_T x_Z x_dep x_hn [] x_k156 x_u156 5437 = true := by decide +kernel
theorem x_v156 {N : Int} {fz : List (List Int32)} (hZ : b_ZOk x_Z (x_G N) fz) : b_Valid x_F fz x_T (x_G N) x_k156 := b_valid (x_gOk N) x_depOk hZ x_hn_ok (Γ := []) (fun _ h => absurd h List.not_mem_nil) x_z156 x_e156 (fun _ h => absurd h List.not_mem_nil)
