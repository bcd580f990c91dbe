/-! contracts and their checks (by program, cert3.py) -/
def x_k0 : b_K := (12, 1, ([((-2147483648), 2147483647, 0)], [], [], [(2, (1, [])), (0, (0, [(0, 1)]))], []), [(1, 2), (2, 0)], [([((-2147483648), 2147483647, 0)], [], [], [], [])])
def x_u0_0 : b_Cu := (3, ([((-2147483648), 2147483647, 0), ((-8), 24, 0)], [], [(0, (2, (1, []))), (1, (0, (0, [(0, 1)]))), (2, (0, (0, [(1, 1)])))], [], []), (8, [(1, 1)]))
def x_u0 : List b_Cu := [x_u0_0]
-- Reader.append, 27 steps
theorem x_z0 : b_chk0 x_T x_k0 x_u0 = true := by decide +kernel
theorem x_e0 : b_chkE x_F x_T x_Z x_dep x_hn [] x_k0 x_u0 120 = true := by decide +kernel
theorem x_c0_0 : b_chkC x_F x_T x_Z x_dep x_hn [] x_k0 x_u0 120 x_u0_0 = true := by decide +kernel
theorem x_v0 {N : Int} {fz : List (List Int32)} (hZ : b_ZOk x_Z (x_G N) fz) : b_Valid x_F fz x_T (x_G N) x_k0 := b_valid (x_gOk N) x_depOk hZ x_hn_ok (Γ := []) (fun _ h => absurd h List.not_mem_nil) x_z0 x_e0 (List.forall_mem_cons.mpr ⟨x_c0_0, fun _ h => absurd h List.not_mem_nil⟩)
def x_k1 : b_K := (10, 2, ([((-2147483648), 2147483647, 0), ((-2147483648), 2147483647, 0), ((-2147483648), 2147483647, 0), ((-2147483648), 2147483647, 0), ((-2147483648), 2147483647, 0)], [], [], [(2, (0, [])), (0, (0, [(0, 1)])), (0, (0, [(1, 1)])), (0, (0, [(2, 1)])), (0, (0, [(3, 1)])), (0, (0, [(4, 1)]))], []), [(1, 2), (2, 0)], [([((-2147483648), 2147483647, 0), ((-2147483648), 2147483647, 0), ((-2147483648), 2147483647, 0), ((-2147483648), 2147483647, 0), ((-2147483648), 2147483647, 0), ((-1), 700, 0)], [], [], [(0, (0, [(5, 1)]))], [])])
def x_u1 : List b_Cu := []
-- B.feed, 42 steps
theorem x_z1 : b_chk0 x_T x_k1 x_u1 = true := by decide +kernel
theorem x_e1 : b_chkE x_F x_T x_Z x_dep x_hn [x_k0] x_k1 x_u1 120 = true := by decide +kernel
theorem x_v1 {N : Int} {fz : List (List Int32)} (hZ : b_ZOk x_Z (x_G N) fz) : b_Valid x_F fz x_T (x_G N) x_k1 := b_valid (x_gOk N) x_depOk hZ x_hn_ok (Γ := [x_k0]) (List.forall_mem_cons.mpr ⟨x_v0 hZ, fun _ h => absurd h List.not_mem_nil⟩) x_z1 x_e1 (fun _ h => absurd h List.not_mem_nil)
def x_k2 : b_K := (13, 1, ([((-2147483648), 2147483647, 0)], [], [], [(2, (0, [])), (0, (0, [(0, 1)]))], []), [(1, 2)], [([((-2147483648), 2147483647, 0), ((-1), 700, 0)], [], [], [(0, (0, [(1, 1)]))], [])])
def x_u2 : List b_Cu := []
-- B.end, 17 steps
theorem x_z2 : b_chk0 x_T x_k2 x_u2 = true := by decide +kernel
theorem x_e2 : b_chkE x_F x_T x_Z x_dep x_hn [] x_k2 x_u2 120 = true := by decide +kernel
theorem x_v2 {N : Int} {fz : List (List Int32)} (hZ : b_ZOk x_Z (x_G N) fz) : b_Valid x_F fz x_T (x_G N) x_k2 := b_valid (x_gOk N) x_depOk hZ x_hn_ok (Γ := []) (fun _ h => absurd h List.not_mem_nil) x_z2 x_e2 (fun _ h => absurd h List.not_mem_nil)
def x_k3 : b_K := (17, 1, ([(0, 0, 0)], [], [], [(2, (6, [])), (0, (0, [(0, 1)]))], []), [(6, 0)], [([(0, 0, 0)], [], [], [], [])])
def x_u3_0 : b_Cu := (5, ([(0, 0, 0), (0, 7, 0)], [], [(0, (2, (6, []))), (1, (0, (0, [(0, 1)]))), (2, (0, (0, [(1, 1)]))), (3, (0, (7, [])))], [], []), (7, [(1, (-1))]))
def x_u3 : List b_Cu := [x_u3_0]
-- java/util/Arrays.fill, 15 steps
theorem x_z3 : b_chk0 x_T x_k3 x_u3 = true := by decide +kernel
theorem x_e3 : b_chkE x_F x_T x_Z x_dep x_hn [] x_k3 x_u3 120 = true := by decide +kernel
theorem x_c3_0 : b_chkC x_F x_T x_Z x_dep x_hn [] x_k3 x_u3 120 x_u3_0 = true := by decide +kernel
theorem x_v3 {N : Int} {fz : List (List Int32)} (hZ : b_ZOk x_Z (x_G N) fz) : b_Valid x_F fz x_T (x_G N) x_k3 := b_valid (x_gOk N) x_depOk hZ x_hn_ok (Γ := []) (fun _ h => absurd h List.not_mem_nil) x_z3 x_e3 (List.forall_mem_cons.mpr ⟨x_c3_0, fun _ h => absurd h List.not_mem_nil⟩)
def x_k4 : b_K := (21, 2, ([], [], [], [(2, (1, []))], []), [(1, 6), (1, 8)], [([], [], [], [], [])])
def x_u4_0 : b_Cu := (5, ([(0, 700, 0), (0, 700, 0)], [], [(0, (2, (1, [])))], [], [(1, (7, []), (0, (0, [(0, 1)]))), (1, (1, []), (0, (0, [(1, 1)]))), (1, (5, []), (0, (1, [])))]), (700, [(0, (-1))]))
def x_u4 : List b_Cu := [x_u4_0]
-- Reader.stepWord, 41 steps
theorem x_z4 : b_chk0 x_T x_k4 x_u4 = true := by decide +kernel
theorem x_e4 : b_chkE x_F x_T x_Z x_dep x_hn [] x_k4 x_u4 120 = true := by decide +kernel
theorem x_c4_0 : b_chkC x_F x_T x_Z x_dep x_hn [] x_k4 x_u4 120 x_u4_0 = true := by decide +kernel
theorem x_v4 {N : Int} {fz : List (List Int32)} (hZ : b_ZOk x_Z (x_G N) fz) : b_Valid x_F fz x_T (x_G N) x_k4 := b_valid (x_gOk N) x_depOk hZ x_hn_ok (Γ := []) (fun _ h => absurd h List.not_mem_nil) x_z4 x_e4 (List.forall_mem_cons.mpr ⟨x_c4_0, fun _ h => absurd h List.not_mem_nil⟩)
def x_k5 : b_K := (23, 2, ([], [], [], [(2, (1, []))], []), [(1, 6), (1, 8), (1, 9)], [([], [], [], [], [])])
def x_u5_0 : b_Cu := (10, ([(0, 700, 0), (0, 700, 0), (0, 1000, 0)], [], [(0, (2, (1, [])))], [], [(1, (7, []), (0, (0, [(0, 1)]))), (1, (1, []), (0, (0, [(1, 1)]))), (1, (8, []), (0, (0, [(2, 1)]))), (1, (5, []), (0, (2, [])))]), (700, [(0, (-1))]))
def x_u5 : List b_Cu := [x_u5_0]
-- Reader.stepNumber, 60 steps
theorem x_z5 : b_chk0 x_T x_k5 x_u5 = true := by decide +kernel
theorem x_e5 : b_chkE x_F x_T x_Z x_dep x_hn [] x_k5 x_u5 120 = true := by decide +kernel
theorem x_c5_0 : b_chkC x_F x_T x_Z x_dep x_hn [] x_k5 x_u5 120 x_u5_0 = true := by decide +kernel
theorem x_v5 {N : Int} {fz : List (List Int32)} (hZ : b_ZOk x_Z (x_G N) fz) : b_Valid x_F fz x_T (x_G N) x_k5 := b_valid (x_gOk N) x_depOk hZ x_hn_ok (Γ := []) (fun _ h => absurd h List.not_mem_nil) x_z5 x_e5 (List.forall_mem_cons.mpr ⟨x_c5_0, fun _ h => absurd h List.not_mem_nil⟩)
def x_k6 : b_K := (18, 3, ([], [], [], [(2, (1, []))], []), [(1, 6), (1, 7), (1, 8), (1, 9)], [([], [], [], [], [])])
def x_u6_0 : b_Cu := (0, ([(0, 700, 0), (0, 700, 0), (0, 4, 0), (0, 700, 0)], [], [(0, (2, (1, [])))], [], [(1, (7, []), (0, (0, [(0, 1)]))), (1, (6, []), (0, (0, [(1, 1)]))), (1, (5, []), (0, (0, [(2, 1)]))), (1, (1, []), (0, (0, [(3, 1)])))]), (700, [(0, (-1))]))
def x_u6 : List b_Cu := [x_u6_0]
-- Reader.step, 319 steps
theorem x_z6 : b_chk0 x_T x_k6 x_u6 = true := by decide +kernel
theorem x_e6 : b_chkE x_F x_T x_Z x_dep x_hn [x_k4, x_k5] x_k6 x_u6 379 = true := by decide +kernel
theorem x_c6_0 : b_chkC x_F x_T x_Z x_dep x_hn [x_k4, x_k5] x_k6 x_u6 379 x_u6_0 = true := by decide +kernel
theorem x_v6 {N : Int} {fz : List (List Int32)} (hZ : b_ZOk x_Z (x_G N) fz) : b_Valid x_F fz x_T (x_G N) x_k6 := b_valid (x_gOk N) x_depOk hZ x_hn_ok (Γ := [x_k4, x_k5]) (List.forall_mem_cons.mpr ⟨x_v4 hZ, List.forall_mem_cons.mpr ⟨x_v5 hZ, fun _ h => absurd h List.not_mem_nil⟩⟩) x_z6 x_e6 (List.forall_mem_cons.mpr ⟨x_c6_0, fun _ h => absurd h List.not_mem_nil⟩)
def x_k7 : b_K := (28, 1, ([], [], [], [(2, (1, [])), (2, (1000005, []))], []), [], [([], [], [], [(0, (0, []))], []),
  ([], [], [], [(0, (1, []))], [])])
def x_u7_0 : b_Cu := (28, ([(0, 7, 0), (0, 693, 0), (7, 700, 0)], [], [(0, (2, (1, []))), (1, (2, (1000005, []))), (2, (0, (0, [(0, 1)])))], [], [(1, (6, []), (0, (0, [(1, 1)]))), (1, (7, []), (0, (0, [(2, 1)]))), (1, (5, []), (0, (1, [])))]), (7, [(0, (-1))]))
def x_u7 : List b_Cu := [x_u7_0]
-- Reader.isWord, 41 steps
theorem x_z7 : b_chk0 x_T x_k7 x_u7 = true := by decide +kernel
theorem x_e7 : b_chkE x_F x_T x_Z x_dep x_hn [] x_k7 x_u7 120 = true := by decide +kernel
theorem x_c7_0 : b_chkC x_F x_T x_Z x_dep x_hn [] x_k7 x_u7 120 x_u7_0 = true := by decide +kernel
theorem x_v7 {N : Int} {fz : List (List Int32)} (hZ : b_ZOk x_Z (x_G N) fz) : b_Valid x_F fz x_T (x_G N) x_k7 := b_valid (x_gOk N) x_depOk hZ x_hn_ok (Γ := []) (fun _ h => absurd h List.not_mem_nil) x_z7 x_e7 (List.forall_mem_cons.mpr ⟨x_c7_0, fun _ h => absurd h List.not_mem_nil⟩)
def x_k8 : b_K := (27, 4, ([], [], [], [(2, (1, [])), (2, (1000005, []))], []), [(1, 3), (1, 4), (1, 6), (1, 7), (1, 8), (1, 9)], [([], [], [], [], [])])
def x_u8 : List b_Cu := []
-- Reader.takeWord, 28 steps
theorem x_z8 : b_chk0 x_T x_k8 x_u8 = true := by decide +kernel
theorem x_e8 : b_chkE x_F x_T x_Z x_dep x_hn [x_k7, x_k6] x_k8 x_u8 120 = true := by decide +kernel
theorem x_v8 {N : Int} {fz : List (List Int32)} (hZ : b_ZOk x_Z (x_G N) fz) : b_Valid x_F fz x_T (x_G N) x_k8 := b_valid (x_gOk N) x_depOk hZ x_hn_ok (Γ := [x_k7, x_k6]) (List.forall_mem_cons.mpr ⟨x_v7 hZ, List.forall_mem_cons.mpr ⟨x_v6 hZ, fun _ h => absurd h List.not_mem_nil⟩⟩) x_z8 x_e8 (fun _ h => absurd h List.not_mem_nil)
def x_k9 : b_K := (28, 1, ([], [], [], [(2, (1, [])), (2, (1000006, []))], []), [], [([], [], [], [(0, (0, []))], []),
  ([], [], [], [(0, (1, []))], [])])
def x_u9_0 : b_Cu := (28, ([(0, 4, 0), (0, 696, 0), (4, 700, 0)], [], [(0, (2, (1, []))), (1, (2, (1000006, []))), (2, (0, (0, [(0, 1)])))], [], [(1, (6, []), (0, (0, [(1, 1)]))), (1, (7, []), (0, (0, [(2, 1)]))), (1, (5, []), (0, (1, [])))]), (4, [(0, (-1))]))
def x_u9 : List b_Cu := [x_u9_0]
-- Reader.isWord, 41 steps
theorem x_z9 : b_chk0 x_T x_k9 x_u9 = true := by decide +kernel
theorem x_e9 : b_chkE x_F x_T x_Z x_dep x_hn [] x_k9 x_u9 120 = true := by decide +kernel
theorem x_c9_0 : b_chkC x_F x_T x_Z x_dep x_hn [] x_k9 x_u9 120 x_u9_0 = true := by decide +kernel
theorem x_v9 {N : Int} {fz : List (List Int32)} (hZ : b_ZOk x_Z (x_G N) fz) : b_Valid x_F fz x_T (x_G N) x_k9 := b_valid (x_gOk N) x_depOk hZ x_hn_ok (Γ := []) (fun _ h => absurd h List.not_mem_nil) x_z9 x_e9 (List.forall_mem_cons.mpr ⟨x_c9_0, fun _ h => absurd h List.not_mem_nil⟩)
def x_k10 : b_K := (27, 4, ([], [], [], [(2, (1, [])), (2, (1000006, []))], []), [(1, 3), (1, 4), (1, 6), (1, 7), (1, 8), (1, 9)], [([], [], [], [], [])])
def x_u10 : List b_Cu := []
-- Reader.takeWord, 28 steps
theorem x_z10 : b_chk0 x_T x_k10 x_u10 = true := by decide +kernel
theorem x_e10 : b_chkE x_F x_T x_Z x_dep x_hn [x_k9, x_k6] x_k10 x_u10 120 = true := by decide +kernel
theorem x_v10 {N : Int} {fz : List (List Int32)} (hZ : b_ZOk x_Z (x_G N) fz) : b_Valid x_F fz x_T (x_G N) x_k10 := b_valid (x_gOk N) x_depOk hZ x_hn_ok (Γ := [x_k9, x_k6]) (List.forall_mem_cons.mpr ⟨x_v9 hZ, List.forall_mem_cons.mpr ⟨x_v6 hZ, fun _ h => absurd h List.not_mem_nil⟩⟩) x_z10 x_e10 (fun _ h => absurd h List.not_mem_nil)
def x_k11 : b_K := (30, 4, ([(1, 1, 0), (14, 14, 0)], [], [], [(2, (1, [])), (0, (0, [(0, 1)])), (0, (0, [(1, 1)]))], []), [(1, 3), (1, 4), (1, 6), (1, 7), (1, 8), (1, 9)], [([(1, 1, 0), (14, 14, 0), (0, 14, 0)], [], [], [(0, (0, [(2, 1)]))], [])])
def x_u11 : List b_Cu := []
-- Reader.takeNumber, 92 steps
theorem x_z11 : b_chk0 x_T x_k11 x_u11 = true := by decide +kernel
theorem x_e11 : b_chkE x_F x_T x_Z x_dep x_hn [x_k6] x_k11 x_u11 152 = true := by decide +kernel
theorem x_v11 {N : Int} {fz : List (List Int32)} (hZ : b_ZOk x_Z (x_G N) fz) : b_Valid x_F fz x_T (x_G N) x_k11 := b_valid (x_gOk N) x_depOk hZ x_hn_ok (Γ := [x_k6]) (List.forall_mem_cons.mpr ⟨x_v6 hZ, fun _ h => absurd h List.not_mem_nil⟩) x_z11 x_e11 (fun _ h => absurd h List.not_mem_nil)
def x_k12 : b_K := (28, 1, ([], [], [], [(2, (1, [])), (2, (1000007, []))], []), [], [([], [], [], [(0, (0, []))], []),
  ([], [], [], [(0, (1, []))], [])])
def x_u12_0 : b_Cu := (28, ([(0, 3, 0), (0, 697, 0), (3, 700, 0)], [], [(0, (2, (1, []))), (1, (2, (1000007, []))), (2, (0, (0, [(0, 1)])))], [], [(1, (6, []), (0, (0, [(1, 1)]))), (1, (7, []), (0, (0, [(2, 1)]))), (1, (5, []), (0, (1, [])))]), (3, [(0, (-1))]))
def x_u12 : List b_Cu := [x_u12_0]
-- Reader.isWord, 41 steps
theorem x_z12 : b_chk0 x_T x_k12 x_u12 = true := by decide +kernel
theorem x_e12 : b_chkE x_F x_T x_Z x_dep x_hn [] x_k12 x_u12 120 = true := by decide +kernel
theorem x_c12_0 : b_chkC x_F x_T x_Z x_dep x_hn [] x_k12 x_u12 120 x_u12_0 = true := by decide +kernel
theorem x_v12 {N : Int} {fz : List (List Int32)} (hZ : b_ZOk x_Z (x_G N) fz) : b_Valid x_F fz x_T (x_G N) x_k12 := b_valid (x_gOk N) x_depOk hZ x_hn_ok (Γ := []) (fun _ h => absurd h List.not_mem_nil) x_z12 x_e12 (List.forall_mem_cons.mpr ⟨x_c12_0, fun _ h => absurd h List.not_mem_nil⟩)
def x_k13 : b_K := (27, 4, ([], [], [], [(2, (1, [])), (2, (1000007, []))], []), [(1, 3), (1, 4), (1, 6), (1, 7), (1, 8), (1, 9)], [([], [], [], [], [])])
def x_u13 : List b_Cu := []
-- Reader.takeWord, 28 steps
theorem x_z13 : b_chk0 x_T x_k13 x_u13 = true := by decide +kernel
theorem x_e13 : b_chkE x_F x_T x_Z x_dep x_hn [x_k12, x_k6] x_k13 x_u13 120 = true := by decide +kernel
theorem x_v13 {N : Int} {fz : List (List Int32)} (hZ : b_ZOk x_Z (x_G N) fz) : b_Valid x_F fz x_T (x_G N) x_k13 := b_valid (x_gOk N) x_depOk hZ x_hn_ok (Γ := [x_k12, x_k6]) (List.forall_mem_cons.mpr ⟨x_v12 hZ, List.forall_mem_cons.mpr ⟨x_v6 hZ, fun _ h => absurd h List.not_mem_nil⟩⟩) x_z13 x_e13 (fun _ h => absurd h List.not_mem_nil)
def x_k14 : b_K := (30, 4, ([(0, 0, 0), (3, 3, 0)], [], [], [(2, (1, [])), (0, (0, [(0, 1)])), (0, (0, [(1, 1)]))], []), [(1, 3), (1, 4), (1, 6), (1, 7), (1, 8), (1, 9)], [([(0, 0, 0), (3, 3, 0), (0, 3, 0)], [], [], [(0, (0, [(2, 1)]))], [])])
def x_u14 : List b_Cu := []
-- Reader.takeNumber, 75 steps
theorem x_z14 : b_chk0 x_T x_k14 x_u14 = true := by decide +kernel
theorem x_e14 : b_chkE x_F x_T x_Z x_dep x_hn [x_k6] x_k14 x_u14 135 = true := by decide +kernel
theorem x_v14 {N : Int} {fz : List (List Int32)} (hZ : b_ZOk x_Z (x_G N) fz) : b_Valid x_F fz x_T (x_G N) x_k14 := b_valid (x_gOk N) x_depOk hZ x_hn_ok (Γ := [x_k6]) (List.forall_mem_cons.mpr ⟨x_v6 hZ, fun _ h => absurd h List.not_mem_nil⟩) x_z14 x_e14 (fun _ h => absurd h List.not_mem_nil)
def x_k15 : b_K := (28, 1, ([], [], [], [(2, (1, [])), (2, (1000008, []))], []), [], [([], [], [], [(0, (0, []))], []),
  ([], [], [], [(0, (1, []))], [])])
def x_u15_0 : b_Cu := (28, ([(0, 4, 0), (0, 696, 0), (4, 700, 0)], [], [(0, (2, (1, []))), (1, (2, (1000008, []))), (2, (0, (0, [(0, 1)])))], [], [(1, (6, []), (0, (0, [(1, 1)]))), (1, (7, []), (0, (0, [(2, 1)]))), (1, (5, []), (0, (1, [])))]), (4, [(0, (-1))]))
def x_u15 : List b_Cu := [x_u15_0]
-- Reader.isWord, 41 steps
theorem x_z15 : b_chk0 x_T x_k15 x_u15 = true := by decide +kernel
theorem x_e15 : b_chkE x_F x_T x_Z x_dep x_hn [] x_k15 x_u15 120 = true := by decide +kernel
theorem x_c15_0 : b_chkC x_F x_T x_Z x_dep x_hn [] x_k15 x_u15 120 x_u15_0 = true := by decide +kernel
theorem x_v15 {N : Int} {fz : List (List Int32)} (hZ : b_ZOk x_Z (x_G N) fz) : b_Valid x_F fz x_T (x_G N) x_k15 := b_valid (x_gOk N) x_depOk hZ x_hn_ok (Γ := []) (fun _ h => absurd h List.not_mem_nil) x_z15 x_e15 (List.forall_mem_cons.mpr ⟨x_c15_0, fun _ h => absurd h List.not_mem_nil⟩)
def x_k16 : b_K := (27, 4, ([], [], [], [(2, (1, [])), (2, (1000008, []))], []), [(1, 3), (1, 4), (1, 6), (1, 7), (1, 8), (1, 9)], [([], [], [], [], [])])
def x_u16 : List b_Cu := []
-- Reader.takeWord, 28 steps
theorem x_z16 : b_chk0 x_T x_k16 x_u16 = true := by decide +kernel
theorem x_e16 : b_chkE x_F x_T x_Z x_dep x_hn [x_k15, x_k6] x_k16 x_u16 120 = true := by decide +kernel
theorem x_v16 {N : Int} {fz : List (List Int32)} (hZ : b_ZOk x_Z (x_G N) fz) : b_Valid x_F fz x_T (x_G N) x_k16 := b_valid (x_gOk N) x_depOk hZ x_hn_ok (Γ := [x_k15, x_k6]) (List.forall_mem_cons.mpr ⟨x_v15 hZ, List.forall_mem_cons.mpr ⟨x_v6 hZ, fun _ h => absurd h List.not_mem_nil⟩⟩) x_z16 x_e16 (fun _ h => absurd h List.not_mem_nil)
def x_k17 : b_K := (30, 4, ([(0, 0, 0), (10, 10, 0)], [], [], [(2, (1, [])), (0, (0, [(0, 1)])), (0, (0, [(1, 1)]))], []), [(1, 3), (1, 4), (1, 6), (1, 7), (1, 8), (1, 9)], [([(0, 0, 0), (10, 10, 0), (0, 10, 0)], [], [], [(0, (0, [(2, 1)]))], [])])
def x_u17 : List b_Cu := []
-- Reader.takeNumber, 75 steps
theorem x_z17 : b_chk0 x_T x_k17 x_u17 = true := by decide +kernel
theorem x_e17 : b_chkE x_F x_T x_Z x_dep x_hn [x_k6] x_k17 x_u17 135 = true := by decide +kernel
theorem x_v17 {N : Int} {fz : List (List Int32)} (hZ : b_ZOk x_Z (x_G N) fz) : b_Valid x_F fz x_T (x_G N) x_k17 := b_valid (x_gOk N) x_depOk hZ x_hn_ok (Γ := [x_k6]) (List.forall_mem_cons.mpr ⟨x_v6 hZ, fun _ h => absurd h List.not_mem_nil⟩) x_z17 x_e17 (fun _ h => absurd h List.not_mem_nil)
def x_k18 : b_K := (26, 5, ([], [], [], [(2, (1, []))], []), [(1, 3), (1, 4), (1, 6), (1, 7), (1, 8), (1, 9), (3, 2), (3, 3), (3, 4)], [([], [], [], [], [])])
def x_u18 : List b_Cu := []
-- Reader.readCircuit, 34 steps
theorem x_z18 : b_chk0 x_T x_k18 x_u18 = true := by decide +kernel
theorem x_e18 : b_chkE x_F x_T x_Z x_dep x_hn [x_k8, x_k10, x_k11, x_k13, x_k14, x_k16, x_k17] x_k18 x_u18 120 = true := by decide +kernel
theorem x_v18 {N : Int} {fz : List (List Int32)} (hZ : b_ZOk x_Z (x_G N) fz) : b_Valid x_F fz x_T (x_G N) x_k18 := b_valid (x_gOk N) x_depOk hZ x_hn_ok (Γ := [x_k8, x_k10, x_k11, x_k13, x_k14, x_k16, x_k17]) (List.forall_mem_cons.mpr ⟨x_v8 hZ, List.forall_mem_cons.mpr ⟨x_v10 hZ, List.forall_mem_cons.mpr ⟨x_v11 hZ, List.forall_mem_cons.mpr ⟨x_v13 hZ, List.forall_mem_cons.mpr ⟨x_v14 hZ, List.forall_mem_cons.mpr ⟨x_v16 hZ, List.forall_mem_cons.mpr ⟨x_v17 hZ, fun _ h => absurd h List.not_mem_nil⟩⟩⟩⟩⟩⟩⟩) x_z18 x_e18 (fun _ h => absurd h List.not_mem_nil)
def x_k19 : b_K := (28, 1, ([], [], [], [(2, (1, [])), (2, (1000002, []))], []), [], [([], [], [], [(0, (0, []))], []),
  ([], [], [], [(0, (1, []))], [])])
def x_u19_0 : b_Cu := (28, ([(0, 6, 0), (0, 694, 0), (6, 700, 0)], [], [(0, (2, (1, []))), (1, (2, (1000002, []))), (2, (0, (0, [(0, 1)])))], [], [(1, (6, []), (0, (0, [(1, 1)]))), (1, (7, []), (0, (0, [(2, 1)]))), (1, (5, []), (0, (1, [])))]), (6, [(0, (-1))]))
def x_u19 : List b_Cu := [x_u19_0]
-- Reader.isWord, 41 steps
theorem x_z19 : b_chk0 x_T x_k19 x_u19 = true := by decide +kernel
theorem x_e19 : b_chkE x_F x_T x_Z x_dep x_hn [] x_k19 x_u19 120 = true := by decide +kernel
theorem x_c19_0 : b_chkC x_F x_T x_Z x_dep x_hn [] x_k19 x_u19 120 x_u19_0 = true := by decide +kernel
theorem x_v19 {N : Int} {fz : List (List Int32)} (hZ : b_ZOk x_Z (x_G N) fz) : b_Valid x_F fz x_T (x_G N) x_k19 := b_valid (x_gOk N) x_depOk hZ x_hn_ok (Γ := []) (fun _ h => absurd h List.not_mem_nil) x_z19 x_e19 (List.forall_mem_cons.mpr ⟨x_c19_0, fun _ h => absurd h List.not_mem_nil⟩)
def x_k20 : b_K := (27, 4, ([], [], [], [(2, (1, [])), (2, (1000002, []))], []), [(1, 3), (1, 4), (1, 6), (1, 7), (1, 8), (1, 9)], [([], [], [], [], [])])
def x_u20 : List b_Cu := []
-- Reader.takeWord, 28 steps
theorem x_z20 : b_chk0 x_T x_k20 x_u20 = true := by decide +kernel
theorem x_e20 : b_chkE x_F x_T x_Z x_dep x_hn [x_k19, x_k6] x_k20 x_u20 120 = true := by decide +kernel
theorem x_v20 {N : Int} {fz : List (List Int32)} (hZ : b_ZOk x_Z (x_G N) fz) : b_Valid x_F fz x_T (x_G N) x_k20 := b_valid (x_gOk N) x_depOk hZ x_hn_ok (Γ := [x_k19, x_k6]) (List.forall_mem_cons.mpr ⟨x_v19 hZ, List.forall_mem_cons.mpr ⟨x_v6 hZ, fun _ h => absurd h List.not_mem_nil⟩⟩) x_z20 x_e20 (fun _ h => absurd h List.not_mem_nil)
def x_k21 : b_K := (28, 1, ([], [], [], [(2, (1, [])), (2, (1000009, []))], []), [], [([], [], [], [(0, (0, []))], []),
  ([], [], [], [(0, (1, []))], [])])
def x_u21_0 : b_Cu := (28, ([(0, 6, 0), (0, 694, 0), (6, 700, 0)], [], [(0, (2, (1, []))), (1, (2, (1000009, []))), (2, (0, (0, [(0, 1)])))], [], [(1, (6, []), (0, (0, [(1, 1)]))), (1, (7, []), (0, (0, [(2, 1)]))), (1, (5, []), (0, (1, [])))]), (6, [(0, (-1))]))
def x_u21 : List b_Cu := [x_u21_0]
-- Reader.isWord, 41 steps
theorem x_z21 : b_chk0 x_T x_k21 x_u21 = true := by decide +kernel
theorem x_e21 : b_chkE x_F x_T x_Z x_dep x_hn [] x_k21 x_u21 120 = true := by decide +kernel
theorem x_c21_0 : b_chkC x_F x_T x_Z x_dep x_hn [] x_k21 x_u21 120 x_u21_0 = true := by decide +kernel
theorem x_v21 {N : Int} {fz : List (List Int32)} (hZ : b_ZOk x_Z (x_G N) fz) : b_Valid x_F fz x_T (x_G N) x_k21 := b_valid (x_gOk N) x_depOk hZ x_hn_ok (Γ := []) (fun _ h => absurd h List.not_mem_nil) x_z21 x_e21 (List.forall_mem_cons.mpr ⟨x_c21_0, fun _ h => absurd h List.not_mem_nil⟩)
def x_k22 : b_K := (27, 4, ([], [], [], [(2, (1, [])), (2, (1000009, []))], []), [(1, 3), (1, 4), (1, 6), (1, 7), (1, 8), (1, 9)], [([], [], [], [], [])])
def x_u22 : List b_Cu := []
-- Reader.takeWord, 28 steps
theorem x_z22 : b_chk0 x_T x_k22 x_u22 = true := by decide +kernel
theorem x_e22 : b_chkE x_F x_T x_Z x_dep x_hn [x_k21, x_k6] x_k22 x_u22 120 = true := by decide +kernel
theorem x_v22 {N : Int} {fz : List (List Int32)} (hZ : b_ZOk x_Z (x_G N) fz) : b_Valid x_F fz x_T (x_G N) x_k22 := b_valid (x_gOk N) x_depOk hZ x_hn_ok (Γ := [x_k21, x_k6]) (List.forall_mem_cons.mpr ⟨x_v21 hZ, List.forall_mem_cons.mpr ⟨x_v6 hZ, fun _ h => absurd h List.not_mem_nil⟩⟩) x_z22 x_e22 (fun _ h => absurd h List.not_mem_nil)
def x_k23 : b_K := (30, 4, ([(0, 0, 0), (40, 40, 0)], [], [], [(2, (1, [])), (0, (0, [(0, 1)])), (0, (0, [(1, 1)]))], []), [(1, 3), (1, 4), (1, 6), (1, 7), (1, 8), (1, 9)], [([(0, 0, 0), (40, 40, 0), (0, 40, 0)], [], [], [(0, (0, [(2, 1)]))], [])])
def x_u23 : List b_Cu := []
-- Reader.takeNumber, 75 steps
theorem x_z23 : b_chk0 x_T x_k23 x_u23 = true := by decide +kernel
theorem x_e23 : b_chkE x_F x_T x_Z x_dep x_hn [x_k6] x_k23 x_u23 135 = true := by decide +kernel
theorem x_v23 {N : Int} {fz : List (List Int32)} (hZ : b_ZOk x_Z (x_G N) fz) : b_Valid x_F fz x_T (x_G N) x_k23 := b_valid (x_gOk N) x_depOk hZ x_hn_ok (Γ := [x_k6]) (List.forall_mem_cons.mpr ⟨x_v6 hZ, fun _ h => absurd h List.not_mem_nil⟩) x_z23 x_e23 (fun _ h => absurd h List.not_mem_nil)
def x_k24 : b_K := (28, 1, ([], [], [], [(2, (1, [])), (2, (1000010, []))], []), [], [([], [], [], [(0, (0, []))], []),
  ([], [], [], [(0, (1, []))], [])])
def x_u24_0 : b_Cu := (28, ([(0, 4, 0), (0, 696, 0), (4, 700, 0)], [], [(0, (2, (1, []))), (1, (2, (1000010, []))), (2, (0, (0, [(0, 1)])))], [], [(1, (6, []), (0, (0, [(1, 1)]))), (1, (7, []), (0, (0, [(2, 1)]))), (1, (5, []), (0, (1, [])))]), (4, [(0, (-1))]))
def x_u24 : List b_Cu := [x_u24_0]
-- Reader.isWord, 41 steps
theorem x_z24 : b_chk0 x_T x_k24 x_u24 = true := by decide +kernel
theorem x_e24 : b_chkE x_F x_T x_Z x_dep x_hn [] x_k24 x_u24 120 = true := by decide +kernel
theorem x_c24_0 : b_chkC x_F x_T x_Z x_dep x_hn [] x_k24 x_u24 120 x_u24_0 = true := by decide +kernel
theorem x_v24 {N : Int} {fz : List (List Int32)} (hZ : b_ZOk x_Z (x_G N) fz) : b_Valid x_F fz x_T (x_G N) x_k24 := b_valid (x_gOk N) x_depOk hZ x_hn_ok (Γ := []) (fun _ h => absurd h List.not_mem_nil) x_z24 x_e24 (List.forall_mem_cons.mpr ⟨x_c24_0, fun _ h => absurd h List.not_mem_nil⟩)
def x_k25 : b_K := (27, 4, ([], [], [], [(2, (1, [])), (2, (1000010, []))], []), [(1, 3), (1, 4), (1, 6), (1, 7), (1, 8), (1, 9)], [([], [], [], [], [])])
def x_u25 : List b_Cu := []
-- Reader.takeWord, 28 steps
theorem x_z25 : b_chk0 x_T x_k25 x_u25 = true := by decide +kernel
theorem x_e25 : b_chkE x_F x_T x_Z x_dep x_hn [x_k24, x_k6] x_k25 x_u25 120 = true := by decide +kernel
theorem x_v25 {N : Int} {fz : List (List Int32)} (hZ : b_ZOk x_Z (x_G N) fz) : b_Valid x_F fz x_T (x_G N) x_k25 := b_valid (x_gOk N) x_depOk hZ x_hn_ok (Γ := [x_k24, x_k6]) (List.forall_mem_cons.mpr ⟨x_v24 hZ, List.forall_mem_cons.mpr ⟨x_v6 hZ, fun _ h => absurd h List.not_mem_nil⟩⟩) x_z25 x_e25 (fun _ h => absurd h List.not_mem_nil)
def x_k26 : b_K := (30, 4, ([(0, 0, 0), (20, 20, 0)], [], [], [(2, (1, [])), (0, (0, [(0, 1)])), (0, (0, [(1, 1)]))], []), [(1, 3), (1, 4), (1, 6), (1, 7), (1, 8), (1, 9)], [([(0, 0, 0), (20, 20, 0), (0, 20, 0)], [], [], [(0, (0, [(2, 1)]))], [])])
def x_u26 : List b_Cu := []
-- Reader.takeNumber, 75 steps
theorem x_z26 : b_chk0 x_T x_k26 x_u26 = true := by decide +kernel
theorem x_e26 : b_chkE x_F x_T x_Z x_dep x_hn [x_k6] x_k26 x_u26 135 = true := by decide +kernel
theorem x_v26 {N : Int} {fz : List (List Int32)} (hZ : b_ZOk x_Z (x_G N) fz) : b_Valid x_F fz x_T (x_G N) x_k26 := b_valid (x_gOk N) x_depOk hZ x_hn_ok (Γ := [x_k6]) (List.forall_mem_cons.mpr ⟨x_v6 hZ, fun _ h => absurd h List.not_mem_nil⟩) x_z26 x_e26 (fun _ h => absurd h List.not_mem_nil)
def x_k27 : b_K := (31, 5, ([], [], [], [(2, (1, []))], []), [(1, 3), (1, 4), (1, 6), (1, 7), (1, 8), (1, 9), (3, 5), (4, 0), (5, 0)], [([], [], [], [], [])])
def x_u27_0 : b_Cu := (66, ([(0, 6, 0), (0, 4, 0), (0, 700, 0), ((-1), 700, 0), (0, 3, 0), (0, 6, 0)], [], [(0, (2, (1, []))), (1, (0, (0, [(0, 1)]))), (2, (0, (0, [(1, 1)])))], [], [(1, (6, []), (0, (0, [(2, 1)]))), (1, (3, []), (0, (0, [(3, 1)]))), (1, (2, []), (0, (0, [(4, 1)]))), (3, (4, []), (0, (0, [(5, 1)])))]), (4, [(1, (-1))]))
def x_u27 : List b_Cu := [x_u27_0]
-- Reader.readMother, 73 steps
theorem x_z27 : b_chk0 x_T x_k27 x_u27 = true := by decide +kernel
theorem x_e27 : b_chkE x_F x_T x_Z x_dep x_hn [x_k20, x_k22, x_k23, x_k25, x_k26] x_k27 x_u27 133 = true := by decide +kernel
theorem x_c27_0 : b_chkC x_F x_T x_Z x_dep x_hn [x_k20, x_k22, x_k23, x_k25, x_k26] x_k27 x_u27 133 x_u27_0 = true := by decide +kernel
theorem x_v27 {N : Int} {fz : List (List Int32)} (hZ : b_ZOk x_Z (x_G N) fz) : b_Valid x_F fz x_T (x_G N) x_k27 := b_valid (x_gOk N) x_depOk hZ x_hn_ok (Γ := [x_k20, x_k22, x_k23, x_k25, x_k26]) (List.forall_mem_cons.mpr ⟨x_v20 hZ, List.forall_mem_cons.mpr ⟨x_v22 hZ, List.forall_mem_cons.mpr ⟨x_v23 hZ, List.forall_mem_cons.mpr ⟨x_v25 hZ, List.forall_mem_cons.mpr ⟨x_v26 hZ, fun _ h => absurd h List.not_mem_nil⟩⟩⟩⟩⟩) x_z27 x_e27 (List.forall_mem_cons.mpr ⟨x_c27_0, fun _ h => absurd h List.not_mem_nil⟩)
def x_k28 : b_K := (28, 1, ([], [], [], [(2, (1, [])), (2, (1000003, []))], []), [], [([], [], [], [(0, (0, []))], []),
  ([], [], [], [(0, (1, []))], [])])
def x_u28_0 : b_Cu := (28, ([(0, 3, 0), (0, 697, 0), (3, 700, 0)], [], [(0, (2, (1, []))), (1, (2, (1000003, []))), (2, (0, (0, [(0, 1)])))], [], [(1, (6, []), (0, (0, [(1, 1)]))), (1, (7, []), (0, (0, [(2, 1)]))), (1, (5, []), (0, (1, [])))]), (3, [(0, (-1))]))
def x_u28 : List b_Cu := [x_u28_0]
-- Reader.isWord, 41 steps
theorem x_z28 : b_chk0 x_T x_k28 x_u28 = true := by decide +kernel
theorem x_e28 : b_chkE x_F x_T x_Z x_dep x_hn [] x_k28 x_u28 120 = true := by decide +kernel
theorem x_c28_0 : b_chkC x_F x_T x_Z x_dep x_hn [] x_k28 x_u28 120 x_u28_0 = true := by decide +kernel
theorem x_v28 {N : Int} {fz : List (List Int32)} (hZ : b_ZOk x_Z (x_G N) fz) : b_Valid x_F fz x_T (x_G N) x_k28 := b_valid (x_gOk N) x_depOk hZ x_hn_ok (Γ := []) (fun _ h => absurd h List.not_mem_nil) x_z28 x_e28 (List.forall_mem_cons.mpr ⟨x_c28_0, fun _ h => absurd h List.not_mem_nil⟩)
def x_k29 : b_K := (27, 4, ([], [], [], [(2, (1, [])), (2, (1000003, []))], []), [(1, 3), (1, 4), (1, 6), (1, 7), (1, 8), (1, 9)], [([], [], [], [], [])])
def x_u29 : List b_Cu := []
-- Reader.takeWord, 28 steps
theorem x_z29 : b_chk0 x_T x_k29 x_u29 = true := by decide +kernel
theorem x_e29 : b_chkE x_F x_T x_Z x_dep x_hn [x_k28, x_k6] x_k29 x_u29 120 = true := by decide +kernel
theorem x_v29 {N : Int} {fz : List (List Int32)} (hZ : b_ZOk x_Z (x_G N) fz) : b_Valid x_F fz x_T (x_G N) x_k29 := b_valid (x_gOk N) x_depOk hZ x_hn_ok (Γ := [x_k28, x_k6]) (List.forall_mem_cons.mpr ⟨x_v28 hZ, List.forall_mem_cons.mpr ⟨x_v6 hZ, fun _ h => absurd h List.not_mem_nil⟩⟩) x_z29 x_e29 (fun _ h => absurd h List.not_mem_nil)
def x_k30 : b_K := (30, 4, ([(0, 0, 0), ((-1), 6, 0)], [], [], [(2, (1, [])), (0, (0, [(0, 1)])), (0, (0, [(1, 1)]))], []), [(1, 3), (1, 4), (1, 6), (1, 7), (1, 8), (1, 9)], [([(0, 0, 0), ((-1), 6, 0), (0, 6, 0)], [], [], [(0, (0, [(2, 1)]))], [])])
def x_u30 : List b_Cu := []
-- Reader.takeNumber, 75 steps
theorem x_z30 : b_chk0 x_T x_k30 x_u30 = true := by decide +kernel
theorem x_e30 : b_chkE x_F x_T x_Z x_dep x_hn [x_k6] x_k30 x_u30 135 = true := by decide +kernel
theorem x_v30 {N : Int} {fz : List (List Int32)} (hZ : b_ZOk x_Z (x_G N) fz) : b_Valid x_F fz x_T (x_G N) x_k30 := b_valid (x_gOk N) x_depOk hZ x_hn_ok (Γ := [x_k6]) (List.forall_mem_cons.mpr ⟨x_v6 hZ, fun _ h => absurd h List.not_mem_nil⟩) x_z30 x_e30 (fun _ h => absurd h List.not_mem_nil)
def x_k31 : b_K := (32, 5, ([], [], [], [(2, (1, []))], []), [(1, 3), (1, 4), (1, 6), (1, 7), (1, 8), (1, 9), (3, 6), (6, 0)], [([], [], [], [], [])])
def x_u31 : List b_Cu := []
-- Reader.readKin, 124 steps
theorem x_z31 : b_chk0 x_T x_k31 x_u31 = true := by decide +kernel
theorem x_e31 : b_chkE x_F x_T x_Z x_dep x_hn [x_k29, x_k30] x_k31 x_u31 184 = true := by decide +kernel
theorem x_v31 {N : Int} {fz : List (List Int32)} (hZ : b_ZOk x_Z (x_G N) fz) : b_Valid x_F fz x_T (x_G N) x_k31 := b_valid (x_gOk N) x_depOk hZ x_hn_ok (Γ := [x_k29, x_k30]) (List.forall_mem_cons.mpr ⟨x_v29 hZ, List.forall_mem_cons.mpr ⟨x_v30 hZ, fun _ h => absurd h List.not_mem_nil⟩⟩) x_z31 x_e31 (fun _ h => absurd h List.not_mem_nil)
def x_k32 : b_K := (28, 1, ([], [], [], [(2, (1, [])), (2, (1000004, []))], []), [], [([], [], [], [(0, (0, []))], []),
  ([], [], [], [(0, (1, []))], [])])
def x_u32_0 : b_Cu := (28, ([(0, 5, 0), (0, 695, 0), (5, 700, 0)], [], [(0, (2, (1, []))), (1, (2, (1000004, []))), (2, (0, (0, [(0, 1)])))], [], [(1, (6, []), (0, (0, [(1, 1)]))), (1, (7, []), (0, (0, [(2, 1)]))), (1, (5, []), (0, (1, [])))]), (5, [(0, (-1))]))
def x_u32 : List b_Cu := [x_u32_0]
-- Reader.isWord, 41 steps
theorem x_z32 : b_chk0 x_T x_k32 x_u32 = true := by decide +kernel
theorem x_e32 : b_chkE x_F x_T x_Z x_dep x_hn [] x_k32 x_u32 120 = true := by decide +kernel
theorem x_c32_0 : b_chkC x_F x_T x_Z x_dep x_hn [] x_k32 x_u32 120 x_u32_0 = true := by decide +kernel
theorem x_v32 {N : Int} {fz : List (List Int32)} (hZ : b_ZOk x_Z (x_G N) fz) : b_Valid x_F fz x_T (x_G N) x_k32 := b_valid (x_gOk N) x_depOk hZ x_hn_ok (Γ := []) (fun _ h => absurd h List.not_mem_nil) x_z32 x_e32 (List.forall_mem_cons.mpr ⟨x_c32_0, fun _ h => absurd h List.not_mem_nil⟩)
def x_k33 : b_K := (27, 4, ([], [], [], [(2, (1, [])), (2, (1000004, []))], []), [(1, 3), (1, 4), (1, 6), (1, 7), (1, 8), (1, 9)], [([], [], [], [], [])])
def x_u33 : List b_Cu := []
-- Reader.takeWord, 28 steps
theorem x_z33 : b_chk0 x_T x_k33 x_u33 = true := by decide +kernel
theorem x_e33 : b_chkE x_F x_T x_Z x_dep x_hn [x_k32, x_k6] x_k33 x_u33 120 = true := by decide +kernel
theorem x_v33 {N : Int} {fz : List (List Int32)} (hZ : b_ZOk x_Z (x_G N) fz) : b_Valid x_F fz x_T (x_G N) x_k33 := b_valid (x_gOk N) x_depOk hZ x_hn_ok (Γ := [x_k32, x_k6]) (List.forall_mem_cons.mpr ⟨x_v32 hZ, List.forall_mem_cons.mpr ⟨x_v6 hZ, fun _ h => absurd h List.not_mem_nil⟩⟩) x_z33 x_e33 (fun _ h => absurd h List.not_mem_nil)
def x_k34 : b_K := (28, 1, ([], [], [], [(2, (1, [])), (2, (1000011, []))], []), [], [([], [], [], [(0, (0, []))], []),
  ([], [], [], [(0, (1, []))], [])])
def x_u34_0 : b_Cu := (28, ([(0, 6, 0), (0, 694, 0), (6, 700, 0)], [], [(0, (2, (1, []))), (1, (2, (1000011, []))), (2, (0, (0, [(0, 1)])))], [], [(1, (6, []), (0, (0, [(1, 1)]))), (1, (7, []), (0, (0, [(2, 1)]))), (1, (5, []), (0, (1, [])))]), (6, [(0, (-1))]))
def x_u34 : List b_Cu := [x_u34_0]
-- Reader.isWord, 41 steps
theorem x_z34 : b_chk0 x_T x_k34 x_u34 = true := by decide +kernel
theorem x_e34 : b_chkE x_F x_T x_Z x_dep x_hn [] x_k34 x_u34 120 = true := by decide +kernel
theorem x_c34_0 : b_chkC x_F x_T x_Z x_dep x_hn [] x_k34 x_u34 120 x_u34_0 = true := by decide +kernel
theorem x_v34 {N : Int} {fz : List (List Int32)} (hZ : b_ZOk x_Z (x_G N) fz) : b_Valid x_F fz x_T (x_G N) x_k34 := b_valid (x_gOk N) x_depOk hZ x_hn_ok (Γ := []) (fun _ h => absurd h List.not_mem_nil) x_z34 x_e34 (List.forall_mem_cons.mpr ⟨x_c34_0, fun _ h => absurd h List.not_mem_nil⟩)
def x_k35 : b_K := (27, 4, ([], [], [], [(2, (1, [])), (2, (1000011, []))], []), [(1, 3), (1, 4), (1, 6), (1, 7), (1, 8), (1, 9)], [([], [], [], [], [])])
def x_u35 : List b_Cu := []
-- Reader.takeWord, 28 steps
theorem x_z35 : b_chk0 x_T x_k35 x_u35 = true := by decide +kernel
theorem x_e35 : b_chkE x_F x_T x_Z x_dep x_hn [x_k34, x_k6] x_k35 x_u35 120 = true := by decide +kernel
theorem x_v35 {N : Int} {fz : List (List Int32)} (hZ : b_ZOk x_Z (x_G N) fz) : b_Valid x_F fz x_T (x_G N) x_k35 := b_valid (x_gOk N) x_depOk hZ x_hn_ok (Γ := [x_k34, x_k6]) (List.forall_mem_cons.mpr ⟨x_v34 hZ, List.forall_mem_cons.mpr ⟨x_v6 hZ, fun _ h => absurd h List.not_mem_nil⟩⟩) x_z35 x_e35 (fun _ h => absurd h List.not_mem_nil)
def x_k36 : b_K := (30, 4, ([(0, 0, 0), (30, 30, 0)], [], [], [(2, (1, [])), (0, (0, [(0, 1)])), (0, (0, [(1, 1)]))], []), [(1, 3), (1, 4), (1, 6), (1, 7), (1, 8), (1, 9)], [([(0, 0, 0), (30, 30, 0), (0, 30, 0)], [], [], [(0, (0, [(2, 1)]))], [])])
def x_u36 : List b_Cu := []
-- Reader.takeNumber, 75 steps
theorem x_z36 : b_chk0 x_T x_k36 x_u36 = true := by decide +kernel
theorem x_e36 : b_chkE x_F x_T x_Z x_dep x_hn [x_k6] x_k36 x_u36 135 = true := by decide +kernel
theorem x_v36 {N : Int} {fz : List (List Int32)} (hZ : b_ZOk x_Z (x_G N) fz) : b_Valid x_F fz x_T (x_G N) x_k36 := b_valid (x_gOk N) x_depOk hZ x_hn_ok (Γ := [x_k6]) (List.forall_mem_cons.mpr ⟨x_v6 hZ, fun _ h => absurd h List.not_mem_nil⟩) x_z36 x_e36 (fun _ h => absurd h List.not_mem_nil)
def x_k37 : b_K := (28, 1, ([], [], [], [(2, (1, [])), (2, (1000012, []))], []), [], [([], [], [], [(0, (0, []))], []),
  ([], [], [], [(0, (1, []))], [])])
def x_u37_0 : b_Cu := (28, ([(0, 5, 0), (0, 695, 0), (5, 700, 0)], [], [(0, (2, (1, []))), (1, (2, (1000012, []))), (2, (0, (0, [(0, 1)])))], [], [(1, (6, []), (0, (0, [(1, 1)]))), (1, (7, []), (0, (0, [(2, 1)]))), (1, (5, []), (0, (1, [])))]), (5, [(0, (-1))]))
def x_u37 : List b_Cu := [x_u37_0]
-- Reader.isWord, 41 steps
theorem x_z37 : b_chk0 x_T x_k37 x_u37 = true := by decide +kernel
theorem x_e37 : b_chkE x_F x_T x_Z x_dep x_hn [] x_k37 x_u37 120 = true := by decide +kernel
theorem x_c37_0 : b_chkC x_F x_T x_Z x_dep x_hn [] x_k37 x_u37 120 x_u37_0 = true := by decide +kernel
theorem x_v37 {N : Int} {fz : List (List Int32)} (hZ : b_ZOk x_Z (x_G N) fz) : b_Valid x_F fz x_T (x_G N) x_k37 := b_valid (x_gOk N) x_depOk hZ x_hn_ok (Γ := []) (fun _ h => absurd h List.not_mem_nil) x_z37 x_e37 (List.forall_mem_cons.mpr ⟨x_c37_0, fun _ h => absurd h List.not_mem_nil⟩)
def x_k38 : b_K := (27, 4, ([], [], [], [(2, (1, [])), (2, (1000012, []))], []), [(1, 3), (1, 4), (1, 6), (1, 7), (1, 8), (1, 9)], [([], [], [], [], [])])
def x_u38 : List b_Cu := []
-- Reader.takeWord, 28 steps
theorem x_z38 : b_chk0 x_T x_k38 x_u38 = true := by decide +kernel
theorem x_e38 : b_chkE x_F x_T x_Z x_dep x_hn [x_k37, x_k6] x_k38 x_u38 120 = true := by decide +kernel
theorem x_v38 {N : Int} {fz : List (List Int32)} (hZ : b_ZOk x_Z (x_G N) fz) : b_Valid x_F fz x_T (x_G N) x_k38 := b_valid (x_gOk N) x_depOk hZ x_hn_ok (Γ := [x_k37, x_k6]) (List.forall_mem_cons.mpr ⟨x_v37 hZ, List.forall_mem_cons.mpr ⟨x_v6 hZ, fun _ h => absurd h List.not_mem_nil⟩⟩) x_z38 x_e38 (fun _ h => absurd h List.not_mem_nil)
def x_k39 : b_K := (30, 4, ([(0, 0, 0), (15, 15, 0)], [], [], [(2, (1, [])), (0, (0, [(0, 1)])), (0, (0, [(1, 1)]))], []), [(1, 3), (1, 4), (1, 6), (1, 7), (1, 8), (1, 9)], [([(0, 0, 0), (15, 15, 0), (0, 15, 0)], [], [], [(0, (0, [(2, 1)]))], [])])
def x_u39 : List b_Cu := []
-- Reader.takeNumber, 75 steps
theorem x_z39 : b_chk0 x_T x_k39 x_u39 = true := by decide +kernel
theorem x_e39 : b_chkE x_F x_T x_Z x_dep x_hn [x_k6] x_k39 x_u39 135 = true := by decide +kernel
theorem x_v39 {N : Int} {fz : List (List Int32)} (hZ : b_ZOk x_Z (x_G N) fz) : b_Valid x_F fz x_T (x_G N) x_k39 := b_valid (x_gOk N) x_depOk hZ x_hn_ok (Γ := [x_k6]) (List.forall_mem_cons.mpr ⟨x_v6 hZ, fun _ h => absurd h List.not_mem_nil⟩) x_z39 x_e39 (fun _ h => absurd h List.not_mem_nil)
def x_k40 : b_K := (28, 1, ([], [], [], [(2, (1, [])), (2, (1000013, []))], []), [], [([], [], [], [(0, (0, []))], []),
  ([], [], [], [(0, (1, []))], [])])
def x_u40_0 : b_Cu := (28, ([(0, 2, 0), (0, 698, 0), (2, 700, 0)], [], [(0, (2, (1, []))), (1, (2, (1000013, []))), (2, (0, (0, [(0, 1)])))], [], [(1, (6, []), (0, (0, [(1, 1)]))), (1, (7, []), (0, (0, [(2, 1)]))), (1, (5, []), (0, (1, [])))]), (2, [(0, (-1))]))
def x_u40 : List b_Cu := [x_u40_0]
-- Reader.isWord, 41 steps
theorem x_z40 : b_chk0 x_T x_k40 x_u40 = true := by decide +kernel
theorem x_e40 : b_chkE x_F x_T x_Z x_dep x_hn [] x_k40 x_u40 120 = true := by decide +kernel
theorem x_c40_0 : b_chkC x_F x_T x_Z x_dep x_hn [] x_k40 x_u40 120 x_u40_0 = true := by decide +kernel
theorem x_v40 {N : Int} {fz : List (List Int32)} (hZ : b_ZOk x_Z (x_G N) fz) : b_Valid x_F fz x_T (x_G N) x_k40 := b_valid (x_gOk N) x_depOk hZ x_hn_ok (Γ := []) (fun _ h => absurd h List.not_mem_nil) x_z40 x_e40 (List.forall_mem_cons.mpr ⟨x_c40_0, fun _ h => absurd h List.not_mem_nil⟩)
def x_k41 : b_K := (27, 4, ([], [], [], [(2, (1, [])), (2, (1000013, []))], []), [(1, 3), (1, 4), (1, 6), (1, 7), (1, 8), (1, 9)], [([], [], [], [], [])])
def x_u41 : List b_Cu := []
-- Reader.takeWord, 28 steps
theorem x_z41 : b_chk0 x_T x_k41 x_u41 = true := by decide +kernel
theorem x_e41 : b_chkE x_F x_T x_Z x_dep x_hn [x_k40, x_k6] x_k41 x_u41 120 = true := by decide +kernel
theorem x_v41 {N : Int} {fz : List (List Int32)} (hZ : b_ZOk x_Z (x_G N) fz) : b_Valid x_F fz x_T (x_G N) x_k41 := b_valid (x_gOk N) x_depOk hZ x_hn_ok (Γ := [x_k40, x_k6]) (List.forall_mem_cons.mpr ⟨x_v40 hZ, List.forall_mem_cons.mpr ⟨x_v6 hZ, fun _ h => absurd h List.not_mem_nil⟩⟩) x_z41 x_e41 (fun _ h => absurd h List.not_mem_nil)
def x_k42 : b_K := (30, 4, ([(0, 0, 0), (13, 13, 0)], [], [], [(2, (1, [])), (0, (0, [(0, 1)])), (0, (0, [(1, 1)]))], []), [(1, 3), (1, 4), (1, 6), (1, 7), (1, 8), (1, 9)], [([(0, 0, 0), (13, 13, 0), (0, 13, 0)], [], [], [(0, (0, [(2, 1)]))], [])])
def x_u42 : List b_Cu := []
-- Reader.takeNumber, 75 steps
theorem x_z42 : b_chk0 x_T x_k42 x_u42 = true := by decide +kernel
theorem x_e42 : b_chkE x_F x_T x_Z x_dep x_hn [x_k6] x_k42 x_u42 135 = true := by decide +kernel
theorem x_v42 {N : Int} {fz : List (List Int32)} (hZ : b_ZOk x_Z (x_G N) fz) : b_Valid x_F fz x_T (x_G N) x_k42 := b_valid (x_gOk N) x_depOk hZ x_hn_ok (Γ := [x_k6]) (List.forall_mem_cons.mpr ⟨x_v6 hZ, fun _ h => absurd h List.not_mem_nil⟩) x_z42 x_e42 (fun _ h => absurd h List.not_mem_nil)
def x_k43 : b_K := (33, 5, ([], [], [], [(2, (1, []))], []), [(1, 3), (1, 4), (1, 6), (1, 7), (1, 8), (1, 9), (3, 7), (7, 0), (8, 0), (9, 0)], [([], [], [], [], [])])
def x_u43 : List b_Cu := []
-- Reader.readCause, 74 steps
theorem x_z43 : b_chk0 x_T x_k43 x_u43 = true := by decide +kernel
theorem x_e43 : b_chkE x_F x_T x_Z x_dep x_hn [x_k33, x_k35, x_k36, x_k38, x_k39, x_k41, x_k42] x_k43 x_u43 134 = true := by decide +kernel
theorem x_v43 {N : Int} {fz : List (List Int32)} (hZ : b_ZOk x_Z (x_G N) fz) : b_Valid x_F fz x_T (x_G N) x_k43 := b_valid (x_gOk N) x_depOk hZ x_hn_ok (Γ := [x_k33, x_k35, x_k36, x_k38, x_k39, x_k41, x_k42]) (List.forall_mem_cons.mpr ⟨x_v33 hZ, List.forall_mem_cons.mpr ⟨x_v35 hZ, List.forall_mem_cons.mpr ⟨x_v36 hZ, List.forall_mem_cons.mpr ⟨x_v38 hZ, List.forall_mem_cons.mpr ⟨x_v39 hZ, List.forall_mem_cons.mpr ⟨x_v41 hZ, List.forall_mem_cons.mpr ⟨x_v42 hZ, fun _ h => absurd h List.not_mem_nil⟩⟩⟩⟩⟩⟩⟩) x_z43 x_e43 (fun _ h => absurd h List.not_mem_nil)
def x_k44 : b_K := (25, 6, ([], [], [], [(2, (1, []))], []), [(1, 3), (1, 4), (1, 6), (1, 7), (1, 8), (1, 9), (3, 1), (3, 2), (3, 3), (3, 4), (3, 5), (3, 6), (3, 7), (4, 0), (5, 0), (6, 0), (7, 0), (8, 0), (9, 0)], [([], [], [], [], [])])
def x_u44 : List b_Cu := []
-- Reader.readLine, 549 steps
theorem x_z44 : b_chk0 x_T x_k44 x_u44 = true := by decide +kernel
theorem x_e44 : b_chkE x_F x_T x_Z x_dep x_hn [x_k18, x_k6, x_k19, x_k27, x_k28, x_k31, x_k32, x_k43] x_k44 x_u44 609 = true := by decide +kernel
theorem x_v44 {N : Int} {fz : List (List Int32)} (hZ : b_ZOk x_Z (x_G N) fz) : b_Valid x_F fz x_T (x_G N) x_k44 := b_valid (x_gOk N) x_depOk hZ x_hn_ok (Γ := [x_k18, x_k6, x_k19, x_k27, x_k28, x_k31, x_k32, x_k43]) (List.forall_mem_cons.mpr ⟨x_v18 hZ, List.forall_mem_cons.mpr ⟨x_v6 hZ, List.forall_mem_cons.mpr ⟨x_v19 hZ, List.forall_mem_cons.mpr ⟨x_v27 hZ, List.forall_mem_cons.mpr ⟨x_v28 hZ, List.forall_mem_cons.mpr ⟨x_v31 hZ, List.forall_mem_cons.mpr ⟨x_v32 hZ, List.forall_mem_cons.mpr ⟨x_v43 hZ, fun _ h => absurd h List.not_mem_nil⟩⟩⟩⟩⟩⟩⟩⟩) x_z44 x_e44 (fun _ h => absurd h List.not_mem_nil)
def x_k45 : b_K := (15, 7, ([], [], [], [(2, (1, []))], []), [(1, 3), (1, 4), (1, 6), (1, 7), (1, 8), (1, 9), (3, 1), (3, 2), (3, 3), (3, 4), (3, 5), (3, 6), (3, 7), (3, 8), (4, 0), (5, 0), (6, 0), (7, 0), (8, 0), (9, 0)], [([], [], [], [(0, (0, []))], []),
  ([], [], [], [(0, (1, []))], [])])
def x_u45_0 : b_Cu := (28, ([(0, 700, 0)], [], [(0, (2, (1, []))), (1, (0, (0, [(0, 1)])))], [], []), (700, [(0, (-1))]))
def x_u45 : List b_Cu := [x_u45_0]
-- Reader.read, 79 steps
theorem x_z45 : b_chk0 x_T x_k45 x_u45 = true := by decide +kernel
theorem x_e45 : b_chkE x_F x_T x_Z x_dep x_hn [x_k3, x_k6, x_k44] x_k45 x_u45 139 = true := by decide +kernel
theorem x_c45_0 : b_chkC x_F x_T x_Z x_dep x_hn [x_k3, x_k6, x_k44] x_k45 x_u45 139 x_u45_0 = true := by decide +kernel
theorem x_v45 {N : Int} {fz : List (List Int32)} (hZ : b_ZOk x_Z (x_G N) fz) : b_Valid x_F fz x_T (x_G N) x_k45 := b_valid (x_gOk N) x_depOk hZ x_hn_ok (Γ := [x_k3, x_k6, x_k44]) (List.forall_mem_cons.mpr ⟨x_v3 hZ, List.forall_mem_cons.mpr ⟨x_v6 hZ, List.forall_mem_cons.mpr ⟨x_v44 hZ, fun _ h => absurd h List.not_mem_nil⟩⟩⟩) x_z45 x_e45 (List.forall_mem_cons.mpr ⟨x_c45_0, fun _ h => absurd h List.not_mem_nil⟩)
def x_k46 : b_K := (36, 2, ([], [], [], [(2, (23, []))], []), [(23, 2), (24, 0), (25, 0), (26, 0), (27, 0)], [([], [], [], [], [])])
def x_u46_0 : b_Cu := (7, ([(0, 14, 0)], [], [(0, (2, (23, []))), (1, (0, (0, [(0, 1)])))], [], []), (924, [(0, (-63))]))
def x_u46_1 : b_Cu := (27, ([(0, 13, 0), (0, 8, 0)], [], [(0, (2, (23, []))), (1, (0, (0, [(0, 1)]))), (2, (0, (0, [(1, 1)])))], [], []), (911, [(0, (-63)), (1, (-1))]))
def x_u46_2 : b_Cu := (66, ([(0, 13, 0), (0, 20, 0)], [], [(0, (2, (23, []))), (1, (0, (0, [(0, 1)]))), (2, (0, (0, [(1, 1)])))], [], []), (902, [(0, (-63)), (1, (-1))]))
def x_u46 : List b_Cu := [x_u46_0, x_u46_1, x_u46_2]
-- Court.plan, 158 steps
theorem x_z46 : b_chk0 x_T x_k46 x_u46 = true := by decide +kernel
theorem x_e46 : b_chkE x_F x_T x_Z x_dep x_hn [] x_k46 x_u46 218 = true := by decide +kernel
theorem x_c46_0 : b_chkC x_F x_T x_Z x_dep x_hn [] x_k46 x_u46 218 x_u46_0 = true := by decide +kernel
theorem x_c46_1 : b_chkC x_F x_T x_Z x_dep x_hn [] x_k46 x_u46 218 x_u46_1 = true := by decide +kernel
theorem x_c46_2 : b_chkC x_F x_T x_Z x_dep x_hn [] x_k46 x_u46 218 x_u46_2 = true := by decide +kernel
theorem x_v46 {N : Int} {fz : List (List Int32)} (hZ : b_ZOk x_Z (x_G N) fz) : b_Valid x_F fz x_T (x_G N) x_k46 := b_valid (x_gOk N) x_depOk hZ x_hn_ok (Γ := []) (fun _ h => absurd h List.not_mem_nil) x_z46 x_e46 (List.forall_mem_cons.mpr ⟨x_c46_0, List.forall_mem_cons.mpr ⟨x_c46_1, List.forall_mem_cons.mpr ⟨x_c46_2, fun _ h => absurd h List.not_mem_nil⟩⟩⟩)
def x_k47 : b_K := (17, 1, ([((-1), (-1), 0)], [], [], [(2, (33, [])), (0, (0, [(0, 1)]))], []), [(33, 0)], [([((-1), (-1), 0)], [], [], [], [])])
def x_u47_0 : b_Cu := (5, ([((-1), (-1), 0), (0, 8, 0)], [], [(0, (2, (33, []))), (1, (0, (0, [(0, 1)]))), (2, (0, (0, [(1, 1)]))), (3, (0, (8, [])))], [], []), (8, [(1, (-1))]))
def x_u47 : List b_Cu := [x_u47_0]
-- java/util/Arrays.fill, 15 steps
theorem x_z47 : b_chk0 x_T x_k47 x_u47 = true := by decide +kernel
theorem x_e47 : b_chkE x_F x_T x_Z x_dep x_hn [] x_k47 x_u47 120 = true := by decide +kernel
theorem x_c47_0 : b_chkC x_F x_T x_Z x_dep x_hn [] x_k47 x_u47 120 x_u47_0 = true := by decide +kernel
theorem x_v47 {N : Int} {fz : List (List Int32)} (hZ : b_ZOk x_Z (x_G N) fz) : b_Valid x_F fz x_T (x_G N) x_k47 := b_valid (x_gOk N) x_depOk hZ x_hn_ok (Γ := []) (fun _ h => absurd h List.not_mem_nil) x_z47 x_e47 (List.forall_mem_cons.mpr ⟨x_c47_0, fun _ h => absurd h List.not_mem_nil⟩)
def x_k48 : b_K := (17, 1, ([(0, 0, 0)], [], [], [(2, (34, [])), (0, (0, [(0, 1)]))], []), [(34, 0)], [([(0, 0, 0)], [], [], [], [])])
def x_u48_0 : b_Cu := (5, ([(0, 0, 0), (0, 8, 0)], [], [(0, (2, (34, []))), (1, (0, (0, [(0, 1)]))), (2, (0, (0, [(1, 1)]))), (3, (0, (8, [])))], [], []), (8, [(1, (-1))]))
def x_u48 : List b_Cu := [x_u48_0]
-- java/util/Arrays.fill, 15 steps
theorem x_z48 : b_chk0 x_T x_k48 x_u48 = true := by decide +kernel
theorem x_e48 : b_chkE x_F x_T x_Z x_dep x_hn [] x_k48 x_u48 120 = true := by decide +kernel
theorem x_c48_0 : b_chkC x_F x_T x_Z x_dep x_hn [] x_k48 x_u48 120 x_u48_0 = true := by decide +kernel
theorem x_v48 {N : Int} {fz : List (List Int32)} (hZ : b_ZOk x_Z (x_G N) fz) : b_Valid x_F fz x_T (x_G N) x_k48 := b_valid (x_gOk N) x_depOk hZ x_hn_ok (Γ := []) (fun _ h => absurd h List.not_mem_nil) x_z48 x_e48 (List.forall_mem_cons.mpr ⟨x_c48_0, fun _ h => absurd h List.not_mem_nil⟩)
def x_k49 : b_K := (17, 1, ([(0, 0, 0)], [], [], [(2, (35, [])), (0, (0, [(0, 1)]))], []), [(35, 0)], [([(0, 0, 0)], [], [], [], [])])
def x_u49_0 : b_Cu := (5, ([(0, 0, 0), (0, 8, 0)], [], [(0, (2, (35, []))), (1, (0, (0, [(0, 1)]))), (2, (0, (0, [(1, 1)]))), (3, (0, (8, [])))], [], []), (8, [(1, (-1))]))
def x_u49 : List b_Cu := [x_u49_0]
-- java/util/Arrays.fill, 15 steps
theorem x_z49 : b_chk0 x_T x_k49 x_u49 = true := by decide +kernel
theorem x_e49 : b_chkE x_F x_T x_Z x_dep x_hn [] x_k49 x_u49 120 = true := by decide +kernel
theorem x_c49_0 : b_chkC x_F x_T x_Z x_dep x_hn [] x_k49 x_u49 120 x_u49_0 = true := by decide +kernel
theorem x_v49 {N : Int} {fz : List (List Int32)} (hZ : b_ZOk x_Z (x_G N) fz) : b_Valid x_F fz x_T (x_G N) x_k49 := b_valid (x_gOk N) x_depOk hZ x_hn_ok (Γ := []) (fun _ h => absurd h List.not_mem_nil) x_z49 x_e49 (List.forall_mem_cons.mpr ⟨x_c49_0, fun _ h => absurd h List.not_mem_nil⟩)
def x_k50 : b_K := (17, 1, ([(0, 0, 0)], [], [], [(2, (37, [])), (0, (0, [(0, 1)]))], []), [(37, 0)], [([(0, 0, 0)], [], [], [], [])])
def x_u50_0 : b_Cu := (5, ([(0, 0, 0), (0, 7, 0)], [], [(0, (2, (37, []))), (1, (0, (0, [(0, 1)]))), (2, (0, (0, [(1, 1)]))), (3, (0, (7, [])))], [], []), (7, [(1, (-1))]))
def x_u50 : List b_Cu := [x_u50_0]
-- java/util/Arrays.fill, 15 steps
theorem x_z50 : b_chk0 x_T x_k50 x_u50 = true := by decide +kernel
theorem x_e50 : b_chkE x_F x_T x_Z x_dep x_hn [] x_k50 x_u50 120 = true := by decide +kernel
theorem x_c50_0 : b_chkC x_F x_T x_Z x_dep x_hn [] x_k50 x_u50 120 x_u50_0 = true := by decide +kernel
theorem x_v50 {N : Int} {fz : List (List Int32)} (hZ : b_ZOk x_Z (x_G N) fz) : b_Valid x_F fz x_T (x_G N) x_k50 := b_valid (x_gOk N) x_depOk hZ x_hn_ok (Γ := []) (fun _ h => absurd h List.not_mem_nil) x_z50 x_e50 (List.forall_mem_cons.mpr ⟨x_c50_0, fun _ h => absurd h List.not_mem_nil⟩)
def x_k51 : b_K := (42, 1, ([(0, 127, 0)], [], [], [(2, (23, [])), (0, (0, [(0, 1)]))], []), [], [([(0, 127, 0), ((-1), 6, 0)], [], [], [(0, (0, [(1, 1)]))], [])])
def x_u51_0 : b_Cu := (4, ([(0, 127, 0), ((-1), 6, 0), (0, 7, 0)], [], [(0, (2, (23, []))), (1, (0, (0, [(0, 1)]))), (2, (0, (0, [(1, 1)]))), (3, (0, (0, [(2, 1)])))], [], []), (7, [(2, (-1))]))
def x_u51 : List b_Cu := [x_u51_0]
-- Court.leastBusy, 41 steps
theorem x_z51 : b_chk0 x_T x_k51 x_u51 = true := by decide +kernel
theorem x_e51 : b_chkE x_F x_T x_Z x_dep x_hn [] x_k51 x_u51 120 = true := by decide +kernel
theorem x_c51_0 : b_chkC x_F x_T x_Z x_dep x_hn [] x_k51 x_u51 120 x_u51_0 = true := by decide +kernel
theorem x_v51 {N : Int} {fz : List (List Int32)} (hZ : b_ZOk x_Z (x_G N) fz) : b_Valid x_F fz x_T (x_G N) x_k51 := b_valid (x_gOk N) x_depOk hZ x_hn_ok (Γ := []) (fun _ h => absurd h List.not_mem_nil) x_z51 x_e51 (List.forall_mem_cons.mpr ⟨x_c51_0, fun _ h => absurd h List.not_mem_nil⟩)
def x_k52 : b_K := (41, 2, ([(0, 127, 0)], [], [], [(2, (23, [])), (0, (0, [(0, 1)]))], []), [], [([(0, 127, 0), ((-2147483648), 2147483647, 0)], [], [], [(0, (0, [(1, 1)]))], [])])
def x_u52_0 : b_Cu := (7, ([(0, 127, 0), ((-2147483648), 2147483647, 0), (0, 127, 0), (0, 3, 0)], [], [(0, (2, (23, []))), (2, (0, (0, [(1, 1)]))), (3, (0, (0, [(2, 1)]))), (4, (0, (0, [(3, 1)])))], [], []), (3, [(3, (-1))]))
def x_u52 : List b_Cu := [x_u52_0]
-- Court.choose, 42 steps
theorem x_z52 : b_chk0 x_T x_k52 x_u52 = true := by decide +kernel
theorem x_e52 : b_chkE x_F x_T x_Z x_dep x_hn [x_k51] x_k52 x_u52 120 = true := by decide +kernel
theorem x_c52_0 : b_chkC x_F x_T x_Z x_dep x_hn [x_k51] x_k52 x_u52 120 x_u52_0 = true := by decide +kernel
theorem x_v52 {N : Int} {fz : List (List Int32)} (hZ : b_ZOk x_Z (x_G N) fz) : b_Valid x_F fz x_T (x_G N) x_k52 := b_valid (x_gOk N) x_depOk hZ x_hn_ok (Γ := [x_k51]) (List.forall_mem_cons.mpr ⟨x_v51 hZ, fun _ h => absurd h List.not_mem_nil⟩) x_z52 x_e52 (List.forall_mem_cons.mpr ⟨x_c52_0, fun _ h => absurd h List.not_mem_nil⟩)
def x_k53 : b_K := (44, 1, ([(0, 6, 0), (0, 60, 0), (0, 7, 0)], [], [], [(2, (13, [])), (0, (0, [(0, 1)])), (0, (0, [(1, 1)])), (0, (0, [(2, 1)]))], []), [], [([(0, 6, 0), (0, 60, 0), (0, 7, 0), (0, 2147483647, 0)], [], [], [(0, (0, [(3, 1)]))], [])])
def x_u53_0 : b_Cu := (13, ([(0, 6, 0), (0, 60, 0), (0, 7, 0), ((-2147483648), 2147483647, 0), (0, 4, 0)], [], [(0, (2, (13, []))), (1, (0, (0, [(0, 1)]))), (3, (0, (0, [(2, 1)]))), (4, (0, (0, [(3, 1)]))), (5, (0, (0, [(4, 1)])))], [], []), (4, [(4, (-1))]))
def x_u53 : List b_Cu := [x_u53_0]
-- Circuit.judge, 40 steps
theorem x_z53 : b_chk0 x_T x_k53 x_u53 = true := by decide +kernel
theorem x_e53 : b_chkE x_F x_T x_Z x_dep x_hn [] x_k53 x_u53 120 = true := by decide +kernel
theorem x_c53_0 : b_chkC x_F x_T x_Z x_dep x_hn [] x_k53 x_u53 120 x_u53_0 = true := by decide +kernel
theorem x_v53 {N : Int} {fz : List (List Int32)} (hZ : b_ZOk x_Z (x_G N) fz) : b_Valid x_F fz x_T (x_G N) x_k53 := b_valid (x_gOk N) x_depOk hZ x_hn_ok (Γ := []) (fun _ h => absurd h List.not_mem_nil) x_z53 x_e53 (List.forall_mem_cons.mpr ⟨x_c53_0, fun _ h => absurd h List.not_mem_nil⟩)
def x_k54 : b_K := (43, 3, ([(0, 7, 0), (0, 13, 0), ((-2147483648), 2147483647, 0), (0, 27, 0)], [], [], [(2, (23, [])), (0, (0, [(0, 1)])), (0, (0, [(1, 1)])), (0, (0, [(2, 1)]))], [(23, (6, []), (0, (0, [(3, 1)])))]), [(23, 7), (28, 0), (29, 0), (30, 0), (31, 0), (32, 0), (33, 0), (34, 0), (35, 0), (36, 0), (37, 0)], [([(0, 7, 0), (0, 13, 0), ((-2147483648), 2147483647, 0), (0, 27, 0)], [], [], [], [(23, (6, []), (0, (1, [(3, 1)])))])])
def x_u54_0 : b_Cu := (14, ([(0, 7, 0), (0, 13, 0), ((-2147483648), 2147483647, 0), (0, 27, 0), (0, 3, 0), (0, 7, 0)], [], [(0, (2, (23, []))), (1, (0, (0, [(0, 1)]))), (2, (0, (0, [(1, 1)]))), (3, (0, (0, [(2, 1)]))), (4, (0, (0, [(3, 3)]))), (5, (0, (0, [(4, 1)]))), (6, (0, (0, [(5, 1)])))], [], [(23, (6, []), (0, (0, [(3, 1)])))]), (15, [(5, (-1))]))
def x_u54_1 : b_Cu := (184, ([(0, 7, 0), (0, 13, 0), ((-2147483648), 2147483647, 0), (0, 27, 0), (0, 3, 0), (0, 2147483647, 0), (0, 7, 0)], [], [(0, (2, (23, []))), (1, (0, (0, [(0, 1)]))), (3, (0, (0, [(2, 1)]))), (4, (0, (0, [(3, 3)]))), (5, (0, (0, [(4, 1)]))), (6, (0, (0, [(5, 1)]))), (7, (0, (0, [(6, 1)])))], [], [(23, (6, []), (0, (0, [(3, 1)])))]), (7, [(6, (-1))]))
def x_u54 : List b_Cu := [x_u54_0, x_u54_1]
-- Court.hear, 466 steps
theorem x_z54 : b_chk0 x_T x_k54 x_u54 = true := by decide +kernel
theorem x_e54 : b_chkE x_F x_T x_Z x_dep x_hn [x_k53] x_k54 x_u54 526 = true := by decide +kernel
theorem x_c54_0 : b_chkC x_F x_T x_Z x_dep x_hn [x_k53] x_k54 x_u54 526 x_u54_0 = true := by decide +kernel
theorem x_c54_1 : b_chkC x_F x_T x_Z x_dep x_hn [x_k53] x_k54 x_u54 526 x_u54_1 = true := by decide +kernel
theorem x_v54 {N : Int} {fz : List (List Int32)} (hZ : b_ZOk x_Z (x_G N) fz) : b_Valid x_F fz x_T (x_G N) x_k54 := b_valid (x_gOk N) x_depOk hZ x_hn_ok (Γ := [x_k53]) (List.forall_mem_cons.mpr ⟨x_v53 hZ, fun _ h => absurd h List.not_mem_nil⟩) x_z54 x_e54 (List.forall_mem_cons.mpr ⟨x_c54_0, List.forall_mem_cons.mpr ⟨x_c54_1, fun _ h => absurd h List.not_mem_nil⟩⟩)
def x_k55 : b_K := (38, 4, ([(255, 255, 0), (127, 127, 0)], [], [], [(2, (23, [])), (0, (0, [(0, 1)])), (0, (0, [(1, 1)]))], []), [(23, 7), (28, 0), (29, 0), (30, 0), (31, 0), (32, 0), (33, 0), (34, 0), (35, 0), (36, 0), (37, 0), (38, 0), (39, 0)], [([(255, 255, 0), (127, 127, 0)], [], [], [], [])])
def x_u55_0 : b_Cu := (71, ([(255, 255, 0), (127, 127, 0), (0, 127, 0), (0, 28, 0), (0, 15, 0)], [], [(0, (2, (23, []))), (1, (0, (0, [(0, 1)]))), (3, (0, (0, [(2, 1)]))), (4, (0, (0, [(3, 1)]))), (5, (0, (0, [(4, 1)])))], [], []), (927, [(3, (-32)), (4, (-2))]))
def x_u55_1 : b_Cu := (121, ([(255, 255, 0), (127, 127, 0), (0, 127, 0), (0, 28, 0), (0, 14, 0)], [], [(0, (2, (23, []))), (1, (0, (0, [(0, 1)]))), (3, (0, (0, [(2, 1)]))), (4, (0, (0, [(3, 1)]))), (5, (0, (0, [(4, 1)])))], [], []), (926, [(3, (-32)), (4, (-2))]))
def x_u55 : List b_Cu := [x_u55_0, x_u55_1]
-- Court.hold, 245 steps
theorem x_z55 : b_chk0 x_T x_k55 x_u55 = true := by decide +kernel
theorem x_e55 : b_chkE x_F x_T x_Z x_dep x_hn [x_k47, x_k48, x_k49, x_k50, x_k52, x_k54] x_k55 x_u55 305 = true := by decide +kernel
theorem x_c55_0 : b_chkC x_F x_T x_Z x_dep x_hn [x_k47, x_k48, x_k49, x_k50, x_k52, x_k54] x_k55 x_u55 305 x_u55_0 = true := by decide +kernel
theorem x_c55_1 : b_chkC x_F x_T x_Z x_dep x_hn [x_k47, x_k48, x_k49, x_k50, x_k52, x_k54] x_k55 x_u55 305 x_u55_1 = true := by decide +kernel
theorem x_v55 {N : Int} {fz : List (List Int32)} (hZ : b_ZOk x_Z (x_G N) fz) : b_Valid x_F fz x_T (x_G N) x_k55 := b_valid (x_gOk N) x_depOk hZ x_hn_ok (Γ := [x_k47, x_k48, x_k49, x_k50, x_k52, x_k54]) (List.forall_mem_cons.mpr ⟨x_v47 hZ, List.forall_mem_cons.mpr ⟨x_v48 hZ, List.forall_mem_cons.mpr ⟨x_v49 hZ, List.forall_mem_cons.mpr ⟨x_v50 hZ, List.forall_mem_cons.mpr ⟨x_v52 hZ, List.forall_mem_cons.mpr ⟨x_v54 hZ, fun _ h => absurd h List.not_mem_nil⟩⟩⟩⟩⟩⟩) x_z55 x_e55 (List.forall_mem_cons.mpr ⟨x_c55_0, List.forall_mem_cons.mpr ⟨x_c55_1, fun _ h => absurd h List.not_mem_nil⟩⟩)
def x_k56 : b_K := (14, 8, ([], [], [], [(2, (0, []))], []), [(1, 2), (1, 3), (1, 4), (1, 6), (1, 7), (1, 8), (1, 9), (3, 1), (3, 2), (3, 3), (3, 4), (3, 5), (3, 6), (3, 7), (3, 8), (4, 0), (5, 0), (6, 0), (7, 0), (8, 0), (9, 0), (13, 1), (13, 2), (13, 3), (13, 4), (13, 5), (13, 6), (13, 7), (13, 8), (14, 0), (15, 0), (16, 0), (17, 0), (18, 0), (19, 0), (20, 0), (21, 0), (22, 0), (23, 2), (23, 7), (24, 0), (25, 0), (26, 0), (27, 0), (28, 0), (29, 0), (30, 0), (31, 0), (32, 0), (33, 0), (34, 0), (35, 0), (36, 0), (37, 0), (38, 0), (39, 0)], [([((-2147483648), 2147483647, 0)], [], [], [(0, (0, [(0, 1)]))], [])])
def x_u56 : List b_Cu := []
-- B.circuit, 137 steps
theorem x_z56 : b_chk0 x_T x_k56 x_u56 = true := by decide +kernel
theorem x_e56 : b_chkE x_F x_T x_Z x_dep x_hn [x_k45, x_k46, x_k55] x_k56 x_u56 197 = true := by decide +kernel
theorem x_v56 {N : Int} {fz : List (List Int32)} (hZ : b_ZOk x_Z (x_G N) fz) : b_Valid x_F fz x_T (x_G N) x_k56 := b_valid (x_gOk N) x_depOk hZ x_hn_ok (Γ := [x_k45, x_k46, x_k55]) (List.forall_mem_cons.mpr ⟨x_v45 hZ, List.forall_mem_cons.mpr ⟨x_v46 hZ, List.forall_mem_cons.mpr ⟨x_v55 hZ, fun _ h => absurd h List.not_mem_nil⟩⟩⟩) x_z56 x_e56 (fun _ h => absurd h List.not_mem_nil)
def x_k57 : b_K := (49, 1, ([((-2147483648), 2147483647, 0)], [], [], [(2, (0, [])), (0, (0, [(0, 1)]))], []), [], [([((-2147483648), 2147483647, 0), ((-1), 700, 0)], [], [], [(0, (0, [(1, 1)]))], [])])
def x_u57 : List b_Cu := []
-- B.fault, 12 steps
theorem x_z57 : b_chk0 x_T x_k57 x_u57 = true := by decide +kernel
theorem x_e57 : b_chkE x_F x_T x_Z x_dep x_hn [] x_k57 x_u57 120 = true := by decide +kernel
theorem x_v57 {N : Int} {fz : List (List Int32)} (hZ : b_ZOk x_Z (x_G N) fz) : b_Valid x_F fz x_T (x_G N) x_k57 := b_valid (x_gOk N) x_depOk hZ x_hn_ok (Γ := []) (fun _ h => absurd h List.not_mem_nil) x_z57 x_e57 (fun _ h => absurd h List.not_mem_nil)
def x_k58 : b_K := (50, 2, ([((-2147483648), 2147483647, 0), ((-2147483648), 2147483647, 0)], [], [], [(2, (0, [])), (0, (0, [(0, 1)])), (0, (0, [(1, 1)]))], []), [], [([((-2147483648), 2147483647, 0), ((-2147483648), 2147483647, 0), ((-2), 40, 0)], [], [], [(0, (0, [(2, 1)]))], [])])
def x_u58 : List b_Cu := []
-- B.mother, 54 steps
theorem x_z58 : b_chk0 x_T x_k58 x_u58 = true := by decide +kernel
theorem x_e58 : b_chkE x_F x_T x_Z x_dep x_hn [] x_k58 x_u58 120 = true := by decide +kernel
theorem x_v58 {N : Int} {fz : List (List Int32)} (hZ : b_ZOk x_Z (x_G N) fz) : b_Valid x_F fz x_T (x_G N) x_k58 := b_valid (x_gOk N) x_depOk hZ x_hn_ok (Γ := []) (fun _ h => absurd h List.not_mem_nil) x_z58 x_e58 (fun _ h => absurd h List.not_mem_nil)
def x_k59 : b_K := (52, 2, ([((-2147483648), 2147483647, 0)], [], [], [(2, (0, [])), (0, (0, [(0, 1)]))], []), [], [([((-2147483648), 2147483647, 0), ((-2147483648), 2147483647, 0)], [], [], [(0, (0, [(1, 1)]))], [])])
def x_u59 : List b_Cu := []
-- B.kin, 31 steps
theorem x_z59 : b_chk0 x_T x_k59 x_u59 = true := by decide +kernel
theorem x_e59 : b_chkE x_F x_T x_Z x_dep x_hn [] x_k59 x_u59 120 = true := by decide +kernel
theorem x_v59 {N : Int} {fz : List (List Int32)} (hZ : b_ZOk x_Z (x_G N) fz) : b_Valid x_F fz x_T (x_G N) x_k59 := b_valid (x_gOk N) x_depOk hZ x_hn_ok (Γ := []) (fun _ h => absurd h List.not_mem_nil) x_z59 x_e59 (fun _ h => absurd h List.not_mem_nil)
def x_k60 : b_K := (53, 2, ([((-2147483648), 2147483647, 0), ((-2147483648), 2147483647, 0)], [], [], [(2, (0, [])), (0, (0, [(0, 1)])), (0, (0, [(1, 1)]))], []), [], [([((-2147483648), 2147483647, 0), ((-2147483648), 2147483647, 0), ((-2), 30, 0)], [], [], [(0, (0, [(2, 1)]))], [])])
def x_u60 : List b_Cu := []
-- B.cause, 48 steps
theorem x_z60 : b_chk0 x_T x_k60 x_u60 = true := by decide +kernel
theorem x_e60 : b_chkE x_F x_T x_Z x_dep x_hn [] x_k60 x_u60 120 = true := by decide +kernel
theorem x_v60 {N : Int} {fz : List (List Int32)} (hZ : b_ZOk x_Z (x_G N) fz) : b_Valid x_F fz x_T (x_G N) x_k60 := b_valid (x_gOk N) x_depOk hZ x_hn_ok (Γ := []) (fun _ h => absurd h List.not_mem_nil) x_z60 x_e60 (fun _ h => absurd h List.not_mem_nil)
def x_k61 : b_K := (55, 2, ([((-2147483648), 2147483647, 0)], [], [], [(2, (0, [])), (0, (0, [(0, 1)]))], []), [], [([((-2147483648), 2147483647, 0), ((-2147483648), 2147483647, 0)], [], [], [(0, (0, [(1, 1)]))], [])])
def x_u61 : List b_Cu := []
-- B.often, 31 steps
theorem x_z61 : b_chk0 x_T x_k61 x_u61 = true := by decide +kernel
theorem x_e61 : b_chkE x_F x_T x_Z x_dep x_hn [] x_k61 x_u61 120 = true := by decide +kernel
theorem x_v61 {N : Int} {fz : List (List Int32)} (hZ : b_ZOk x_Z (x_G N) fz) : b_Valid x_F fz x_T (x_G N) x_k61 := b_valid (x_gOk N) x_depOk hZ x_hn_ok (Γ := []) (fun _ h => absurd h List.not_mem_nil) x_z61 x_e61 (fun _ h => absurd h List.not_mem_nil)
def x_k62 : b_K := (56, 3, ([((-2147483648), 2147483647, 0)], [], [], [(2, (0, [])), (0, (0, [(0, 1)]))], []), [], [([((-2147483648), 2147483647, 0), ((-2147483648), 2147483647, 0)], [], [], [(0, (0, [(1, 1)]))], [])])
def x_u62 : List b_Cu := []
-- B.bench, 59 steps
theorem x_z62 : b_chk0 x_T x_k62 x_u62 = true := by decide +kernel
theorem x_e62 : b_chkE x_F x_T x_Z x_dep x_hn [] x_k62 x_u62 120 = true := by decide +kernel
theorem x_v62 {N : Int} {fz : List (List Int32)} (hZ : b_ZOk x_Z (x_G N) fz) : b_Valid x_F fz x_T (x_G N) x_k62 := b_valid (x_gOk N) x_depOk hZ x_hn_ok (Γ := []) (fun _ h => absurd h List.not_mem_nil) x_z62 x_e62 (fun _ h => absurd h List.not_mem_nil)
def x_k63 : b_K := (58, 3, ([((-2147483648), 2147483647, 0), ((-2147483648), 2147483647, 0)], [], [], [(2, (0, [])), (0, (0, [(0, 1)])), (0, (0, [(1, 1)]))], []), [], [([((-2147483648), 2147483647, 0), ((-2147483648), 2147483647, 0), ((-2), 2147483647, 0)], [], [], [(0, (0, [(2, 1)]))], [])])
def x_u63 : List b_Cu := []
-- B.found, 71 steps
theorem x_z63 : b_chk0 x_T x_k63 x_u63 = true := by decide +kernel
theorem x_e63 : b_chkE x_F x_T x_Z x_dep x_hn [] x_k63 x_u63 131 = true := by decide +kernel
theorem x_v63 {N : Int} {fz : List (List Int32)} (hZ : b_ZOk x_Z (x_G N) fz) : b_Valid x_F fz x_T (x_G N) x_k63 := b_valid (x_gOk N) x_depOk hZ x_hn_ok (Γ := []) (fun _ h => absurd h List.not_mem_nil) x_z63 x_e63 (fun _ h => absurd h List.not_mem_nil)
def x_k64 : b_K := (60, 3, ([((-2147483648), 2147483647, 0)], [], [], [(2, (0, [])), (0, (0, [(0, 1)]))], []), [], [([((-2147483648), 2147483647, 0), ((-2), 2147483647, 0)], [], [], [(0, (0, [(1, 1)]))], [])])
def x_u64 : List b_Cu := []
-- B.sentence, 59 steps
theorem x_z64 : b_chk0 x_T x_k64 x_u64 = true := by decide +kernel
theorem x_e64 : b_chkE x_F x_T x_Z x_dep x_hn [] x_k64 x_u64 120 = true := by decide +kernel
theorem x_v64 {N : Int} {fz : List (List Int32)} (hZ : b_ZOk x_Z (x_G N) fz) : b_Valid x_F fz x_T (x_G N) x_k64 := b_valid (x_gOk N) x_depOk hZ x_hn_ok (Γ := []) (fun _ h => absurd h List.not_mem_nil) x_z64 x_e64 (fun _ h => absurd h List.not_mem_nil)
def x_k65 : b_K := (62, 3, ([((-2147483648), 2147483647, 0)], [], [], [(2, (0, [])), (0, (0, [(0, 1)]))], []), [], [([((-2147483648), 2147483647, 0), ((-2), 13, 0)], [], [], [(0, (0, [(1, 1)]))], [])])
def x_u65 : List b_Cu := []
-- B.tried, 59 steps
theorem x_z65 : b_chk0 x_T x_k65 x_u65 = true := by decide +kernel
theorem x_e65 : b_chkE x_F x_T x_Z x_dep x_hn [] x_k65 x_u65 120 = true := by decide +kernel
theorem x_v65 {N : Int} {fz : List (List Int32)} (hZ : b_ZOk x_Z (x_G N) fz) : b_Valid x_F fz x_T (x_G N) x_k65 := b_valid (x_gOk N) x_depOk hZ x_hn_ok (Γ := []) (fun _ h => absurd h List.not_mem_nil) x_z65 x_e65 (fun _ h => absurd h List.not_mem_nil)
def x_k66 : b_K := (65, 3, ([(0, 7, 0)], [], [], [(2, (23, [])), (0, (0, [(0, 1)]))], []), [], [([(0, 7, 0), ((-1), 6, 0)], [], [], [(0, (0, [(1, 1)]))], [])])
def x_u66_0 : b_Cu := (2, ([(0, 7, 0), (0, 7, 0)], [], [(0, (2, (23, []))), (1, (0, (0, [(0, 1)]))), (2, (0, (0, [(1, 1)])))], [], []), (7, [(1, (-1))]))
def x_u66 : List b_Cu := [x_u66_0]
-- Court.latestMiddle, 142 steps
theorem x_z66 : b_chk0 x_T x_k66 x_u66 = true := by decide +kernel
theorem x_e66 : b_chkE x_F x_T x_Z x_dep x_hn [] x_k66 x_u66 202 = true := by decide +kernel
theorem x_c66_0 : b_chkC x_F x_T x_Z x_dep x_hn [] x_k66 x_u66 202 x_u66_0 = true := by decide +kernel
theorem x_v66 {N : Int} {fz : List (List Int32)} (hZ : b_ZOk x_Z (x_G N) fz) : b_Valid x_F fz x_T (x_G N) x_k66 := b_valid (x_gOk N) x_depOk hZ x_hn_ok (Γ := []) (fun _ h => absurd h List.not_mem_nil) x_z66 x_e66 (List.forall_mem_cons.mpr ⟨x_c66_0, fun _ h => absurd h List.not_mem_nil⟩)
def x_k67 : b_K := (64, 4, ([((-2147483648), 2147483647, 0)], [], [], [(2, (0, [])), (0, (0, [(0, 1)]))], []), [], [([((-2147483648), 2147483647, 0), ((-2), 6, 0)], [], [], [(0, (0, [(1, 1)]))], [])])
def x_u67 : List b_Cu := []
-- B.middle, 30 steps
theorem x_z67 : b_chk0 x_T x_k67 x_u67 = true := by decide +kernel
theorem x_e67 : b_chkE x_F x_T x_Z x_dep x_hn [x_k66] x_k67 x_u67 120 = true := by decide +kernel
theorem x_v67 {N : Int} {fz : List (List Int32)} (hZ : b_ZOk x_Z (x_G N) fz) : b_Valid x_F fz x_T (x_G N) x_k67 := b_valid (x_gOk N) x_depOk hZ x_hn_ok (Γ := [x_k66]) (List.forall_mem_cons.mpr ⟨x_v66 hZ, fun _ h => absurd h List.not_mem_nil⟩) x_z67 x_e67 (fun _ h => absurd h List.not_mem_nil)
def x_k68 : b_K := (68, 4, ([((-2147483648), 2147483647, 0)], [], [], [(2, (0, [])), (0, (0, [(0, 1)]))], []), [], [([((-2147483648), 2147483647, 0), ((-2147483647), 2147483647, 0)], [], [], [(0, (0, [(1, 1)]))], [])])
def x_u68 : List b_Cu := []
-- B.apart, 155 steps
theorem x_z68 : b_chk0 x_T x_k68 x_u68 = true := by decide +kernel
theorem x_e68 : b_chkE x_F x_T x_Z x_dep x_hn [] x_k68 x_u68 215 = true := by decide +kernel
theorem x_v68 {N : Int} {fz : List (List Int32)} (hZ : b_ZOk x_Z (x_G N) fz) : b_Valid x_F fz x_T (x_G N) x_k68 := b_valid (x_gOk N) x_depOk hZ x_hn_ok (Γ := []) (fun _ h => absurd h List.not_mem_nil) x_z68 x_e68 (fun _ h => absurd h List.not_mem_nil)
def x_k69 : b_K := (70, 2, ([], [], [], [(2, (0, []))], []), [], [([((-2147483648), 2147483647, 0)], [], [], [(0, (0, [(0, 1)]))], [])])
def x_u69_0 : b_Cu := (17, ([((-2147483648), 2147483647, 0), (0, 8, 0)], [], [(0, (2, (0, []))), (1, (0, (0, [(0, 1)]))), (2, (0, (0, [(1, 1)])))], [], []), (8, [(1, (-1))]))
def x_u69 : List b_Cu := [x_u69_0]
-- B.unheard, 57 steps
theorem x_z69 : b_chk0 x_T x_k69 x_u69 = true := by decide +kernel
theorem x_e69 : b_chkE x_F x_T x_Z x_dep x_hn [] x_k69 x_u69 120 = true := by decide +kernel
theorem x_c69_0 : b_chkC x_F x_T x_Z x_dep x_hn [] x_k69 x_u69 120 x_u69_0 = true := by decide +kernel
theorem x_v69 {N : Int} {fz : List (List Int32)} (hZ : b_ZOk x_Z (x_G N) fz) : b_Valid x_F fz x_T (x_G N) x_k69 := b_valid (x_gOk N) x_depOk hZ x_hn_ok (Γ := []) (fun _ h => absurd h List.not_mem_nil) x_z69 x_e69 (List.forall_mem_cons.mpr ⟨x_c69_0, fun _ h => absurd h List.not_mem_nil⟩)
def x_k70 : b_K := (72, 3, ([((-2147483648), 2147483647, 0), ((-2147483648), 2147483647, 0)], [], [], [(2, (0, [])), (0, (0, [(0, 1)])), (0, (0, [(1, 1)]))], []), [], [([((-2147483648), 2147483647, 0), ((-2147483648), 2147483647, 0), ((-2), 60, 0)], [], [], [(0, (0, [(2, 1)]))], [])])
def x_u70 : List b_Cu := []
-- B.strict, 82 steps
theorem x_z70 : b_chk0 x_T x_k70 x_u70 = true := by decide +kernel
theorem x_e70 : b_chkE x_F x_T x_Z x_dep x_hn [] x_k70 x_u70 142 = true := by decide +kernel
theorem x_v70 {N : Int} {fz : List (List Int32)} (hZ : b_ZOk x_Z (x_G N) fz) : b_Valid x_F fz x_T (x_G N) x_k70 := b_valid (x_gOk N) x_depOk hZ x_hn_ok (Γ := []) (fun _ h => absurd h List.not_mem_nil) x_z70 x_e70 (fun _ h => absurd h List.not_mem_nil)
def x_k71 : b_K := (75, 3, ([((-2147483648), 2147483647, 0), ((-2147483648), 2147483647, 0)], [], [], [(2, (0, [])), (0, (0, [(0, 1)])), (0, (0, [(1, 1)]))], []), [], [([((-2147483648), 2147483647, 0), ((-2147483648), 2147483647, 0), ((-2147483648), 2147483647, 0)], [], [], [(0, (0, [(2, 1)]))], [])])
def x_u71 : List b_Cu := []
-- B.sat, 82 steps
theorem x_z71 : b_chk0 x_T x_k71 x_u71 = true := by decide +kernel
theorem x_e71 : b_chkE x_F x_T x_Z x_dep x_hn [] x_k71 x_u71 142 = true := by decide +kernel
theorem x_v71 {N : Int} {fz : List (List Int32)} (hZ : b_ZOk x_Z (x_G N) fz) : b_Valid x_F fz x_T (x_G N) x_k71 := b_valid (x_gOk N) x_depOk hZ x_hn_ok (Γ := []) (fun _ h => absurd h List.not_mem_nil) x_z71 x_e71 (fun _ h => absurd h List.not_mem_nil)
def x_k72 : b_K := (78, 1, ([(0, 6, 0)], [], [], [(2, (23, [])), (0, (0, [(0, 1)]))], []), [], [([(0, 6, 0), ((-2147483648), 2147483647, 0)], [], [], [(0, (0, [(1, 1)]))], [])])
def x_u72_0 : b_Cu := (4, ([(0, 6, 0), ((-2147483648), 2147483647, 0), (0, 8, 0)], [], [(0, (2, (23, []))), (1, (0, (0, [(0, 1)]))), (2, (0, (0, [(1, 1)]))), (3, (0, (0, [(2, 1)])))], [], []), (8, [(2, (-1))]))
def x_u72 : List b_Cu := [x_u72_0]
-- Court.causesOf, 26 steps
theorem x_z72 : b_chk0 x_T x_k72 x_u72 = true := by decide +kernel
theorem x_e72 : b_chkE x_F x_T x_Z x_dep x_hn [] x_k72 x_u72 120 = true := by decide +kernel
theorem x_c72_0 : b_chkC x_F x_T x_Z x_dep x_hn [] x_k72 x_u72 120 x_u72_0 = true := by decide +kernel
theorem x_v72 {N : Int} {fz : List (List Int32)} (hZ : b_ZOk x_Z (x_G N) fz) : b_Valid x_F fz x_T (x_G N) x_k72 := b_valid (x_gOk N) x_depOk hZ x_hn_ok (Γ := []) (fun _ h => absurd h List.not_mem_nil) x_z72 x_e72 (List.forall_mem_cons.mpr ⟨x_c72_0, fun _ h => absurd h List.not_mem_nil⟩)
def x_k73 : b_K := (77, 2, ([((-2147483648), 2147483647, 0)], [], [], [(2, (0, [])), (0, (0, [(0, 1)]))], []), [], [([((-2147483648), 2147483647, 0), ((-2147483648), 2147483647, 0)], [], [], [(0, (0, [(1, 1)]))], [])])
def x_u73 : List b_Cu := []
-- B.hers, 30 steps
theorem x_z73 : b_chk0 x_T x_k73 x_u73 = true := by decide +kernel
theorem x_e73 : b_chkE x_F x_T x_Z x_dep x_hn [x_k72] x_k73 x_u73 120 = true := by decide +kernel
theorem x_v73 {N : Int} {fz : List (List Int32)} (hZ : b_ZOk x_Z (x_G N) fz) : b_Valid x_F fz x_T (x_G N) x_k73 := b_valid (x_gOk N) x_depOk hZ x_hn_ok (Γ := [x_k72]) (List.forall_mem_cons.mpr ⟨x_v72 hZ, fun _ h => absurd h List.not_mem_nil⟩) x_z73 x_e73 (fun _ h => absurd h List.not_mem_nil)
def x_k74 : b_K := (80, 1, ([(0, 6, 0)], [], [], [(2, (23, [])), (0, (0, [(0, 1)]))], []), [], [([(0, 6, 0), ((-1), 7, 0)], [], [], [(0, (0, [(1, 1)]))], [])])
def x_u74_0 : b_Cu := (2, ([(0, 6, 0), (0, 28, 0)], [], [(0, (2, (23, []))), (1, (0, (0, [(0, 1)]))), (2, (0, (0, [(1, 1)])))], [], []), (28, [(1, (-1))]))
def x_u74 : List b_Cu := [x_u74_0]
-- Court.firstCauseOf, 24 steps
theorem x_z74 : b_chk0 x_T x_k74 x_u74 = true := by decide +kernel
theorem x_e74 : b_chkE x_F x_T x_Z x_dep x_hn [] x_k74 x_u74 120 = true := by decide +kernel
theorem x_c74_0 : b_chkC x_F x_T x_Z x_dep x_hn [] x_k74 x_u74 120 x_u74_0 = true := by decide +kernel
theorem x_v74 {N : Int} {fz : List (List Int32)} (hZ : b_ZOk x_Z (x_G N) fz) : b_Valid x_F fz x_T (x_G N) x_k74 := b_valid (x_gOk N) x_depOk hZ x_hn_ok (Γ := []) (fun _ h => absurd h List.not_mem_nil) x_z74 x_e74 (List.forall_mem_cons.mpr ⟨x_c74_0, fun _ h => absurd h List.not_mem_nil⟩)
def x_k75 : b_K := (79, 2, ([((-2147483648), 2147483647, 0)], [], [], [(2, (0, [])), (0, (0, [(0, 1)]))], []), [], [([((-2147483648), 2147483647, 0), ((-2), 7, 0)], [], [], [(0, (0, [(1, 1)]))], [])])
def x_u75 : List b_Cu := []
-- B.first, 30 steps
theorem x_z75 : b_chk0 x_T x_k75 x_u75 = true := by decide +kernel
theorem x_e75 : b_chkE x_F x_T x_Z x_dep x_hn [x_k74] x_k75 x_u75 120 = true := by decide +kernel
theorem x_v75 {N : Int} {fz : List (List Int32)} (hZ : b_ZOk x_Z (x_G N) fz) : b_Valid x_F fz x_T (x_G N) x_k75 := b_valid (x_gOk N) x_depOk hZ x_hn_ok (Γ := [x_k74]) (List.forall_mem_cons.mpr ⟨x_v74 hZ, fun _ h => absurd h List.not_mem_nil⟩) x_z75 x_e75 (fun _ h => absurd h List.not_mem_nil)
def x_k76 : b_K := (82, 3, ([(0, 6, 0)], [], [], [(2, (23, [])), (0, (0, [(0, 1)]))], []), [], [([(0, 6, 0), ((-2147483648), 2147483647, 0)], [], [], [(0, (0, [(1, 1)]))], [])])
def x_u76_0 : b_Cu := (4, ([(0, 6, 0), ((-2147483648), 2147483647, 0), (0, 28, 0)], [], [(0, (2, (23, []))), (1, (0, (0, [(0, 1)]))), (2, (0, (0, [(1, 1)]))), (3, (0, (0, [(2, 1)])))], [], []), (28, [(2, (-1))]))
def x_u76 : List b_Cu := [x_u76_0]
-- Court.agreements, 130 steps
theorem x_z76 : b_chk0 x_T x_k76 x_u76 = true := by decide +kernel
theorem x_e76 : b_chkE x_F x_T x_Z x_dep x_hn [] x_k76 x_u76 190 = true := by decide +kernel
theorem x_c76_0 : b_chkC x_F x_T x_Z x_dep x_hn [] x_k76 x_u76 190 x_u76_0 = true := by decide +kernel
theorem x_v76 {N : Int} {fz : List (List Int32)} (hZ : b_ZOk x_Z (x_G N) fz) : b_Valid x_F fz x_T (x_G N) x_k76 := b_valid (x_gOk N) x_depOk hZ x_hn_ok (Γ := []) (fun _ h => absurd h List.not_mem_nil) x_z76 x_e76 (List.forall_mem_cons.mpr ⟨x_c76_0, fun _ h => absurd h List.not_mem_nil⟩)
def x_k77 : b_K := (81, 4, ([((-2147483648), 2147483647, 0)], [], [], [(2, (0, [])), (0, (0, [(0, 1)]))], []), [], [([((-2147483648), 2147483647, 0), ((-2147483648), 2147483647, 0)], [], [], [(0, (0, [(1, 1)]))], [])])
def x_u77 : List b_Cu := []
-- B.agrees, 30 steps
theorem x_z77 : b_chk0 x_T x_k77 x_u77 = true := by decide +kernel
theorem x_e77 : b_chkE x_F x_T x_Z x_dep x_hn [x_k76] x_k77 x_u77 120 = true := by decide +kernel
theorem x_v77 {N : Int} {fz : List (List Int32)} (hZ : b_ZOk x_Z (x_G N) fz) : b_Valid x_F fz x_T (x_G N) x_k77 := b_valid (x_gOk N) x_depOk hZ x_hn_ok (Γ := [x_k76]) (List.forall_mem_cons.mpr ⟨x_v76 hZ, fun _ h => absurd h List.not_mem_nil⟩) x_z77 x_e77 (fun _ h => absurd h List.not_mem_nil)
def x_k78 : b_K := (84, 3, ([(0, 6, 0)], [], [], [(2, (23, [])), (0, (0, [(0, 1)]))], []), [], [([(0, 6, 0), ((-2147483648), 2147483647, 0)], [], [], [(0, (0, [(1, 1)]))], [])])
def x_u78_0 : b_Cu := (4, ([(0, 6, 0), ((-2147483648), 2147483647, 0), (0, 28, 0)], [], [(0, (2, (23, []))), (1, (0, (0, [(0, 1)]))), (2, (0, (0, [(1, 1)]))), (3, (0, (0, [(2, 1)])))], [], []), (28, [(2, (-1))]))
def x_u78 : List b_Cu := [x_u78_0]
-- Court.findingsOf, 110 steps
theorem x_z78 : b_chk0 x_T x_k78 x_u78 = true := by decide +kernel
theorem x_e78 : b_chkE x_F x_T x_Z x_dep x_hn [] x_k78 x_u78 170 = true := by decide +kernel
theorem x_c78_0 : b_chkC x_F x_T x_Z x_dep x_hn [] x_k78 x_u78 170 x_u78_0 = true := by decide +kernel
theorem x_v78 {N : Int} {fz : List (List Int32)} (hZ : b_ZOk x_Z (x_G N) fz) : b_Valid x_F fz x_T (x_G N) x_k78 := b_valid (x_gOk N) x_depOk hZ x_hn_ok (Γ := []) (fun _ h => absurd h List.not_mem_nil) x_z78 x_e78 (List.forall_mem_cons.mpr ⟨x_c78_0, fun _ h => absurd h List.not_mem_nil⟩)
def x_k79 : b_K := (83, 4, ([((-2147483648), 2147483647, 0)], [], [], [(2, (0, [])), (0, (0, [(0, 1)]))], []), [], [([((-2147483648), 2147483647, 0), ((-2147483648), 2147483647, 0)], [], [], [(0, (0, [(1, 1)]))], [])])
def x_u79 : List b_Cu := []
-- B.sum, 30 steps
theorem x_z79 : b_chk0 x_T x_k79 x_u79 = true := by decide +kernel
theorem x_e79 : b_chkE x_F x_T x_Z x_dep x_hn [x_k78] x_k79 x_u79 120 = true := by decide +kernel
theorem x_v79 {N : Int} {fz : List (List Int32)} (hZ : b_ZOk x_Z (x_G N) fz) : b_Valid x_F fz x_T (x_G N) x_k79 := b_valid (x_gOk N) x_depOk hZ x_hn_ok (Γ := [x_k78]) (List.forall_mem_cons.mpr ⟨x_v78 hZ, fun _ h => absurd h List.not_mem_nil⟩) x_z79 x_e79 (fun _ h => absurd h List.not_mem_nil)
def x_k80 : b_K := (86, 1, ([((-2147483648), 2147483647, 0)], [], [], [(2, (23, [])), (0, (0, [(0, 1)]))], []), [], [([((-2147483648), 2147483647, 0), ((-2147483648), 2147483647, 0)], [], [], [(0, (0, [(1, 1)]))], [])])
def x_u80_0 : b_Cu := (4, ([((-2147483648), 2147483647, 0), ((-2147483648), 2147483647, 0), (0, 28, 0)], [], [(0, (2, (23, []))), (1, (0, (0, [(0, 1)]))), (2, (0, (0, [(1, 1)]))), (3, (0, (0, [(2, 1)])))], [], []), (28, [(2, (-1))]))
def x_u80 : List b_Cu := [x_u80_0]
-- Court.hearingsOf, 30 steps
theorem x_z80 : b_chk0 x_T x_k80 x_u80 = true := by decide +kernel
theorem x_e80 : b_chkE x_F x_T x_Z x_dep x_hn [] x_k80 x_u80 120 = true := by decide +kernel
theorem x_c80_0 : b_chkC x_F x_T x_Z x_dep x_hn [] x_k80 x_u80 120 x_u80_0 = true := by decide +kernel
theorem x_v80 {N : Int} {fz : List (List Int32)} (hZ : b_ZOk x_Z (x_G N) fz) : b_Valid x_F fz x_T (x_G N) x_k80 := b_valid (x_gOk N) x_depOk hZ x_hn_ok (Γ := []) (fun _ h => absurd h List.not_mem_nil) x_z80 x_e80 (List.forall_mem_cons.mpr ⟨x_c80_0, fun _ h => absurd h List.not_mem_nil⟩)
def x_k81 : b_K := (85, 2, ([((-2147483648), 2147483647, 0), ((-2147483648), 2147483647, 0)], [], [], [(2, (0, [])), (0, (0, [(0, 1)])), (0, (0, [(1, 1)]))], []), [], [([((-2147483648), 2147483647, 0), ((-2147483648), 2147483647, 0), ((-2147483648), 2147483647, 0)], [], [], [(0, (0, [(2, 1)]))], [])])
def x_u81 : List b_Cu := []
-- B.together, 60 steps
theorem x_z81 : b_chk0 x_T x_k81 x_u81 = true := by decide +kernel
theorem x_e81 : b_chkE x_F x_T x_Z x_dep x_hn [x_k80] x_k81 x_u81 120 = true := by decide +kernel
theorem x_v81 {N : Int} {fz : List (List Int32)} (hZ : b_ZOk x_Z (x_G N) fz) : b_Valid x_F fz x_T (x_G N) x_k81 := b_valid (x_gOk N) x_depOk hZ x_hn_ok (Γ := [x_k80]) (List.forall_mem_cons.mpr ⟨x_v80 hZ, fun _ h => absurd h List.not_mem_nil⟩) x_z81 x_e81 (fun _ h => absurd h List.not_mem_nil)
def x_k82 : b_K := (89, 1, ([(0, 7, 0), (0, 14, 0)], [], [], [(2, (23, [])), (0, (0, [(0, 1)])), (0, (0, [(1, 1)]))], []), [], [([(0, 7, 0), (0, 14, 0), (0, 2147483647, 0)], [], [], [(0, (0, [(2, 1)]))], [])])
def x_u82_0 : b_Cu := (5, ([(0, 7, 0), (0, 14, 0), ((-13), 2147483647, 0), (0, 28, 0)], [], [(0, (2, (23, []))), (1, (0, (0, [(0, 1)]))), (2, (0, (0, [(1, 1)]))), (3, (0, (0, [(2, 1)]))), (4, (0, (0, [(3, 1)])))], [], []), (28, [(3, (-1))]))
def x_u82 : List b_Cu := [x_u82_0]
-- Court.lettersOf, 44 steps
theorem x_z82 : b_chk0 x_T x_k82 x_u82 = true := by decide +kernel
theorem x_e82 : b_chkE x_F x_T x_Z x_dep x_hn [] x_k82 x_u82 120 = true := by decide +kernel
theorem x_c82_0 : b_chkC x_F x_T x_Z x_dep x_hn [] x_k82 x_u82 120 x_u82_0 = true := by decide +kernel
theorem x_v82 {N : Int} {fz : List (List Int32)} (hZ : b_ZOk x_Z (x_G N) fz) : b_Valid x_F fz x_T (x_G N) x_k82 := b_valid (x_gOk N) x_depOk hZ x_hn_ok (Γ := []) (fun _ h => absurd h List.not_mem_nil) x_z82 x_e82 (List.forall_mem_cons.mpr ⟨x_c82_0, fun _ h => absurd h List.not_mem_nil⟩)
def x_k83 : b_K := (88, 2, ([(0, 14, 0)], [], [], [(2, (23, [])), (0, (0, [(0, 1)]))], []), [], [([(0, 14, 0), ((-2147483648), 2147483647, 0)], [], [], [(0, (0, [(1, 1)]))], [])])
def x_u83_0 : b_Cu := (4, ([(0, 14, 0), ((-2147483648), 2147483647, 0), (0, 8, 0)], [], [(0, (2, (23, []))), (1, (0, (0, [(0, 1)]))), (2, (0, (0, [(1, 1)]))), (3, (0, (0, [(2, 1)])))], [], []), (8, [(2, (-1))]))
def x_u83 : List b_Cu := [x_u83_0]
-- Court.lettersDue, 20 steps
theorem x_z83 : b_chk0 x_T x_k83 x_u83 = true := by decide +kernel
theorem x_e83 : b_chkE x_F x_T x_Z x_dep x_hn [x_k82] x_k83 x_u83 120 = true := by decide +kernel
theorem x_c83_0 : b_chkC x_F x_T x_Z x_dep x_hn [x_k82] x_k83 x_u83 120 x_u83_0 = true := by decide +kernel
theorem x_v83 {N : Int} {fz : List (List Int32)} (hZ : b_ZOk x_Z (x_G N) fz) : b_Valid x_F fz x_T (x_G N) x_k83 := b_valid (x_gOk N) x_depOk hZ x_hn_ok (Γ := [x_k82]) (List.forall_mem_cons.mpr ⟨x_v82 hZ, fun _ h => absurd h List.not_mem_nil⟩) x_z83 x_e83 (List.forall_mem_cons.mpr ⟨x_c83_0, fun _ h => absurd h List.not_mem_nil⟩)
def x_k84 : b_K := (87, 3, ([((-2147483648), 2147483647, 0)], [], [], [(2, (0, [])), (0, (0, [(0, 1)]))], []), [], [([((-2147483648), 2147483647, 0), ((-2147483648), 2147483647, 0)], [], [], [(0, (0, [(1, 1)]))], [])])
def x_u84 : List b_Cu := []
-- B.due, 48 steps
theorem x_z84 : b_chk0 x_T x_k84 x_u84 = true := by decide +kernel
theorem x_e84 : b_chkE x_F x_T x_Z x_dep x_hn [x_k83] x_k84 x_u84 120 = true := by decide +kernel
theorem x_v84 {N : Int} {fz : List (List Int32)} (hZ : b_ZOk x_Z (x_G N) fz) : b_Valid x_F fz x_T (x_G N) x_k84 := b_valid (x_gOk N) x_depOk hZ x_hn_ok (Γ := [x_k83]) (List.forall_mem_cons.mpr ⟨x_v83 hZ, fun _ h => absurd h List.not_mem_nil⟩) x_z84 x_e84 (fun _ h => absurd h List.not_mem_nil)
def x_k85 : b_K := (90, 3, ([((-2147483648), 2147483647, 0), ((-2147483648), 2147483647, 0)], [], [], [(2, (0, [])), (0, (0, [(0, 1)])), (0, (0, [(1, 1)]))], []), [], [([((-2147483648), 2147483647, 0), ((-2147483648), 2147483647, 0), ((-2), 2147483647, 0)], [], [], [(0, (0, [(2, 1)]))], [])])
def x_u85 : List b_Cu := []
-- B.owes, 73 steps
theorem x_z85 : b_chk0 x_T x_k85 x_u85 = true := by decide +kernel
theorem x_e85 : b_chkE x_F x_T x_Z x_dep x_hn [x_k82] x_k85 x_u85 133 = true := by decide +kernel
theorem x_v85 {N : Int} {fz : List (List Int32)} (hZ : b_ZOk x_Z (x_G N) fz) : b_Valid x_F fz x_T (x_G N) x_k85 := b_valid (x_gOk N) x_depOk hZ x_hn_ok (Γ := [x_k82]) (List.forall_mem_cons.mpr ⟨x_v82 hZ, fun _ h => absurd h List.not_mem_nil⟩) x_z85 x_e85 (fun _ h => absurd h List.not_mem_nil)
def x_k86 : b_K := (91, 3, ([((-2147483648), 2147483647, 0)], [], [], [(2, (0, [])), (0, (0, [(0, 1)]))], []), [], [([((-2147483648), 2147483647, 0), ((-2147483648), 14, 0)], [], [], [(0, (0, [(1, 1)]))], [])])
def x_u86 : List b_Cu := []
-- B.free, 109 steps
theorem x_z86 : b_chk0 x_T x_k86 x_u86 = true := by decide +kernel
theorem x_e86 : b_chkE x_F x_T x_Z x_dep x_hn [] x_k86 x_u86 169 = true := by decide +kernel
theorem x_v86 {N : Int} {fz : List (List Int32)} (hZ : b_ZOk x_Z (x_G N) fz) : b_Valid x_F fz x_T (x_G N) x_k86 := b_valid (x_gOk N) x_depOk hZ x_hn_ok (Γ := []) (fun _ h => absurd h List.not_mem_nil) x_z86 x_e86 (fun _ h => absurd h List.not_mem_nil)
def x_k87 : b_K := (92, 3, ([], [], [], [(2, (0, []))], []), [], [([((-2), 14, 0)], [], [], [(0, (0, [(0, 1)]))], [])])
def x_u87_0 : b_Cu := (19, ([(0, 14, 0), (0, 2147483647, 0), (0, 15, 0)], [], [(0, (2, (0, []))), (1, (0, (0, [(0, 1)]))), (2, (0, (0, [(1, 1)]))), (3, (0, (0, [(2, 1)])))], [], []), (15, [(2, (-1))]))
def x_u87 : List b_Cu := [x_u87_0]
-- B.most, 44 steps
theorem x_z87 : b_chk0 x_T x_k87 x_u87 = true := by decide +kernel
theorem x_e87 : b_chkE x_F x_T x_Z x_dep x_hn [x_k83] x_k87 x_u87 120 = true := by decide +kernel
theorem x_c87_0 : b_chkC x_F x_T x_Z x_dep x_hn [x_k83] x_k87 x_u87 120 x_u87_0 = true := by decide +kernel
theorem x_v87 {N : Int} {fz : List (List Int32)} (hZ : b_ZOk x_Z (x_G N) fz) : b_Valid x_F fz x_T (x_G N) x_k87 := b_valid (x_gOk N) x_depOk hZ x_hn_ok (Γ := [x_k83]) (List.forall_mem_cons.mpr ⟨x_v83 hZ, fun _ h => absurd h List.not_mem_nil⟩) x_z87 x_e87 (List.forall_mem_cons.mpr ⟨x_c87_0, fun _ h => absurd h List.not_mem_nil⟩)
def x_k88 : b_K := (94, 3, ([], [], [], [(2, (23, []))], []), [], [([((-2147483648), 2147483647, 0)], [], [], [(0, (0, [(0, 1)]))], [])])
def x_u88_0 : b_Cu := (4, ([((-2147483648), 2147483647, 0), (0, 8, 0)], [], [(0, (2, (23, []))), (1, (0, (0, [(0, 1)]))), (2, (0, (0, [(1, 1)])))], [], []), (8, [(1, (-1))]))
def x_u88 : List b_Cu := [x_u88_0]
-- Court.total, 53 steps
theorem x_z88 : b_chk0 x_T x_k88 x_u88 = true := by decide +kernel
theorem x_e88 : b_chkE x_F x_T x_Z x_dep x_hn [] x_k88 x_u88 120 = true := by decide +kernel
theorem x_c88_0 : b_chkC x_F x_T x_Z x_dep x_hn [] x_k88 x_u88 120 x_u88_0 = true := by decide +kernel
theorem x_v88 {N : Int} {fz : List (List Int32)} (hZ : b_ZOk x_Z (x_G N) fz) : b_Valid x_F fz x_T (x_G N) x_k88 := b_valid (x_gOk N) x_depOk hZ x_hn_ok (Γ := []) (fun _ h => absurd h List.not_mem_nil) x_z88 x_e88 (List.forall_mem_cons.mpr ⟨x_c88_0, fun _ h => absurd h List.not_mem_nil⟩)
def x_k89 : b_K := (93, 4, ([], [], [], [(2, (0, []))], []), [], [([((-2147483648), 2147483647, 0)], [], [], [(0, (0, [(0, 1)]))], [])])
def x_u89 : List b_Cu := []
-- B.all, 20 steps
theorem x_z89 : b_chk0 x_T x_k89 x_u89 = true := by decide +kernel
theorem x_e89 : b_chkE x_F x_T x_Z x_dep x_hn [x_k88] x_k89 x_u89 120 = true := by decide +kernel
theorem x_v89 {N : Int} {fz : List (List Int32)} (hZ : b_ZOk x_Z (x_G N) fz) : b_Valid x_F fz x_T (x_G N) x_k89 := b_valid (x_gOk N) x_depOk hZ x_hn_ok (Γ := [x_k88]) (List.forall_mem_cons.mpr ⟨x_v88 hZ, fun _ h => absurd h List.not_mem_nil⟩) x_z89 x_e89 (fun _ h => absurd h List.not_mem_nil)
def x_k90 : b_K := (95, 3, ([], [], [], [(2, (0, []))], []), [], [([((-2), 7, 0)], [], [], [(0, (0, [(0, 1)]))], [])])
def x_u90_0 : b_Cu := (19, ([((-1), 7, 0), ((-1), 2147483647, 0), (0, 8, 0)], [], [(0, (2, (0, []))), (1, (0, (0, [(0, 1)]))), (2, (0, (0, [(1, 1)]))), (3, (0, (0, [(2, 1)])))], [], []), (8, [(2, (-1))]))
def x_u90 : List b_Cu := [x_u90_0]
-- B.worst, 98 steps
theorem x_z90 : b_chk0 x_T x_k90 x_u90 = true := by decide +kernel
theorem x_e90 : b_chkE x_F x_T x_Z x_dep x_hn [] x_k90 x_u90 158 = true := by decide +kernel
theorem x_c90_0 : b_chkC x_F x_T x_Z x_dep x_hn [] x_k90 x_u90 158 x_u90_0 = true := by decide +kernel
theorem x_v90 {N : Int} {fz : List (List Int32)} (hZ : b_ZOk x_Z (x_G N) fz) : b_Valid x_F fz x_T (x_G N) x_k90 := b_valid (x_gOk N) x_depOk hZ x_hn_ok (Γ := []) (fun _ h => absurd h List.not_mem_nil) x_z90 x_e90 (List.forall_mem_cons.mpr ⟨x_c90_0, fun _ h => absurd h List.not_mem_nil⟩)
def x_k91 : b_K := (96, 3, ([((-2147483648), 2147483647, 0)], [], [], [(2, (0, [])), (0, (0, [(0, 1)]))], []), [], [([((-2147483648), 2147483647, 0), ((-2), 6, 0)], [], [], [(0, (0, [(1, 1)]))], [])])
def x_u91_0 : b_Cu := (15, ([(0, 14, 0), ((-1), 6, 0), (0, 7, 0)], [], [(0, (2, (0, []))), (1, (0, (0, [(0, 1)]))), (2, (0, (0, [(1, 1)]))), (3, (0, (0, [(2, 1)])))], [], []), (7, [(2, (-1))]))
def x_u91 : List b_Cu := [x_u91_0]
-- B.hardest, 95 steps
theorem x_z91 : b_chk0 x_T x_k91 x_u91 = true := by decide +kernel
theorem x_e91 : b_chkE x_F x_T x_Z x_dep x_hn [] x_k91 x_u91 155 = true := by decide +kernel
theorem x_c91_0 : b_chkC x_F x_T x_Z x_dep x_hn [] x_k91 x_u91 155 x_u91_0 = true := by decide +kernel
theorem x_v91 {N : Int} {fz : List (List Int32)} (hZ : b_ZOk x_Z (x_G N) fz) : b_Valid x_F fz x_T (x_G N) x_k91 := b_valid (x_gOk N) x_depOk hZ x_hn_ok (Γ := []) (fun _ h => absurd h List.not_mem_nil) x_z91 x_e91 (List.forall_mem_cons.mpr ⟨x_c91_0, fun _ h => absurd h List.not_mem_nil⟩)
def x_k92 : b_K := (97, 3, ([((-2147483648), 2147483647, 0)], [], [], [(2, (0, [])), (0, (0, [(0, 1)]))], []), [], [([((-2147483648), 2147483647, 0), ((-2), 6, 0)], [], [], [(0, (0, [(1, 1)]))], [])])
def x_u92_0 : b_Cu := (15, ([(0, 14, 0), ((-1), 6, 0), (0, 7, 0)], [], [(0, (2, (0, []))), (1, (0, (0, [(0, 1)]))), (2, (0, (0, [(1, 1)]))), (3, (0, (0, [(2, 1)])))], [], []), (7, [(2, (-1))]))
def x_u92 : List b_Cu := [x_u92_0]
-- B.softest, 95 steps
theorem x_z92 : b_chk0 x_T x_k92 x_u92 = true := by decide +kernel
theorem x_e92 : b_chkE x_F x_T x_Z x_dep x_hn [] x_k92 x_u92 155 = true := by decide +kernel
theorem x_c92_0 : b_chkC x_F x_T x_Z x_dep x_hn [] x_k92 x_u92 155 x_u92_0 = true := by decide +kernel
theorem x_v92 {N : Int} {fz : List (List Int32)} (hZ : b_ZOk x_Z (x_G N) fz) : b_Valid x_F fz x_T (x_G N) x_k92 := b_valid (x_gOk N) x_depOk hZ x_hn_ok (Γ := []) (fun _ h => absurd h List.not_mem_nil) x_z92 x_e92 (List.forall_mem_cons.mpr ⟨x_c92_0, fun _ h => absurd h List.not_mem_nil⟩)
