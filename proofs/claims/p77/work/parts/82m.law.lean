/-! THE LAW: image and back by what is kept (by program, cert_back.py) -/
-- B.image, k 0, kept 0: 1 posts, 0 cuts, 254 steps
def y_k0 : b_K := (197, 2, ([(0, 0, 0)], [], [], [(2, (0, [])), (0, (0, []))], [(0, (9, []), (0, (0, [(0, 1)])))]), [(0, 10), (83, 1), (83, 2), (83, 3), (83, 4), (83, 5), (83, 6), (83, 7), (83, 8), (84, 0), (85, 0), (86, 0), (87, 0), (88, 0), (89, 0), (90, 0), (91, 0), (92, 0)], [([(0, 0, 0)], [], [], [(0, (0, []))], [(0, (9, []), (0, (1, [])))])])
def y_u0 : List b_Cu := []
theorem y_z0 : b_chk0 x_T y_k0 y_u0 = true := by decide +kernel
theorem y_e0 : b_chkE x_F x_T x_Z x_dep x_hn [] y_k0 y_u0 314 = true := by decide +kernel
theorem y_v0 {N : Int} {fz : List (List Int32)} (hZ : b_ZOk x_Z (x_G N) fz) : b_Valid x_F fz x_T (x_G N) y_k0 := b_valid (x_gOk N) x_depOk hZ x_hn_ok (Γ := []) (fun _ h => absurd h List.not_mem_nil) y_z0 y_e0 (fun _ h => absurd h List.not_mem_nil)
-- B.back, k 0, kept 0: 1 posts, 0 cuts, 28 steps
def y_k1 : b_K := (198, 1, ([(0, 0, 0)], [], [], [(2, (0, [])), (0, (0, []))], [(0, (9, []), (0, (0, [(0, 1)])))]), [], [([(0, 0, 0)], [], [], [(0, ((-6), []))], [(0, (9, []), (0, (0, [(0, 1)])))])])
def y_u1 : List b_Cu := []
theorem y_z1 : b_chk0 x_T y_k1 y_u1 = true := by decide +kernel
theorem y_e1 : b_chkE x_F x_T x_Z x_dep x_hn [] y_k1 y_u1 120 = true := by decide +kernel
theorem y_v1 {N : Int} {fz : List (List Int32)} (hZ : b_ZOk x_Z (x_G N) fz) : b_Valid x_F fz x_T (x_G N) y_k1 := b_valid (x_gOk N) x_depOk hZ x_hn_ok (Γ := []) (fun _ h => absurd h List.not_mem_nil) y_z1 y_e1 (fun _ h => absurd h List.not_mem_nil)
-- B.image, k 0, kept 1: 1 posts, 0 cuts, 254 steps
def y_k2 : b_K := (197, 2, ([(1, 1, 0)], [], [], [(2, (0, [])), (0, (0, []))], [(0, (9, []), (0, (0, [(0, 1)])))]), [(0, 10), (83, 1), (83, 2), (83, 3), (83, 4), (83, 5), (83, 6), (83, 7), (83, 8), (84, 0), (85, 0), (86, 0), (87, 0), (88, 0), (89, 0), (90, 0), (91, 0), (92, 0)], [([(1, 1, 0)], [], [], [(0, (0, []))], [(0, (9, []), (0, (1, [])))])])
def y_u2 : List b_Cu := []
theorem y_z2 : b_chk0 x_T y_k2 y_u2 = true := by decide +kernel
theorem y_e2 : b_chkE x_F x_T x_Z x_dep x_hn [] y_k2 y_u2 314 = true := by decide +kernel
theorem y_v2 {N : Int} {fz : List (List Int32)} (hZ : b_ZOk x_Z (x_G N) fz) : b_Valid x_F fz x_T (x_G N) y_k2 := b_valid (x_gOk N) x_depOk hZ x_hn_ok (Γ := []) (fun _ h => absurd h List.not_mem_nil) y_z2 y_e2 (fun _ h => absurd h List.not_mem_nil)
-- B.back, k 0, kept 1: 1 posts, 0 cuts, 274 steps
def y_k3 : b_K := (198, 6, ([(1, 1, 0)], [], [], [(2, (0, [])), (0, (0, []))], [(0, (9, []), (0, (0, [(0, 1)])))]), [(13, 1), (13, 2), (13, 3), (13, 4), (13, 5), (13, 6), (13, 7), (13, 8), (14, 0), (15, 0), (16, 0), (17, 0), (18, 0), (19, 0), (20, 0), (21, 0), (22, 0), (23, 2), (23, 7), (24, 0), (25, 0), (26, 0), (27, 0), (28, 0), (29, 0), (30, 0), (31, 0), (32, 0), (33, 0), (34, 0), (35, 0), (36, 0), (37, 0), (38, 0), (39, 0)], [([(1, 1, 0)], [], [], [(0, (0, []))], [(0, (9, []), (0, (0, [(0, 1)])))])])
def y_u3 : List b_Cu := []
theorem y_z3 : b_chk0 x_T y_k3 y_u3 = true := by decide +kernel
theorem y_e3 : b_chkE x_F x_T x_Z x_dep x_hn [x_k46, x_k55] y_k3 y_u3 334 = true := by decide +kernel
theorem y_v3 {N : Int} {fz : List (List Int32)} (hZ : b_ZOk x_Z (x_G N) fz) : b_Valid x_F fz x_T (x_G N) y_k3 := b_valid (x_gOk N) x_depOk hZ x_hn_ok (Γ := [x_k46, x_k55]) (List.forall_mem_cons.mpr ⟨x_v46 hZ, List.forall_mem_cons.mpr ⟨x_v55 hZ, fun _ h => absurd h List.not_mem_nil⟩⟩) y_z3 y_e3 (fun _ h => absurd h List.not_mem_nil)
-- B.image, k 0, kept 2: 1 posts, 0 cuts, 254 steps
def y_k4 : b_K := (197, 2, ([(2, 2, 0)], [], [], [(2, (0, [])), (0, (0, []))], [(0, (9, []), (0, (0, [(0, 1)])))]), [(0, 10), (83, 1), (83, 2), (83, 3), (83, 4), (83, 5), (83, 6), (83, 7), (83, 8), (84, 0), (85, 0), (86, 0), (87, 0), (88, 0), (89, 0), (90, 0), (91, 0), (92, 0)], [([(2, 2, 0)], [], [], [(0, (0, []))], [(0, (9, []), (0, (3, [])))])])
def y_u4 : List b_Cu := []
theorem y_z4 : b_chk0 x_T y_k4 y_u4 = true := by decide +kernel
theorem y_e4 : b_chkE x_F x_T x_Z x_dep x_hn [] y_k4 y_u4 314 = true := by decide +kernel
theorem y_v4 {N : Int} {fz : List (List Int32)} (hZ : b_ZOk x_Z (x_G N) fz) : b_Valid x_F fz x_T (x_G N) y_k4 := b_valid (x_gOk N) x_depOk hZ x_hn_ok (Γ := []) (fun _ h => absurd h List.not_mem_nil) y_z4 y_e4 (fun _ h => absurd h List.not_mem_nil)
-- B.back, k 0, kept 2: 1 posts, 0 cuts, 28 steps
def y_k5 : b_K := (198, 1, ([(2, 2, 0)], [], [], [(2, (0, [])), (0, (0, []))], [(0, (9, []), (0, (0, [(0, 1)])))]), [], [([(2, 2, 0)], [], [], [(0, ((-6), []))], [(0, (9, []), (0, (0, [(0, 1)])))])])
def y_u5 : List b_Cu := []
theorem y_z5 : b_chk0 x_T y_k5 y_u5 = true := by decide +kernel
theorem y_e5 : b_chkE x_F x_T x_Z x_dep x_hn [] y_k5 y_u5 120 = true := by decide +kernel
theorem y_v5 {N : Int} {fz : List (List Int32)} (hZ : b_ZOk x_Z (x_G N) fz) : b_Valid x_F fz x_T (x_G N) y_k5 := b_valid (x_gOk N) x_depOk hZ x_hn_ok (Γ := []) (fun _ h => absurd h List.not_mem_nil) y_z5 y_e5 (fun _ h => absurd h List.not_mem_nil)
-- B.image, k 0, kept 3: 1 posts, 0 cuts, 254 steps
def y_k6 : b_K := (197, 2, ([(3, 3, 0)], [], [], [(2, (0, [])), (0, (0, []))], [(0, (9, []), (0, (0, [(0, 1)])))]), [(0, 10), (83, 1), (83, 2), (83, 3), (83, 4), (83, 5), (83, 6), (83, 7), (83, 8), (84, 0), (85, 0), (86, 0), (87, 0), (88, 0), (89, 0), (90, 0), (91, 0), (92, 0)], [([(3, 3, 0)], [], [], [(0, (0, []))], [(0, (9, []), (0, (3, [])))])])
def y_u6 : List b_Cu := []
theorem y_z6 : b_chk0 x_T y_k6 y_u6 = true := by decide +kernel
theorem y_e6 : b_chkE x_F x_T x_Z x_dep x_hn [] y_k6 y_u6 314 = true := by decide +kernel
theorem y_v6 {N : Int} {fz : List (List Int32)} (hZ : b_ZOk x_Z (x_G N) fz) : b_Valid x_F fz x_T (x_G N) y_k6 := b_valid (x_gOk N) x_depOk hZ x_hn_ok (Γ := []) (fun _ h => absurd h List.not_mem_nil) y_z6 y_e6 (fun _ h => absurd h List.not_mem_nil)
-- B.back, k 0, kept 3: 1 posts, 0 cuts, 274 steps
def y_k7 : b_K := (198, 6, ([(3, 3, 0)], [], [], [(2, (0, [])), (0, (0, []))], [(0, (9, []), (0, (0, [(0, 1)])))]), [(13, 1), (13, 2), (13, 3), (13, 4), (13, 5), (13, 6), (13, 7), (13, 8), (14, 0), (15, 0), (16, 0), (17, 0), (18, 0), (19, 0), (20, 0), (21, 0), (22, 0), (23, 2), (23, 7), (24, 0), (25, 0), (26, 0), (27, 0), (28, 0), (29, 0), (30, 0), (31, 0), (32, 0), (33, 0), (34, 0), (35, 0), (36, 0), (37, 0), (38, 0), (39, 0)], [([(3, 3, 0)], [], [], [(0, (0, []))], [(0, (9, []), (0, (0, [(0, 1)])))])])
def y_u7 : List b_Cu := []
theorem y_z7 : b_chk0 x_T y_k7 y_u7 = true := by decide +kernel
theorem y_e7 : b_chkE x_F x_T x_Z x_dep x_hn [x_k46, x_k55] y_k7 y_u7 334 = true := by decide +kernel
theorem y_v7 {N : Int} {fz : List (List Int32)} (hZ : b_ZOk x_Z (x_G N) fz) : b_Valid x_F fz x_T (x_G N) y_k7 := b_valid (x_gOk N) x_depOk hZ x_hn_ok (Γ := [x_k46, x_k55]) (List.forall_mem_cons.mpr ⟨x_v46 hZ, List.forall_mem_cons.mpr ⟨x_v55 hZ, fun _ h => absurd h List.not_mem_nil⟩⟩) y_z7 y_e7 (fun _ h => absurd h List.not_mem_nil)
-- B.image, k 0, kept 4: 1 posts, 0 cuts, 254 steps
def y_k8 : b_K := (197, 2, ([(4, 4, 0)], [], [], [(2, (0, [])), (0, (0, []))], [(0, (9, []), (0, (0, [(0, 1)])))]), [(0, 10), (83, 1), (83, 2), (83, 3), (83, 4), (83, 5), (83, 6), (83, 7), (83, 8), (84, 0), (85, 0), (86, 0), (87, 0), (88, 0), (89, 0), (90, 0), (91, 0), (92, 0)], [([(4, 4, 0)], [], [], [(0, (0, []))], [(0, (9, []), (0, (5, [])))])])
def y_u8 : List b_Cu := []
theorem y_z8 : b_chk0 x_T y_k8 y_u8 = true := by decide +kernel
theorem y_e8 : b_chkE x_F x_T x_Z x_dep x_hn [] y_k8 y_u8 314 = true := by decide +kernel
theorem y_v8 {N : Int} {fz : List (List Int32)} (hZ : b_ZOk x_Z (x_G N) fz) : b_Valid x_F fz x_T (x_G N) y_k8 := b_valid (x_gOk N) x_depOk hZ x_hn_ok (Γ := []) (fun _ h => absurd h List.not_mem_nil) y_z8 y_e8 (fun _ h => absurd h List.not_mem_nil)
-- B.back, k 0, kept 4: 1 posts, 0 cuts, 28 steps
def y_k9 : b_K := (198, 1, ([(4, 4, 0)], [], [], [(2, (0, [])), (0, (0, []))], [(0, (9, []), (0, (0, [(0, 1)])))]), [], [([(4, 4, 0)], [], [], [(0, ((-6), []))], [(0, (9, []), (0, (0, [(0, 1)])))])])
def y_u9 : List b_Cu := []
theorem y_z9 : b_chk0 x_T y_k9 y_u9 = true := by decide +kernel
theorem y_e9 : b_chkE x_F x_T x_Z x_dep x_hn [] y_k9 y_u9 120 = true := by decide +kernel
theorem y_v9 {N : Int} {fz : List (List Int32)} (hZ : b_ZOk x_Z (x_G N) fz) : b_Valid x_F fz x_T (x_G N) y_k9 := b_valid (x_gOk N) x_depOk hZ x_hn_ok (Γ := []) (fun _ h => absurd h List.not_mem_nil) y_z9 y_e9 (fun _ h => absurd h List.not_mem_nil)
-- B.image, k 0, kept 5: 1 posts, 0 cuts, 254 steps
def y_k10 : b_K := (197, 2, ([(5, 5, 0)], [], [], [(2, (0, [])), (0, (0, []))], [(0, (9, []), (0, (0, [(0, 1)])))]), [(0, 10), (83, 1), (83, 2), (83, 3), (83, 4), (83, 5), (83, 6), (83, 7), (83, 8), (84, 0), (85, 0), (86, 0), (87, 0), (88, 0), (89, 0), (90, 0), (91, 0), (92, 0)], [([(5, 5, 0)], [], [], [(0, (0, []))], [(0, (9, []), (0, (5, [])))])])
def y_u10 : List b_Cu := []
theorem y_z10 : b_chk0 x_T y_k10 y_u10 = true := by decide +kernel
theorem y_e10 : b_chkE x_F x_T x_Z x_dep x_hn [] y_k10 y_u10 314 = true := by decide +kernel
theorem y_v10 {N : Int} {fz : List (List Int32)} (hZ : b_ZOk x_Z (x_G N) fz) : b_Valid x_F fz x_T (x_G N) y_k10 := b_valid (x_gOk N) x_depOk hZ x_hn_ok (Γ := []) (fun _ h => absurd h List.not_mem_nil) y_z10 y_e10 (fun _ h => absurd h List.not_mem_nil)
-- B.back, k 0, kept 5: 1 posts, 0 cuts, 274 steps
def y_k11 : b_K := (198, 6, ([(5, 5, 0)], [], [], [(2, (0, [])), (0, (0, []))], [(0, (9, []), (0, (0, [(0, 1)])))]), [(13, 1), (13, 2), (13, 3), (13, 4), (13, 5), (13, 6), (13, 7), (13, 8), (14, 0), (15, 0), (16, 0), (17, 0), (18, 0), (19, 0), (20, 0), (21, 0), (22, 0), (23, 2), (23, 7), (24, 0), (25, 0), (26, 0), (27, 0), (28, 0), (29, 0), (30, 0), (31, 0), (32, 0), (33, 0), (34, 0), (35, 0), (36, 0), (37, 0), (38, 0), (39, 0)], [([(5, 5, 0)], [], [], [(0, (0, []))], [(0, (9, []), (0, (0, [(0, 1)])))])])
def y_u11 : List b_Cu := []
theorem y_z11 : b_chk0 x_T y_k11 y_u11 = true := by decide +kernel
theorem y_e11 : b_chkE x_F x_T x_Z x_dep x_hn [x_k46, x_k55] y_k11 y_u11 334 = true := by decide +kernel
theorem y_v11 {N : Int} {fz : List (List Int32)} (hZ : b_ZOk x_Z (x_G N) fz) : b_Valid x_F fz x_T (x_G N) y_k11 := b_valid (x_gOk N) x_depOk hZ x_hn_ok (Γ := [x_k46, x_k55]) (List.forall_mem_cons.mpr ⟨x_v46 hZ, List.forall_mem_cons.mpr ⟨x_v55 hZ, fun _ h => absurd h List.not_mem_nil⟩⟩) y_z11 y_e11 (fun _ h => absurd h List.not_mem_nil)
-- B.image, k 0, kept 6: 1 posts, 0 cuts, 254 steps
def y_k12 : b_K := (197, 2, ([(6, 6, 0)], [], [], [(2, (0, [])), (0, (0, []))], [(0, (9, []), (0, (0, [(0, 1)])))]), [(0, 10), (83, 1), (83, 2), (83, 3), (83, 4), (83, 5), (83, 6), (83, 7), (83, 8), (84, 0), (85, 0), (86, 0), (87, 0), (88, 0), (89, 0), (90, 0), (91, 0), (92, 0)], [([(6, 6, 0)], [], [], [(0, (0, []))], [(0, (9, []), (0, (7, [])))])])
def y_u12 : List b_Cu := []
theorem y_z12 : b_chk0 x_T y_k12 y_u12 = true := by decide +kernel
theorem y_e12 : b_chkE x_F x_T x_Z x_dep x_hn [] y_k12 y_u12 314 = true := by decide +kernel
theorem y_v12 {N : Int} {fz : List (List Int32)} (hZ : b_ZOk x_Z (x_G N) fz) : b_Valid x_F fz x_T (x_G N) y_k12 := b_valid (x_gOk N) x_depOk hZ x_hn_ok (Γ := []) (fun _ h => absurd h List.not_mem_nil) y_z12 y_e12 (fun _ h => absurd h List.not_mem_nil)
-- B.back, k 0, kept 6: 1 posts, 0 cuts, 28 steps
def y_k13 : b_K := (198, 1, ([(6, 6, 0)], [], [], [(2, (0, [])), (0, (0, []))], [(0, (9, []), (0, (0, [(0, 1)])))]), [], [([(6, 6, 0)], [], [], [(0, ((-6), []))], [(0, (9, []), (0, (0, [(0, 1)])))])])
def y_u13 : List b_Cu := []
theorem y_z13 : b_chk0 x_T y_k13 y_u13 = true := by decide +kernel
theorem y_e13 : b_chkE x_F x_T x_Z x_dep x_hn [] y_k13 y_u13 120 = true := by decide +kernel
theorem y_v13 {N : Int} {fz : List (List Int32)} (hZ : b_ZOk x_Z (x_G N) fz) : b_Valid x_F fz x_T (x_G N) y_k13 := b_valid (x_gOk N) x_depOk hZ x_hn_ok (Γ := []) (fun _ h => absurd h List.not_mem_nil) y_z13 y_e13 (fun _ h => absurd h List.not_mem_nil)
-- B.image, k 0, kept 7: 1 posts, 0 cuts, 254 steps
def y_k14 : b_K := (197, 2, ([(7, 7, 0)], [], [], [(2, (0, [])), (0, (0, []))], [(0, (9, []), (0, (0, [(0, 1)])))]), [(0, 10), (83, 1), (83, 2), (83, 3), (83, 4), (83, 5), (83, 6), (83, 7), (83, 8), (84, 0), (85, 0), (86, 0), (87, 0), (88, 0), (89, 0), (90, 0), (91, 0), (92, 0)], [([(7, 7, 0)], [], [], [(0, (0, []))], [(0, (9, []), (0, (7, [])))])])
def y_u14 : List b_Cu := []
theorem y_z14 : b_chk0 x_T y_k14 y_u14 = true := by decide +kernel
theorem y_e14 : b_chkE x_F x_T x_Z x_dep x_hn [] y_k14 y_u14 314 = true := by decide +kernel
theorem y_v14 {N : Int} {fz : List (List Int32)} (hZ : b_ZOk x_Z (x_G N) fz) : b_Valid x_F fz x_T (x_G N) y_k14 := b_valid (x_gOk N) x_depOk hZ x_hn_ok (Γ := []) (fun _ h => absurd h List.not_mem_nil) y_z14 y_e14 (fun _ h => absurd h List.not_mem_nil)
-- B.back, k 0, kept 7: 1 posts, 0 cuts, 274 steps
def y_k15 : b_K := (198, 6, ([(7, 7, 0)], [], [], [(2, (0, [])), (0, (0, []))], [(0, (9, []), (0, (0, [(0, 1)])))]), [(13, 1), (13, 2), (13, 3), (13, 4), (13, 5), (13, 6), (13, 7), (13, 8), (14, 0), (15, 0), (16, 0), (17, 0), (18, 0), (19, 0), (20, 0), (21, 0), (22, 0), (23, 2), (23, 7), (24, 0), (25, 0), (26, 0), (27, 0), (28, 0), (29, 0), (30, 0), (31, 0), (32, 0), (33, 0), (34, 0), (35, 0), (36, 0), (37, 0), (38, 0), (39, 0)], [([(7, 7, 0)], [], [], [(0, (0, []))], [(0, (9, []), (0, (0, [(0, 1)])))])])
def y_u15 : List b_Cu := []
theorem y_z15 : b_chk0 x_T y_k15 y_u15 = true := by decide +kernel
theorem y_e15 : b_chkE x_F x_T x_Z x_dep x_hn [x_k46, x_k55] y_k15 y_u15 334 = true := by decide +kernel
theorem y_v15 {N : Int} {fz : List (List Int32)} (hZ : b_ZOk x_Z (x_G N) fz) : b_Valid x_F fz x_T (x_G N) y_k15 := b_valid (x_gOk N) x_depOk hZ x_hn_ok (Γ := [x_k46, x_k55]) (List.forall_mem_cons.mpr ⟨x_v46 hZ, List.forall_mem_cons.mpr ⟨x_v55 hZ, fun _ h => absurd h List.not_mem_nil⟩⟩) y_z15 y_e15 (fun _ h => absurd h List.not_mem_nil)
-- M.image, k 0: 1 posts, 0 cuts, 140 steps
def y_k16 : b_K := (372, 3, ([(0, 1, 0), (0, 1, 0), (0, 1, 0)], [], [], [(2, (113, [])), (0, (0, []))], [(125, (0, []), (0, (0, [(0, 1)]))), (125, (1, []), (0, (0, [(1, 1)]))), (125, (2, []), (0, (0, [(2, 1)])))]), [(113, 1), (119, 0), (120, 0), (121, 0), (122, 0), (123, 0), (124, 0), (125, 0)], [([(0, 1, 0), (0, 1, 0), (0, 1, 0)], [], [], [(0, (0, []))], [(125, (0, []), (0, (1, []))), (125, (1, []), (0, (0, [(1, 1)]))), (125, (2, []), (0, (0, [(2, 1)])))])])
def y_u16 : List b_Cu := []
theorem y_z16 : b_chk0 x_T y_k16 y_u16 = true := by decide +kernel
theorem y_e16 : b_chkE x_F x_T x_Z x_dep x_hn [x_k197, x_k198, x_k199, x_k200, x_k201, x_k202] y_k16 y_u16 200 = true := by decide +kernel
theorem y_v16 {N : Int} {fz : List (List Int32)} (hZ : b_ZOk x_Z (x_G N) fz) : b_Valid x_F fz x_T (x_G N) y_k16 := b_valid (x_gOk N) x_depOk hZ x_hn_ok (Γ := [x_k197, x_k198, x_k199, x_k200, x_k201, x_k202]) (List.forall_mem_cons.mpr ⟨x_v197 hZ, List.forall_mem_cons.mpr ⟨x_v198 hZ, List.forall_mem_cons.mpr ⟨x_v199 hZ, List.forall_mem_cons.mpr ⟨x_v200 hZ, List.forall_mem_cons.mpr ⟨x_v201 hZ, List.forall_mem_cons.mpr ⟨x_v202 hZ, fun _ h => absurd h List.not_mem_nil⟩⟩⟩⟩⟩⟩) y_z16 y_e16 (fun _ h => absurd h List.not_mem_nil)
-- M.back, k 0: 2 posts, 0 cuts, 144 steps
def y_k17 : b_K := (373, 3, ([(0, 1, 0), (0, 1, 0), (0, 1, 0)], [], [], [(2, (113, [])), (0, (0, []))], [(125, (0, []), (0, (0, [(0, 1)]))), (125, (1, []), (0, (0, [(1, 1)]))), (125, (2, []), (0, (0, [(2, 1)])))]), [(113, 1), (119, 0), (120, 0), (121, 0), (122, 0), (123, 0), (124, 0)], [([(0, 0, 0), (0, 1, 0), (0, 1, 0)], [], [], [(0, ((-6), []))], [(125, (0, []), (0, (0, [(0, 1)]))), (125, (1, []), (0, (0, [(1, 1)]))), (125, (2, []), (0, (0, [(2, 1)])))]),
  ([(1, 1, 0), (0, 1, 0), (0, 1, 0)], [], [], [(0, (0, []))], [(125, (0, []), (0, (0, [(0, 1)]))), (125, (1, []), (0, (0, [(1, 1)]))), (125, (2, []), (0, (0, [(2, 1)])))])])
def y_u17 : List b_Cu := []
theorem y_z17 : b_chk0 x_T y_k17 y_u17 = true := by decide +kernel
theorem y_e17 : b_chkE x_F x_T x_Z x_dep x_hn [x_k197, x_k198, x_k199, x_k200, x_k201, x_k202] y_k17 y_u17 204 = true := by decide +kernel
theorem y_v17 {N : Int} {fz : List (List Int32)} (hZ : b_ZOk x_Z (x_G N) fz) : b_Valid x_F fz x_T (x_G N) y_k17 := b_valid (x_gOk N) x_depOk hZ x_hn_ok (Γ := [x_k197, x_k198, x_k199, x_k200, x_k201, x_k202]) (List.forall_mem_cons.mpr ⟨x_v197 hZ, List.forall_mem_cons.mpr ⟨x_v198 hZ, List.forall_mem_cons.mpr ⟨x_v199 hZ, List.forall_mem_cons.mpr ⟨x_v200 hZ, List.forall_mem_cons.mpr ⟨x_v201 hZ, List.forall_mem_cons.mpr ⟨x_v202 hZ, fun _ h => absurd h List.not_mem_nil⟩⟩⟩⟩⟩⟩) y_z17 y_e17 (fun _ h => absurd h List.not_mem_nil)
-- B.image, k 1, kept 0: 1 posts, 0 cuts, 254 steps
def y_k18 : b_K := (197, 2, ([(0, 0, 0)], [], [], [(2, (0, [])), (0, (1, []))], [(0, (9, []), (0, (0, [(0, 1)])))]), [(0, 10), (93, 1), (93, 2), (93, 3), (93, 4), (93, 5), (93, 6), (93, 7), (93, 8), (94, 0), (95, 0), (96, 0), (97, 0), (98, 0), (99, 0), (100, 0), (101, 0), (102, 0)], [([(0, 0, 0)], [], [], [(0, (0, []))], [(0, (9, []), (0, (2, [])))])])
def y_u18 : List b_Cu := []
theorem y_z18 : b_chk0 x_T y_k18 y_u18 = true := by decide +kernel
theorem y_e18 : b_chkE x_F x_T x_Z x_dep x_hn [] y_k18 y_u18 314 = true := by decide +kernel
theorem y_v18 {N : Int} {fz : List (List Int32)} (hZ : b_ZOk x_Z (x_G N) fz) : b_Valid x_F fz x_T (x_G N) y_k18 := b_valid (x_gOk N) x_depOk hZ x_hn_ok (Γ := []) (fun _ h => absurd h List.not_mem_nil) y_z18 y_e18 (fun _ h => absurd h List.not_mem_nil)
-- B.back, k 1, kept 0: 1 posts, 0 cuts, 28 steps
def y_k19 : b_K := (198, 1, ([(0, 0, 0)], [], [], [(2, (0, [])), (0, (1, []))], [(0, (9, []), (0, (0, [(0, 1)])))]), [], [([(0, 0, 0)], [], [], [(0, ((-6), []))], [(0, (9, []), (0, (0, [(0, 1)])))])])
def y_u19 : List b_Cu := []
theorem y_z19 : b_chk0 x_T y_k19 y_u19 = true := by decide +kernel
theorem y_e19 : b_chkE x_F x_T x_Z x_dep x_hn [] y_k19 y_u19 120 = true := by decide +kernel
theorem y_v19 {N : Int} {fz : List (List Int32)} (hZ : b_ZOk x_Z (x_G N) fz) : b_Valid x_F fz x_T (x_G N) y_k19 := b_valid (x_gOk N) x_depOk hZ x_hn_ok (Γ := []) (fun _ h => absurd h List.not_mem_nil) y_z19 y_e19 (fun _ h => absurd h List.not_mem_nil)
-- B.image, k 1, kept 1: 1 posts, 0 cuts, 254 steps
def y_k20 : b_K := (197, 2, ([(1, 1, 0)], [], [], [(2, (0, [])), (0, (1, []))], [(0, (9, []), (0, (0, [(0, 1)])))]), [(0, 10), (93, 1), (93, 2), (93, 3), (93, 4), (93, 5), (93, 6), (93, 7), (93, 8), (94, 0), (95, 0), (96, 0), (97, 0), (98, 0), (99, 0), (100, 0), (101, 0), (102, 0)], [([(1, 1, 0)], [], [], [(0, (0, []))], [(0, (9, []), (0, (3, [])))])])
def y_u20 : List b_Cu := []
theorem y_z20 : b_chk0 x_T y_k20 y_u20 = true := by decide +kernel
theorem y_e20 : b_chkE x_F x_T x_Z x_dep x_hn [] y_k20 y_u20 314 = true := by decide +kernel
theorem y_v20 {N : Int} {fz : List (List Int32)} (hZ : b_ZOk x_Z (x_G N) fz) : b_Valid x_F fz x_T (x_G N) y_k20 := b_valid (x_gOk N) x_depOk hZ x_hn_ok (Γ := []) (fun _ h => absurd h List.not_mem_nil) y_z20 y_e20 (fun _ h => absurd h List.not_mem_nil)
-- B.back, k 1, kept 1: 1 posts, 0 cuts, 28 steps
def y_k21 : b_K := (198, 1, ([(1, 1, 0)], [], [], [(2, (0, [])), (0, (1, []))], [(0, (9, []), (0, (0, [(0, 1)])))]), [], [([(1, 1, 0)], [], [], [(0, ((-6), []))], [(0, (9, []), (0, (0, [(0, 1)])))])])
def y_u21 : List b_Cu := []
theorem y_z21 : b_chk0 x_T y_k21 y_u21 = true := by decide +kernel
theorem y_e21 : b_chkE x_F x_T x_Z x_dep x_hn [] y_k21 y_u21 120 = true := by decide +kernel
theorem y_v21 {N : Int} {fz : List (List Int32)} (hZ : b_ZOk x_Z (x_G N) fz) : b_Valid x_F fz x_T (x_G N) y_k21 := b_valid (x_gOk N) x_depOk hZ x_hn_ok (Γ := []) (fun _ h => absurd h List.not_mem_nil) y_z21 y_e21 (fun _ h => absurd h List.not_mem_nil)
-- B.image, k 1, kept 2: 1 posts, 0 cuts, 254 steps
def y_k22 : b_K := (197, 2, ([(2, 2, 0)], [], [], [(2, (0, [])), (0, (1, []))], [(0, (9, []), (0, (0, [(0, 1)])))]), [(0, 10), (93, 1), (93, 2), (93, 3), (93, 4), (93, 5), (93, 6), (93, 7), (93, 8), (94, 0), (95, 0), (96, 0), (97, 0), (98, 0), (99, 0), (100, 0), (101, 0), (102, 0)], [([(2, 2, 0)], [], [], [(0, (0, []))], [(0, (9, []), (0, (2, [])))])])
def y_u22 : List b_Cu := []
theorem y_z22 : b_chk0 x_T y_k22 y_u22 = true := by decide +kernel
theorem y_e22 : b_chkE x_F x_T x_Z x_dep x_hn [] y_k22 y_u22 314 = true := by decide +kernel
theorem y_v22 {N : Int} {fz : List (List Int32)} (hZ : b_ZOk x_Z (x_G N) fz) : b_Valid x_F fz x_T (x_G N) y_k22 := b_valid (x_gOk N) x_depOk hZ x_hn_ok (Γ := []) (fun _ h => absurd h List.not_mem_nil) y_z22 y_e22 (fun _ h => absurd h List.not_mem_nil)
-- B.back, k 1, kept 2: 1 posts, 0 cuts, 274 steps
def y_k23 : b_K := (198, 6, ([(2, 2, 0)], [], [], [(2, (0, [])), (0, (1, []))], [(0, (9, []), (0, (0, [(0, 1)])))]), [(13, 1), (13, 2), (13, 3), (13, 4), (13, 5), (13, 6), (13, 7), (13, 8), (14, 0), (15, 0), (16, 0), (17, 0), (18, 0), (19, 0), (20, 0), (21, 0), (22, 0), (23, 2), (23, 7), (24, 0), (25, 0), (26, 0), (27, 0), (28, 0), (29, 0), (30, 0), (31, 0), (32, 0), (33, 0), (34, 0), (35, 0), (36, 0), (37, 0), (38, 0), (39, 0)], [([(2, 2, 0)], [], [], [(0, (0, []))], [(0, (9, []), (0, (0, [(0, 1)])))])])
def y_u23 : List b_Cu := []
theorem y_z23 : b_chk0 x_T y_k23 y_u23 = true := by decide +kernel
theorem y_e23 : b_chkE x_F x_T x_Z x_dep x_hn [x_k46, x_k55] y_k23 y_u23 334 = true := by decide +kernel
theorem y_v23 {N : Int} {fz : List (List Int32)} (hZ : b_ZOk x_Z (x_G N) fz) : b_Valid x_F fz x_T (x_G N) y_k23 := b_valid (x_gOk N) x_depOk hZ x_hn_ok (Γ := [x_k46, x_k55]) (List.forall_mem_cons.mpr ⟨x_v46 hZ, List.forall_mem_cons.mpr ⟨x_v55 hZ, fun _ h => absurd h List.not_mem_nil⟩⟩) y_z23 y_e23 (fun _ h => absurd h List.not_mem_nil)
-- B.image, k 1, kept 3: 1 posts, 0 cuts, 254 steps
def y_k24 : b_K := (197, 2, ([(3, 3, 0)], [], [], [(2, (0, [])), (0, (1, []))], [(0, (9, []), (0, (0, [(0, 1)])))]), [(0, 10), (93, 1), (93, 2), (93, 3), (93, 4), (93, 5), (93, 6), (93, 7), (93, 8), (94, 0), (95, 0), (96, 0), (97, 0), (98, 0), (99, 0), (100, 0), (101, 0), (102, 0)], [([(3, 3, 0)], [], [], [(0, (0, []))], [(0, (9, []), (0, (3, [])))])])
def y_u24 : List b_Cu := []
theorem y_z24 : b_chk0 x_T y_k24 y_u24 = true := by decide +kernel
theorem y_e24 : b_chkE x_F x_T x_Z x_dep x_hn [] y_k24 y_u24 314 = true := by decide +kernel
theorem y_v24 {N : Int} {fz : List (List Int32)} (hZ : b_ZOk x_Z (x_G N) fz) : b_Valid x_F fz x_T (x_G N) y_k24 := b_valid (x_gOk N) x_depOk hZ x_hn_ok (Γ := []) (fun _ h => absurd h List.not_mem_nil) y_z24 y_e24 (fun _ h => absurd h List.not_mem_nil)
-- B.back, k 1, kept 3: 1 posts, 0 cuts, 274 steps
def y_k25 : b_K := (198, 6, ([(3, 3, 0)], [], [], [(2, (0, [])), (0, (1, []))], [(0, (9, []), (0, (0, [(0, 1)])))]), [(13, 1), (13, 2), (13, 3), (13, 4), (13, 5), (13, 6), (13, 7), (13, 8), (14, 0), (15, 0), (16, 0), (17, 0), (18, 0), (19, 0), (20, 0), (21, 0), (22, 0), (23, 2), (23, 7), (24, 0), (25, 0), (26, 0), (27, 0), (28, 0), (29, 0), (30, 0), (31, 0), (32, 0), (33, 0), (34, 0), (35, 0), (36, 0), (37, 0), (38, 0), (39, 0)], [([(3, 3, 0)], [], [], [(0, (0, []))], [(0, (9, []), (0, (0, [(0, 1)])))])])
def y_u25 : List b_Cu := []
theorem y_z25 : b_chk0 x_T y_k25 y_u25 = true := by decide +kernel
theorem y_e25 : b_chkE x_F x_T x_Z x_dep x_hn [x_k46, x_k55] y_k25 y_u25 334 = true := by decide +kernel
theorem y_v25 {N : Int} {fz : List (List Int32)} (hZ : b_ZOk x_Z (x_G N) fz) : b_Valid x_F fz x_T (x_G N) y_k25 := b_valid (x_gOk N) x_depOk hZ x_hn_ok (Γ := [x_k46, x_k55]) (List.forall_mem_cons.mpr ⟨x_v46 hZ, List.forall_mem_cons.mpr ⟨x_v55 hZ, fun _ h => absurd h List.not_mem_nil⟩⟩) y_z25 y_e25 (fun _ h => absurd h List.not_mem_nil)
-- B.image, k 1, kept 4: 1 posts, 0 cuts, 254 steps
def y_k26 : b_K := (197, 2, ([(4, 4, 0)], [], [], [(2, (0, [])), (0, (1, []))], [(0, (9, []), (0, (0, [(0, 1)])))]), [(0, 10), (93, 1), (93, 2), (93, 3), (93, 4), (93, 5), (93, 6), (93, 7), (93, 8), (94, 0), (95, 0), (96, 0), (97, 0), (98, 0), (99, 0), (100, 0), (101, 0), (102, 0)], [([(4, 4, 0)], [], [], [(0, (0, []))], [(0, (9, []), (0, (6, [])))])])
def y_u26 : List b_Cu := []
theorem y_z26 : b_chk0 x_T y_k26 y_u26 = true := by decide +kernel
theorem y_e26 : b_chkE x_F x_T x_Z x_dep x_hn [] y_k26 y_u26 314 = true := by decide +kernel
theorem y_v26 {N : Int} {fz : List (List Int32)} (hZ : b_ZOk x_Z (x_G N) fz) : b_Valid x_F fz x_T (x_G N) y_k26 := b_valid (x_gOk N) x_depOk hZ x_hn_ok (Γ := []) (fun _ h => absurd h List.not_mem_nil) y_z26 y_e26 (fun _ h => absurd h List.not_mem_nil)
-- B.back, k 1, kept 4: 1 posts, 0 cuts, 28 steps
def y_k27 : b_K := (198, 1, ([(4, 4, 0)], [], [], [(2, (0, [])), (0, (1, []))], [(0, (9, []), (0, (0, [(0, 1)])))]), [], [([(4, 4, 0)], [], [], [(0, ((-6), []))], [(0, (9, []), (0, (0, [(0, 1)])))])])
def y_u27 : List b_Cu := []
theorem y_z27 : b_chk0 x_T y_k27 y_u27 = true := by decide +kernel
theorem y_e27 : b_chkE x_F x_T x_Z x_dep x_hn [] y_k27 y_u27 120 = true := by decide +kernel
theorem y_v27 {N : Int} {fz : List (List Int32)} (hZ : b_ZOk x_Z (x_G N) fz) : b_Valid x_F fz x_T (x_G N) y_k27 := b_valid (x_gOk N) x_depOk hZ x_hn_ok (Γ := []) (fun _ h => absurd h List.not_mem_nil) y_z27 y_e27 (fun _ h => absurd h List.not_mem_nil)
-- B.image, k 1, kept 5: 1 posts, 0 cuts, 254 steps
def y_k28 : b_K := (197, 2, ([(5, 5, 0)], [], [], [(2, (0, [])), (0, (1, []))], [(0, (9, []), (0, (0, [(0, 1)])))]), [(0, 10), (93, 1), (93, 2), (93, 3), (93, 4), (93, 5), (93, 6), (93, 7), (93, 8), (94, 0), (95, 0), (96, 0), (97, 0), (98, 0), (99, 0), (100, 0), (101, 0), (102, 0)], [([(5, 5, 0)], [], [], [(0, (0, []))], [(0, (9, []), (0, (7, [])))])])
def y_u28 : List b_Cu := []
theorem y_z28 : b_chk0 x_T y_k28 y_u28 = true := by decide +kernel
theorem y_e28 : b_chkE x_F x_T x_Z x_dep x_hn [] y_k28 y_u28 314 = true := by decide +kernel
theorem y_v28 {N : Int} {fz : List (List Int32)} (hZ : b_ZOk x_Z (x_G N) fz) : b_Valid x_F fz x_T (x_G N) y_k28 := b_valid (x_gOk N) x_depOk hZ x_hn_ok (Γ := []) (fun _ h => absurd h List.not_mem_nil) y_z28 y_e28 (fun _ h => absurd h List.not_mem_nil)
-- B.back, k 1, kept 5: 1 posts, 0 cuts, 28 steps
def y_k29 : b_K := (198, 1, ([(5, 5, 0)], [], [], [(2, (0, [])), (0, (1, []))], [(0, (9, []), (0, (0, [(0, 1)])))]), [], [([(5, 5, 0)], [], [], [(0, ((-6), []))], [(0, (9, []), (0, (0, [(0, 1)])))])])
def y_u29 : List b_Cu := []
theorem y_z29 : b_chk0 x_T y_k29 y_u29 = true := by decide +kernel
theorem y_e29 : b_chkE x_F x_T x_Z x_dep x_hn [] y_k29 y_u29 120 = true := by decide +kernel
theorem y_v29 {N : Int} {fz : List (List Int32)} (hZ : b_ZOk x_Z (x_G N) fz) : b_Valid x_F fz x_T (x_G N) y_k29 := b_valid (x_gOk N) x_depOk hZ x_hn_ok (Γ := []) (fun _ h => absurd h List.not_mem_nil) y_z29 y_e29 (fun _ h => absurd h List.not_mem_nil)
-- B.image, k 1, kept 6: 1 posts, 0 cuts, 254 steps
def y_k30 : b_K := (197, 2, ([(6, 6, 0)], [], [], [(2, (0, [])), (0, (1, []))], [(0, (9, []), (0, (0, [(0, 1)])))]), [(0, 10), (93, 1), (93, 2), (93, 3), (93, 4), (93, 5), (93, 6), (93, 7), (93, 8), (94, 0), (95, 0), (96, 0), (97, 0), (98, 0), (99, 0), (100, 0), (101, 0), (102, 0)], [([(6, 6, 0)], [], [], [(0, (0, []))], [(0, (9, []), (0, (6, [])))])])
def y_u30 : List b_Cu := []
theorem y_z30 : b_chk0 x_T y_k30 y_u30 = true := by decide +kernel
theorem y_e30 : b_chkE x_F x_T x_Z x_dep x_hn [] y_k30 y_u30 314 = true := by decide +kernel
theorem y_v30 {N : Int} {fz : List (List Int32)} (hZ : b_ZOk x_Z (x_G N) fz) : b_Valid x_F fz x_T (x_G N) y_k30 := b_valid (x_gOk N) x_depOk hZ x_hn_ok (Γ := []) (fun _ h => absurd h List.not_mem_nil) y_z30 y_e30 (fun _ h => absurd h List.not_mem_nil)
-- B.back, k 1, kept 6: 1 posts, 0 cuts, 274 steps
def y_k31 : b_K := (198, 6, ([(6, 6, 0)], [], [], [(2, (0, [])), (0, (1, []))], [(0, (9, []), (0, (0, [(0, 1)])))]), [(13, 1), (13, 2), (13, 3), (13, 4), (13, 5), (13, 6), (13, 7), (13, 8), (14, 0), (15, 0), (16, 0), (17, 0), (18, 0), (19, 0), (20, 0), (21, 0), (22, 0), (23, 2), (23, 7), (24, 0), (25, 0), (26, 0), (27, 0), (28, 0), (29, 0), (30, 0), (31, 0), (32, 0), (33, 0), (34, 0), (35, 0), (36, 0), (37, 0), (38, 0), (39, 0)], [([(6, 6, 0)], [], [], [(0, (0, []))], [(0, (9, []), (0, (0, [(0, 1)])))])])
def y_u31 : List b_Cu := []
theorem y_z31 : b_chk0 x_T y_k31 y_u31 = true := by decide +kernel
theorem y_e31 : b_chkE x_F x_T x_Z x_dep x_hn [x_k46, x_k55] y_k31 y_u31 334 = true := by decide +kernel
theorem y_v31 {N : Int} {fz : List (List Int32)} (hZ : b_ZOk x_Z (x_G N) fz) : b_Valid x_F fz x_T (x_G N) y_k31 := b_valid (x_gOk N) x_depOk hZ x_hn_ok (Γ := [x_k46, x_k55]) (List.forall_mem_cons.mpr ⟨x_v46 hZ, List.forall_mem_cons.mpr ⟨x_v55 hZ, fun _ h => absurd h List.not_mem_nil⟩⟩) y_z31 y_e31 (fun _ h => absurd h List.not_mem_nil)
-- B.image, k 1, kept 7: 1 posts, 0 cuts, 254 steps
def y_k32 : b_K := (197, 2, ([(7, 7, 0)], [], [], [(2, (0, [])), (0, (1, []))], [(0, (9, []), (0, (0, [(0, 1)])))]), [(0, 10), (93, 1), (93, 2), (93, 3), (93, 4), (93, 5), (93, 6), (93, 7), (93, 8), (94, 0), (95, 0), (96, 0), (97, 0), (98, 0), (99, 0), (100, 0), (101, 0), (102, 0)], [([(7, 7, 0)], [], [], [(0, (0, []))], [(0, (9, []), (0, (7, [])))])])
def y_u32 : List b_Cu := []
theorem y_z32 : b_chk0 x_T y_k32 y_u32 = true := by decide +kernel
theorem y_e32 : b_chkE x_F x_T x_Z x_dep x_hn [] y_k32 y_u32 314 = true := by decide +kernel
theorem y_v32 {N : Int} {fz : List (List Int32)} (hZ : b_ZOk x_Z (x_G N) fz) : b_Valid x_F fz x_T (x_G N) y_k32 := b_valid (x_gOk N) x_depOk hZ x_hn_ok (Γ := []) (fun _ h => absurd h List.not_mem_nil) y_z32 y_e32 (fun _ h => absurd h List.not_mem_nil)
-- B.back, k 1, kept 7: 1 posts, 0 cuts, 274 steps
def y_k33 : b_K := (198, 6, ([(7, 7, 0)], [], [], [(2, (0, [])), (0, (1, []))], [(0, (9, []), (0, (0, [(0, 1)])))]), [(13, 1), (13, 2), (13, 3), (13, 4), (13, 5), (13, 6), (13, 7), (13, 8), (14, 0), (15, 0), (16, 0), (17, 0), (18, 0), (19, 0), (20, 0), (21, 0), (22, 0), (23, 2), (23, 7), (24, 0), (25, 0), (26, 0), (27, 0), (28, 0), (29, 0), (30, 0), (31, 0), (32, 0), (33, 0), (34, 0), (35, 0), (36, 0), (37, 0), (38, 0), (39, 0)], [([(7, 7, 0)], [], [], [(0, (0, []))], [(0, (9, []), (0, (0, [(0, 1)])))])])
def y_u33 : List b_Cu := []
theorem y_z33 : b_chk0 x_T y_k33 y_u33 = true := by decide +kernel
theorem y_e33 : b_chkE x_F x_T x_Z x_dep x_hn [x_k46, x_k55] y_k33 y_u33 334 = true := by decide +kernel
theorem y_v33 {N : Int} {fz : List (List Int32)} (hZ : b_ZOk x_Z (x_G N) fz) : b_Valid x_F fz x_T (x_G N) y_k33 := b_valid (x_gOk N) x_depOk hZ x_hn_ok (Γ := [x_k46, x_k55]) (List.forall_mem_cons.mpr ⟨x_v46 hZ, List.forall_mem_cons.mpr ⟨x_v55 hZ, fun _ h => absurd h List.not_mem_nil⟩⟩) y_z33 y_e33 (fun _ h => absurd h List.not_mem_nil)
-- M.image, k 1: 1 posts, 0 cuts, 140 steps
def y_k34 : b_K := (372, 3, ([(0, 1, 0), (0, 1, 0), (0, 1, 0)], [], [], [(2, (113, [])), (0, (1, []))], [(125, (0, []), (0, (0, [(0, 1)]))), (125, (1, []), (0, (0, [(1, 1)]))), (125, (2, []), (0, (0, [(2, 1)])))]), [(113, 1), (119, 0), (120, 0), (121, 0), (122, 0), (123, 0), (124, 0), (125, 0)], [([(0, 1, 0), (0, 1, 0), (0, 1, 0)], [], [], [(0, (0, []))], [(125, (1, []), (0, (1, []))), (125, (0, []), (0, (0, [(0, 1)]))), (125, (2, []), (0, (0, [(2, 1)])))])])
def y_u34 : List b_Cu := []
theorem y_z34 : b_chk0 x_T y_k34 y_u34 = true := by decide +kernel
theorem y_e34 : b_chkE x_F x_T x_Z x_dep x_hn [x_k197, x_k198, x_k199, x_k200, x_k201, x_k202] y_k34 y_u34 200 = true := by decide +kernel
theorem y_v34 {N : Int} {fz : List (List Int32)} (hZ : b_ZOk x_Z (x_G N) fz) : b_Valid x_F fz x_T (x_G N) y_k34 := b_valid (x_gOk N) x_depOk hZ x_hn_ok (Γ := [x_k197, x_k198, x_k199, x_k200, x_k201, x_k202]) (List.forall_mem_cons.mpr ⟨x_v197 hZ, List.forall_mem_cons.mpr ⟨x_v198 hZ, List.forall_mem_cons.mpr ⟨x_v199 hZ, List.forall_mem_cons.mpr ⟨x_v200 hZ, List.forall_mem_cons.mpr ⟨x_v201 hZ, List.forall_mem_cons.mpr ⟨x_v202 hZ, fun _ h => absurd h List.not_mem_nil⟩⟩⟩⟩⟩⟩) y_z34 y_e34 (fun _ h => absurd h List.not_mem_nil)
-- M.back, k 1: 2 posts, 0 cuts, 144 steps
def y_k35 : b_K := (373, 3, ([(0, 1, 0), (0, 1, 0), (0, 1, 0)], [], [], [(2, (113, [])), (0, (1, []))], [(125, (0, []), (0, (0, [(0, 1)]))), (125, (1, []), (0, (0, [(1, 1)]))), (125, (2, []), (0, (0, [(2, 1)])))]), [(113, 1), (119, 0), (120, 0), (121, 0), (122, 0), (123, 0), (124, 0)], [([(0, 1, 0), (0, 0, 0), (0, 1, 0)], [], [], [(0, ((-6), []))], [(125, (0, []), (0, (0, [(0, 1)]))), (125, (1, []), (0, (0, [(1, 1)]))), (125, (2, []), (0, (0, [(2, 1)])))]),
  ([(0, 1, 0), (1, 1, 0), (0, 1, 0)], [], [], [(0, (0, []))], [(125, (0, []), (0, (0, [(0, 1)]))), (125, (1, []), (0, (0, [(1, 1)]))), (125, (2, []), (0, (0, [(2, 1)])))])])
def y_u35 : List b_Cu := []
theorem y_z35 : b_chk0 x_T y_k35 y_u35 = true := by decide +kernel
theorem y_e35 : b_chkE x_F x_T x_Z x_dep x_hn [x_k197, x_k198, x_k199, x_k200, x_k201, x_k202] y_k35 y_u35 204 = true := by decide +kernel
theorem y_v35 {N : Int} {fz : List (List Int32)} (hZ : b_ZOk x_Z (x_G N) fz) : b_Valid x_F fz x_T (x_G N) y_k35 := b_valid (x_gOk N) x_depOk hZ x_hn_ok (Γ := [x_k197, x_k198, x_k199, x_k200, x_k201, x_k202]) (List.forall_mem_cons.mpr ⟨x_v197 hZ, List.forall_mem_cons.mpr ⟨x_v198 hZ, List.forall_mem_cons.mpr ⟨x_v199 hZ, List.forall_mem_cons.mpr ⟨x_v200 hZ, List.forall_mem_cons.mpr ⟨x_v201 hZ, List.forall_mem_cons.mpr ⟨x_v202 hZ, fun _ h => absurd h List.not_mem_nil⟩⟩⟩⟩⟩⟩) y_z35 y_e35 (fun _ h => absurd h List.not_mem_nil)
-- B.image, k 2, kept 0: 1 posts, 0 cuts, 254 steps
def y_k36 : b_K := (197, 2, ([(0, 0, 0)], [], [], [(2, (0, [])), (0, (2, []))], [(0, (9, []), (0, (0, [(0, 1)])))]), [(0, 10), (103, 1), (103, 2), (103, 3), (103, 4), (103, 5), (103, 6), (103, 7), (103, 8), (104, 0), (105, 0), (106, 0), (107, 0), (108, 0), (109, 0), (110, 0), (111, 0), (112, 0)], [([(0, 0, 0)], [], [], [(0, (0, []))], [(0, (9, []), (0, (4, [])))])])
def y_u36 : List b_Cu := []
theorem y_z36 : b_chk0 x_T y_k36 y_u36 = true := by decide +kernel
theorem y_e36 : b_chkE x_F x_T x_Z x_dep x_hn [] y_k36 y_u36 314 = true := by decide +kernel
theorem y_v36 {N : Int} {fz : List (List Int32)} (hZ : b_ZOk x_Z (x_G N) fz) : b_Valid x_F fz x_T (x_G N) y_k36 := b_valid (x_gOk N) x_depOk hZ x_hn_ok (Γ := []) (fun _ h => absurd h List.not_mem_nil) y_z36 y_e36 (fun _ h => absurd h List.not_mem_nil)
-- B.back, k 2, kept 0: 1 posts, 0 cuts, 28 steps
def y_k37 : b_K := (198, 1, ([(0, 0, 0)], [], [], [(2, (0, [])), (0, (2, []))], [(0, (9, []), (0, (0, [(0, 1)])))]), [], [([(0, 0, 0)], [], [], [(0, ((-6), []))], [(0, (9, []), (0, (0, [(0, 1)])))])])
def y_u37 : List b_Cu := []
theorem y_z37 : b_chk0 x_T y_k37 y_u37 = true := by decide +kernel
theorem y_e37 : b_chkE x_F x_T x_Z x_dep x_hn [] y_k37 y_u37 120 = true := by decide +kernel
theorem y_v37 {N : Int} {fz : List (List Int32)} (hZ : b_ZOk x_Z (x_G N) fz) : b_Valid x_F fz x_T (x_G N) y_k37 := b_valid (x_gOk N) x_depOk hZ x_hn_ok (Γ := []) (fun _ h => absurd h List.not_mem_nil) y_z37 y_e37 (fun _ h => absurd h List.not_mem_nil)
-- B.image, k 2, kept 1: 1 posts, 0 cuts, 254 steps
def y_k38 : b_K := (197, 2, ([(1, 1, 0)], [], [], [(2, (0, [])), (0, (2, []))], [(0, (9, []), (0, (0, [(0, 1)])))]), [(0, 10), (103, 1), (103, 2), (103, 3), (103, 4), (103, 5), (103, 6), (103, 7), (103, 8), (104, 0), (105, 0), (106, 0), (107, 0), (108, 0), (109, 0), (110, 0), (111, 0), (112, 0)], [([(1, 1, 0)], [], [], [(0, (0, []))], [(0, (9, []), (0, (5, [])))])])
def y_u38 : List b_Cu := []
theorem y_z38 : b_chk0 x_T y_k38 y_u38 = true := by decide +kernel
theorem y_e38 : b_chkE x_F x_T x_Z x_dep x_hn [] y_k38 y_u38 314 = true := by decide +kernel
theorem y_v38 {N : Int} {fz : List (List Int32)} (hZ : b_ZOk x_Z (x_G N) fz) : b_Valid x_F fz x_T (x_G N) y_k38 := b_valid (x_gOk N) x_depOk hZ x_hn_ok (Γ := []) (fun _ h => absurd h List.not_mem_nil) y_z38 y_e38 (fun _ h => absurd h List.not_mem_nil)
-- B.back, k 2, kept 1: 1 posts, 0 cuts, 28 steps
def y_k39 : b_K := (198, 1, ([(1, 1, 0)], [], [], [(2, (0, [])), (0, (2, []))], [(0, (9, []), (0, (0, [(0, 1)])))]), [], [([(1, 1, 0)], [], [], [(0, ((-6), []))], [(0, (9, []), (0, (0, [(0, 1)])))])])
def y_u39 : List b_Cu := []
theorem y_z39 : b_chk0 x_T y_k39 y_u39 = true := by decide +kernel
theorem y_e39 : b_chkE x_F x_T x_Z x_dep x_hn [] y_k39 y_u39 120 = true := by decide +kernel
theorem y_v39 {N : Int} {fz : List (List Int32)} (hZ : b_ZOk x_Z (x_G N) fz) : b_Valid x_F fz x_T (x_G N) y_k39 := b_valid (x_gOk N) x_depOk hZ x_hn_ok (Γ := []) (fun _ h => absurd h List.not_mem_nil) y_z39 y_e39 (fun _ h => absurd h List.not_mem_nil)
-- B.image, k 2, kept 2: 1 posts, 0 cuts, 254 steps
def y_k40 : b_K := (197, 2, ([(2, 2, 0)], [], [], [(2, (0, [])), (0, (2, []))], [(0, (9, []), (0, (0, [(0, 1)])))]), [(0, 10), (103, 1), (103, 2), (103, 3), (103, 4), (103, 5), (103, 6), (103, 7), (103, 8), (104, 0), (105, 0), (106, 0), (107, 0), (108, 0), (109, 0), (110, 0), (111, 0), (112, 0)], [([(2, 2, 0)], [], [], [(0, (0, []))], [(0, (9, []), (0, (6, [])))])])
def y_u40 : List b_Cu := []
theorem y_z40 : b_chk0 x_T y_k40 y_u40 = true := by decide +kernel
theorem y_e40 : b_chkE x_F x_T x_Z x_dep x_hn [] y_k40 y_u40 314 = true := by decide +kernel
theorem y_v40 {N : Int} {fz : List (List Int32)} (hZ : b_ZOk x_Z (x_G N) fz) : b_Valid x_F fz x_T (x_G N) y_k40 := b_valid (x_gOk N) x_depOk hZ x_hn_ok (Γ := []) (fun _ h => absurd h List.not_mem_nil) y_z40 y_e40 (fun _ h => absurd h List.not_mem_nil)
-- B.back, k 2, kept 2: 1 posts, 0 cuts, 28 steps
def y_k41 : b_K := (198, 1, ([(2, 2, 0)], [], [], [(2, (0, [])), (0, (2, []))], [(0, (9, []), (0, (0, [(0, 1)])))]), [], [([(2, 2, 0)], [], [], [(0, ((-6), []))], [(0, (9, []), (0, (0, [(0, 1)])))])])
def y_u41 : List b_Cu := []
theorem y_z41 : b_chk0 x_T y_k41 y_u41 = true := by decide +kernel
theorem y_e41 : b_chkE x_F x_T x_Z x_dep x_hn [] y_k41 y_u41 120 = true := by decide +kernel
theorem y_v41 {N : Int} {fz : List (List Int32)} (hZ : b_ZOk x_Z (x_G N) fz) : b_Valid x_F fz x_T (x_G N) y_k41 := b_valid (x_gOk N) x_depOk hZ x_hn_ok (Γ := []) (fun _ h => absurd h List.not_mem_nil) y_z41 y_e41 (fun _ h => absurd h List.not_mem_nil)
-- B.image, k 2, kept 3: 1 posts, 0 cuts, 254 steps
def y_k42 : b_K := (197, 2, ([(3, 3, 0)], [], [], [(2, (0, [])), (0, (2, []))], [(0, (9, []), (0, (0, [(0, 1)])))]), [(0, 10), (103, 1), (103, 2), (103, 3), (103, 4), (103, 5), (103, 6), (103, 7), (103, 8), (104, 0), (105, 0), (106, 0), (107, 0), (108, 0), (109, 0), (110, 0), (111, 0), (112, 0)], [([(3, 3, 0)], [], [], [(0, (0, []))], [(0, (9, []), (0, (7, [])))])])
def y_u42 : List b_Cu := []
theorem y_z42 : b_chk0 x_T y_k42 y_u42 = true := by decide +kernel
theorem y_e42 : b_chkE x_F x_T x_Z x_dep x_hn [] y_k42 y_u42 314 = true := by decide +kernel
theorem y_v42 {N : Int} {fz : List (List Int32)} (hZ : b_ZOk x_Z (x_G N) fz) : b_Valid x_F fz x_T (x_G N) y_k42 := b_valid (x_gOk N) x_depOk hZ x_hn_ok (Γ := []) (fun _ h => absurd h List.not_mem_nil) y_z42 y_e42 (fun _ h => absurd h List.not_mem_nil)
-- B.back, k 2, kept 3: 1 posts, 0 cuts, 28 steps
def y_k43 : b_K := (198, 1, ([(3, 3, 0)], [], [], [(2, (0, [])), (0, (2, []))], [(0, (9, []), (0, (0, [(0, 1)])))]), [], [([(3, 3, 0)], [], [], [(0, ((-6), []))], [(0, (9, []), (0, (0, [(0, 1)])))])])
def y_u43 : List b_Cu := []
theorem y_z43 : b_chk0 x_T y_k43 y_u43 = true := by decide +kernel
theorem y_e43 : b_chkE x_F x_T x_Z x_dep x_hn [] y_k43 y_u43 120 = true := by decide +kernel
theorem y_v43 {N : Int} {fz : List (List Int32)} (hZ : b_ZOk x_Z (x_G N) fz) : b_Valid x_F fz x_T (x_G N) y_k43 := b_valid (x_gOk N) x_depOk hZ x_hn_ok (Γ := []) (fun _ h => absurd h List.not_mem_nil) y_z43 y_e43 (fun _ h => absurd h List.not_mem_nil)
-- B.image, k 2, kept 4: 1 posts, 0 cuts, 254 steps
def y_k44 : b_K := (197, 2, ([(4, 4, 0)], [], [], [(2, (0, [])), (0, (2, []))], [(0, (9, []), (0, (0, [(0, 1)])))]), [(0, 10), (103, 1), (103, 2), (103, 3), (103, 4), (103, 5), (103, 6), (103, 7), (103, 8), (104, 0), (105, 0), (106, 0), (107, 0), (108, 0), (109, 0), (110, 0), (111, 0), (112, 0)], [([(4, 4, 0)], [], [], [(0, (0, []))], [(0, (9, []), (0, (4, [])))])])
def y_u44 : List b_Cu := []
theorem y_z44 : b_chk0 x_T y_k44 y_u44 = true := by decide +kernel
theorem y_e44 : b_chkE x_F x_T x_Z x_dep x_hn [] y_k44 y_u44 314 = true := by decide +kernel
theorem y_v44 {N : Int} {fz : List (List Int32)} (hZ : b_ZOk x_Z (x_G N) fz) : b_Valid x_F fz x_T (x_G N) y_k44 := b_valid (x_gOk N) x_depOk hZ x_hn_ok (Γ := []) (fun _ h => absurd h List.not_mem_nil) y_z44 y_e44 (fun _ h => absurd h List.not_mem_nil)
-- B.back, k 2, kept 4: 1 posts, 0 cuts, 274 steps
def y_k45 : b_K := (198, 6, ([(4, 4, 0)], [], [], [(2, (0, [])), (0, (2, []))], [(0, (9, []), (0, (0, [(0, 1)])))]), [(13, 1), (13, 2), (13, 3), (13, 4), (13, 5), (13, 6), (13, 7), (13, 8), (14, 0), (15, 0), (16, 0), (17, 0), (18, 0), (19, 0), (20, 0), (21, 0), (22, 0), (23, 2), (23, 7), (24, 0), (25, 0), (26, 0), (27, 0), (28, 0), (29, 0), (30, 0), (31, 0), (32, 0), (33, 0), (34, 0), (35, 0), (36, 0), (37, 0), (38, 0), (39, 0)], [([(4, 4, 0)], [], [], [(0, (0, []))], [(0, (9, []), (0, (0, [(0, 1)])))])])
def y_u45 : List b_Cu := []
theorem y_z45 : b_chk0 x_T y_k45 y_u45 = true := by decide +kernel
theorem y_e45 : b_chkE x_F x_T x_Z x_dep x_hn [x_k46, x_k55] y_k45 y_u45 334 = true := by decide +kernel
theorem y_v45 {N : Int} {fz : List (List Int32)} (hZ : b_ZOk x_Z (x_G N) fz) : b_Valid x_F fz x_T (x_G N) y_k45 := b_valid (x_gOk N) x_depOk hZ x_hn_ok (Γ := [x_k46, x_k55]) (List.forall_mem_cons.mpr ⟨x_v46 hZ, List.forall_mem_cons.mpr ⟨x_v55 hZ, fun _ h => absurd h List.not_mem_nil⟩⟩) y_z45 y_e45 (fun _ h => absurd h List.not_mem_nil)
-- B.image, k 2, kept 5: 1 posts, 0 cuts, 254 steps
def y_k46 : b_K := (197, 2, ([(5, 5, 0)], [], [], [(2, (0, [])), (0, (2, []))], [(0, (9, []), (0, (0, [(0, 1)])))]), [(0, 10), (103, 1), (103, 2), (103, 3), (103, 4), (103, 5), (103, 6), (103, 7), (103, 8), (104, 0), (105, 0), (106, 0), (107, 0), (108, 0), (109, 0), (110, 0), (111, 0), (112, 0)], [([(5, 5, 0)], [], [], [(0, (0, []))], [(0, (9, []), (0, (5, [])))])])
def y_u46 : List b_Cu := []
theorem y_z46 : b_chk0 x_T y_k46 y_u46 = true := by decide +kernel
theorem y_e46 : b_chkE x_F x_T x_Z x_dep x_hn [] y_k46 y_u46 314 = true := by decide +kernel
theorem y_v46 {N : Int} {fz : List (List Int32)} (hZ : b_ZOk x_Z (x_G N) fz) : b_Valid x_F fz x_T (x_G N) y_k46 := b_valid (x_gOk N) x_depOk hZ x_hn_ok (Γ := []) (fun _ h => absurd h List.not_mem_nil) y_z46 y_e46 (fun _ h => absurd h List.not_mem_nil)
-- B.back, k 2, kept 5: 1 posts, 0 cuts, 274 steps
def y_k47 : b_K := (198, 6, ([(5, 5, 0)], [], [], [(2, (0, [])), (0, (2, []))], [(0, (9, []), (0, (0, [(0, 1)])))]), [(13, 1), (13, 2), (13, 3), (13, 4), (13, 5), (13, 6), (13, 7), (13, 8), (14, 0), (15, 0), (16, 0), (17, 0), (18, 0), (19, 0), (20, 0), (21, 0), (22, 0), (23, 2), (23, 7), (24, 0), (25, 0), (26, 0), (27, 0), (28, 0), (29, 0), (30, 0), (31, 0), (32, 0), (33, 0), (34, 0), (35, 0), (36, 0), (37, 0), (38, 0), (39, 0)], [([(5, 5, 0)], [], [], [(0, (0, []))], [(0, (9, []), (0, (0, [(0, 1)])))])])
def y_u47 : List b_Cu := []
theorem y_z47 : b_chk0 x_T y_k47 y_u47 = true := by decide +kernel
theorem y_e47 : b_chkE x_F x_T x_Z x_dep x_hn [x_k46, x_k55] y_k47 y_u47 334 = true := by decide +kernel
theorem y_v47 {N : Int} {fz : List (List Int32)} (hZ : b_ZOk x_Z (x_G N) fz) : b_Valid x_F fz x_T (x_G N) y_k47 := b_valid (x_gOk N) x_depOk hZ x_hn_ok (Γ := [x_k46, x_k55]) (List.forall_mem_cons.mpr ⟨x_v46 hZ, List.forall_mem_cons.mpr ⟨x_v55 hZ, fun _ h => absurd h List.not_mem_nil⟩⟩) y_z47 y_e47 (fun _ h => absurd h List.not_mem_nil)
-- B.image, k 2, kept 6: 1 posts, 0 cuts, 254 steps
def y_k48 : b_K := (197, 2, ([(6, 6, 0)], [], [], [(2, (0, [])), (0, (2, []))], [(0, (9, []), (0, (0, [(0, 1)])))]), [(0, 10), (103, 1), (103, 2), (103, 3), (103, 4), (103, 5), (103, 6), (103, 7), (103, 8), (104, 0), (105, 0), (106, 0), (107, 0), (108, 0), (109, 0), (110, 0), (111, 0), (112, 0)], [([(6, 6, 0)], [], [], [(0, (0, []))], [(0, (9, []), (0, (6, [])))])])
def y_u48 : List b_Cu := []
theorem y_z48 : b_chk0 x_T y_k48 y_u48 = true := by decide +kernel
theorem y_e48 : b_chkE x_F x_T x_Z x_dep x_hn [] y_k48 y_u48 314 = true := by decide +kernel
theorem y_v48 {N : Int} {fz : List (List Int32)} (hZ : b_ZOk x_Z (x_G N) fz) : b_Valid x_F fz x_T (x_G N) y_k48 := b_valid (x_gOk N) x_depOk hZ x_hn_ok (Γ := []) (fun _ h => absurd h List.not_mem_nil) y_z48 y_e48 (fun _ h => absurd h List.not_mem_nil)
-- B.back, k 2, kept 6: 1 posts, 0 cuts, 274 steps
def y_k49 : b_K := (198, 6, ([(6, 6, 0)], [], [], [(2, (0, [])), (0, (2, []))], [(0, (9, []), (0, (0, [(0, 1)])))]), [(13, 1), (13, 2), (13, 3), (13, 4), (13, 5), (13, 6), (13, 7), (13, 8), (14, 0), (15, 0), (16, 0), (17, 0), (18, 0), (19, 0), (20, 0), (21, 0), (22, 0), (23, 2), (23, 7), (24, 0), (25, 0), (26, 0), (27, 0), (28, 0), (29, 0), (30, 0), (31, 0), (32, 0), (33, 0), (34, 0), (35, 0), (36, 0), (37, 0), (38, 0), (39, 0)], [([(6, 6, 0)], [], [], [(0, (0, []))], [(0, (9, []), (0, (0, [(0, 1)])))])])
def y_u49 : List b_Cu := []
theorem y_z49 : b_chk0 x_T y_k49 y_u49 = true := by decide +kernel
theorem y_e49 : b_chkE x_F x_T x_Z x_dep x_hn [x_k46, x_k55] y_k49 y_u49 334 = true := by decide +kernel
theorem y_v49 {N : Int} {fz : List (List Int32)} (hZ : b_ZOk x_Z (x_G N) fz) : b_Valid x_F fz x_T (x_G N) y_k49 := b_valid (x_gOk N) x_depOk hZ x_hn_ok (Γ := [x_k46, x_k55]) (List.forall_mem_cons.mpr ⟨x_v46 hZ, List.forall_mem_cons.mpr ⟨x_v55 hZ, fun _ h => absurd h List.not_mem_nil⟩⟩) y_z49 y_e49 (fun _ h => absurd h List.not_mem_nil)
-- B.image, k 2, kept 7: 1 posts, 0 cuts, 254 steps
def y_k50 : b_K := (197, 2, ([(7, 7, 0)], [], [], [(2, (0, [])), (0, (2, []))], [(0, (9, []), (0, (0, [(0, 1)])))]), [(0, 10), (103, 1), (103, 2), (103, 3), (103, 4), (103, 5), (103, 6), (103, 7), (103, 8), (104, 0), (105, 0), (106, 0), (107, 0), (108, 0), (109, 0), (110, 0), (111, 0), (112, 0)], [([(7, 7, 0)], [], [], [(0, (0, []))], [(0, (9, []), (0, (7, [])))])])
def y_u50 : List b_Cu := []
theorem y_z50 : b_chk0 x_T y_k50 y_u50 = true := by decide +kernel
theorem y_e50 : b_chkE x_F x_T x_Z x_dep x_hn [] y_k50 y_u50 314 = true := by decide +kernel
theorem y_v50 {N : Int} {fz : List (List Int32)} (hZ : b_ZOk x_Z (x_G N) fz) : b_Valid x_F fz x_T (x_G N) y_k50 := b_valid (x_gOk N) x_depOk hZ x_hn_ok (Γ := []) (fun _ h => absurd h List.not_mem_nil) y_z50 y_e50 (fun _ h => absurd h List.not_mem_nil)
-- B.back, k 2, kept 7: 1 posts, 0 cuts, 274 steps
def y_k51 : b_K := (198, 6, ([(7, 7, 0)], [], [], [(2, (0, [])), (0, (2, []))], [(0, (9, []), (0, (0, [(0, 1)])))]), [(13, 1), (13, 2), (13, 3), (13, 4), (13, 5), (13, 6), (13, 7), (13, 8), (14, 0), (15, 0), (16, 0), (17, 0), (18, 0), (19, 0), (20, 0), (21, 0), (22, 0), (23, 2), (23, 7), (24, 0), (25, 0), (26, 0), (27, 0), (28, 0), (29, 0), (30, 0), (31, 0), (32, 0), (33, 0), (34, 0), (35, 0), (36, 0), (37, 0), (38, 0), (39, 0)], [([(7, 7, 0)], [], [], [(0, (0, []))], [(0, (9, []), (0, (0, [(0, 1)])))])])
def y_u51 : List b_Cu := []
theorem y_z51 : b_chk0 x_T y_k51 y_u51 = true := by decide +kernel
theorem y_e51 : b_chkE x_F x_T x_Z x_dep x_hn [x_k46, x_k55] y_k51 y_u51 334 = true := by decide +kernel
theorem y_v51 {N : Int} {fz : List (List Int32)} (hZ : b_ZOk x_Z (x_G N) fz) : b_Valid x_F fz x_T (x_G N) y_k51 := b_valid (x_gOk N) x_depOk hZ x_hn_ok (Γ := [x_k46, x_k55]) (List.forall_mem_cons.mpr ⟨x_v46 hZ, List.forall_mem_cons.mpr ⟨x_v55 hZ, fun _ h => absurd h List.not_mem_nil⟩⟩) y_z51 y_e51 (fun _ h => absurd h List.not_mem_nil)
-- M.image, k 2: 1 posts, 0 cuts, 140 steps
def y_k52 : b_K := (372, 3, ([(0, 1, 0), (0, 1, 0), (0, 1, 0)], [], [], [(2, (113, [])), (0, (2, []))], [(125, (0, []), (0, (0, [(0, 1)]))), (125, (1, []), (0, (0, [(1, 1)]))), (125, (2, []), (0, (0, [(2, 1)])))]), [(113, 1), (119, 0), (120, 0), (121, 0), (122, 0), (123, 0), (124, 0), (125, 0)], [([(0, 1, 0), (0, 1, 0), (0, 1, 0)], [], [], [(0, (0, []))], [(125, (2, []), (0, (1, []))), (125, (0, []), (0, (0, [(0, 1)]))), (125, (1, []), (0, (0, [(1, 1)])))])])
def y_u52 : List b_Cu := []
theorem y_z52 : b_chk0 x_T y_k52 y_u52 = true := by decide +kernel
theorem y_e52 : b_chkE x_F x_T x_Z x_dep x_hn [x_k197, x_k198, x_k199, x_k200, x_k201, x_k202] y_k52 y_u52 200 = true := by decide +kernel
theorem y_v52 {N : Int} {fz : List (List Int32)} (hZ : b_ZOk x_Z (x_G N) fz) : b_Valid x_F fz x_T (x_G N) y_k52 := b_valid (x_gOk N) x_depOk hZ x_hn_ok (Γ := [x_k197, x_k198, x_k199, x_k200, x_k201, x_k202]) (List.forall_mem_cons.mpr ⟨x_v197 hZ, List.forall_mem_cons.mpr ⟨x_v198 hZ, List.forall_mem_cons.mpr ⟨x_v199 hZ, List.forall_mem_cons.mpr ⟨x_v200 hZ, List.forall_mem_cons.mpr ⟨x_v201 hZ, List.forall_mem_cons.mpr ⟨x_v202 hZ, fun _ h => absurd h List.not_mem_nil⟩⟩⟩⟩⟩⟩) y_z52 y_e52 (fun _ h => absurd h List.not_mem_nil)
-- M.back, k 2: 2 posts, 0 cuts, 144 steps
def y_k53 : b_K := (373, 3, ([(0, 1, 0), (0, 1, 0), (0, 1, 0)], [], [], [(2, (113, [])), (0, (2, []))], [(125, (0, []), (0, (0, [(0, 1)]))), (125, (1, []), (0, (0, [(1, 1)]))), (125, (2, []), (0, (0, [(2, 1)])))]), [(113, 1), (119, 0), (120, 0), (121, 0), (122, 0), (123, 0), (124, 0)], [([(0, 1, 0), (0, 1, 0), (0, 0, 0)], [], [], [(0, ((-6), []))], [(125, (0, []), (0, (0, [(0, 1)]))), (125, (1, []), (0, (0, [(1, 1)]))), (125, (2, []), (0, (0, [(2, 1)])))]),
  ([(0, 1, 0), (0, 1, 0), (1, 1, 0)], [], [], [(0, (0, []))], [(125, (0, []), (0, (0, [(0, 1)]))), (125, (1, []), (0, (0, [(1, 1)]))), (125, (2, []), (0, (0, [(2, 1)])))])])
def y_u53 : List b_Cu := []
theorem y_z53 : b_chk0 x_T y_k53 y_u53 = true := by decide +kernel
theorem y_e53 : b_chkE x_F x_T x_Z x_dep x_hn [x_k197, x_k198, x_k199, x_k200, x_k201, x_k202] y_k53 y_u53 204 = true := by decide +kernel
theorem y_v53 {N : Int} {fz : List (List Int32)} (hZ : b_ZOk x_Z (x_G N) fz) : b_Valid x_F fz x_T (x_G N) y_k53 := b_valid (x_gOk N) x_depOk hZ x_hn_ok (Γ := [x_k197, x_k198, x_k199, x_k200, x_k201, x_k202]) (List.forall_mem_cons.mpr ⟨x_v197 hZ, List.forall_mem_cons.mpr ⟨x_v198 hZ, List.forall_mem_cons.mpr ⟨x_v199 hZ, List.forall_mem_cons.mpr ⟨x_v200 hZ, List.forall_mem_cons.mpr ⟨x_v201 hZ, List.forall_mem_cons.mpr ⟨x_v202 hZ, fun _ h => absurd h List.not_mem_nil⟩⟩⟩⟩⟩⟩) y_z53 y_e53 (fun _ h => absurd h List.not_mem_nil)
-- B.image, k below: 1 posts, 0 cuts, 8 steps
def y_k54 : b_K := (197, 1, ([((-2147483648), (-1), 0)], [], [], [(2, (0, [])), (0, (0, [(0, 1)]))], []), [], [([((-2147483648), (-1), 0)], [], [], [(0, ((-2), []))], [])])
def y_u54 : List b_Cu := []
theorem y_z54 : b_chk0 x_T y_k54 y_u54 = true := by decide +kernel
theorem y_e54 : b_chkE x_F x_T x_Z x_dep x_hn [] y_k54 y_u54 120 = true := by decide +kernel
theorem y_v54 {N : Int} {fz : List (List Int32)} (hZ : b_ZOk x_Z (x_G N) fz) : b_Valid x_F fz x_T (x_G N) y_k54 := b_valid (x_gOk N) x_depOk hZ x_hn_ok (Γ := []) (fun _ h => absurd h List.not_mem_nil) y_z54 y_e54 (fun _ h => absurd h List.not_mem_nil)
-- B.image, k above: 1 posts, 0 cuts, 14 steps
def y_k55 : b_K := (197, 1, ([(3, 2147483647, 0)], [], [], [(2, (0, [])), (0, (0, [(0, 1)]))], []), [], [([(3, 2147483647, 0)], [], [], [(0, ((-2), []))], [])])
def y_u55 : List b_Cu := []
theorem y_z55 : b_chk0 x_T y_k55 y_u55 = true := by decide +kernel
theorem y_e55 : b_chkE x_F x_T x_Z x_dep x_hn [] y_k55 y_u55 120 = true := by decide +kernel
theorem y_v55 {N : Int} {fz : List (List Int32)} (hZ : b_ZOk x_Z (x_G N) fz) : b_Valid x_F fz x_T (x_G N) y_k55 := b_valid (x_gOk N) x_depOk hZ x_hn_ok (Γ := []) (fun _ h => absurd h List.not_mem_nil) y_z55 y_e55 (fun _ h => absurd h List.not_mem_nil)
-- B.back, k below: 1 posts, 0 cuts, 8 steps
def y_k56 : b_K := (198, 1, ([((-2147483648), (-1), 0)], [], [], [(2, (0, [])), (0, (0, [(0, 1)]))], []), [], [([((-2147483648), (-1), 0)], [], [], [(0, ((-2), []))], [])])
def y_u56 : List b_Cu := []
theorem y_z56 : b_chk0 x_T y_k56 y_u56 = true := by decide +kernel
theorem y_e56 : b_chkE x_F x_T x_Z x_dep x_hn [] y_k56 y_u56 120 = true := by decide +kernel
theorem y_v56 {N : Int} {fz : List (List Int32)} (hZ : b_ZOk x_Z (x_G N) fz) : b_Valid x_F fz x_T (x_G N) y_k56 := b_valid (x_gOk N) x_depOk hZ x_hn_ok (Γ := []) (fun _ h => absurd h List.not_mem_nil) y_z56 y_e56 (fun _ h => absurd h List.not_mem_nil)
-- B.back, k above: 1 posts, 0 cuts, 14 steps
def y_k57 : b_K := (198, 1, ([(3, 2147483647, 0)], [], [], [(2, (0, [])), (0, (0, [(0, 1)]))], []), [], [([(3, 2147483647, 0)], [], [], [(0, ((-2), []))], [])])
def y_u57 : List b_Cu := []
theorem y_z57 : b_chk0 x_T y_k57 y_u57 = true := by decide +kernel
theorem y_e57 : b_chkE x_F x_T x_Z x_dep x_hn [] y_k57 y_u57 120 = true := by decide +kernel
theorem y_v57 {N : Int} {fz : List (List Int32)} (hZ : b_ZOk x_Z (x_G N) fz) : b_Valid x_F fz x_T (x_G N) y_k57 := b_valid (x_gOk N) x_depOk hZ x_hn_ok (Γ := []) (fun _ h => absurd h List.not_mem_nil) y_z57 y_e57 (fun _ h => absurd h List.not_mem_nil)
-- M.image, k below: 1 posts, 0 cuts, 34 steps
def y_k58 : b_K := (372, 2, ([((-2147483648), (-1), 0)], [], [], [(2, (113, [])), (0, (0, [(0, 1)]))], []), [(113, 1)], [([((-2147483648), (-1), 0)], [], [], [(0, ((-2), []))], [])])
def y_u58 : List b_Cu := []
theorem y_z58 : b_chk0 x_T y_k58 y_u58 = true := by decide +kernel
theorem y_e58 : b_chkE x_F x_T x_Z x_dep x_hn [] y_k58 y_u58 120 = true := by decide +kernel
theorem y_v58 {N : Int} {fz : List (List Int32)} (hZ : b_ZOk x_Z (x_G N) fz) : b_Valid x_F fz x_T (x_G N) y_k58 := b_valid (x_gOk N) x_depOk hZ x_hn_ok (Γ := []) (fun _ h => absurd h List.not_mem_nil) y_z58 y_e58 (fun _ h => absurd h List.not_mem_nil)
-- M.image, k above: 1 posts, 0 cuts, 42 steps
def y_k59 : b_K := (372, 2, ([(3, 2147483647, 0)], [], [], [(2, (113, [])), (0, (0, [(0, 1)]))], []), [(113, 1)], [([(3, 2147483647, 0)], [], [], [(0, ((-2), []))], [])])
def y_u59 : List b_Cu := []
theorem y_z59 : b_chk0 x_T y_k59 y_u59 = true := by decide +kernel
theorem y_e59 : b_chkE x_F x_T x_Z x_dep x_hn [] y_k59 y_u59 120 = true := by decide +kernel
theorem y_v59 {N : Int} {fz : List (List Int32)} (hZ : b_ZOk x_Z (x_G N) fz) : b_Valid x_F fz x_T (x_G N) y_k59 := b_valid (x_gOk N) x_depOk hZ x_hn_ok (Γ := []) (fun _ h => absurd h List.not_mem_nil) y_z59 y_e59 (fun _ h => absurd h List.not_mem_nil)
-- M.back, k below: 1 posts, 0 cuts, 34 steps
def y_k60 : b_K := (373, 2, ([((-2147483648), (-1), 0)], [], [], [(2, (113, [])), (0, (0, [(0, 1)]))], []), [(113, 1)], [([((-2147483648), (-1), 0)], [], [], [(0, ((-2), []))], [])])
def y_u60 : List b_Cu := []
theorem y_z60 : b_chk0 x_T y_k60 y_u60 = true := by decide +kernel
theorem y_e60 : b_chkE x_F x_T x_Z x_dep x_hn [] y_k60 y_u60 120 = true := by decide +kernel
theorem y_v60 {N : Int} {fz : List (List Int32)} (hZ : b_ZOk x_Z (x_G N) fz) : b_Valid x_F fz x_T (x_G N) y_k60 := b_valid (x_gOk N) x_depOk hZ x_hn_ok (Γ := []) (fun _ h => absurd h List.not_mem_nil) y_z60 y_e60 (fun _ h => absurd h List.not_mem_nil)
-- M.back, k above: 1 posts, 0 cuts, 42 steps
def y_k61 : b_K := (373, 2, ([(3, 2147483647, 0)], [], [], [(2, (113, [])), (0, (0, [(0, 1)]))], []), [(113, 1)], [([(3, 2147483647, 0)], [], [], [(0, ((-2), []))], [])])
def y_u61 : List b_Cu := []
theorem y_z61 : b_chk0 x_T y_k61 y_u61 = true := by decide +kernel
theorem y_e61 : b_chkE x_F x_T x_Z x_dep x_hn [] y_k61 y_u61 120 = true := by decide +kernel
theorem y_v61 {N : Int} {fz : List (List Int32)} (hZ : b_ZOk x_Z (x_G N) fz) : b_Valid x_F fz x_T (x_G N) y_k61 := b_valid (x_gOk N) x_depOk hZ x_hn_ok (Γ := []) (fun _ h => absurd h List.not_mem_nil) y_z61 y_e61 (fun _ h => absurd h List.not_mem_nil)
/-- the loop's cut, with these places known (cell, place, number) -/
def y_mk (l : List (Nat × Int × Int)) : b_Cu := (18, ([(0, 3072, 0), (0, 3072, 0)], [(0, [(0, (-1)), (1, 1)])], [(0, (2, (1000000, []))), (1, (2, (0, []))), (2, (2, (113, []))), (3, (0, (0, [(1, 1)])))], [], (500, (0, []), (0, (0, [(0, 1)]))) :: l.map (fun e => (e.1, (e.2.1, []), (0, (e.2.2, []))))), (0, [(0, 1), (1, (-1))]))
def y_G : List b_K := [y_k0, y_k1, y_k2, y_k3, y_k4, y_k5, y_k6, y_k7, y_k8, y_k9, y_k10, y_k11, y_k12, y_k13, y_k14, y_k15, y_k16, y_k17, y_k18, y_k19, y_k20, y_k21, y_k22, y_k23, y_k24, y_k25, y_k26, y_k27, y_k28, y_k29, y_k30, y_k31, y_k32, y_k33, y_k34, y_k35, y_k36, y_k37, y_k38, y_k39, y_k40, y_k41, y_k42, y_k43, y_k44, y_k45, y_k46, y_k47, y_k48, y_k49, y_k50, y_k51, y_k52, y_k53, y_k54, y_k55, y_k56, y_k57, y_k58, y_k59, y_k60, y_k61, x_k1, x_k2, x_k56, x_k57, x_k58, x_k59, x_k60, x_k61, x_k62, x_k63, x_k64, x_k65, x_k67, x_k68, x_k69, x_k70, x_k71, x_k73, x_k75, x_k77, x_k79, x_k81, x_k84, x_k85, x_k86, x_k87, x_k89, x_k90, x_k91, x_k92, x_k93, x_k94, x_k96, x_k97, x_k98, x_k100, x_k101, x_k102, x_k103, x_k105, x_k106, x_k109, x_k110, x_k113, x_k114, x_k116, x_k117, x_k120, x_k133, x_k134, x_k136, x_k139, x_k143, x_k144, x_k145, x_k148, x_k149, x_k151, x_k152, x_k154, x_k155, x_k159, x_k162, x_k163, x_k168, x_k170, x_k171, x_k173, x_k174, x_k175, x_k177, x_k179, x_k180, x_k182, x_k46, x_k55, x_k186, x_k187, x_k188, x_k189, x_k190, x_k191, x_k192, x_k193, x_k194, x_k223, x_k224, x_k226, x_k227, x_k235, x_k236, x_k237, x_k238, x_k239, x_k240, x_k242, x_k243, x_k244, x_k245, x_k246, x_k247, x_k249, x_k250, x_k251, x_k254, x_k255, x_k256, x_k257, x_k259, x_k260, x_k262, x_k263, x_k264, x_k265, x_k266, x_k267, x_k268, x_k270, x_k271, x_k272, x_k273, x_k274, x_k275, x_k277, x_k278, x_k281, x_k282, x_k283, x_k284, x_k285, x_k288, x_k289, x_k290, x_k291, x_k297, x_k298, x_k299, x_k300, x_k301, x_k302, x_k303, x_k304, x_k305, x_k315, x_k317, x_k318, x_k338, x_k339, x_k341, x_k342, x_k343, x_k344, x_k345, x_k346, x_k347, x_k348, x_k197, x_k198, x_k199, x_k200, x_k201, x_k202]
set_option maxRecDepth 100000 in
theorem y_Gv {N : Int} {fz : List (List Int32)} (hZ : b_ZOk x_Z (x_G N) fz) : ∀ k ∈ y_G, b_Valid x_F fz x_T (x_G N) k := List.forall_mem_cons.mpr ⟨y_v0 hZ, List.forall_mem_cons.mpr ⟨y_v1 hZ, List.forall_mem_cons.mpr ⟨y_v2 hZ, List.forall_mem_cons.mpr ⟨y_v3 hZ, List.forall_mem_cons.mpr ⟨y_v4 hZ, List.forall_mem_cons.mpr ⟨y_v5 hZ, List.forall_mem_cons.mpr ⟨y_v6 hZ, List.forall_mem_cons.mpr ⟨y_v7 hZ, List.forall_mem_cons.mpr ⟨y_v8 hZ, List.forall_mem_cons.mpr ⟨y_v9 hZ, List.forall_mem_cons.mpr ⟨y_v10 hZ, List.forall_mem_cons.mpr ⟨y_v11 hZ, List.forall_mem_cons.mpr ⟨y_v12 hZ, List.forall_mem_cons.mpr ⟨y_v13 hZ, List.forall_mem_cons.mpr ⟨y_v14 hZ, List.forall_mem_cons.mpr ⟨y_v15 hZ, List.forall_mem_cons.mpr ⟨y_v16 hZ, List.forall_mem_cons.mpr ⟨y_v17 hZ, List.forall_mem_cons.mpr ⟨y_v18 hZ, List.forall_mem_cons.mpr ⟨y_v19 hZ, List.forall_mem_cons.mpr ⟨y_v20 hZ, List.forall_mem_cons.mpr ⟨y_v21 hZ, List.forall_mem_cons.mpr ⟨y_v22 hZ, List.forall_mem_cons.mpr ⟨y_v23 hZ, List.forall_mem_cons.mpr ⟨y_v24 hZ, List.forall_mem_cons.mpr ⟨y_v25 hZ, List.forall_mem_cons.mpr ⟨y_v26 hZ, List.forall_mem_cons.mpr ⟨y_v27 hZ, List.forall_mem_cons.mpr ⟨y_v28 hZ, List.forall_mem_cons.mpr ⟨y_v29 hZ, List.forall_mem_cons.mpr ⟨y_v30 hZ, List.forall_mem_cons.mpr ⟨y_v31 hZ, List.forall_mem_cons.mpr ⟨y_v32 hZ, List.forall_mem_cons.mpr ⟨y_v33 hZ, List.forall_mem_cons.mpr ⟨y_v34 hZ, List.forall_mem_cons.mpr ⟨y_v35 hZ, List.forall_mem_cons.mpr ⟨y_v36 hZ, List.forall_mem_cons.mpr ⟨y_v37 hZ, List.forall_mem_cons.mpr ⟨y_v38 hZ, List.forall_mem_cons.mpr ⟨y_v39 hZ, List.forall_mem_cons.mpr ⟨y_v40 hZ, List.forall_mem_cons.mpr ⟨y_v41 hZ, List.forall_mem_cons.mpr ⟨y_v42 hZ, List.forall_mem_cons.mpr ⟨y_v43 hZ, List.forall_mem_cons.mpr ⟨y_v44 hZ, List.forall_mem_cons.mpr ⟨y_v45 hZ, List.forall_mem_cons.mpr ⟨y_v46 hZ, List.forall_mem_cons.mpr ⟨y_v47 hZ, List.forall_mem_cons.mpr ⟨y_v48 hZ, List.forall_mem_cons.mpr ⟨y_v49 hZ, List.forall_mem_cons.mpr ⟨y_v50 hZ, List.forall_mem_cons.mpr ⟨y_v51 hZ, List.forall_mem_cons.mpr ⟨y_v52 hZ, List.forall_mem_cons.mpr ⟨y_v53 hZ, List.forall_mem_cons.mpr ⟨y_v54 hZ, List.forall_mem_cons.mpr ⟨y_v55 hZ, List.forall_mem_cons.mpr ⟨y_v56 hZ, List.forall_mem_cons.mpr ⟨y_v57 hZ, List.forall_mem_cons.mpr ⟨y_v58 hZ, List.forall_mem_cons.mpr ⟨y_v59 hZ, List.forall_mem_cons.mpr ⟨y_v60 hZ, List.forall_mem_cons.mpr ⟨y_v61 hZ, List.forall_mem_cons.mpr ⟨x_v1 hZ, List.forall_mem_cons.mpr ⟨x_v2 hZ, List.forall_mem_cons.mpr ⟨x_v56 hZ, List.forall_mem_cons.mpr ⟨x_v57 hZ, List.forall_mem_cons.mpr ⟨x_v58 hZ, List.forall_mem_cons.mpr ⟨x_v59 hZ, List.forall_mem_cons.mpr ⟨x_v60 hZ, List.forall_mem_cons.mpr ⟨x_v61 hZ, List.forall_mem_cons.mpr ⟨x_v62 hZ, List.forall_mem_cons.mpr ⟨x_v63 hZ, List.forall_mem_cons.mpr ⟨x_v64 hZ, List.forall_mem_cons.mpr ⟨x_v65 hZ, List.forall_mem_cons.mpr ⟨x_v67 hZ, List.forall_mem_cons.mpr ⟨x_v68 hZ, List.forall_mem_cons.mpr ⟨x_v69 hZ, List.forall_mem_cons.mpr ⟨x_v70 hZ, List.forall_mem_cons.mpr ⟨x_v71 hZ, List.forall_mem_cons.mpr ⟨x_v73 hZ, List.forall_mem_cons.mpr ⟨x_v75 hZ, List.forall_mem_cons.mpr ⟨x_v77 hZ, List.forall_mem_cons.mpr ⟨x_v79 hZ, List.forall_mem_cons.mpr ⟨x_v81 hZ, List.forall_mem_cons.mpr ⟨x_v84 hZ, List.forall_mem_cons.mpr ⟨x_v85 hZ, List.forall_mem_cons.mpr ⟨x_v86 hZ, List.forall_mem_cons.mpr ⟨x_v87 hZ, List.forall_mem_cons.mpr ⟨x_v89 hZ, List.forall_mem_cons.mpr ⟨x_v90 hZ, List.forall_mem_cons.mpr ⟨x_v91 hZ, List.forall_mem_cons.mpr ⟨x_v92 hZ, List.forall_mem_cons.mpr ⟨x_v93 hZ, List.forall_mem_cons.mpr ⟨x_v94 hZ, List.forall_mem_cons.mpr ⟨x_v96 hZ, List.forall_mem_cons.mpr ⟨x_v97 hZ, List.forall_mem_cons.mpr ⟨x_v98 hZ, List.forall_mem_cons.mpr ⟨x_v100 hZ, List.forall_mem_cons.mpr ⟨x_v101 hZ, List.forall_mem_cons.mpr ⟨x_v102 hZ, List.forall_mem_cons.mpr ⟨x_v103 hZ, List.forall_mem_cons.mpr ⟨x_v105 hZ, List.forall_mem_cons.mpr ⟨x_v106 hZ, List.forall_mem_cons.mpr ⟨x_v109 hZ, List.forall_mem_cons.mpr ⟨x_v110 hZ, List.forall_mem_cons.mpr ⟨x_v113 hZ, List.forall_mem_cons.mpr ⟨x_v114 hZ, List.forall_mem_cons.mpr ⟨x_v116 hZ, List.forall_mem_cons.mpr ⟨x_v117 hZ, List.forall_mem_cons.mpr ⟨x_v120 hZ, List.forall_mem_cons.mpr ⟨x_v133 hZ, List.forall_mem_cons.mpr ⟨x_v134 hZ, List.forall_mem_cons.mpr ⟨x_v136 hZ, List.forall_mem_cons.mpr ⟨x_v139 hZ, List.forall_mem_cons.mpr ⟨x_v143 hZ, List.forall_mem_cons.mpr ⟨x_v144 hZ, List.forall_mem_cons.mpr ⟨x_v145 hZ, List.forall_mem_cons.mpr ⟨x_v148 hZ, List.forall_mem_cons.mpr ⟨x_v149 hZ, List.forall_mem_cons.mpr ⟨x_v151 hZ, List.forall_mem_cons.mpr ⟨x_v152 hZ, List.forall_mem_cons.mpr ⟨x_v154 hZ, List.forall_mem_cons.mpr ⟨x_v155 hZ, List.forall_mem_cons.mpr ⟨x_v159 hZ, List.forall_mem_cons.mpr ⟨x_v162 hZ, List.forall_mem_cons.mpr ⟨x_v163 hZ, List.forall_mem_cons.mpr ⟨x_v168 hZ, List.forall_mem_cons.mpr ⟨x_v170 hZ, List.forall_mem_cons.mpr ⟨x_v171 hZ, List.forall_mem_cons.mpr ⟨x_v173 hZ, List.forall_mem_cons.mpr ⟨x_v174 hZ, List.forall_mem_cons.mpr ⟨x_v175 hZ, List.forall_mem_cons.mpr ⟨x_v177 hZ, List.forall_mem_cons.mpr ⟨x_v179 hZ, List.forall_mem_cons.mpr ⟨x_v180 hZ, List.forall_mem_cons.mpr ⟨x_v182 hZ, List.forall_mem_cons.mpr ⟨x_v46 hZ, List.forall_mem_cons.mpr ⟨x_v55 hZ, List.forall_mem_cons.mpr ⟨x_v186 hZ, List.forall_mem_cons.mpr ⟨x_v187 hZ, List.forall_mem_cons.mpr ⟨x_v188 hZ, List.forall_mem_cons.mpr ⟨x_v189 hZ, List.forall_mem_cons.mpr ⟨x_v190 hZ, List.forall_mem_cons.mpr ⟨x_v191 hZ, List.forall_mem_cons.mpr ⟨x_v192 hZ, List.forall_mem_cons.mpr ⟨x_v193 hZ, List.forall_mem_cons.mpr ⟨x_v194 hZ, List.forall_mem_cons.mpr ⟨x_v223 hZ, List.forall_mem_cons.mpr ⟨x_v224 hZ, List.forall_mem_cons.mpr ⟨x_v226 hZ, List.forall_mem_cons.mpr ⟨x_v227 hZ, List.forall_mem_cons.mpr ⟨x_v235 hZ, List.forall_mem_cons.mpr ⟨x_v236 hZ, List.forall_mem_cons.mpr ⟨x_v237 hZ, List.forall_mem_cons.mpr ⟨x_v238 hZ, List.forall_mem_cons.mpr ⟨x_v239 hZ, List.forall_mem_cons.mpr ⟨x_v240 hZ, List.forall_mem_cons.mpr ⟨x_v242 hZ, List.forall_mem_cons.mpr ⟨x_v243 hZ, List.forall_mem_cons.mpr ⟨x_v244 hZ, List.forall_mem_cons.mpr ⟨x_v245 hZ, List.forall_mem_cons.mpr ⟨x_v246 hZ, List.forall_mem_cons.mpr ⟨x_v247 hZ, List.forall_mem_cons.mpr ⟨x_v249 hZ, List.forall_mem_cons.mpr ⟨x_v250 hZ, List.forall_mem_cons.mpr ⟨x_v251 hZ, List.forall_mem_cons.mpr ⟨x_v254 hZ, List.forall_mem_cons.mpr ⟨x_v255 hZ, List.forall_mem_cons.mpr ⟨x_v256 hZ, List.forall_mem_cons.mpr ⟨x_v257 hZ, List.forall_mem_cons.mpr ⟨x_v259 hZ, List.forall_mem_cons.mpr ⟨x_v260 hZ, List.forall_mem_cons.mpr ⟨x_v262 hZ, List.forall_mem_cons.mpr ⟨x_v263 hZ, List.forall_mem_cons.mpr ⟨x_v264 hZ, List.forall_mem_cons.mpr ⟨x_v265 hZ, List.forall_mem_cons.mpr ⟨x_v266 hZ, List.forall_mem_cons.mpr ⟨x_v267 hZ, List.forall_mem_cons.mpr ⟨x_v268 hZ, List.forall_mem_cons.mpr ⟨x_v270 hZ, List.forall_mem_cons.mpr ⟨x_v271 hZ, List.forall_mem_cons.mpr ⟨x_v272 hZ, List.forall_mem_cons.mpr ⟨x_v273 hZ, List.forall_mem_cons.mpr ⟨x_v274 hZ, List.forall_mem_cons.mpr ⟨x_v275 hZ, List.forall_mem_cons.mpr ⟨x_v277 hZ, List.forall_mem_cons.mpr ⟨x_v278 hZ, List.forall_mem_cons.mpr ⟨x_v281 hZ, List.forall_mem_cons.mpr ⟨x_v282 hZ, List.forall_mem_cons.mpr ⟨x_v283 hZ, List.forall_mem_cons.mpr ⟨x_v284 hZ, List.forall_mem_cons.mpr ⟨x_v285 hZ, List.forall_mem_cons.mpr ⟨x_v288 hZ, List.forall_mem_cons.mpr ⟨x_v289 hZ, List.forall_mem_cons.mpr ⟨x_v290 hZ, List.forall_mem_cons.mpr ⟨x_v291 hZ, List.forall_mem_cons.mpr ⟨x_v297 hZ, List.forall_mem_cons.mpr ⟨x_v298 hZ, List.forall_mem_cons.mpr ⟨x_v299 hZ, List.forall_mem_cons.mpr ⟨x_v300 hZ, List.forall_mem_cons.mpr ⟨x_v301 hZ, List.forall_mem_cons.mpr ⟨x_v302 hZ, List.forall_mem_cons.mpr ⟨x_v303 hZ, List.forall_mem_cons.mpr ⟨x_v304 hZ, List.forall_mem_cons.mpr ⟨x_v305 hZ, List.forall_mem_cons.mpr ⟨x_v315 hZ, List.forall_mem_cons.mpr ⟨x_v317 hZ, List.forall_mem_cons.mpr ⟨x_v318 hZ, List.forall_mem_cons.mpr ⟨x_v338 hZ, List.forall_mem_cons.mpr ⟨x_v339 hZ, List.forall_mem_cons.mpr ⟨x_v341 hZ, List.forall_mem_cons.mpr ⟨x_v342 hZ, List.forall_mem_cons.mpr ⟨x_v343 hZ, List.forall_mem_cons.mpr ⟨x_v344 hZ, List.forall_mem_cons.mpr ⟨x_v345 hZ, List.forall_mem_cons.mpr ⟨x_v346 hZ, List.forall_mem_cons.mpr ⟨x_v347 hZ, List.forall_mem_cons.mpr ⟨x_v348 hZ, List.forall_mem_cons.mpr ⟨x_v197 hZ, List.forall_mem_cons.mpr ⟨x_v198 hZ, List.forall_mem_cons.mpr ⟨x_v199 hZ, List.forall_mem_cons.mpr ⟨x_v200 hZ, List.forall_mem_cons.mpr ⟨x_v201 hZ, List.forall_mem_cons.mpr ⟨x_v202 hZ, fun _ h => absurd h List.not_mem_nil⟩⟩⟩⟩⟩⟩⟩⟩⟩⟩⟩⟩⟩⟩⟩⟩⟩⟩⟩⟩⟩⟩⟩⟩⟩⟩⟩⟩⟩⟩⟩⟩⟩⟩⟩⟩⟩⟩⟩⟩⟩⟩⟩⟩⟩⟩⟩⟩⟩⟩⟩⟩⟩⟩⟩⟩⟩⟩⟩⟩⟩⟩⟩⟩⟩⟩⟩⟩⟩⟩⟩⟩⟩⟩⟩⟩⟩⟩⟩⟩⟩⟩⟩⟩⟩⟩⟩⟩⟩⟩⟩⟩⟩⟩⟩⟩⟩⟩⟩⟩⟩⟩⟩⟩⟩⟩⟩⟩⟩⟩⟩⟩⟩⟩⟩⟩⟩⟩⟩⟩⟩⟩⟩⟩⟩⟩⟩⟩⟩⟩⟩⟩⟩⟩⟩⟩⟩⟩⟩⟩⟩⟩⟩⟩⟩⟩⟩⟩⟩⟩⟩⟩⟩⟩⟩⟩⟩⟩⟩⟩⟩⟩⟩⟩⟩⟩⟩⟩⟩⟩⟩⟩⟩⟩⟩⟩⟩⟩⟩⟩⟩⟩⟩⟩⟩⟩⟩⟩⟩⟩⟩⟩⟩⟩⟩⟩⟩⟩⟩⟩⟩⟩⟩⟩⟩⟩⟩⟩⟩⟩⟩⟩⟩⟩⟩⟩⟩⟩⟩⟩⟩⟩⟩⟩
def y_L : b_K := (1000, 60, ([(0, 3072, 0)], [], [], [(2, (1000000, []))], [(500, (0, []), (0, (0, [(0, 1)])))]), (List.range 139).map (fun k => (k, 0)), [([(0, 3072, 0)], [], [], [(0, (1, []))], [])])
def y_C_0 : b_Cu := (18, ([(0, 3072, 0), (0, 3072, 0)], [(0, [(0, (-1)), (1, 1)])], [(0, (2, (1000000, []))), (1, (2, (0, []))), (2, (2, (113, []))), (3, (0, (0, [(1, 1)])))], [], [(500, (0, []), (0, (0, [(0, 1)]))), (0, (9, []), (0, (0, []))), (125, (0, []), (0, (0, []))), (125, (1, []), (0, (0, []))), (125, (2, []), (0, (0, [])))]), (0, [(0, 1), (1, (-1))]))
def y_C_1 : b_Cu := (18, ([(0, 3072, 0), (0, 3072, 0)], [(0, [(0, (-1)), (1, 1)])], [(0, (2, (1000000, []))), (1, (2, (0, []))), (2, (2, (113, []))), (3, (0, (0, [(1, 1)])))], [], [(500, (0, []), (0, (0, [(0, 1)]))), (0, (9, []), (0, (1, []))), (125, (0, []), (0, (1, []))), (125, (1, []), (0, (0, []))), (125, (2, []), (0, (0, [])))]), (0, [(0, 1), (1, (-1))]))
def y_C_2 : b_Cu := (18, ([(0, 3072, 0), (0, 3072, 0)], [(0, [(0, (-1)), (1, 1)])], [(0, (2, (1000000, []))), (1, (2, (0, []))), (2, (2, (113, []))), (3, (0, (0, [(1, 1)])))], [], [(500, (0, []), (0, (0, [(0, 1)]))), (0, (9, []), (0, (2, []))), (125, (0, []), (0, (0, []))), (125, (1, []), (0, (1, []))), (125, (2, []), (0, (0, [])))]), (0, [(0, 1), (1, (-1))]))
def y_C_3 : b_Cu := (18, ([(0, 3072, 0), (0, 3072, 0)], [(0, [(0, (-1)), (1, 1)])], [(0, (2, (1000000, []))), (1, (2, (0, []))), (2, (2, (113, []))), (3, (0, (0, [(1, 1)])))], [], [(500, (0, []), (0, (0, [(0, 1)]))), (0, (9, []), (0, (3, []))), (125, (0, []), (0, (1, []))), (125, (1, []), (0, (1, []))), (125, (2, []), (0, (0, [])))]), (0, [(0, 1), (1, (-1))]))
def y_C_4 : b_Cu := (18, ([(0, 3072, 0), (0, 3072, 0)], [(0, [(0, (-1)), (1, 1)])], [(0, (2, (1000000, []))), (1, (2, (0, []))), (2, (2, (113, []))), (3, (0, (0, [(1, 1)])))], [], [(500, (0, []), (0, (0, [(0, 1)]))), (0, (9, []), (0, (4, []))), (125, (0, []), (0, (0, []))), (125, (1, []), (0, (0, []))), (125, (2, []), (0, (1, [])))]), (0, [(0, 1), (1, (-1))]))
def y_C_5 : b_Cu := (18, ([(0, 3072, 0), (0, 3072, 0)], [(0, [(0, (-1)), (1, 1)])], [(0, (2, (1000000, []))), (1, (2, (0, []))), (2, (2, (113, []))), (3, (0, (0, [(1, 1)])))], [], [(500, (0, []), (0, (0, [(0, 1)]))), (0, (9, []), (0, (5, []))), (125, (0, []), (0, (1, []))), (125, (1, []), (0, (0, []))), (125, (2, []), (0, (1, [])))]), (0, [(0, 1), (1, (-1))]))
def y_C_6 : b_Cu := (18, ([(0, 3072, 0), (0, 3072, 0)], [(0, [(0, (-1)), (1, 1)])], [(0, (2, (1000000, []))), (1, (2, (0, []))), (2, (2, (113, []))), (3, (0, (0, [(1, 1)])))], [], [(500, (0, []), (0, (0, [(0, 1)]))), (0, (9, []), (0, (6, []))), (125, (0, []), (0, (0, []))), (125, (1, []), (0, (1, []))), (125, (2, []), (0, (1, [])))]), (0, [(0, 1), (1, (-1))]))
def y_C_7 : b_Cu := (18, ([(0, 3072, 0), (0, 3072, 0)], [(0, [(0, (-1)), (1, 1)])], [(0, (2, (1000000, []))), (1, (2, (0, []))), (2, (2, (113, []))), (3, (0, (0, [(1, 1)])))], [], [(500, (0, []), (0, (0, [(0, 1)]))), (0, (9, []), (0, (7, []))), (125, (0, []), (0, (1, []))), (125, (1, []), (0, (1, []))), (125, (2, []), (0, (1, [])))]), (0, [(0, 1), (1, (-1))]))
def y_Cs : List b_Cu := [y_C_0, y_C_1, y_C_2, y_C_3, y_C_4, y_C_5, y_C_6, y_C_7]
theorem y_z : b_chk0 x_T y_L y_Cs = true := by decide +kernel
theorem y_c_0 : b_chkC x_F x_T x_Z x_dep x_hn y_G y_L y_Cs 600 y_C_0 = true := by decide +kernel
theorem y_c_1 : b_chkC x_F x_T x_Z x_dep x_hn y_G y_L y_Cs 600 y_C_1 = true := by decide +kernel
theorem y_c_2 : b_chkC x_F x_T x_Z x_dep x_hn y_G y_L y_Cs 600 y_C_2 = true := by decide +kernel
theorem y_c_3 : b_chkC x_F x_T x_Z x_dep x_hn y_G y_L y_Cs 600 y_C_3 = true := by decide +kernel
theorem y_c_4 : b_chkC x_F x_T x_Z x_dep x_hn y_G y_L y_Cs 600 y_C_4 = true := by decide +kernel
theorem y_c_5 : b_chkC x_F x_T x_Z x_dep x_hn y_G y_L y_Cs 600 y_C_5 = true := by decide +kernel
theorem y_c_6 : b_chkC x_F x_T x_Z x_dep x_hn y_G y_L y_Cs 600 y_C_6 = true := by decide +kernel
theorem y_c_7 : b_chkC x_F x_T x_Z x_dep x_hn y_G y_L y_Cs 600 y_C_7 = true := by decide +kernel
theorem y_cs : ∀ C ∈ y_Cs, b_chkC x_F x_T x_Z x_dep x_hn y_G y_L y_Cs 600 C = true := List.forall_mem_cons.mpr ⟨y_c_0, List.forall_mem_cons.mpr ⟨y_c_1, List.forall_mem_cons.mpr ⟨y_c_2, List.forall_mem_cons.mpr ⟨y_c_3, List.forall_mem_cons.mpr ⟨y_c_4, List.forall_mem_cons.mpr ⟨y_c_5, List.forall_mem_cons.mpr ⟨y_c_6, List.forall_mem_cons.mpr ⟨y_c_7, fun _ h => absurd h List.not_mem_nil⟩⟩⟩⟩⟩⟩⟩⟩
def y_m0 : List (Nat × Int × Int) := [(0, 9, 0), (125, 0, 0), (125, 1, 0), (125, 2, 0)]
theorem y_c0 : y_mk y_m0 ∈ y_Cs := (List.mem_cons_self : y_C_0 ∈ y_Cs)
