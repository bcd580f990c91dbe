/-! contracts and their checks (by program, cert3.py) -/
def x_k277 : b_K := (313, 3, ([], [], [], [(2, (113, []))], []), [(113, 1)], [([((-2147483648), 2147483647, 0)], [], [], [(0, (0, [(0, 1)]))], [])])
def x_u277_0 : b_Cu := (19, ([((-2147483648), 2147483647, 0), (0, 128, 0)], [], [(0, (2, (113, []))), (1, (0, (0, [(0, 1)]))), (2, (0, (0, [(1, 1)])))], [], []), (128, [(1, (-1))]))
def x_u277 : List b_Cu := [x_u277_0]
-- M.benches, 53 steps
theorem x_z277 : b_chk0 x_T x_k277 x_u277 = true := by decide +kernel
theorem x_e277 : b_chkE x_F x_T x_Z x_dep x_hn [x_k276] x_k277 x_u277 120 = true := by decide +kernel
theorem x_c277_0 : b_chkC x_F x_T x_Z x_dep x_hn [x_k276] x_k277 x_u277 120 x_u277_0 = true := by decide +kernel
theorem x_v277 {N : Int} {fz : List (List Int32)} (hZ : b_ZOk x_Z (x_G N) fz) : b_Valid x_F fz x_T (x_G N) x_k277 := b_valid (x_gOk N) x_depOk hZ x_hn_ok (Γ := [x_k276]) (List.forall_mem_cons.mpr ⟨x_v276 hZ, fun _ h => absurd h List.not_mem_nil⟩) x_z277 x_e277 (List.forall_mem_cons.mpr ⟨x_c277_0, fun _ h => absurd h List.not_mem_nil⟩)
def x_k278 : b_K := (316, 4, ([((-2147483648), 2147483647, 0), ((-2147483648), 2147483647, 0)], [], [], [(2, (113, [])), (0, (0, [(0, 1)])), (0, (0, [(1, 1)]))], []), [(113, 1)], [([((-2147483648), 2147483647, 0), ((-2147483648), 2147483647, 0), ((-2), 2147483647, 0)], [], [], [(0, (0, [(2, 1)]))], [])])
def x_u278 : List b_Cu := []
-- M.finds, 117 steps
theorem x_z278 : b_chk0 x_T x_k278 x_u278 = true := by decide +kernel
theorem x_e278 : b_chkE x_F x_T x_Z x_dep x_hn [x_k231] x_k278 x_u278 177 = true := by decide +kernel
theorem x_v278 {N : Int} {fz : List (List Int32)} (hZ : b_ZOk x_Z (x_G N) fz) : b_Valid x_F fz x_T (x_G N) x_k278 := b_valid (x_gOk N) x_depOk hZ x_hn_ok (Γ := [x_k231]) (List.forall_mem_cons.mpr ⟨x_v231 hZ, fun _ h => absurd h List.not_mem_nil⟩) x_z278 x_e278 (fun _ h => absurd h List.not_mem_nil)
def x_k279 : b_K := (321, 4, ([(0, 127, 10428645247801963139059779875426560), (0, 7, 0)], [], [], [(2, (113, [])), (0, (0, [(0, 1)])), (0, (0, [(1, 1)]))], []), [(137, 0)], [([(0, 127, 10428645247801963139059779875426560), (0, 7, 0), (0, 2147483647, 0)], [], [], [(0, (0, [(2, 1)]))], [])])
def x_u279_0 : b_Cu := (5, ([(0, 127, 10428645247801963139059779875426560), (0, 7, 0)], [], [(0, (2, (113, []))), (1, (0, (0, [(0, 1)]))), (2, (0, (0, [(1, 1)]))), (3, (0, (0, []))), (4, (0, (0, [])))], [], []), (35, []))
def x_u279_1 : b_Cu := (5, ([(14, 112, 10428328330295837596662872032706560), (0, 7, 0)], [], [(0, (2, (113, []))), (1, (0, (0, [(0, 1)]))), (2, (0, (0, [(1, 1)]))), (3, (0, (0, []))), (4, (0, (1, [])))], [], []), (28, []))
def x_u279_2 : b_Cu := (26, ([(7, 97, 316917506125542396907842720000), (0, 7, 0)], [], [(0, (2, (113, []))), (1, (0, (0, [(0, 1)]))), (2, (0, (0, [(1, 1)]))), (3, (0, (0, []))), (4, (0, (0, [])))], [], []), (34, []))
def x_u279_3 : b_Cu := (48, ([(0, 127, 10428645247801963139059779875426560), (0, 7, 0)], [], [(0, (2, (113, [])))], [], []), (0, []))
def x_u279_4 : b_Cu := (5, ([(28, 112, 10427694495284176807679552493977600), (0, 7, 0)], [], [(0, (2, (113, []))), (1, (0, (0, [(0, 1)]))), (2, (0, (0, [(1, 1)]))), (3, (0, (0, []))), (4, (0, (2, [])))], [], []), (21, []))
def x_u279_5 : b_Cu := (26, ([(14, 98, 633835011660788983319538728960), (0, 7, 0)], [], [(0, (2, (113, []))), (1, (0, (0, [(0, 1)]))), (2, (0, (0, [(1, 1)]))), (3, (0, (0, []))), (4, (0, (1, [])))], [], []), (27, []))
def x_u279_6 : b_Cu := (5, ([(7, 97, 316917506125542396907842720000), (0, 7, 0)], [], [(0, (2, (113, []))), (1, (0, (0, [(0, 1)]))), (2, (0, (0, [(1, 1)]))), (3, (0, (1, []))), (4, (0, (1, [])))], [], []), (33, []))
def x_u279_7 : b_Cu := (5, ([(56, 112, 10425159155246978384714212686430208), (0, 7, 0)], [], [(0, (2, (113, []))), (1, (0, (0, [(0, 1)]))), (2, (0, (0, [(1, 1)]))), (3, (0, (0, []))), (4, (0, (3, [])))], [], []), (14, []))
def x_u279_8 : b_Cu := (26, ([(28, 100, 2535340037198422965339807547392), (0, 7, 0)], [], [(0, (2, (113, []))), (1, (0, (0, [(0, 1)]))), (2, (0, (0, [(1, 1)]))), (3, (0, (0, []))), (4, (0, (2, [])))], [], []), (20, []))
def x_u279_9 : b_Cu := (5, ([(13, 98, 950752517491183474979308093440), (0, 7, 0)], [], [(0, (2, (113, []))), (1, (0, (0, [(0, 1)]))), (2, (0, (0, [(1, 1)]))), (3, (0, (1, []))), (4, (0, (2, [])))], [], []), (26, []))
def x_u279_10 : b_Cu := (26, ([(7, 67, 295147905248073355520), (0, 7, 0)], [], [(0, (2, (113, []))), (1, (0, (0, [(0, 1)]))), (2, (0, (0, [(1, 1)]))), (3, (0, (1, []))), (4, (0, (1, [])))], [], []), (32, []))
def x_u279_11 : b_Cu := (5, ([(112, 112, 10384593717069655257060992658440192), (0, 7, 0)], [], [(0, (2, (113, []))), (1, (0, (0, [(0, 1)]))), (2, (0, (0, [(1, 1)]))), (3, (0, (0, []))), (4, (0, (4, [])))], [], []), (7, []))
def x_u279_12 : b_Cu := (26, ([(56, 104, 40565438177323127653220027990016), (0, 7, 0)], [], [(0, (2, (113, []))), (1, (0, (0, [(0, 1)]))), (2, (0, (0, [(1, 1)]))), (3, (0, (0, []))), (4, (0, (3, [])))], [], []), (13, []))
def x_u279_13 : b_Cu := (5, ([(25, 100, 3486092551147831577342235377664), (0, 7, 0)], [], [(0, (2, (113, []))), (1, (0, (0, [(0, 1)]))), (2, (0, (0, [(1, 1)]))), (3, (0, (1, []))), (4, (0, (3, [])))], [], []), (19, []))
def x_u279_14 : b_Cu := (26, ([(13, 70, 3541774862976880263168), (0, 7, 0)], [], [(0, (2, (113, []))), (1, (0, (0, [(0, 1)]))), (2, (0, (0, [(1, 1)]))), (3, (0, (1, []))), (4, (0, (2, [])))], [], []), (25, []))
def x_u279_15 : b_Cu := (5, ([(7, 67, 295147905248073355520), (0, 7, 0)], [], [(0, (2, (113, []))), (1, (0, (0, [(0, 1)]))), (2, (0, (0, [(1, 1)]))), (3, (0, (2, []))), (4, (0, (2, [])))], [], []), (31, []))
def x_u279_16 : b_Cu := (26, ([(112, 112, 10384593717069655257060992658440192), (0, 7, 0)], [], [(0, (2, (113, []))), (1, (0, (0, [(0, 1)]))), (2, (0, (0, [(1, 1)]))), (3, (0, (0, []))), (4, (0, (4, [])))], [], []), (6, []))
def x_u279_17 : b_Cu := (5, ([(49, 104, 44051530520686833935918624145408), (0, 7, 0)], [], [(0, (2, (113, []))), (1, (0, (0, [(0, 1)]))), (2, (0, (0, [(1, 1)]))), (3, (0, (1, []))), (4, (0, (4, [])))], [], []), (12, []))
def x_u279_18 : b_Cu := (26, ([(25, 76, 207784125294643639222272), (0, 7, 0)], [], [(0, (2, (113, []))), (1, (0, (0, [(0, 1)]))), (2, (0, (0, [(1, 1)]))), (3, (0, (1, []))), (4, (0, (3, [])))], [], []), (18, []))
def x_u279_19 : b_Cu := (5, ([(11, 70, 3836922768224953618432), (0, 7, 0)], [], [(0, (2, (113, []))), (1, (0, (0, [(0, 1)]))), (2, (0, (0, [(1, 1)]))), (3, (0, (2, []))), (4, (0, (3, [])))], [], []), (24, []))
def x_u279_20 : b_Cu := (26, ([(7, 7, 256), (0, 7, 0)], [], [(0, (2, (113, []))), (1, (0, (0, [(0, 1)]))), (2, (0, (0, [(1, 1)]))), (3, (0, (2, []))), (4, (0, (2, [])))], [], []), (30, []))
def x_u279_21 : b_Cu := (5, ([(97, 112, 10428644575427586228763003094827008), (0, 7, 0)], [], [(0, (2, (113, []))), (1, (0, (0, [(0, 1)]))), (2, (0, (0, [(1, 1)]))), (3, (0, (1, []))), (4, (0, (5, [])))], [], []), (5, []))
def x_u279_22 : b_Cu := (26, ([(49, 88, 672162755862233908187758592), (0, 7, 0)], [], [(0, (2, (113, []))), (1, (0, (0, [(0, 1)]))), (2, (0, (0, [(1, 1)]))), (3, (0, (1, []))), (4, (0, (4, [])))], [], []), (11, []))
def x_u279_23 : b_Cu := (5, ([(19, 76, 211621048062868592787456), (0, 7, 0)], [], [(0, (2, (113, []))), (1, (0, (0, [(0, 1)]))), (2, (0, (0, [(1, 1)]))), (3, (0, (2, []))), (4, (0, (4, [])))], [], []), (17, []))
def x_u279_24 : b_Cu := (26, ([(11, 14, 53248), (0, 7, 0)], [], [(0, (2, (113, []))), (1, (0, (0, [(0, 1)]))), (2, (0, (0, [(1, 1)]))), (3, (0, (2, []))), (4, (0, (3, [])))], [], []), (23, []))
def x_u279_25 : b_Cu := (5, ([(7, 7, 256), (0, 7, 0)], [], [(0, (2, (113, []))), (1, (0, (0, [(0, 1)]))), (2, (0, (0, [(1, 1)]))), (3, (0, (3, []))), (4, (0, (3, [])))], [], []), (29, []))
def x_u279_26 : b_Cu := (26, ([(97, 112, 10428644575427586228763003094827008), (0, 7, 0)], [], [(0, (2, (113, []))), (1, (0, (0, [(0, 1)]))), (2, (0, (0, [(1, 1)]))), (3, (0, (1, []))), (4, (0, (5, [])))], [], []), (4, []))
def x_u279_27 : b_Cu := (5, ([(35, 88, 672374376910296776028717056), (0, 7, 0)], [], [(0, (2, (113, []))), (1, (0, (0, [(0, 1)]))), (2, (0, (0, [(1, 1)]))), (3, (0, (2, []))), (4, (0, (5, [])))], [], []), (10, []))
def x_u279_28 : b_Cu := (26, ([(19, 28, 751828992), (0, 7, 0)], [], [(0, (2, (113, []))), (1, (0, (0, [(0, 1)]))), (2, (0, (0, [(1, 1)]))), (3, (0, (2, []))), (4, (0, (4, [])))], [], []), (16, []))
def x_u279_29 : b_Cu := (5, ([(7, 14, 53504), (0, 7, 0)], [], [(0, (2, (113, []))), (1, (0, (0, [(0, 1)]))), (2, (0, (0, [(1, 1)]))), (3, (0, (3, []))), (4, (0, (4, [])))], [], []), (22, []))
def x_u279_30 : b_Cu := (5, ([(67, 112, 10428645247801962982510420207599616), (0, 7, 0)], [], [(0, (2, (113, []))), (1, (0, (0, [(0, 1)]))), (2, (0, (0, [(1, 1)]))), (3, (0, (2, []))), (4, (0, (6, [])))], [], []), (3, []))
def x_u279_31 : b_Cu := (26, ([(35, 56, 156549358915944448), (0, 7, 0)], [], [(0, (2, (113, []))), (1, (0, (0, [(0, 1)]))), (2, (0, (0, [(1, 1)]))), (3, (0, (2, []))), (4, (0, (5, [])))], [], []), (9, []))
def x_u279_32 : b_Cu := (5, ([(7, 28, 751882496), (0, 7, 0)], [], [(0, (2, (113, []))), (1, (0, (0, [(0, 1)]))), (2, (0, (0, [(1, 1)]))), (3, (0, (3, []))), (4, (0, (5, [])))], [], []), (15, []))
def x_u279_33 : b_Cu := (26, ([(67, 112, 10428645247801962982510420207599616), (0, 7, 0)], [], [(0, (2, (113, []))), (1, (0, (0, [(0, 1)]))), (2, (0, (0, [(1, 1)]))), (3, (0, (2, []))), (4, (0, (6, [])))], [], []), (2, []))
def x_u279_34 : b_Cu := (5, ([(7, 56, 156549359667826944), (0, 7, 0)], [], [(0, (2, (113, []))), (1, (0, (0, [(0, 1)]))), (2, (0, (0, [(1, 1)]))), (3, (0, (3, []))), (4, (0, (6, [])))], [], []), (8, []))
def x_u279_35 : b_Cu := (5, ([(7, 112, 10428645247801963139059779875426560), (0, 7, 0)], [], [(0, (2, (113, []))), (1, (0, (0, [(0, 1)]))), (2, (0, (0, [(1, 1)]))), (3, (0, (3, []))), (4, (0, (7, [])))], [], []), (1, []))
def x_u279 : List b_Cu := [x_u279_0, x_u279_1, x_u279_2, x_u279_3, x_u279_4, x_u279_5, x_u279_6, x_u279_7, x_u279_8, x_u279_9, x_u279_10, x_u279_11, x_u279_12, x_u279_13, x_u279_14, x_u279_15, x_u279_16, x_u279_17, x_u279_18, x_u279_19, x_u279_20, x_u279_21, x_u279_22, x_u279_23, x_u279_24, x_u279_25, x_u279_26, x_u279_27, x_u279_28, x_u279_29, x_u279_30, x_u279_31, x_u279_32, x_u279_33, x_u279_34, x_u279_35]
-- M.middleBy, 4572 steps
theorem x_z279 : b_chk0 x_T x_k279 x_u279 = true := by decide +kernel
theorem x_e279 : b_chkE x_F x_T x_Z x_dep x_hn [x_k231] x_k279 x_u279 4632 = true := by decide +kernel
theorem x_c279_0 : b_chkC x_F x_T x_Z x_dep x_hn [x_k231] x_k279 x_u279 4632 x_u279_0 = true := by decide +kernel
theorem x_c279_1 : b_chkC x_F x_T x_Z x_dep x_hn [x_k231] x_k279 x_u279 4632 x_u279_1 = true := by decide +kernel
theorem x_c279_2 : b_chkC x_F x_T x_Z x_dep x_hn [x_k231] x_k279 x_u279 4632 x_u279_2 = true := by decide +kernel
theorem x_c279_3 : b_chkC x_F x_T x_Z x_dep x_hn [x_k231] x_k279 x_u279 4632 x_u279_3 = true := by decide +kernel
theorem x_c279_4 : b_chkC x_F x_T x_Z x_dep x_hn [x_k231] x_k279 x_u279 4632 x_u279_4 = true := by decide +kernel
theorem x_c279_5 : b_chkC x_F x_T x_Z x_dep x_hn [x_k231] x_k279 x_u279 4632 x_u279_5 = true := by decide +kernel
theorem x_c279_6 : b_chkC x_F x_T x_Z x_dep x_hn [x_k231] x_k279 x_u279 4632 x_u279_6 = true := by decide +kernel
theorem x_c279_7 : b_chkC x_F x_T x_Z x_dep x_hn [x_k231] x_k279 x_u279 4632 x_u279_7 = true := by decide +kernel
theorem x_c279_8 : b_chkC x_F x_T x_Z x_dep x_hn [x_k231] x_k279 x_u279 4632 x_u279_8 = true := by decide +kernel
theorem x_c279_9 : b_chkC x_F x_T x_Z x_dep x_hn [x_k231] x_k279 x_u279 4632 x_u279_9 = true := by decide +kernel
theorem x_c279_10 : b_chkC x_F x_T x_Z x_dep x_hn [x_k231] x_k279 x_u279 4632 x_u279_10 = true := by decide +kernel
theorem x_c279_11 : b_chkC x_F x_T x_Z x_dep x_hn [x_k231] x_k279 x_u279 4632 x_u279_11 = true := by decide +kernel
theorem x_c279_12 : b_chkC x_F x_T x_Z x_dep x_hn [x_k231] x_k279 x_u279 4632 x_u279_12 = true := by decide +kernel
theorem x_c279_13 : b_chkC x_F x_T x_Z x_dep x_hn [x_k231] x_k279 x_u279 4632 x_u279_13 = true := by decide +kernel
theorem x_c279_14 : b_chkC x_F x_T x_Z x_dep x_hn [x_k231] x_k279 x_u279 4632 x_u279_14 = true := by decide +kernel
theorem x_c279_15 : b_chkC x_F x_T x_Z x_dep x_hn [x_k231] x_k279 x_u279 4632 x_u279_15 = true := by decide +kernel
theorem x_c279_16 : b_chkC x_F x_T x_Z x_dep x_hn [x_k231] x_k279 x_u279 4632 x_u279_16 = true := by decide +kernel
theorem x_c279_17 : b_chkC x_F x_T x_Z x_dep x_hn [x_k231] x_k279 x_u279 4632 x_u279_17 = true := by decide +kernel
theorem x_c279_18 : b_chkC x_F x_T x_Z x_dep x_hn [x_k231] x_k279 x_u279 4632 x_u279_18 = true := by decide +kernel
theorem x_c279_19 : b_chkC x_F x_T x_Z x_dep x_hn [x_k231] x_k279 x_u279 4632 x_u279_19 = true := by decide +kernel
theorem x_c279_20 : b_chkC x_F x_T x_Z x_dep x_hn [x_k231] x_k279 x_u279 4632 x_u279_20 = true := by decide +kernel
theorem x_c279_21 : b_chkC x_F x_T x_Z x_dep x_hn [x_k231] x_k279 x_u279 4632 x_u279_21 = true := by decide +kernel
theorem x_c279_22 : b_chkC x_F x_T x_Z x_dep x_hn [x_k231] x_k279 x_u279 4632 x_u279_22 = true := by decide +kernel
theorem x_c279_23 : b_chkC x_F x_T x_Z x_dep x_hn [x_k231] x_k279 x_u279 4632 x_u279_23 = true := by decide +kernel
theorem x_c279_24 : b_chkC x_F x_T x_Z x_dep x_hn [x_k231] x_k279 x_u279 4632 x_u279_24 = true := by decide +kernel
theorem x_c279_25 : b_chkC x_F x_T x_Z x_dep x_hn [x_k231] x_k279 x_u279 4632 x_u279_25 = true := by decide +kernel
theorem x_c279_26 : b_chkC x_F x_T x_Z x_dep x_hn [x_k231] x_k279 x_u279 4632 x_u279_26 = true := by decide +kernel
theorem x_c279_27 : b_chkC x_F x_T x_Z x_dep x_hn [x_k231] x_k279 x_u279 4632 x_u279_27 = true := by decide +kernel
theorem x_c279_28 : b_chkC x_F x_T x_Z x_dep x_hn [x_k231] x_k279 x_u279 4632 x_u279_28 = true := by decide +kernel
theorem x_c279_29 : b_chkC x_F x_T x_Z x_dep x_hn [x_k231] x_k279 x_u279 4632 x_u279_29 = true := by decide +kernel
theorem x_c279_30 : b_chkC x_F x_T x_Z x_dep x_hn [x_k231] x_k279 x_u279 4632 x_u279_30 = true := by decide +kernel
theorem x_c279_31 : b_chkC x_F x_T x_Z x_dep x_hn [x_k231] x_k279 x_u279 4632 x_u279_31 = true := by decide +kernel
theorem x_c279_32 : b_chkC x_F x_T x_Z x_dep x_hn [x_k231] x_k279 x_u279 4632 x_u279_32 = true := by decide +kernel
theorem x_c279_33 : b_chkC x_F x_T x_Z x_dep x_hn [x_k231] x_k279 x_u279 4632 x_u279_33 = true := by decide +kernel
theorem x_c279_34 : b_chkC x_F x_T x_Z x_dep x_hn [x_k231] x_k279 x_u279 4632 x_u279_34 = true := by decide +kernel
theorem x_c279_35 : b_chkC x_F x_T x_Z x_dep x_hn [x_k231] x_k279 x_u279 4632 x_u279_35 = true := by decide +kernel
theorem x_v279 {N : Int} {fz : List (List Int32)} (hZ : b_ZOk x_Z (x_G N) fz) : b_Valid x_F fz x_T (x_G N) x_k279 := b_valid (x_gOk N) x_depOk hZ x_hn_ok (Γ := [x_k231]) (List.forall_mem_cons.mpr ⟨x_v231 hZ, fun _ h => absurd h List.not_mem_nil⟩) x_z279 x_e279 (List.forall_mem_cons.mpr ⟨x_c279_0, List.forall_mem_cons.mpr ⟨x_c279_1, List.forall_mem_cons.mpr ⟨x_c279_2, List.forall_mem_cons.mpr ⟨x_c279_3, List.forall_mem_cons.mpr ⟨x_c279_4, List.forall_mem_cons.mpr ⟨x_c279_5, List.forall_mem_cons.mpr ⟨x_c279_6, List.forall_mem_cons.mpr ⟨x_c279_7, List.forall_mem_cons.mpr ⟨x_c279_8, List.forall_mem_cons.mpr ⟨x_c279_9, List.forall_mem_cons.mpr ⟨x_c279_10, List.forall_mem_cons.mpr ⟨x_c279_11, List.forall_mem_cons.mpr ⟨x_c279_12, List.forall_mem_cons.mpr ⟨x_c279_13, List.forall_mem_cons.mpr ⟨x_c279_14, List.forall_mem_cons.mpr ⟨x_c279_15, List.forall_mem_cons.mpr ⟨x_c279_16, List.forall_mem_cons.mpr ⟨x_c279_17, List.forall_mem_cons.mpr ⟨x_c279_18, List.forall_mem_cons.mpr ⟨x_c279_19, List.forall_mem_cons.mpr ⟨x_c279_20, List.forall_mem_cons.mpr ⟨x_c279_21, List.forall_mem_cons.mpr ⟨x_c279_22, List.forall_mem_cons.mpr ⟨x_c279_23, List.forall_mem_cons.mpr ⟨x_c279_24, List.forall_mem_cons.mpr ⟨x_c279_25, List.forall_mem_cons.mpr ⟨x_c279_26, List.forall_mem_cons.mpr ⟨x_c279_27, List.forall_mem_cons.mpr ⟨x_c279_28, List.forall_mem_cons.mpr ⟨x_c279_29, List.forall_mem_cons.mpr ⟨x_c279_30, List.forall_mem_cons.mpr ⟨x_c279_31, List.forall_mem_cons.mpr ⟨x_c279_32, List.forall_mem_cons.mpr ⟨x_c279_33, List.forall_mem_cons.mpr ⟨x_c279_34, List.forall_mem_cons.mpr ⟨x_c279_35, fun _ h => absurd h List.not_mem_nil⟩⟩⟩⟩⟩⟩⟩⟩⟩⟩⟩⟩⟩⟩⟩⟩⟩⟩⟩⟩⟩⟩⟩⟩⟩⟩⟩⟩⟩⟩⟩⟩⟩⟩⟩⟩)
def x_k280 : b_K := (320, 5, ([(0, 7, 0), ((-1), 1, 0)], [], [], [(2, (113, [])), (0, (0, [(0, 1)])), (0, (0, [(1, 1)]))], []), [(137, 0)], [([(0, 7, 0), ((-1), 1, 0), ((-1), 126, 10428645247801963139059779875426561)], [], [], [(0, (0, [(2, 1)]))], [])])
def x_u280_0 : b_Cu := (5, ([(0, 7, 0), ((-1), 1, 0), ((-1), 126, 10428645247801963139059779875426561), (0, 128, 0)], [], [(0, (2, (113, []))), (1, (0, (0, [(0, 1)]))), (2, (0, (0, [(1, 1)]))), (3, (0, (0, [(2, 1)]))), (4, (0, (0, [(3, 1)])))], [], []), (128, [(3, (-1))]))
def x_u280 : List b_Cu := [x_u280_0]
-- M.setBy, 50 steps
theorem x_z280 : b_chk0 x_T x_k280 x_u280 = true := by decide +kernel
theorem x_e280 : b_chkE x_F x_T x_Z x_dep x_hn [x_k276, x_k279] x_k280 x_u280 120 = true := by decide +kernel
theorem x_c280_0 : b_chkC x_F x_T x_Z x_dep x_hn [x_k276, x_k279] x_k280 x_u280 120 x_u280_0 = true := by decide +kernel
theorem x_v280 {N : Int} {fz : List (List Int32)} (hZ : b_ZOk x_Z (x_G N) fz) : b_Valid x_F fz x_T (x_G N) x_k280 := b_valid (x_gOk N) x_depOk hZ x_hn_ok (Γ := [x_k276, x_k279]) (List.forall_mem_cons.mpr ⟨x_v276 hZ, List.forall_mem_cons.mpr ⟨x_v279 hZ, fun _ h => absurd h List.not_mem_nil⟩⟩) x_z280 x_e280 (List.forall_mem_cons.mpr ⟨x_c280_0, fun _ h => absurd h List.not_mem_nil⟩)
def x_k281 : b_K := (318, 7, ([((-2147483648), 2147483647, 0)], [], [], [(2, (113, [])), (0, (0, [(0, 1)]))], []), [(113, 1), (137, 0)], [([((-2147483648), 2147483647, 0), ((-2), 2147483647, 0)], [], [], [(0, (0, [(1, 1)]))], [])])
def x_u281 : List b_Cu := []
-- M.mild, 69 steps
theorem x_z281 : b_chk0 x_T x_k281 x_u281 = true := by decide +kernel
theorem x_e281 : b_chkE x_F x_T x_Z x_dep x_hn [x_k280, x_k279] x_k281 x_u281 129 = true := by decide +kernel
theorem x_v281 {N : Int} {fz : List (List Int32)} (hZ : b_ZOk x_Z (x_G N) fz) : b_Valid x_F fz x_T (x_G N) x_k281 := b_valid (x_gOk N) x_depOk hZ x_hn_ok (Γ := [x_k280, x_k279]) (List.forall_mem_cons.mpr ⟨x_v280 hZ, List.forall_mem_cons.mpr ⟨x_v279 hZ, fun _ h => absurd h List.not_mem_nil⟩⟩) x_z281 x_e281 (fun _ h => absurd h List.not_mem_nil)
def x_k282 : b_K := (322, 6, ([((-2147483648), 2147483647, 0)], [], [], [(2, (113, [])), (0, (0, [(0, 1)]))], []), [(113, 1), (137, 0)], [([((-2147483648), 2147483647, 0), ((-2), 126, 0)], [], [], [(0, (0, [(1, 1)]))], [])])
def x_u282 : List b_Cu := []
-- M.milds, 51 steps
theorem x_z282 : b_chk0 x_T x_k282 x_u282 = true := by decide +kernel
theorem x_e282 : b_chkE x_F x_T x_Z x_dep x_hn [x_k280] x_k282 x_u282 120 = true := by decide +kernel
theorem x_v282 {N : Int} {fz : List (List Int32)} (hZ : b_ZOk x_Z (x_G N) fz) : b_Valid x_F fz x_T (x_G N) x_k282 := b_valid (x_gOk N) x_depOk hZ x_hn_ok (Γ := [x_k280]) (List.forall_mem_cons.mpr ⟨x_v280 hZ, fun _ h => absurd h List.not_mem_nil⟩) x_z282 x_e282 (fun _ h => absurd h List.not_mem_nil)
def x_k283 : b_K := (323, 7, ([((-2147483648), 2147483647, 0)], [], [], [(2, (113, [])), (0, (0, [(0, 1)]))], []), [(113, 1), (137, 0)], [([((-2147483648), 2147483647, 0), ((-2), 2147483647, 0)], [], [], [(0, (0, [(1, 1)]))], [])])
def x_u283 : List b_Cu := []
-- M.harsh, 69 steps
theorem x_z283 : b_chk0 x_T x_k283 x_u283 = true := by decide +kernel
theorem x_e283 : b_chkE x_F x_T x_Z x_dep x_hn [x_k280, x_k279] x_k283 x_u283 129 = true := by decide +kernel
theorem x_v283 {N : Int} {fz : List (List Int32)} (hZ : b_ZOk x_Z (x_G N) fz) : b_Valid x_F fz x_T (x_G N) x_k283 := b_valid (x_gOk N) x_depOk hZ x_hn_ok (Γ := [x_k280, x_k279]) (List.forall_mem_cons.mpr ⟨x_v280 hZ, List.forall_mem_cons.mpr ⟨x_v279 hZ, fun _ h => absurd h List.not_mem_nil⟩⟩) x_z283 x_e283 (fun _ h => absurd h List.not_mem_nil)
def x_k284 : b_K := (324, 6, ([((-2147483648), 2147483647, 0)], [], [], [(2, (113, [])), (0, (0, [(0, 1)]))], []), [(113, 1), (137, 0)], [([((-2147483648), 2147483647, 0), ((-2), 126, 0)], [], [], [(0, (0, [(1, 1)]))], [])])
def x_u284 : List b_Cu := []
-- M.harshes, 51 steps
theorem x_z284 : b_chk0 x_T x_k284 x_u284 = true := by decide +kernel
theorem x_e284 : b_chkE x_F x_T x_Z x_dep x_hn [x_k280] x_k284 x_u284 120 = true := by decide +kernel
theorem x_v284 {N : Int} {fz : List (List Int32)} (hZ : b_ZOk x_Z (x_G N) fz) : b_Valid x_F fz x_T (x_G N) x_k284 := b_valid (x_gOk N) x_depOk hZ x_hn_ok (Γ := [x_k280]) (List.forall_mem_cons.mpr ⟨x_v280 hZ, fun _ h => absurd h List.not_mem_nil⟩) x_z284 x_e284 (fun _ h => absurd h List.not_mem_nil)
def x_k285 : b_K := (325, 5, ([((-2147483648), 2147483647, 0)], [], [], [(2, (113, [])), (0, (0, [(0, 1)]))], []), [(113, 1), (137, 0)], [([((-2147483648), 2147483647, 0), ((-2), 6, 0)], [], [], [(0, (0, [(1, 1)]))], [])])
def x_u285_0 : b_Cu := (24, ([(0, 7, 0), ((-1), 6, 0), (0, 2147483647, 0), (0, 7, 0)], [], [(0, (2, (113, []))), (1, (0, (0, [(0, 1)]))), (2, (0, (0, [(1, 1)]))), (3, (0, (0, [(2, 1)]))), (4, (0, (0, [(3, 1)])))], [], []), (1935, [(3, (-258))]))
def x_u285_1 : b_Cu := (39, ([(0, 7, 0), ((-1), 6, 0), (0, 2147483647, 0), (0, 6, 0), ((-2147483648), 2147483647, 0), (0, 128, 0)], [], [(0, (2, (113, []))), (1, (0, (0, [(0, 1)]))), (2, (0, (0, [(1, 1)]))), (3, (0, (0, [(2, 1)]))), (4, (0, (0, [(3, 1)]))), (5, (0, (0, [(4, 1)]))), (6, (0, (0, [(5, 1)])))], [], []), (1934, [(3, (-258)), (5, (-1))]))
def x_u285 : List b_Cu := [x_u285_0, x_u285_1]
-- M.kind, 138 steps
theorem x_z285 : b_chk0 x_T x_k285 x_u285 = true := by decide +kernel
theorem x_e285 : b_chkE x_F x_T x_Z x_dep x_hn [x_k276, x_k279] x_k285 x_u285 198 = true := by decide +kernel
theorem x_c285_0 : b_chkC x_F x_T x_Z x_dep x_hn [x_k276, x_k279] x_k285 x_u285 198 x_u285_0 = true := by decide +kernel
theorem x_c285_1 : b_chkC x_F x_T x_Z x_dep x_hn [x_k276, x_k279] x_k285 x_u285 198 x_u285_1 = true := by decide +kernel
theorem x_v285 {N : Int} {fz : List (List Int32)} (hZ : b_ZOk x_Z (x_G N) fz) : b_Valid x_F fz x_T (x_G N) x_k285 := b_valid (x_gOk N) x_depOk hZ x_hn_ok (Γ := [x_k276, x_k279]) (List.forall_mem_cons.mpr ⟨x_v276 hZ, List.forall_mem_cons.mpr ⟨x_v279 hZ, fun _ h => absurd h List.not_mem_nil⟩⟩) x_z285 x_e285 (List.forall_mem_cons.mpr ⟨x_c285_0, List.forall_mem_cons.mpr ⟨x_c285_1, fun _ h => absurd h List.not_mem_nil⟩⟩)
def x_k286 : b_K := (315, 1, ([((-1), 255, 0)], [], [], [(0, (0, [(0, 1)]))], []), [], [([(255, 255, 0)], [], [], [(0, (8, []))], []),
  ([(127, 254, 0)], [], [], [(0, (7, []))], []),
  ([(63, 252, 0)], [], [], [(0, (6, []))], []),
  ([(31, 248, 0)], [], [], [(0, (5, []))], []),
  ([(15, 240, 0)], [], [], [(0, (4, []))], []),
  ([(7, 224, 0)], [], [], [(0, (3, []))], []),
  ([(3, 192, 0)], [], [], [(0, (2, []))], []),
  ([(1, 128, 0)], [], [], [(0, (1, []))], []),
  ([(0, 0, 0)], [], [], [(0, (0, []))], []),
  ([((-1), (-1), 0)], [], [], [(0, (32, []))], [])])
def x_u286 : List b_Cu := []
-- M.sizeOf, 12617 steps
theorem x_z286 : b_chk0 x_T x_k286 x_u286 = true := by decide +kernel
theorem x_e286 : b_chkE x_F x_T x_Z x_dep x_hn [] x_k286 x_u286 12677 = true := by decide +kernel
theorem x_v286 {N : Int} {fz : List (List Int32)} (hZ : b_ZOk x_Z (x_G N) fz) : b_Valid x_F fz x_T (x_G N) x_k286 := b_valid (x_gOk N) x_depOk hZ x_hn_ok (Γ := []) (fun _ h => absurd h List.not_mem_nil) x_z286 x_e286 (fun _ h => absurd h List.not_mem_nil)
