/-! contracts and their checks (by program, cert3.py) -/
def x_k249 : b_K := (283, 6, ([((-2147483648), 2147483647, 0)], [], [], [(2, (113, [])), (0, (0, [(0, 1)]))], []), [(113, 1), (113, 24), (113, 25), (113, 26), (113, 31), (126, 0), (127, 0), (128, 0), (129, 0), (130, 0), (131, 0), (132, 0), (133, 0), (134, 0), (135, 0), (136, 0)], [([((-2147483648), 2147483647, 0), ((-2147483648), 2147483647, 0)], [], [], [(0, (0, [(1, 1)]))], [])])
def x_u249_0 : b_Cu := (24, ([(0, 6, 0), ((-2147483648), 2147483647, 0), (0, 28, 0)], [], [(0, (2, (113, []))), (1, (0, (0, [(0, 1)]))), (2, (0, (0, [(1, 1)]))), (3, (0, (0, [(2, 1)])))], [], []), (28, [(2, (-1))]))
def x_u249 : List b_Cu := [x_u249_0]
-- M.agrees, 122 steps
theorem x_z249 : b_chk0 x_T x_k249 x_u249 = true := by decide +kernel
theorem x_e249 : b_chkE x_F x_T x_Z x_dep x_hn [x_k228, x_k234, x_k248] x_k249 x_u249 182 = true := by decide +kernel
theorem x_c249_0 : b_chkC x_F x_T x_Z x_dep x_hn [x_k228, x_k234, x_k248] x_k249 x_u249 182 x_u249_0 = true := by decide +kernel
theorem x_v249 {N : Int} {fz : List (List Int32)} (hZ : b_ZOk x_Z (x_G N) fz) : b_Valid x_F fz x_T (x_G N) x_k249 := b_valid (x_gOk N) x_depOk hZ x_hn_ok (Γ := [x_k228, x_k234, x_k248]) (List.forall_mem_cons.mpr ⟨x_v228 hZ, List.forall_mem_cons.mpr ⟨x_v234 hZ, List.forall_mem_cons.mpr ⟨x_v248 hZ, fun _ h => absurd h List.not_mem_nil⟩⟩⟩) x_z249 x_e249 (List.forall_mem_cons.mpr ⟨x_c249_0, fun _ h => absurd h List.not_mem_nil⟩)
def x_k250 : b_K := (285, 6, ([((-2147483648), 2147483647, 0)], [], [], [(2, (113, [])), (0, (0, [(0, 1)]))], []), [(113, 1), (113, 24), (113, 25), (113, 26), (113, 31), (126, 0), (127, 0), (128, 0), (129, 0), (130, 0), (131, 0), (132, 0), (133, 0), (134, 0), (135, 0), (136, 0)], [([((-2147483648), 2147483647, 0), ((-2147483648), 2147483647, 0)], [], [], [(0, (0, [(1, 1)]))], [])])
def x_u250_0 : b_Cu := (24, ([(0, 6, 0), ((-2147483648), 2147483647, 0), (0, 28, 0)], [], [(0, (2, (113, []))), (1, (0, (0, [(0, 1)]))), (2, (0, (0, [(1, 1)]))), (3, (0, (0, [(2, 1)])))], [], []), (28, [(2, (-1))]))
def x_u250 : List b_Cu := [x_u250_0]
-- M.sum, 107 steps
theorem x_z250 : b_chk0 x_T x_k250 x_u250 = true := by decide +kernel
theorem x_e250 : b_chkE x_F x_T x_Z x_dep x_hn [x_k228, x_k234, x_k248] x_k250 x_u250 167 = true := by decide +kernel
theorem x_c250_0 : b_chkC x_F x_T x_Z x_dep x_hn [x_k228, x_k234, x_k248] x_k250 x_u250 167 x_u250_0 = true := by decide +kernel
theorem x_v250 {N : Int} {fz : List (List Int32)} (hZ : b_ZOk x_Z (x_G N) fz) : b_Valid x_F fz x_T (x_G N) x_k250 := b_valid (x_gOk N) x_depOk hZ x_hn_ok (Γ := [x_k228, x_k234, x_k248]) (List.forall_mem_cons.mpr ⟨x_v228 hZ, List.forall_mem_cons.mpr ⟨x_v234 hZ, List.forall_mem_cons.mpr ⟨x_v248 hZ, fun _ h => absurd h List.not_mem_nil⟩⟩⟩) x_z250 x_e250 (List.forall_mem_cons.mpr ⟨x_c250_0, fun _ h => absurd h List.not_mem_nil⟩)
def x_k251 : b_K := (286, 6, ([((-2147483648), 2147483647, 0), ((-2147483648), 2147483647, 0)], [], [], [(2, (113, [])), (0, (0, [(0, 1)])), (0, (0, [(1, 1)]))], []), [(113, 1), (113, 24), (113, 25), (113, 26), (113, 31), (126, 0), (127, 0), (128, 0), (129, 0), (130, 0), (131, 0), (132, 0), (133, 0), (134, 0), (135, 0), (136, 0)], [([((-2147483648), 2147483647, 0), ((-2147483648), 2147483647, 0), ((-2147483648), 2147483647, 0)], [], [], [(0, (0, [(2, 1)]))], [])])
def x_u251_0 : b_Cu := (33, ([(0, 6, 0), (0, 6, 0), ((-2147483648), 2147483647, 0), (0, 28, 0)], [], [(0, (2, (113, []))), (1, (0, (0, [(0, 1)]))), (2, (0, (0, [(1, 1)]))), (3, (0, (0, [(2, 1)]))), (4, (0, (0, [(3, 1)])))], [], []), (28, [(3, (-1))]))
def x_u251 : List b_Cu := [x_u251_0]
-- M.together, 181 steps
theorem x_z251 : b_chk0 x_T x_k251 x_u251 = true := by decide +kernel
theorem x_e251 : b_chkE x_F x_T x_Z x_dep x_hn [x_k228, x_k234] x_k251 x_u251 241 = true := by decide +kernel
theorem x_c251_0 : b_chkC x_F x_T x_Z x_dep x_hn [x_k228, x_k234] x_k251 x_u251 241 x_u251_0 = true := by decide +kernel
theorem x_v251 {N : Int} {fz : List (List Int32)} (hZ : b_ZOk x_Z (x_G N) fz) : b_Valid x_F fz x_T (x_G N) x_k251 := b_valid (x_gOk N) x_depOk hZ x_hn_ok (Γ := [x_k228, x_k234]) (List.forall_mem_cons.mpr ⟨x_v228 hZ, List.forall_mem_cons.mpr ⟨x_v234 hZ, fun _ h => absurd h List.not_mem_nil⟩⟩) x_z251 x_e251 (List.forall_mem_cons.mpr ⟨x_c251_0, fun _ h => absurd h List.not_mem_nil⟩)
def x_k252 : b_K := (289, 2, ([(0, 7, 0), (0, 14, 0)], [], [], [(2, (113, [])), (0, (0, [(0, 1)])), (0, (0, [(1, 1)]))], []), [], [([(0, 7, 0), (0, 14, 0), (0, 2147483647, 0)], [], [], [(0, (0, [(2, 1)]))], [])])
def x_u252_0 : b_Cu := (5, ([(0, 7, 0), (0, 14, 0), (0, 2147483647, 0), (0, 28, 0)], [], [(0, (2, (113, []))), (1, (0, (0, [(0, 1)]))), (2, (0, (0, [(1, 1)]))), (3, (0, (0, [(2, 1)]))), (4, (0, (0, [(3, 1)])))], [], []), (28, [(3, (-1))]))
def x_u252 : List b_Cu := [x_u252_0]
-- M.owesOf, 69 steps
theorem x_z252 : b_chk0 x_T x_k252 x_u252 = true := by decide +kernel
theorem x_e252 : b_chkE x_F x_T x_Z x_dep x_hn [] x_k252 x_u252 129 = true := by decide +kernel
theorem x_c252_0 : b_chkC x_F x_T x_Z x_dep x_hn [] x_k252 x_u252 129 x_u252_0 = true := by decide +kernel
theorem x_v252 {N : Int} {fz : List (List Int32)} (hZ : b_ZOk x_Z (x_G N) fz) : b_Valid x_F fz x_T (x_G N) x_k252 := b_valid (x_gOk N) x_depOk hZ x_hn_ok (Γ := []) (fun _ h => absurd h List.not_mem_nil) x_z252 x_e252 (List.forall_mem_cons.mpr ⟨x_c252_0, fun _ h => absurd h List.not_mem_nil⟩)
def x_k253 : b_K := (288, 3, ([(0, 14, 0)], [], [], [(2, (113, [])), (0, (0, [(0, 1)]))], []), [], [([(0, 14, 0), ((-2147483648), 2147483647, 0)], [], [], [(0, (0, [(1, 1)]))], [])])
def x_u253_0 : b_Cu := (4, ([(0, 14, 0), ((-2147483648), 2147483647, 0), (0, 8, 0)], [], [(0, (2, (113, []))), (1, (0, (0, [(0, 1)]))), (2, (0, (0, [(1, 1)]))), (3, (0, (0, [(2, 1)])))], [], []), (8, [(2, (-1))]))
def x_u253 : List b_Cu := [x_u253_0]
-- M.dueOn, 24 steps
theorem x_z253 : b_chk0 x_T x_k253 x_u253 = true := by decide +kernel
theorem x_e253 : b_chkE x_F x_T x_Z x_dep x_hn [x_k252] x_k253 x_u253 120 = true := by decide +kernel
theorem x_c253_0 : b_chkC x_F x_T x_Z x_dep x_hn [x_k252] x_k253 x_u253 120 x_u253_0 = true := by decide +kernel
theorem x_v253 {N : Int} {fz : List (List Int32)} (hZ : b_ZOk x_Z (x_G N) fz) : b_Valid x_F fz x_T (x_G N) x_k253 := b_valid (x_gOk N) x_depOk hZ x_hn_ok (Γ := [x_k252]) (List.forall_mem_cons.mpr ⟨x_v252 hZ, fun _ h => absurd h List.not_mem_nil⟩) x_z253 x_e253 (List.forall_mem_cons.mpr ⟨x_c253_0, fun _ h => absurd h List.not_mem_nil⟩)
def x_k254 : b_K := (287, 6, ([((-2147483648), 2147483647, 0)], [], [], [(2, (113, [])), (0, (0, [(0, 1)]))], []), [(113, 1), (113, 24), (113, 25), (113, 26), (113, 31), (126, 0), (127, 0), (128, 0), (129, 0), (130, 0), (131, 0), (132, 0), (133, 0), (134, 0), (135, 0), (136, 0)], [([((-2147483648), 2147483647, 0), ((-2147483648), 2147483647, 0)], [], [], [(0, (0, [(1, 1)]))], [])])
def x_u254 : List b_Cu := []
-- M.due, 80 steps
theorem x_z254 : b_chk0 x_T x_k254 x_u254 = true := by decide +kernel
theorem x_e254 : b_chkE x_F x_T x_Z x_dep x_hn [x_k228, x_k234, x_k253] x_k254 x_u254 140 = true := by decide +kernel
theorem x_v254 {N : Int} {fz : List (List Int32)} (hZ : b_ZOk x_Z (x_G N) fz) : b_Valid x_F fz x_T (x_G N) x_k254 := b_valid (x_gOk N) x_depOk hZ x_hn_ok (Γ := [x_k228, x_k234, x_k253]) (List.forall_mem_cons.mpr ⟨x_v228 hZ, List.forall_mem_cons.mpr ⟨x_v234 hZ, List.forall_mem_cons.mpr ⟨x_v253 hZ, fun _ h => absurd h List.not_mem_nil⟩⟩⟩) x_z254 x_e254 (fun _ h => absurd h List.not_mem_nil)
def x_k255 : b_K := (290, 6, ([((-2147483648), 2147483647, 0), ((-2147483648), 2147483647, 0)], [], [], [(2, (113, [])), (0, (0, [(0, 1)])), (0, (0, [(1, 1)]))], []), [(113, 1), (113, 24), (113, 25), (113, 26), (113, 31), (126, 0), (127, 0), (128, 0), (129, 0), (130, 0), (131, 0), (132, 0), (133, 0), (134, 0), (135, 0), (136, 0)], [([((-2147483648), 2147483647, 0), ((-2147483648), 2147483647, 0), ((-2), 2147483647, 0)], [], [], [(0, (0, [(2, 1)]))], [])])
def x_u255 : List b_Cu := []
-- M.owes, 123 steps
theorem x_z255 : b_chk0 x_T x_k255 x_u255 = true := by decide +kernel
theorem x_e255 : b_chkE x_F x_T x_Z x_dep x_hn [x_k228, x_k234, x_k252] x_k255 x_u255 183 = true := by decide +kernel
theorem x_v255 {N : Int} {fz : List (List Int32)} (hZ : b_ZOk x_Z (x_G N) fz) : b_Valid x_F fz x_T (x_G N) x_k255 := b_valid (x_gOk N) x_depOk hZ x_hn_ok (Γ := [x_k228, x_k234, x_k252]) (List.forall_mem_cons.mpr ⟨x_v228 hZ, List.forall_mem_cons.mpr ⟨x_v234 hZ, List.forall_mem_cons.mpr ⟨x_v252 hZ, fun _ h => absurd h List.not_mem_nil⟩⟩⟩) x_z255 x_e255 (fun _ h => absurd h List.not_mem_nil)
def x_k256 : b_K := (291, 6, ([((-2147483648), 2147483647, 0)], [], [], [(2, (113, [])), (0, (0, [(0, 1)]))], []), [(113, 1), (113, 24), (113, 25), (113, 26), (113, 31), (126, 0), (127, 0), (128, 0), (129, 0), (130, 0), (131, 0), (132, 0), (133, 0), (134, 0), (135, 0), (136, 0)], [([((-2147483648), 2147483647, 0), ((-2), 14, 0)], [], [], [(0, (0, [(1, 1)]))], [])])
def x_u256_0 : b_Cu := (50, ([(0, 7, 0), (1, 15, 0)], [], [(0, (2, (113, []))), (1, (0, (0, [(0, 1)]))), (2, (0, (0, [(1, 1)])))], [], []), (15, [(1, (-1))]))
def x_u256 : List b_Cu := [x_u256_0]
-- M.free, 104 steps
theorem x_z256 : b_chk0 x_T x_k256 x_u256 = true := by decide +kernel
theorem x_e256 : b_chkE x_F x_T x_Z x_dep x_hn [x_k228, x_k234, x_k252] x_k256 x_u256 164 = true := by decide +kernel
theorem x_c256_0 : b_chkC x_F x_T x_Z x_dep x_hn [x_k228, x_k234, x_k252] x_k256 x_u256 164 x_u256_0 = true := by decide +kernel
theorem x_v256 {N : Int} {fz : List (List Int32)} (hZ : b_ZOk x_Z (x_G N) fz) : b_Valid x_F fz x_T (x_G N) x_k256 := b_valid (x_gOk N) x_depOk hZ x_hn_ok (Γ := [x_k228, x_k234, x_k252]) (List.forall_mem_cons.mpr ⟨x_v228 hZ, List.forall_mem_cons.mpr ⟨x_v234 hZ, List.forall_mem_cons.mpr ⟨x_v252 hZ, fun _ h => absurd h List.not_mem_nil⟩⟩⟩) x_z256 x_e256 (List.forall_mem_cons.mpr ⟨x_c256_0, fun _ h => absurd h List.not_mem_nil⟩)
def x_k257 : b_K := (292, 6, ([], [], [], [(2, (113, []))], []), [(113, 1), (113, 24), (113, 25), (113, 26), (113, 31), (126, 0), (127, 0), (128, 0), (129, 0), (130, 0), (131, 0), (132, 0), (133, 0), (134, 0), (135, 0), (136, 0)], [([((-2), 14, 0)], [], [], [(0, (0, [(0, 1)]))], [])])
def x_u257_0 : b_Cu := (23, ([(0, 14, 0), (1, 15, 0)], [], [(0, (2, (113, []))), (1, (0, (0, [(0, 1)]))), (2, (0, (0, [(1, 1)])))], [], []), (15, [(1, (-1))]))
def x_u257 : List b_Cu := [x_u257_0]
-- M.most, 54 steps
theorem x_z257 : b_chk0 x_T x_k257 x_u257 = true := by decide +kernel
theorem x_e257 : b_chkE x_F x_T x_Z x_dep x_hn [x_k228, x_k234, x_k253] x_k257 x_u257 120 = true := by decide +kernel
theorem x_c257_0 : b_chkC x_F x_T x_Z x_dep x_hn [x_k228, x_k234, x_k253] x_k257 x_u257 120 x_u257_0 = true := by decide +kernel
theorem x_v257 {N : Int} {fz : List (List Int32)} (hZ : b_ZOk x_Z (x_G N) fz) : b_Valid x_F fz x_T (x_G N) x_k257 := b_valid (x_gOk N) x_depOk hZ x_hn_ok (Γ := [x_k228, x_k234, x_k253]) (List.forall_mem_cons.mpr ⟨x_v228 hZ, List.forall_mem_cons.mpr ⟨x_v234 hZ, List.forall_mem_cons.mpr ⟨x_v253 hZ, fun _ h => absurd h List.not_mem_nil⟩⟩⟩) x_z257 x_e257 (List.forall_mem_cons.mpr ⟨x_c257_0, fun _ h => absurd h List.not_mem_nil⟩)
def x_k258 : b_K := (294, 3, ([], [], [], [(2, (113, []))], []), [], [([((-2147483648), 2147483647, 0)], [], [], [(0, (0, [(0, 1)]))], [])])
def x_u258_0 : b_Cu := (4, ([((-2147483648), 2147483647, 0), (0, 8, 0)], [], [(0, (2, (113, []))), (1, (0, (0, [(0, 1)]))), (2, (0, (0, [(1, 1)])))], [], []), (8, [(1, (-1))]))
def x_u258 : List b_Cu := [x_u258_0]
-- M.allNow, 71 steps
theorem x_z258 : b_chk0 x_T x_k258 x_u258 = true := by decide +kernel
theorem x_e258 : b_chkE x_F x_T x_Z x_dep x_hn [] x_k258 x_u258 131 = true := by decide +kernel
theorem x_c258_0 : b_chkC x_F x_T x_Z x_dep x_hn [] x_k258 x_u258 131 x_u258_0 = true := by decide +kernel
theorem x_v258 {N : Int} {fz : List (List Int32)} (hZ : b_ZOk x_Z (x_G N) fz) : b_Valid x_F fz x_T (x_G N) x_k258 := b_valid (x_gOk N) x_depOk hZ x_hn_ok (Γ := []) (fun _ h => absurd h List.not_mem_nil) x_z258 x_e258 (List.forall_mem_cons.mpr ⟨x_c258_0, fun _ h => absurd h List.not_mem_nil⟩)
def x_k259 : b_K := (293, 6, ([], [], [], [(2, (113, []))], []), [(113, 1), (113, 24), (113, 25), (113, 26), (113, 31), (126, 0), (127, 0), (128, 0), (129, 0), (130, 0), (131, 0), (132, 0), (133, 0), (134, 0), (135, 0), (136, 0)], [([((-2147483648), 2147483647, 0)], [], [], [(0, (0, [(0, 1)]))], [])])
def x_u259 : List b_Cu := []
-- M.all, 29 steps
theorem x_z259 : b_chk0 x_T x_k259 x_u259 = true := by decide +kernel
theorem x_e259 : b_chkE x_F x_T x_Z x_dep x_hn [x_k228, x_k234, x_k258] x_k259 x_u259 120 = true := by decide +kernel
theorem x_v259 {N : Int} {fz : List (List Int32)} (hZ : b_ZOk x_Z (x_G N) fz) : b_Valid x_F fz x_T (x_G N) x_k259 := b_valid (x_gOk N) x_depOk hZ x_hn_ok (Γ := [x_k228, x_k234, x_k258]) (List.forall_mem_cons.mpr ⟨x_v228 hZ, List.forall_mem_cons.mpr ⟨x_v234 hZ, List.forall_mem_cons.mpr ⟨x_v258 hZ, fun _ h => absurd h List.not_mem_nil⟩⟩⟩) x_z259 x_e259 (fun _ h => absurd h List.not_mem_nil)
def x_k260 : b_K := (296, 6, ([], [], [], [(2, (113, []))], []), [(113, 1), (113, 24), (113, 25), (113, 26), (113, 31), (126, 0), (127, 0), (128, 0), (129, 0), (130, 0), (131, 0), (132, 0), (133, 0), (134, 0), (135, 0), (136, 0)], [([((-2), 7, 0)], [], [], [(0, (0, [(0, 1)]))], [])])
def x_u260_0 : b_Cu := (23, ([((-1), 7, 0), (0, 8, 0)], [], [(0, (2, (113, []))), (1, (0, (0, [(0, 1)]))), (2, (0, (0, [(1, 1)])))], [], []), (8, [(1, (-1))]))
def x_u260 : List b_Cu := [x_u260_0]
-- M.worst, 141 steps
theorem x_z260 : b_chk0 x_T x_k260 x_u260 = true := by decide +kernel
theorem x_e260 : b_chkE x_F x_T x_Z x_dep x_hn [x_k228, x_k234] x_k260 x_u260 201 = true := by decide +kernel
theorem x_c260_0 : b_chkC x_F x_T x_Z x_dep x_hn [x_k228, x_k234] x_k260 x_u260 201 x_u260_0 = true := by decide +kernel
theorem x_v260 {N : Int} {fz : List (List Int32)} (hZ : b_ZOk x_Z (x_G N) fz) : b_Valid x_F fz x_T (x_G N) x_k260 := b_valid (x_gOk N) x_depOk hZ x_hn_ok (Γ := [x_k228, x_k234]) (List.forall_mem_cons.mpr ⟨x_v228 hZ, List.forall_mem_cons.mpr ⟨x_v234 hZ, fun _ h => absurd h List.not_mem_nil⟩⟩) x_z260 x_e260 (List.forall_mem_cons.mpr ⟨x_c260_0, fun _ h => absurd h List.not_mem_nil⟩)
def x_k261 : b_K := (298, 2, ([(0, 14, 0), ((-1), 1, 0)], [], [], [(2, (113, [])), (0, (0, [(0, 1)])), (0, (0, [(1, 1)]))], []), [], [([(0, 14, 0), ((-1), 1, 0), ((-1), 6, 0)], [], [], [(0, (0, [(2, 1)]))], [])])
def x_u261_0 : b_Cu := (5, ([(0, 14, 0), ((-1), 1, 0), ((-1), 6, 0), (0, 7, 0)], [], [(0, (2, (113, []))), (1, (0, (0, [(0, 1)]))), (2, (0, (0, [(1, 1)]))), (3, (0, (0, [(2, 1)]))), (4, (0, (0, [(3, 1)])))], [], []), (7, [(3, (-1))]))
def x_u261 : List b_Cu := [x_u261_0]
-- M.oneBy, 49 steps
theorem x_z261 : b_chk0 x_T x_k261 x_u261 = true := by decide +kernel
theorem x_e261 : b_chkE x_F x_T x_Z x_dep x_hn [] x_k261 x_u261 120 = true := by decide +kernel
theorem x_c261_0 : b_chkC x_F x_T x_Z x_dep x_hn [] x_k261 x_u261 120 x_u261_0 = true := by decide +kernel
theorem x_v261 {N : Int} {fz : List (List Int32)} (hZ : b_ZOk x_Z (x_G N) fz) : b_Valid x_F fz x_T (x_G N) x_k261 := b_valid (x_gOk N) x_depOk hZ x_hn_ok (Γ := []) (fun _ h => absurd h List.not_mem_nil) x_z261 x_e261 (List.forall_mem_cons.mpr ⟨x_c261_0, fun _ h => absurd h List.not_mem_nil⟩)
def x_k262 : b_K := (297, 6, ([((-2147483648), 2147483647, 0)], [], [], [(2, (113, [])), (0, (0, [(0, 1)]))], []), [(113, 1), (113, 24), (113, 25), (113, 26), (113, 31), (126, 0), (127, 0), (128, 0), (129, 0), (130, 0), (131, 0), (132, 0), (133, 0), (134, 0), (135, 0), (136, 0)], [([((-2147483648), 2147483647, 0), ((-2), 6, 0)], [], [], [(0, (0, [(1, 1)]))], [])])
def x_u262 : List b_Cu := []
-- M.hardest, 81 steps
theorem x_z262 : b_chk0 x_T x_k262 x_u262 = true := by decide +kernel
theorem x_e262 : b_chkE x_F x_T x_Z x_dep x_hn [x_k228, x_k234, x_k261] x_k262 x_u262 141 = true := by decide +kernel
theorem x_v262 {N : Int} {fz : List (List Int32)} (hZ : b_ZOk x_Z (x_G N) fz) : b_Valid x_F fz x_T (x_G N) x_k262 := b_valid (x_gOk N) x_depOk hZ x_hn_ok (Γ := [x_k228, x_k234, x_k261]) (List.forall_mem_cons.mpr ⟨x_v228 hZ, List.forall_mem_cons.mpr ⟨x_v234 hZ, List.forall_mem_cons.mpr ⟨x_v261 hZ, fun _ h => absurd h List.not_mem_nil⟩⟩⟩) x_z262 x_e262 (fun _ h => absurd h List.not_mem_nil)
def x_k263 : b_K := (299, 6, ([((-2147483648), 2147483647, 0)], [], [], [(2, (113, [])), (0, (0, [(0, 1)]))], []), [(113, 1), (113, 24), (113, 25), (113, 26), (113, 31), (126, 0), (127, 0), (128, 0), (129, 0), (130, 0), (131, 0), (132, 0), (133, 0), (134, 0), (135, 0), (136, 0)], [([((-2147483648), 2147483647, 0), ((-2), 6, 0)], [], [], [(0, (0, [(1, 1)]))], [])])
def x_u263 : List b_Cu := []
-- M.softest, 81 steps
theorem x_z263 : b_chk0 x_T x_k263 x_u263 = true := by decide +kernel
theorem x_e263 : b_chkE x_F x_T x_Z x_dep x_hn [x_k228, x_k234, x_k261] x_k263 x_u263 141 = true := by decide +kernel
theorem x_v263 {N : Int} {fz : List (List Int32)} (hZ : b_ZOk x_Z (x_G N) fz) : b_Valid x_F fz x_T (x_G N) x_k263 := b_valid (x_gOk N) x_depOk hZ x_hn_ok (Γ := [x_k228, x_k234, x_k261]) (List.forall_mem_cons.mpr ⟨x_v228 hZ, List.forall_mem_cons.mpr ⟨x_v234 hZ, List.forall_mem_cons.mpr ⟨x_v261 hZ, fun _ h => absurd h List.not_mem_nil⟩⟩⟩) x_z263 x_e263 (fun _ h => absurd h List.not_mem_nil)
def x_k264 : b_K := (300, 6, ([], [], [], [(2, (113, []))], []), [(113, 1), (113, 24), (113, 25), (113, 26), (113, 31), (126, 0), (127, 0), (128, 0), (129, 0), (130, 0), (131, 0), (132, 0), (133, 0), (134, 0), (135, 0), (136, 0)], [([((-2), 6, 0)], [], [], [(0, (0, [(0, 1)]))], [])])
def x_u264_0 : b_Cu := (23, ([((-1), 6, 0), (0, 7, 0)], [], [(0, (2, (113, []))), (1, (0, (0, [(0, 1)]))), (2, (0, (0, [(1, 1)])))], [], []), (7, [(1, (-1))]))
def x_u264 : List b_Cu := [x_u264_0]
-- M.busy, 63 steps
theorem x_z264 : b_chk0 x_T x_k264 x_u264 = true := by decide +kernel
theorem x_e264 : b_chkE x_F x_T x_Z x_dep x_hn [x_k228, x_k234] x_k264 x_u264 123 = true := by decide +kernel
theorem x_c264_0 : b_chkC x_F x_T x_Z x_dep x_hn [x_k228, x_k234] x_k264 x_u264 123 x_u264_0 = true := by decide +kernel
theorem x_v264 {N : Int} {fz : List (List Int32)} (hZ : b_ZOk x_Z (x_G N) fz) : b_Valid x_F fz x_T (x_G N) x_k264 := b_valid (x_gOk N) x_depOk hZ x_hn_ok (Γ := [x_k228, x_k234]) (List.forall_mem_cons.mpr ⟨x_v228 hZ, List.forall_mem_cons.mpr ⟨x_v234 hZ, fun _ h => absurd h List.not_mem_nil⟩⟩) x_z264 x_e264 (List.forall_mem_cons.mpr ⟨x_c264_0, fun _ h => absurd h List.not_mem_nil⟩)
def x_k265 : b_K := (301, 6, ([], [], [], [(2, (113, []))], []), [(113, 1), (113, 24), (113, 25), (113, 26), (113, 31), (126, 0), (127, 0), (128, 0), (129, 0), (130, 0), (131, 0), (132, 0), (133, 0), (134, 0), (135, 0), (136, 0)], [([((-2147483648), 2147483647, 0)], [], [], [(0, (0, [(0, 1)]))], [])])
def x_u265_0 : b_Cu := (23, ([((-2147483648), 2147483647, 0), (0, 7, 0)], [], [(0, (2, (113, []))), (1, (0, (0, [(0, 1)]))), (2, (0, (0, [(1, 1)])))], [], []), (7, [(1, (-1))]))
def x_u265 : List b_Cu := [x_u265_0]
-- M.idle, 65 steps
theorem x_z265 : b_chk0 x_T x_k265 x_u265 = true := by decide +kernel
theorem x_e265 : b_chkE x_F x_T x_Z x_dep x_hn [x_k228, x_k234] x_k265 x_u265 125 = true := by decide +kernel
theorem x_c265_0 : b_chkC x_F x_T x_Z x_dep x_hn [x_k228, x_k234] x_k265 x_u265 125 x_u265_0 = true := by decide +kernel
theorem x_v265 {N : Int} {fz : List (List Int32)} (hZ : b_ZOk x_Z (x_G N) fz) : b_Valid x_F fz x_T (x_G N) x_k265 := b_valid (x_gOk N) x_depOk hZ x_hn_ok (Γ := [x_k228, x_k234]) (List.forall_mem_cons.mpr ⟨x_v228 hZ, List.forall_mem_cons.mpr ⟨x_v234 hZ, fun _ h => absurd h List.not_mem_nil⟩⟩) x_z265 x_e265 (List.forall_mem_cons.mpr ⟨x_c265_0, fun _ h => absurd h List.not_mem_nil⟩)
def x_k266 : b_K := (302, 6, ([((-2147483648), 2147483647, 0)], [], [], [(2, (113, [])), (0, (0, [(0, 1)]))], []), [(113, 1), (113, 24), (113, 25), (113, 26), (113, 31), (126, 0), (127, 0), (128, 0), (129, 0), (130, 0), (131, 0), (132, 0), (133, 0), (134, 0), (135, 0), (136, 0)], [([((-2147483648), 2147483647, 0), ((-2147483648), 2147483647, 0)], [], [], [(0, (0, [(1, 1)]))], [])])
def x_u266_0 : b_Cu := (24, ([(0, 13, 0), ((-2147483648), 2147483647, 0), (0, 28, 0)], [], [(0, (2, (113, []))), (1, (0, (0, [(0, 1)]))), (2, (0, (0, [(1, 1)]))), (3, (0, (0, [(2, 1)])))], [], []), (28, [(2, (-1))]))
def x_u266 : List b_Cu := [x_u266_0]
-- M.docket, 84 steps
theorem x_z266 : b_chk0 x_T x_k266 x_u266 = true := by decide +kernel
theorem x_e266 : b_chkE x_F x_T x_Z x_dep x_hn [x_k228, x_k234] x_k266 x_u266 144 = true := by decide +kernel
theorem x_c266_0 : b_chkC x_F x_T x_Z x_dep x_hn [x_k228, x_k234] x_k266 x_u266 144 x_u266_0 = true := by decide +kernel
theorem x_v266 {N : Int} {fz : List (List Int32)} (hZ : b_ZOk x_Z (x_G N) fz) : b_Valid x_F fz x_T (x_G N) x_k266 := b_valid (x_gOk N) x_depOk hZ x_hn_ok (Γ := [x_k228, x_k234]) (List.forall_mem_cons.mpr ⟨x_v228 hZ, List.forall_mem_cons.mpr ⟨x_v234 hZ, fun _ h => absurd h List.not_mem_nil⟩⟩) x_z266 x_e266 (List.forall_mem_cons.mpr ⟨x_c266_0, fun _ h => absurd h List.not_mem_nil⟩)
def x_k267 : b_K := (304, 6, ([((-2147483648), 2147483647, 0)], [], [], [(2, (113, [])), (0, (0, [(0, 1)]))], []), [(113, 1), (113, 24), (113, 25), (113, 26), (113, 31), (126, 0), (127, 0), (128, 0), (129, 0), (130, 0), (131, 0), (132, 0), (133, 0), (134, 0), (135, 0), (136, 0)], [([((-2147483648), 2147483647, 0), ((-1000), 60, 0)], [], [], [(0, (0, [(1, 1)]))], [])])
def x_u267 : List b_Cu := []
-- M.rise, 62 steps
theorem x_z267 : b_chk0 x_T x_k267 x_u267 = true := by decide +kernel
theorem x_e267 : b_chkE x_F x_T x_Z x_dep x_hn [x_k228, x_k234] x_k267 x_u267 122 = true := by decide +kernel
theorem x_v267 {N : Int} {fz : List (List Int32)} (hZ : b_ZOk x_Z (x_G N) fz) : b_Valid x_F fz x_T (x_G N) x_k267 := b_valid (x_gOk N) x_depOk hZ x_hn_ok (Γ := [x_k228, x_k234]) (List.forall_mem_cons.mpr ⟨x_v228 hZ, List.forall_mem_cons.mpr ⟨x_v234 hZ, fun _ h => absurd h List.not_mem_nil⟩⟩) x_z267 x_e267 (fun _ h => absurd h List.not_mem_nil)
def x_k268 : b_K := (305, 6, ([((-2147483648), 2147483647, 0)], [], [], [(2, (113, [])), (0, (0, [(0, 1)]))], []), [(113, 1), (113, 24), (113, 25), (113, 26), (113, 31), (126, 0), (127, 0), (128, 0), (129, 0), (130, 0), (131, 0), (132, 0), (133, 0), (134, 0), (135, 0), (136, 0)], [([((-2147483648), 2147483647, 0), ((-2147483648), 2147483647, 0)], [], [], [(0, (0, [(1, 1)]))], [])])
def x_u268_0 : b_Cu := (24, ([(0, 14, 0), ((-2147483648), 2147483647, 0), (0, 8, 0)], [], [(0, (2, (113, []))), (1, (0, (0, [(0, 1)]))), (2, (0, (0, [(1, 1)]))), (3, (0, (0, [(2, 1)])))], [], []), (8, [(2, (-1))]))
def x_u268 : List b_Cu := [x_u268_0]
-- M.writers, 110 steps
theorem x_z268 : b_chk0 x_T x_k268 x_u268 = true := by decide +kernel
theorem x_e268 : b_chkE x_F x_T x_Z x_dep x_hn [x_k228, x_k234, x_k252] x_k268 x_u268 170 = true := by decide +kernel
theorem x_c268_0 : b_chkC x_F x_T x_Z x_dep x_hn [x_k228, x_k234, x_k252] x_k268 x_u268 170 x_u268_0 = true := by decide +kernel
theorem x_v268 {N : Int} {fz : List (List Int32)} (hZ : b_ZOk x_Z (x_G N) fz) : b_Valid x_F fz x_T (x_G N) x_k268 := b_valid (x_gOk N) x_depOk hZ x_hn_ok (Γ := [x_k228, x_k234, x_k252]) (List.forall_mem_cons.mpr ⟨x_v228 hZ, List.forall_mem_cons.mpr ⟨x_v234 hZ, List.forall_mem_cons.mpr ⟨x_v252 hZ, fun _ h => absurd h List.not_mem_nil⟩⟩⟩) x_z268 x_e268 (List.forall_mem_cons.mpr ⟨x_c268_0, fun _ h => absurd h List.not_mem_nil⟩)
def x_k269 : b_K := (307, 6, ([(0, 6, 0), ((-1), 1, 0)], [], [], [(2, (113, [])), (0, (0, [(0, 1)])), (0, (0, [(1, 1)]))], []), [(113, 24), (113, 25), (113, 26), (113, 31), (126, 0), (127, 0), (128, 0), (129, 0), (130, 0), (131, 0), (132, 0), (133, 0), (134, 0), (135, 0), (136, 0)], [([(0, 6, 0), ((-1), 1, 0), ((-2147483648), 2147483647, 0)], [], [], [(0, (0, [(2, 1)]))], [])])
def x_u269_0 : b_Cu := (9, ([(0, 6, 0), ((-1), 1, 0), ((-2147483648), 2147483647, 0), (0, 28, 0)], [], [(0, (2, (113, []))), (1, (0, (0, [(0, 1)]))), (2, (0, (0, [(1, 1)]))), (3, (0, (0, [(2, 1)]))), (4, (0, (0, [(3, 1)])))], [], []), (228, [(3, (-8))]))
def x_u269_1 : b_Cu := (37, ([(0, 6, 0), ((-1), 1, 0), ((-2147483648), 2147483647, 0), (0, 27, 0), ((-2147483648), 2147483647, 0), (3, 6, 0)], [], [(0, (2, (113, []))), (1, (0, (0, [(0, 1)]))), (2, (0, (0, [(1, 1)]))), (3, (0, (0, [(2, 1)]))), (4, (0, (0, [(3, 1)]))), (5, (0, (0, [(4, 1)]))), (6, (0, (0, [(5, 1)])))], [], []), (230, [(3, (-8)), (5, (-1))]))
def x_u269 : List b_Cu := [x_u269_0, x_u269_1]
-- M.beyond, 106 steps
theorem x_z269 : b_chk0 x_T x_k269 x_u269 = true := by decide +kernel
theorem x_e269 : b_chkE x_F x_T x_Z x_dep x_hn [x_k228, x_k234, x_k248] x_k269 x_u269 166 = true := by decide +kernel
theorem x_c269_0 : b_chkC x_F x_T x_Z x_dep x_hn [x_k228, x_k234, x_k248] x_k269 x_u269 166 x_u269_0 = true := by decide +kernel
theorem x_c269_1 : b_chkC x_F x_T x_Z x_dep x_hn [x_k228, x_k234, x_k248] x_k269 x_u269 166 x_u269_1 = true := by decide +kernel
theorem x_v269 {N : Int} {fz : List (List Int32)} (hZ : b_ZOk x_Z (x_G N) fz) : b_Valid x_F fz x_T (x_G N) x_k269 := b_valid (x_gOk N) x_depOk hZ x_hn_ok (Γ := [x_k228, x_k234, x_k248]) (List.forall_mem_cons.mpr ⟨x_v228 hZ, List.forall_mem_cons.mpr ⟨x_v234 hZ, List.forall_mem_cons.mpr ⟨x_v248 hZ, fun _ h => absurd h List.not_mem_nil⟩⟩⟩) x_z269 x_e269 (List.forall_mem_cons.mpr ⟨x_c269_0, List.forall_mem_cons.mpr ⟨x_c269_1, fun _ h => absurd h List.not_mem_nil⟩⟩)
def x_k270 : b_K := (306, 7, ([((-2147483648), 2147483647, 0)], [], [], [(2, (113, [])), (0, (0, [(0, 1)]))], []), [(113, 1), (113, 24), (113, 25), (113, 26), (113, 31), (126, 0), (127, 0), (128, 0), (129, 0), (130, 0), (131, 0), (132, 0), (133, 0), (134, 0), (135, 0), (136, 0)], [([((-2147483648), 2147483647, 0), ((-2147483648), 2147483647, 0)], [], [], [(0, (0, [(1, 1)]))], [])])
def x_u270 : List b_Cu := []
-- M.above, 51 steps
theorem x_z270 : b_chk0 x_T x_k270 x_u270 = true := by decide +kernel
theorem x_e270 : b_chkE x_F x_T x_Z x_dep x_hn [x_k269] x_k270 x_u270 120 = true := by decide +kernel
theorem x_v270 {N : Int} {fz : List (List Int32)} (hZ : b_ZOk x_Z (x_G N) fz) : b_Valid x_F fz x_T (x_G N) x_k270 := b_valid (x_gOk N) x_depOk hZ x_hn_ok (Γ := [x_k269]) (List.forall_mem_cons.mpr ⟨x_v269 hZ, fun _ h => absurd h List.not_mem_nil⟩) x_z270 x_e270 (fun _ h => absurd h List.not_mem_nil)
def x_k271 : b_K := (308, 7, ([((-2147483648), 2147483647, 0)], [], [], [(2, (113, [])), (0, (0, [(0, 1)]))], []), [(113, 1), (113, 24), (113, 25), (113, 26), (113, 31), (126, 0), (127, 0), (128, 0), (129, 0), (130, 0), (131, 0), (132, 0), (133, 0), (134, 0), (135, 0), (136, 0)], [([((-2147483648), 2147483647, 0), ((-2147483648), 2147483647, 0)], [], [], [(0, (0, [(1, 1)]))], [])])
def x_u271 : List b_Cu := []
-- M.below, 51 steps
theorem x_z271 : b_chk0 x_T x_k271 x_u271 = true := by decide +kernel
theorem x_e271 : b_chkE x_F x_T x_Z x_dep x_hn [x_k269] x_k271 x_u271 120 = true := by decide +kernel
theorem x_v271 {N : Int} {fz : List (List Int32)} (hZ : b_ZOk x_Z (x_G N) fz) : b_Valid x_F fz x_T (x_G N) x_k271 := b_valid (x_gOk N) x_depOk hZ x_hn_ok (Γ := [x_k269]) (List.forall_mem_cons.mpr ⟨x_v269 hZ, fun _ h => absurd h List.not_mem_nil⟩) x_z271 x_e271 (fun _ h => absurd h List.not_mem_nil)
def x_k272 : b_K := (309, 6, ([], [], [], [(2, (113, []))], []), [(113, 1), (113, 24), (113, 25), (113, 26), (113, 31), (126, 0), (127, 0), (128, 0), (129, 0), (130, 0), (131, 0), (132, 0), (133, 0), (134, 0), (135, 0), (136, 0)], [([((-2), 7, 0)], [], [], [(0, (0, [(0, 1)]))], [])])
def x_u272_0 : b_Cu := (23, ([(0, 8, 0)], [], [(0, (2, (113, []))), (1, (0, ((-1), []))), (2, (0, (0, [(0, 1)])))], [], []), (17, [(0, (-1))]))
def x_u272_1 : b_Cu := (23, ([(0, 7, 0), (1, 8, 0), (0, 27, 0)], [], [(0, (2, (113, []))), (1, (0, (0, [(0, 1)]))), (2, (0, (0, [(1, 1)])))], [], [(135, (0, [(0, 1)]), (0, (0, [(2, 1)])))]), (8, [(1, (-1))]))
def x_u272 : List b_Cu := [x_u272_0, x_u272_1]
-- M.dissent, 437 steps
theorem x_z272 : b_chk0 x_T x_k272 x_u272 = true := by decide +kernel
theorem x_e272 : b_chkE x_F x_T x_Z x_dep x_hn [x_k228, x_k234, x_k241] x_k272 x_u272 497 = true := by decide +kernel
theorem x_c272_0 : b_chkC x_F x_T x_Z x_dep x_hn [x_k228, x_k234, x_k241] x_k272 x_u272 497 x_u272_0 = true := by decide +kernel
theorem x_c272_1 : b_chkC x_F x_T x_Z x_dep x_hn [x_k228, x_k234, x_k241] x_k272 x_u272 497 x_u272_1 = true := by decide +kernel
theorem x_v272 {N : Int} {fz : List (List Int32)} (hZ : b_ZOk x_Z (x_G N) fz) : b_Valid x_F fz x_T (x_G N) x_k272 := b_valid (x_gOk N) x_depOk hZ x_hn_ok (Γ := [x_k228, x_k234, x_k241]) (List.forall_mem_cons.mpr ⟨x_v228 hZ, List.forall_mem_cons.mpr ⟨x_v234 hZ, List.forall_mem_cons.mpr ⟨x_v241 hZ, fun _ h => absurd h List.not_mem_nil⟩⟩⟩) x_z272 x_e272 (List.forall_mem_cons.mpr ⟨x_c272_0, List.forall_mem_cons.mpr ⟨x_c272_1, fun _ h => absurd h List.not_mem_nil⟩⟩)
def x_k273 : b_K := (310, 6, ([], [], [], [(2, (113, []))], []), [(113, 1), (113, 24), (113, 25), (113, 26), (113, 31), (126, 0), (127, 0), (128, 0), (129, 0), (130, 0), (131, 0), (132, 0), (133, 0), (134, 0), (135, 0), (136, 0)], [([((-2147483648), 2147483647, 0)], [], [], [(0, (0, [(0, 1)]))], [])])
def x_u273_0 : b_Cu := (23, ([((-2147483648), 2147483647, 0), (0, 8, 0)], [], [(0, (2, (113, []))), (1, (0, (0, [(0, 1)]))), (2, (0, (0, [(1, 1)])))], [], []), (136, [(1, (-16))]))
def x_u273_1 : b_Cu := (35, ([((-2147483648), 2147483647, 0), (0, 7, 0), (1, 8, 0)], [], [(0, (2, (113, []))), (1, (0, (0, [(0, 1)]))), (2, (0, (0, [(1, 1)]))), (3, (0, (0, [(2, 1)])))], [], []), (136, [(1, (-16)), (2, (-1))]))
def x_u273 : List b_Cu := [x_u273_0, x_u273_1]
-- M.same, 133 steps
theorem x_z273 : b_chk0 x_T x_k273 x_u273 = true := by decide +kernel
theorem x_e273 : b_chkE x_F x_T x_Z x_dep x_hn [x_k228, x_k234] x_k273 x_u273 193 = true := by decide +kernel
theorem x_c273_0 : b_chkC x_F x_T x_Z x_dep x_hn [x_k228, x_k234] x_k273 x_u273 193 x_u273_0 = true := by decide +kernel
theorem x_c273_1 : b_chkC x_F x_T x_Z x_dep x_hn [x_k228, x_k234] x_k273 x_u273 193 x_u273_1 = true := by decide +kernel
theorem x_v273 {N : Int} {fz : List (List Int32)} (hZ : b_ZOk x_Z (x_G N) fz) : b_Valid x_F fz x_T (x_G N) x_k273 := b_valid (x_gOk N) x_depOk hZ x_hn_ok (Γ := [x_k228, x_k234]) (List.forall_mem_cons.mpr ⟨x_v228 hZ, List.forall_mem_cons.mpr ⟨x_v234 hZ, fun _ h => absurd h List.not_mem_nil⟩⟩) x_z273 x_e273 (List.forall_mem_cons.mpr ⟨x_c273_0, List.forall_mem_cons.mpr ⟨x_c273_1, fun _ h => absurd h List.not_mem_nil⟩⟩)
def x_k274 : b_K := (311, 6, ([((-2147483648), 2147483647, 0)], [], [], [(2, (113, [])), (0, (0, [(0, 1)]))], []), [(113, 1), (113, 24), (113, 25), (113, 26), (113, 31), (126, 0), (127, 0), (128, 0), (129, 0), (130, 0), (131, 0), (132, 0), (133, 0), (134, 0), (135, 0), (136, 0)], [([((-2147483648), 2147483647, 0), ((-2147483648), 2147483647, 0)], [], [], [(0, (0, [(1, 1)]))], [])])
def x_u274_0 : b_Cu := (24, ([(0, 13, 0), ((-2147483648), 2147483647, 0), (0, 28, 0)], [], [(0, (2, (113, []))), (1, (0, (0, [(0, 1)]))), (2, (0, (0, [(1, 1)]))), (3, (0, (0, [(2, 1)])))], [], []), (28, [(2, (-1))]))
def x_u274 : List b_Cu := [x_u274_0]
-- M.gavel, 91 steps
theorem x_z274 : b_chk0 x_T x_k274 x_u274 = true := by decide +kernel
theorem x_e274 : b_chkE x_F x_T x_Z x_dep x_hn [x_k228, x_k234] x_k274 x_u274 151 = true := by decide +kernel
theorem x_c274_0 : b_chkC x_F x_T x_Z x_dep x_hn [x_k228, x_k234] x_k274 x_u274 151 x_u274_0 = true := by decide +kernel
theorem x_v274 {N : Int} {fz : List (List Int32)} (hZ : b_ZOk x_Z (x_G N) fz) : b_Valid x_F fz x_T (x_G N) x_k274 := b_valid (x_gOk N) x_depOk hZ x_hn_ok (Γ := [x_k228, x_k234]) (List.forall_mem_cons.mpr ⟨x_v228 hZ, List.forall_mem_cons.mpr ⟨x_v234 hZ, fun _ h => absurd h List.not_mem_nil⟩⟩) x_z274 x_e274 (List.forall_mem_cons.mpr ⟨x_c274_0, fun _ h => absurd h List.not_mem_nil⟩)
def x_k275 : b_K := (312, 6, ([((-2147483648), 2147483647, 0)], [], [], [(2, (113, [])), (0, (0, [(0, 1)]))], []), [(113, 1), (113, 24), (113, 25), (113, 26), (113, 31), (126, 0), (127, 0), (128, 0), (129, 0), (130, 0), (131, 0), (132, 0), (133, 0), (134, 0), (135, 0), (136, 0)], [([((-2147483648), 2147483647, 0), ((-2), 127, 0)], [], [], [(0, (0, [(1, 1)]))], [])])
def x_u275 : List b_Cu := []
-- M.fresh, 71 steps
theorem x_z275 : b_chk0 x_T x_k275 x_u275 = true := by decide +kernel
theorem x_e275 : b_chkE x_F x_T x_Z x_dep x_hn [x_k228, x_k234] x_k275 x_u275 131 = true := by decide +kernel
theorem x_v275 {N : Int} {fz : List (List Int32)} (hZ : b_ZOk x_Z (x_G N) fz) : b_Valid x_F fz x_T (x_G N) x_k275 := b_valid (x_gOk N) x_depOk hZ x_hn_ok (Γ := [x_k228, x_k234]) (List.forall_mem_cons.mpr ⟨x_v228 hZ, List.forall_mem_cons.mpr ⟨x_v234 hZ, fun _ h => absurd h List.not_mem_nil⟩⟩) x_z275 x_e275 (fun _ h => absurd h List.not_mem_nil)
def x_k276 : b_K := (314, 2, ([(0, 127, 0)], [], [], [(2, (113, [])), (0, (0, [(0, 1)]))], []), [], [([(0, 127, 0)], [], [], [(0, (0, []))], []),
  ([(7, 112, 10428645247801963139059779875426560)], [], [], [(0, (1, []))], [])])
def x_u276_0 : b_Cu := (12, ([(7, 112, 10428645247801963139059779875426560), (0, 7, 0)], [], [(0, (2, (113, []))), (1, (0, (0, [(0, 1)]))), (2, (0, (0, [(1, 1)])))], [], []), (7, [(1, (-1))]))
def x_u276 : List b_Cu := [x_u276_0]
-- M.isThree, 6313 steps
theorem x_z276 : b_chk0 x_T x_k276 x_u276 = true := by decide +kernel
theorem x_e276 : b_chkE x_F x_T x_Z x_dep x_hn [x_k225] x_k276 x_u276 6373 = true := by decide +kernel
theorem x_c276_0 : b_chkC x_F x_T x_Z x_dep x_hn [x_k225] x_k276 x_u276 6373 x_u276_0 = true := by decide +kernel
theorem x_v276 {N : Int} {fz : List (List Int32)} (hZ : b_ZOk x_Z (x_G N) fz) : b_Valid x_F fz x_T (x_G N) x_k276 := b_valid (x_gOk N) x_depOk hZ x_hn_ok (Γ := [x_k225]) (List.forall_mem_cons.mpr ⟨x_v225 hZ, fun _ h => absurd h List.not_mem_nil⟩) x_z276 x_e276 (List.forall_mem_cons.mpr ⟨x_c276_0, fun _ h => absurd h List.not_mem_nil⟩)
