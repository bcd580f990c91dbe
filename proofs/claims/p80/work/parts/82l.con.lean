/-! contracts and their checks (by program, cert3.py) -/
def x_k329 : b_K := (359, 1, ([(10, 10, 0), (0, 0, 0)], [], [], [(1, (0, [(0, 1)])), (0, (0, [(1, 1)]))], []), [], [([(10, 10, 0), (0, 0, 0)], [], [], [(1, (1, []))], [])])
def x_u329 : List b_Cu := []
-- M.power, 5 steps
theorem x_z329 : b_chk0 x_T x_k329 x_u329 = true := by decide +kernel
theorem x_e329 : b_chkE x_F x_T x_Z x_dep x_hn [] x_k329 x_u329 120 = true := by decide +kernel
theorem x_v329 {N : Int} {fz : List (List Int32)} (hZ : b_ZOk x_Z (x_G N) fz) : b_Valid x_F fz x_T (x_G N) x_k329 := b_valid (x_gOk N) x_depOk hZ x_hn_ok (Γ := []) (fun _ h => absurd h List.not_mem_nil) x_z329 x_e329 (fun _ h => absurd h List.not_mem_nil)
def x_k330 : b_K := (359, 2, ([(10, 10, 0), (0, 1, 0)], [], [], [(1, (0, [(0, 1)])), (0, (0, [(1, 1)]))], []), [], [([(10, 10, 0), (0, 1, 0), (1, 10, 0)], [], [], [(1, (0, [(2, 1)]))], [])])
def x_u330 : List b_Cu := []
-- M.power, 13 steps
theorem x_z330 : b_chk0 x_T x_k330 x_u330 = true := by decide +kernel
theorem x_e330 : b_chkE x_F x_T x_Z x_dep x_hn [x_k329] x_k330 x_u330 120 = true := by decide +kernel
theorem x_v330 {N : Int} {fz : List (List Int32)} (hZ : b_ZOk x_Z (x_G N) fz) : b_Valid x_F fz x_T (x_G N) x_k330 := b_valid (x_gOk N) x_depOk hZ x_hn_ok (Γ := [x_k329]) (List.forall_mem_cons.mpr ⟨x_v329 hZ, fun _ h => absurd h List.not_mem_nil⟩) x_z330 x_e330 (fun _ h => absurd h List.not_mem_nil)
def x_k331 : b_K := (359, 3, ([(10, 10, 0), (0, 2, 0)], [], [], [(1, (0, [(0, 1)])), (0, (0, [(1, 1)]))], []), [], [([(10, 10, 0), (0, 2, 0), (1, 100, 0)], [], [], [(1, (0, [(2, 1)]))], [])])
def x_u331 : List b_Cu := []
-- M.power, 13 steps
theorem x_z331 : b_chk0 x_T x_k331 x_u331 = true := by decide +kernel
theorem x_e331 : b_chkE x_F x_T x_Z x_dep x_hn [x_k330] x_k331 x_u331 120 = true := by decide +kernel
theorem x_v331 {N : Int} {fz : List (List Int32)} (hZ : b_ZOk x_Z (x_G N) fz) : b_Valid x_F fz x_T (x_G N) x_k331 := b_valid (x_gOk N) x_depOk hZ x_hn_ok (Γ := [x_k330]) (List.forall_mem_cons.mpr ⟨x_v330 hZ, fun _ h => absurd h List.not_mem_nil⟩) x_z331 x_e331 (fun _ h => absurd h List.not_mem_nil)
def x_k332 : b_K := (359, 4, ([(10, 10, 0), (0, 3, 0)], [], [], [(1, (0, [(0, 1)])), (0, (0, [(1, 1)]))], []), [], [([(10, 10, 0), (0, 3, 0), (1, 1000, 0)], [], [], [(1, (0, [(2, 1)]))], [])])
def x_u332 : List b_Cu := []
-- M.power, 13 steps
theorem x_z332 : b_chk0 x_T x_k332 x_u332 = true := by decide +kernel
theorem x_e332 : b_chkE x_F x_T x_Z x_dep x_hn [x_k331] x_k332 x_u332 120 = true := by decide +kernel
theorem x_v332 {N : Int} {fz : List (List Int32)} (hZ : b_ZOk x_Z (x_G N) fz) : b_Valid x_F fz x_T (x_G N) x_k332 := b_valid (x_gOk N) x_depOk hZ x_hn_ok (Γ := [x_k331]) (List.forall_mem_cons.mpr ⟨x_v331 hZ, fun _ h => absurd h List.not_mem_nil⟩) x_z332 x_e332 (fun _ h => absurd h List.not_mem_nil)
def x_k333 : b_K := (359, 5, ([(10, 10, 0), (0, 4, 0)], [], [], [(1, (0, [(0, 1)])), (0, (0, [(1, 1)]))], []), [], [([(10, 10, 0), (0, 4, 0), (1, 10000, 0)], [], [], [(1, (0, [(2, 1)]))], [])])
def x_u333 : List b_Cu := []
-- M.power, 13 steps
theorem x_z333 : b_chk0 x_T x_k333 x_u333 = true := by decide +kernel
theorem x_e333 : b_chkE x_F x_T x_Z x_dep x_hn [x_k332] x_k333 x_u333 120 = true := by decide +kernel
theorem x_v333 {N : Int} {fz : List (List Int32)} (hZ : b_ZOk x_Z (x_G N) fz) : b_Valid x_F fz x_T (x_G N) x_k333 := b_valid (x_gOk N) x_depOk hZ x_hn_ok (Γ := [x_k332]) (List.forall_mem_cons.mpr ⟨x_v332 hZ, fun _ h => absurd h List.not_mem_nil⟩) x_z333 x_e333 (fun _ h => absurd h List.not_mem_nil)
def x_k334 : b_K := (359, 6, ([(10, 10, 0), (0, 5, 0)], [], [], [(1, (0, [(0, 1)])), (0, (0, [(1, 1)]))], []), [], [([(10, 10, 0), (0, 5, 0), (1, 100000, 0)], [], [], [(1, (0, [(2, 1)]))], [])])
def x_u334 : List b_Cu := []
-- M.power, 13 steps
theorem x_z334 : b_chk0 x_T x_k334 x_u334 = true := by decide +kernel
theorem x_e334 : b_chkE x_F x_T x_Z x_dep x_hn [x_k333] x_k334 x_u334 120 = true := by decide +kernel
theorem x_v334 {N : Int} {fz : List (List Int32)} (hZ : b_ZOk x_Z (x_G N) fz) : b_Valid x_F fz x_T (x_G N) x_k334 := b_valid (x_gOk N) x_depOk hZ x_hn_ok (Γ := [x_k333]) (List.forall_mem_cons.mpr ⟨x_v333 hZ, fun _ h => absurd h List.not_mem_nil⟩) x_z334 x_e334 (fun _ h => absurd h List.not_mem_nil)
def x_k335 : b_K := (359, 7, ([(10, 10, 0), (0, 6, 0)], [], [], [(1, (0, [(0, 1)])), (0, (0, [(1, 1)]))], []), [], [([(10, 10, 0), (0, 6, 0), (1, 1000000, 0)], [], [], [(1, (0, [(2, 1)]))], [])])
def x_u335 : List b_Cu := []
-- M.power, 13 steps
theorem x_z335 : b_chk0 x_T x_k335 x_u335 = true := by decide +kernel
theorem x_e335 : b_chkE x_F x_T x_Z x_dep x_hn [x_k334] x_k335 x_u335 120 = true := by decide +kernel
theorem x_v335 {N : Int} {fz : List (List Int32)} (hZ : b_ZOk x_Z (x_G N) fz) : b_Valid x_F fz x_T (x_G N) x_k335 := b_valid (x_gOk N) x_depOk hZ x_hn_ok (Γ := [x_k334]) (List.forall_mem_cons.mpr ⟨x_v334 hZ, fun _ h => absurd h List.not_mem_nil⟩) x_z335 x_e335 (fun _ h => absurd h List.not_mem_nil)
def x_k336 : b_K := (359, 8, ([(10, 10, 0), (0, 7, 0)], [], [], [(1, (0, [(0, 1)])), (0, (0, [(1, 1)]))], []), [], [([(10, 10, 0), (0, 7, 0), (1, 10000000, 0)], [], [], [(1, (0, [(2, 1)]))], [])])
def x_u336 : List b_Cu := []
-- M.power, 13 steps
theorem x_z336 : b_chk0 x_T x_k336 x_u336 = true := by decide +kernel
theorem x_e336 : b_chkE x_F x_T x_Z x_dep x_hn [x_k335] x_k336 x_u336 120 = true := by decide +kernel
theorem x_v336 {N : Int} {fz : List (List Int32)} (hZ : b_ZOk x_Z (x_G N) fz) : b_Valid x_F fz x_T (x_G N) x_k336 := b_valid (x_gOk N) x_depOk hZ x_hn_ok (Γ := [x_k335]) (List.forall_mem_cons.mpr ⟨x_v335 hZ, fun _ h => absurd h List.not_mem_nil⟩) x_z336 x_e336 (fun _ h => absurd h List.not_mem_nil)
def x_k337 : b_K := (359, 9, ([(10, 10, 0), (0, 8, 0)], [], [], [(1, (0, [(0, 1)])), (0, (0, [(1, 1)]))], []), [], [([(10, 10, 0), (0, 8, 0), (1, 100000000, 0)], [], [], [(1, (0, [(2, 1)]))], [])])
def x_u337 : List b_Cu := []
-- M.power, 13 steps
theorem x_z337 : b_chk0 x_T x_k337 x_u337 = true := by decide +kernel
theorem x_e337 : b_chkE x_F x_T x_Z x_dep x_hn [x_k336] x_k337 x_u337 120 = true := by decide +kernel
theorem x_v337 {N : Int} {fz : List (List Int32)} (hZ : b_ZOk x_Z (x_G N) fz) : b_Valid x_F fz x_T (x_G N) x_k337 := b_valid (x_gOk N) x_depOk hZ x_hn_ok (Γ := [x_k336]) (List.forall_mem_cons.mpr ⟨x_v336 hZ, fun _ h => absurd h List.not_mem_nil⟩) x_z337 x_e337 (fun _ h => absurd h List.not_mem_nil)
def x_k338 : b_K := (357, 47, ([((-2147483648), 2147483647, 0), ((-2147483648), 2147483647, 0), ((-2147483648), 2147483647, 0)], [], [], [(2, (113, [])), (0, (0, [(0, 1)])), (0, (0, [(1, 1)])), (0, (0, [(2, 1)]))], []), [(113, 1), (113, 24), (113, 25), (113, 26), (113, 31), (126, 0), (127, 0), (128, 0), (129, 0), (130, 0), (131, 0), (132, 0), (133, 0), (134, 0), (135, 0), (136, 0)], [([((-2147483648), 2147483647, 0), ((-2147483648), 2147483647, 0), ((-2147483648), 2147483647, 0), ((-2147483648), 2147483647, 0)], [], [], [(0, (0, [(3, 1)]))], [])])
def x_u338 : List b_Cu := []
-- M.chance, 122 steps
theorem x_z338 : b_chk0 x_T x_k338 x_u338 = true := by decide +kernel
theorem x_e338 : b_chkE x_F x_T x_Z x_dep x_hn [x_k328, x_k337, x_k313] x_k338 x_u338 182 = true := by decide +kernel
theorem x_v338 {N : Int} {fz : List (List Int32)} (hZ : b_ZOk x_Z (x_G N) fz) : b_Valid x_F fz x_T (x_G N) x_k338 := b_valid (x_gOk N) x_depOk hZ x_hn_ok (Γ := [x_k328, x_k337, x_k313]) (List.forall_mem_cons.mpr ⟨x_v328 hZ, List.forall_mem_cons.mpr ⟨x_v337 hZ, List.forall_mem_cons.mpr ⟨x_v313 hZ, fun _ h => absurd h List.not_mem_nil⟩⟩⟩) x_z338 x_e338 (fun _ h => absurd h List.not_mem_nil)
def x_k339 : b_K := (360, 47, ([((-2147483648), 2147483647, 0)], [], [], [(2, (113, [])), (0, (0, [(0, 1)]))], []), [(113, 1), (113, 24), (113, 25), (113, 26), (113, 31), (126, 0), (127, 0), (128, 0), (129, 0), (130, 0), (131, 0), (132, 0), (133, 0), (134, 0), (135, 0), (136, 0)], [([((-2147483648), 2147483647, 0), ((-9223372036854775808), 9223372036854775807, 0)], [], [], [(1, (0, [(1, 1)]))], [])])
def x_u339 : List b_Cu := []
-- M.mean, 68 steps
theorem x_z339 : b_chk0 x_T x_k339 x_u339 = true := by decide +kernel
theorem x_e339 : b_chkE x_F x_T x_Z x_dep x_hn [x_k328, x_k337, x_k313] x_k339 x_u339 128 = true := by decide +kernel
theorem x_v339 {N : Int} {fz : List (List Int32)} (hZ : b_ZOk x_Z (x_G N) fz) : b_Valid x_F fz x_T (x_G N) x_k339 := b_valid (x_gOk N) x_depOk hZ x_hn_ok (Γ := [x_k328, x_k337, x_k313]) (List.forall_mem_cons.mpr ⟨x_v328 hZ, List.forall_mem_cons.mpr ⟨x_v337 hZ, List.forall_mem_cons.mpr ⟨x_v313 hZ, fun _ h => absurd h List.not_mem_nil⟩⟩⟩) x_z339 x_e339 (fun _ h => absurd h List.not_mem_nil)
def x_k340 : b_K := (363, 5, ([(0, 2147483647, 0)], [], [], [(2, (113, [])), (1, (0, [(0, 1)]))], []), [(113, 24), (113, 25), (113, 26), (113, 31), (126, 0), (127, 0), (128, 0), (129, 0), (130, 0), (131, 0), (132, 0), (133, 0), (134, 0), (135, 0), (136, 0)], [([(0, 2147483647, 0), ((-2147483648), 2147483647, 0)], [], [], [(0, (0, [(1, 1)]))], [])])
def x_u340_0 : b_Cu := (12, ([(0, 2147483647, 0), ((-9223372036854775808), 9223372036854775807, 0), ((-2147483648), 2147483647, 0), (0, 8, 0)], [], [(0, (2, (113, []))), (3, (1, (0, [(1, 1)]))), (5, (0, (0, [(2, 1)]))), (6, (0, (0, [(3, 1)])))], [], []), (8, [(3, (-1))]))
def x_u340 : List b_Cu := [x_u340_0]
-- M.draws, 60 steps
theorem x_z340 : b_chk0 x_T x_k340 x_u340 = true := by decide +kernel
theorem x_e340 : b_chkE x_F x_T x_Z x_dep x_hn [x_k228, x_k234] x_k340 x_u340 120 = true := by decide +kernel
theorem x_c340_0 : b_chkC x_F x_T x_Z x_dep x_hn [x_k228, x_k234] x_k340 x_u340 120 x_u340_0 = true := by decide +kernel
theorem x_v340 {N : Int} {fz : List (List Int32)} (hZ : b_ZOk x_Z (x_G N) fz) : b_Valid x_F fz x_T (x_G N) x_k340 := b_valid (x_gOk N) x_depOk hZ x_hn_ok (Γ := [x_k228, x_k234]) (List.forall_mem_cons.mpr ⟨x_v228 hZ, List.forall_mem_cons.mpr ⟨x_v234 hZ, fun _ h => absurd h List.not_mem_nil⟩⟩) x_z340 x_e340 (List.forall_mem_cons.mpr ⟨x_c340_0, fun _ h => absurd h List.not_mem_nil⟩)
def x_k341 : b_K := (361, 6, ([((-2147483648), 2147483647, 0), ((-2147483648), 2147483647, 0)], [], [], [(2, (113, [])), (0, (0, [(0, 1)])), (0, (0, [(1, 1)]))], []), [(113, 1), (113, 24), (113, 25), (113, 26), (113, 31), (126, 0), (127, 0), (128, 0), (129, 0), (130, 0), (131, 0), (132, 0), (133, 0), (134, 0), (135, 0), (136, 0)], [([((-2147483648), 2147483647, 0), ((-2147483648), 2147483647, 0), ((-2147483648), 2147483647, 0)], [], [], [(0, (0, [(2, 1)]))], [])])
def x_u341 : List b_Cu := []
-- M.drawn, 96 steps
theorem x_z341 : b_chk0 x_T x_k341 x_u341 = true := by decide +kernel
theorem x_e341 : b_chkE x_F x_T x_Z x_dep x_hn [x_k340, x_k258] x_k341 x_u341 156 = true := by decide +kernel
theorem x_v341 {N : Int} {fz : List (List Int32)} (hZ : b_ZOk x_Z (x_G N) fz) : b_Valid x_F fz x_T (x_G N) x_k341 := b_valid (x_gOk N) x_depOk hZ x_hn_ok (Γ := [x_k340, x_k258]) (List.forall_mem_cons.mpr ⟨x_v340 hZ, List.forall_mem_cons.mpr ⟨x_v258 hZ, fun _ h => absurd h List.not_mem_nil⟩⟩) x_z341 x_e341 (fun _ h => absurd h List.not_mem_nil)
def x_k342 : b_K := (364, 6, ([((-2147483648), 2147483647, 0), ((-2147483648), 2147483647, 0), ((-2147483648), 2147483647, 0)], [], [], [(2, (113, [])), (0, (0, [(0, 1)])), (0, (0, [(1, 1)])), (0, (0, [(2, 1)]))], []), [(113, 1), (113, 24), (113, 25), (113, 26), (113, 31), (126, 0), (127, 0), (128, 0), (129, 0), (130, 0), (131, 0), (132, 0), (133, 0), (134, 0), (135, 0), (136, 0)], [([((-2147483648), 2147483647, 0), ((-2147483648), 2147483647, 0), ((-2147483648), 2147483647, 0), ((-2147483648), 2147483647, 0)], [], [], [(0, (0, [(3, 1)]))], [])])
def x_u342_0 : b_Cu := (42, ([(0, 2000000000, 0), (1, 20, 0), (0, 7, 0), ((-2147483648), 2147483647, 0), (0, 20, 0)], [], [(0, (2, (113, []))), (1, (0, (0, [(0, 1)]))), (2, (0, (0, [(1, 1)]))), (3, (0, (0, [(2, 1)]))), (4, (0, (0, [(3, 1)]))), (5, (0, (0, [(4, 1)])))], [], []), (20, [(4, (-1))]))
def x_u342 : List b_Cu := [x_u342_0]
-- M.luck, 149 steps
theorem x_z342 : b_chk0 x_T x_k342 x_u342 = true := by decide +kernel
theorem x_e342 : b_chkE x_F x_T x_Z x_dep x_hn [x_k340] x_k342 x_u342 209 = true := by decide +kernel
theorem x_c342_0 : b_chkC x_F x_T x_Z x_dep x_hn [x_k340] x_k342 x_u342 209 x_u342_0 = true := by decide +kernel
theorem x_v342 {N : Int} {fz : List (List Int32)} (hZ : b_ZOk x_Z (x_G N) fz) : b_Valid x_F fz x_T (x_G N) x_k342 := b_valid (x_gOk N) x_depOk hZ x_hn_ok (Γ := [x_k340]) (List.forall_mem_cons.mpr ⟨x_v340 hZ, fun _ h => absurd h List.not_mem_nil⟩) x_z342 x_e342 (List.forall_mem_cons.mpr ⟨x_c342_0, fun _ h => absurd h List.not_mem_nil⟩)
def x_k343 : b_K := (365, 7, ([((-2147483648), 2147483647, 0), ((-2147483648), 2147483647, 0)], [], [], [(2, (113, [])), (0, (0, [(0, 1)])), (0, (0, [(1, 1)]))], []), [(113, 1), (113, 24), (113, 25), (113, 26), (113, 31), (120, 0), (124, 0), (126, 0), (127, 0), (128, 0), (129, 0), (130, 0), (131, 0), (132, 0), (133, 0), (134, 0), (135, 0), (136, 0)], [([((-2147483648), 2147483647, 0), ((-2147483648), 2147483647, 0), ((-5), 2147483647, 0)], [], [], [(0, (0, [(2, 1)]))], [])])
def x_u343 : List b_Cu := []
-- M.appeals, 178 steps
theorem x_z343 : b_chk0 x_T x_k343 x_u343 = true := by decide +kernel
theorem x_e343 : b_chkE x_F x_T x_Z x_dep x_hn [x_k228, x_k234] x_k343 x_u343 238 = true := by decide +kernel
theorem x_v343 {N : Int} {fz : List (List Int32)} (hZ : b_ZOk x_Z (x_G N) fz) : b_Valid x_F fz x_T (x_G N) x_k343 := b_valid (x_gOk N) x_depOk hZ x_hn_ok (Γ := [x_k228, x_k234]) (List.forall_mem_cons.mpr ⟨x_v228 hZ, List.forall_mem_cons.mpr ⟨x_v234 hZ, fun _ h => absurd h List.not_mem_nil⟩⟩) x_z343 x_e343 (fun _ h => absurd h List.not_mem_nil)
def x_k344 : b_K := (367, 7, ([((-2147483648), 2147483647, 0), ((-2147483648), 2147483647, 0)], [], [], [(2, (113, [])), (0, (0, [(0, 1)])), (0, (0, [(1, 1)]))], []), [(113, 1), (113, 24), (113, 25), (113, 26), (113, 31), (120, 0), (124, 0), (126, 0), (127, 0), (128, 0), (129, 0), (130, 0), (131, 0), (132, 0), (133, 0), (134, 0), (135, 0), (136, 0)], [([((-2147483648), 2147483647, 0), ((-2147483648), 2147483647, 0), ((-2147483648), 2147483647, 0)], [], [], [(0, (0, [(2, 1)]))], [])])
def x_u344_0 : b_Cu := (51, ([(0, 6, 0), (0, 13, 0), ((-2147483648), 2147483647, 0), (0, 8, 0)], [], [(0, (2, (113, []))), (3, (0, (0, [(2, 1)]))), (4, (0, (0, [(3, 1)])))], [], []), (8, [(3, (-1))]))
def x_u344 : List b_Cu := [x_u344_0]
-- M.misses, 185 steps
theorem x_z344 : b_chk0 x_T x_k344 x_u344 = true := by decide +kernel
theorem x_e344 : b_chkE x_F x_T x_Z x_dep x_hn [x_k228, x_k234] x_k344 x_u344 245 = true := by decide +kernel
theorem x_c344_0 : b_chkC x_F x_T x_Z x_dep x_hn [x_k228, x_k234] x_k344 x_u344 245 x_u344_0 = true := by decide +kernel
theorem x_v344 {N : Int} {fz : List (List Int32)} (hZ : b_ZOk x_Z (x_G N) fz) : b_Valid x_F fz x_T (x_G N) x_k344 := b_valid (x_gOk N) x_depOk hZ x_hn_ok (Γ := [x_k228, x_k234]) (List.forall_mem_cons.mpr ⟨x_v228 hZ, List.forall_mem_cons.mpr ⟨x_v234 hZ, fun _ h => absurd h List.not_mem_nil⟩⟩) x_z344 x_e344 (List.forall_mem_cons.mpr ⟨x_c344_0, fun _ h => absurd h List.not_mem_nil⟩)
def x_k345 : b_K := (368, 2, ([], [], [], [(2, (113, []))], []), [(113, 1), (120, 0)], [([((-5), 19, 0)], [], [], [(0, (0, [(0, 1)]))], [])])
def x_u345 : List b_Cu := []
-- M.undo, 39 steps
theorem x_z345 : b_chk0 x_T x_k345 x_u345 = true := by decide +kernel
theorem x_e345 : b_chkE x_F x_T x_Z x_dep x_hn [] x_k345 x_u345 120 = true := by decide +kernel
theorem x_v345 {N : Int} {fz : List (List Int32)} (hZ : b_ZOk x_Z (x_G N) fz) : b_Valid x_F fz x_T (x_G N) x_k345 := b_valid (x_gOk N) x_depOk hZ x_hn_ok (Γ := []) (fun _ h => absurd h List.not_mem_nil) x_z345 x_e345 (fun _ h => absurd h List.not_mem_nil)
def x_k346 : b_K := (369, 2, ([], [], [], [(2, (113, []))], []), [(113, 1), (120, 0)], [([((-2), 20, 0)], [], [], [(0, (0, [(0, 1)]))], [])])
def x_u346 : List b_Cu := []
-- M.anew, 31 steps
theorem x_z346 : b_chk0 x_T x_k346 x_u346 = true := by decide +kernel
theorem x_e346 : b_chkE x_F x_T x_Z x_dep x_hn [] x_k346 x_u346 120 = true := by decide +kernel
theorem x_v346 {N : Int} {fz : List (List Int32)} (hZ : b_ZOk x_Z (x_G N) fz) : b_Valid x_F fz x_T (x_G N) x_k346 := b_valid (x_gOk N) x_depOk hZ x_hn_ok (Γ := []) (fun _ h => absurd h List.not_mem_nil) x_z346 x_e346 (fun _ h => absurd h List.not_mem_nil)
def x_k347 : b_K := (370, 3, ([((-2147483648), 2147483647, 0), ((-2147483648), 2147483647, 0)], [], [], [(2, (113, [])), (0, (0, [(0, 1)])), (0, (0, [(1, 1)]))], []), [(113, 1), (123, 0)], [([((-2147483648), 2147483647, 0), ((-2147483648), 2147483647, 0), ((-5), 30, 0)], [], [], [(0, (0, [(2, 1)]))], [])])
def x_u347 : List b_Cu := []
-- M.rate, 99 steps
theorem x_z347 : b_chk0 x_T x_k347 x_u347 = true := by decide +kernel
theorem x_e347 : b_chkE x_F x_T x_Z x_dep x_hn [] x_k347 x_u347 159 = true := by decide +kernel
theorem x_v347 {N : Int} {fz : List (List Int32)} (hZ : b_ZOk x_Z (x_G N) fz) : b_Valid x_F fz x_T (x_G N) x_k347 := b_valid (x_gOk N) x_depOk hZ x_hn_ok (Γ := []) (fun _ h => absurd h List.not_mem_nil) x_z347 x_e347 (fun _ h => absurd h List.not_mem_nil)
def x_k348 : b_K := (371, 2, ([((-2147483648), 2147483647, 0)], [], [], [(2, (113, [])), (0, (0, [(0, 1)]))], []), [(113, 1)], [([((-2147483648), 2147483647, 0), ((-2147483648), 2147483647, 0)], [], [], [(0, (0, [(1, 1)]))], [])])
def x_u348_0 : b_Cu := (66, ([(9, 9, 0), ((-2147483648), 2147483647, 0), (0, 4, 0)], [], [(0, (2, (113, []))), (2, (0, (0, [(1, 1)]))), (3, (0, (0, [(2, 1)])))], [], []), (4, [(2, (-1))]))
def x_u348 : List b_Cu := [x_u348_0]
-- M.count, 76 steps
theorem x_z348 : b_chk0 x_T x_k348 x_u348 = true := by decide +kernel
theorem x_e348 : b_chkE x_F x_T x_Z x_dep x_hn [] x_k348 x_u348 136 = true := by decide +kernel
theorem x_c348_0 : b_chkC x_F x_T x_Z x_dep x_hn [] x_k348 x_u348 136 x_u348_0 = true := by decide +kernel
theorem x_v348 {N : Int} {fz : List (List Int32)} (hZ : b_ZOk x_Z (x_G N) fz) : b_Valid x_F fz x_T (x_G N) x_k348 := b_valid (x_gOk N) x_depOk hZ x_hn_ok (Γ := []) (fun _ h => absurd h List.not_mem_nil) x_z348 x_e348 (List.forall_mem_cons.mpr ⟨x_c348_0, fun _ h => absurd h List.not_mem_nil⟩)
def x_k349 : b_K := (372, 3, ([((-2147483648), 2147483647, 0)], [], [], [(2, (113, [])), (0, (0, [(0, 1)]))], []), [(113, 1), (119, 0), (120, 0), (121, 0), (122, 0), (123, 0), (124, 0), (125, 0)], [([((-2147483648), 2147483647, 0), ((-2), 0, 0)], [], [], [(0, (0, [(1, 1)]))], [])])
def x_u349 : List b_Cu := []
-- M.image, 80 steps
theorem x_z349 : b_chk0 x_T x_k349 x_u349 = true := by decide +kernel
theorem x_e349 : b_chkE x_F x_T x_Z x_dep x_hn [x_k197, x_k198, x_k199, x_k200, x_k201, x_k202] x_k349 x_u349 140 = true := by decide +kernel
theorem x_v349 {N : Int} {fz : List (List Int32)} (hZ : b_ZOk x_Z (x_G N) fz) : b_Valid x_F fz x_T (x_G N) x_k349 := b_valid (x_gOk N) x_depOk hZ x_hn_ok (Γ := [x_k197, x_k198, x_k199, x_k200, x_k201, x_k202]) (List.forall_mem_cons.mpr ⟨x_v197 hZ, List.forall_mem_cons.mpr ⟨x_v198 hZ, List.forall_mem_cons.mpr ⟨x_v199 hZ, List.forall_mem_cons.mpr ⟨x_v200 hZ, List.forall_mem_cons.mpr ⟨x_v201 hZ, List.forall_mem_cons.mpr ⟨x_v202 hZ, fun _ h => absurd h List.not_mem_nil⟩⟩⟩⟩⟩⟩) x_z349 x_e349 (fun _ h => absurd h List.not_mem_nil)
def x_k350 : b_K := (373, 3, ([((-2147483648), 2147483647, 0)], [], [], [(2, (113, [])), (0, (0, [(0, 1)]))], []), [(113, 1), (119, 0), (120, 0), (121, 0), (122, 0), (123, 0), (124, 0)], [([((-2147483648), 2147483647, 0), ((-6), 0, 0)], [], [], [(0, (0, [(1, 1)]))], [])])
def x_u350 : List b_Cu := []
-- M.back, 82 steps
theorem x_z350 : b_chk0 x_T x_k350 x_u350 = true := by decide +kernel
theorem x_e350 : b_chkE x_F x_T x_Z x_dep x_hn [x_k197, x_k198, x_k199, x_k200, x_k201, x_k202] x_k350 x_u350 142 = true := by decide +kernel
theorem x_v350 {N : Int} {fz : List (List Int32)} (hZ : b_ZOk x_Z (x_G N) fz) : b_Valid x_F fz x_T (x_G N) x_k350 := b_valid (x_gOk N) x_depOk hZ x_hn_ok (Γ := [x_k197, x_k198, x_k199, x_k200, x_k201, x_k202]) (List.forall_mem_cons.mpr ⟨x_v197 hZ, List.forall_mem_cons.mpr ⟨x_v198 hZ, List.forall_mem_cons.mpr ⟨x_v199 hZ, List.forall_mem_cons.mpr ⟨x_v200 hZ, List.forall_mem_cons.mpr ⟨x_v201 hZ, List.forall_mem_cons.mpr ⟨x_v202 hZ, fun _ h => absurd h List.not_mem_nil⟩⟩⟩⟩⟩⟩) x_z350 x_e350 (fun _ h => absurd h List.not_mem_nil)
