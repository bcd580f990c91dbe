def m_g_0 : List (Nat × m_T) := [(0, m_t_0), (1, m_t_1), (2, m_t_2), (3, m_t_3), (4, m_t_4), (5, m_t_5), (6, m_t_6), (7, m_t_7), (8, m_t_8), (9, m_t_9), (10, m_t_10), (11, m_t_11), (12, m_t_12), (13, m_t_13), (14, m_t_14), (15, m_t_15), (16, m_t_16), (17, m_t_17), (18, m_t_18)]
def m_g_1 : List (Nat × m_T) := [(34, m_t_34), (35, m_t_35), (36, m_t_36), (38, m_t_38), (39, m_t_39)]
def m_g_2 : List (Nat × m_T) := [(49, m_t_49), (50, m_t_50), (51, m_t_51), (52, m_t_52), (53, m_t_53), (54, m_t_54), (55, m_t_55), (56, m_t_56), (58, m_t_58)]
def m_g_3 : List (Nat × m_T) := [(60, m_t_60), (62, m_t_62), (64, m_t_64), (68, m_t_68), (70, m_t_70), (71, m_t_71), (72, m_t_72), (73, m_t_73), (75, m_t_75), (77, m_t_77), (79, m_t_79)]
def m_g_4 : List (Nat × m_T) := [(81, m_t_81), (83, m_t_83), (85, m_t_85), (87, m_t_87), (90, m_t_90), (91, m_t_91), (92, m_t_92), (93, m_t_93), (95, m_t_95), (96, m_t_96), (97, m_t_97), (98, m_t_98), (99, m_t_99)]
def m_g_5 : List (Nat × m_T) := [(100, m_t_100), (101, m_t_101), (103, m_t_103), (104, m_t_104), (105, m_t_105), (107, m_t_107), (108, m_t_108), (109, m_t_109), (110, m_t_110), (112, m_t_112), (113, m_t_113), (116, m_t_116), (118, m_t_118)]
def m_g_6 : List (Nat × m_T) := [(121, m_t_121), (122, m_t_122), (124, m_t_124), (125, m_t_125), (128, m_t_128), (131, m_t_131), (132, m_t_132), (134, m_t_134), (136, m_t_136), (137, m_t_137), (138, m_t_138)]
def m_g_7 : List (Nat × m_T) := [(140, m_t_140), (146, m_t_146), (148, m_t_148), (150, m_t_150), (153, m_t_153), (154, m_t_154), (156, m_t_156), (158, m_t_158)]
def m_g_8 : List (Nat × m_T) := [(160, m_t_160), (162, m_t_162), (169, m_t_169), (170, m_t_170), (174, m_t_174), (176, m_t_176)]
def m_g_9 : List (Nat × m_T) := [(180, m_t_180), (182, m_t_182), (184, m_t_184), (186, m_t_186), (187, m_t_187), (188, m_t_188), (192, m_t_192), (194, m_t_194), (195, m_t_195), (196, m_t_196), (197, m_t_197), (198, m_t_198), (199, m_t_199)]
def m_g_10 : List (Nat × m_T) := [(200, m_t_200), (201, m_t_201), (202, m_t_202), (205, m_t_205), (209, m_t_209), (210, m_t_210), (211, m_t_211), (212, m_t_212), (213, m_t_213), (215, m_t_215), (216, m_t_216), (217, m_t_217), (218, m_t_218), (219, m_t_219)]
def m_g_11 : List (Nat × m_T) := [(220, m_t_220), (221, m_t_221), (222, m_t_222), (223, m_t_223), (224, m_t_224), (225, m_t_225), (226, m_t_226)]
def m_g_12 : List (Nat × m_T) := [(241, m_t_241), (242, m_t_242), (243, m_t_243), (244, m_t_244), (245, m_t_245), (246, m_t_246), (247, m_t_247), (249, m_t_249), (250, m_t_250), (251, m_t_251), (252, m_t_252), (256, m_t_256)]
def m_g_13 : List (Nat × m_T) := [(266, m_t_266), (269, m_t_269), (270, m_t_270), (271, m_t_271), (272, m_t_272), (273, m_t_273), (275, m_t_275), (276, m_t_276), (277, m_t_277), (278, m_t_278), (279, m_t_279)]
def m_g_14 : List (Nat × m_T) := [(280, m_t_280), (282, m_t_282), (283, m_t_283), (285, m_t_285), (286, m_t_286), (287, m_t_287), (290, m_t_290), (291, m_t_291), (292, m_t_292), (293, m_t_293), (296, m_t_296), (297, m_t_297), (299, m_t_299)]
def m_g_15 : List (Nat × m_T) := [(300, m_t_300), (301, m_t_301), (302, m_t_302), (303, m_t_303), (304, m_t_304), (305, m_t_305), (306, m_t_306), (308, m_t_308), (309, m_t_309), (310, m_t_310), (311, m_t_311), (312, m_t_312), (313, m_t_313), (316, m_t_316), (318, m_t_318)]
def m_g_16 : List (Nat × m_T) := [(322, m_t_322), (323, m_t_323), (324, m_t_324), (325, m_t_325), (326, m_t_326), (328, m_t_328), (329, m_t_329), (330, m_t_330), (331, m_t_331), (332, m_t_332), (338, m_t_338), (339, m_t_339)]
def m_g_17 : List (Nat × m_T) := [(340, m_t_340), (341, m_t_341), (342, m_t_342), (344, m_t_344), (345, m_t_345), (346, m_t_346), (348, m_t_348), (353, m_t_353), (354, m_t_354), (356, m_t_356), (357, m_t_357)]
def m_g_18 : List (Nat × m_T) := [(360, m_t_360), (361, m_t_361), (362, m_t_362), (364, m_t_364), (365, m_t_365), (367, m_t_367), (368, m_t_368), (369, m_t_369), (370, m_t_370), (371, m_t_371), (372, m_t_372), (373, m_t_373)]
def m_tb : List (List (Nat × m_T)) := [m_g_0, m_g_1, m_g_2, m_g_3, m_g_4, m_g_5, m_g_6, m_g_7, m_g_8, m_g_9, m_g_10, m_g_11, m_g_12, m_g_13, m_g_14, m_g_15, m_g_16, m_g_17, m_g_18]
def m_fe (t : m_T) (pc : Nat) : Option (m_I × Nat) := match t[pc / 16]? with
  | some c => c.lookup pc
  | none => none
def m_F (mid pc : Nat) : Option (m_I × Nat) := if mid = 1000 then m_fe m_tL pc else match m_tb[mid / 20]? with
  | some g => match g.lookup mid with
    | some t => m_fe t pc
    | none => none
  | none => none
theorem m_gok_0 : ∀ q ∈ m_g_0, q.2.all (fun c => c.all (m_ck1 q.1)) = true := List.forall_mem_cons.mpr ⟨m_ok_0, List.forall_mem_cons.mpr ⟨m_ok_1, List.forall_mem_cons.mpr ⟨m_ok_2, List.forall_mem_cons.mpr ⟨m_ok_3, List.forall_mem_cons.mpr ⟨m_ok_4, List.forall_mem_cons.mpr ⟨m_ok_5, List.forall_mem_cons.mpr ⟨m_ok_6, List.forall_mem_cons.mpr ⟨m_ok_7, List.forall_mem_cons.mpr ⟨m_ok_8, List.forall_mem_cons.mpr ⟨m_ok_9, List.forall_mem_cons.mpr ⟨m_ok_10, List.forall_mem_cons.mpr ⟨m_ok_11, List.forall_mem_cons.mpr ⟨m_ok_12, List.forall_mem_cons.mpr ⟨m_ok_13, List.forall_mem_cons.mpr ⟨m_ok_14, List.forall_mem_cons.mpr ⟨m_ok_15, List.forall_mem_cons.mpr ⟨m_ok_16, List.forall_mem_cons.mpr ⟨m_ok_17, List.forall_mem_cons.mpr ⟨m_ok_18, fun _ h => absurd h List.not_mem_nil⟩⟩⟩⟩⟩⟩⟩⟩⟩⟩⟩⟩⟩⟩⟩⟩⟩⟩⟩
theorem m_gok_1 : ∀ q ∈ m_g_1, q.2.all (fun c => c.all (m_ck1 q.1)) = true := List.forall_mem_cons.mpr ⟨m_ok_34, List.forall_mem_cons.mpr ⟨m_ok_35, List.forall_mem_cons.mpr ⟨m_ok_36, List.forall_mem_cons.mpr ⟨m_ok_38, List.forall_mem_cons.mpr ⟨m_ok_39, fun _ h => absurd h List.not_mem_nil⟩⟩⟩⟩⟩
theorem m_gok_2 : ∀ q ∈ m_g_2, q.2.all (fun c => c.all (m_ck1 q.1)) = true := List.forall_mem_cons.mpr ⟨m_ok_49, List.forall_mem_cons.mpr ⟨m_ok_50, List.forall_mem_cons.mpr ⟨m_ok_51, List.forall_mem_cons.mpr ⟨m_ok_52, List.forall_mem_cons.mpr ⟨m_ok_53, List.forall_mem_cons.mpr ⟨m_ok_54, List.forall_mem_cons.mpr ⟨m_ok_55, List.forall_mem_cons.mpr ⟨m_ok_56, List.forall_mem_cons.mpr ⟨m_ok_58, fun _ h => absurd h List.not_mem_nil⟩⟩⟩⟩⟩⟩⟩⟩⟩
theorem m_gok_3 : ∀ q ∈ m_g_3, q.2.all (fun c => c.all (m_ck1 q.1)) = true := List.forall_mem_cons.mpr ⟨m_ok_60, List.forall_mem_cons.mpr ⟨m_ok_62, List.forall_mem_cons.mpr ⟨m_ok_64, List.forall_mem_cons.mpr ⟨m_ok_68, List.forall_mem_cons.mpr ⟨m_ok_70, List.forall_mem_cons.mpr ⟨m_ok_71, List.forall_mem_cons.mpr ⟨m_ok_72, List.forall_mem_cons.mpr ⟨m_ok_73, List.forall_mem_cons.mpr ⟨m_ok_75, List.forall_mem_cons.mpr ⟨m_ok_77, List.forall_mem_cons.mpr ⟨m_ok_79, fun _ h => absurd h List.not_mem_nil⟩⟩⟩⟩⟩⟩⟩⟩⟩⟩⟩
theorem m_gok_4 : ∀ q ∈ m_g_4, q.2.all (fun c => c.all (m_ck1 q.1)) = true := List.forall_mem_cons.mpr ⟨m_ok_81, List.forall_mem_cons.mpr ⟨m_ok_83, List.forall_mem_cons.mpr ⟨m_ok_85, List.forall_mem_cons.mpr ⟨m_ok_87, List.forall_mem_cons.mpr ⟨m_ok_90, List.forall_mem_cons.mpr ⟨m_ok_91, List.forall_mem_cons.mpr ⟨m_ok_92, List.forall_mem_cons.mpr ⟨m_ok_93, List.forall_mem_cons.mpr ⟨m_ok_95, List.forall_mem_cons.mpr ⟨m_ok_96, List.forall_mem_cons.mpr ⟨m_ok_97, List.forall_mem_cons.mpr ⟨m_ok_98, List.forall_mem_cons.mpr ⟨m_ok_99, fun _ h => absurd h List.not_mem_nil⟩⟩⟩⟩⟩⟩⟩⟩⟩⟩⟩⟩⟩
theorem m_gok_5 : ∀ q ∈ m_g_5, q.2.all (fun c => c.all (m_ck1 q.1)) = true := List.forall_mem_cons.mpr ⟨m_ok_100, List.forall_mem_cons.mpr ⟨m_ok_101, List.forall_mem_cons.mpr ⟨m_ok_103, List.forall_mem_cons.mpr ⟨m_ok_104, List.forall_mem_cons.mpr ⟨m_ok_105, List.forall_mem_cons.mpr ⟨m_ok_107, List.forall_mem_cons.mpr ⟨m_ok_108, List.forall_mem_cons.mpr ⟨m_ok_109, List.forall_mem_cons.mpr ⟨m_ok_110, List.forall_mem_cons.mpr ⟨m_ok_112, List.forall_mem_cons.mpr ⟨m_ok_113, List.forall_mem_cons.mpr ⟨m_ok_116, List.forall_mem_cons.mpr ⟨m_ok_118, fun _ h => absurd h List.not_mem_nil⟩⟩⟩⟩⟩⟩⟩⟩⟩⟩⟩⟩⟩
theorem m_gok_6 : ∀ q ∈ m_g_6, q.2.all (fun c => c.all (m_ck1 q.1)) = true := List.forall_mem_cons.mpr ⟨m_ok_121, List.forall_mem_cons.mpr ⟨m_ok_122, List.forall_mem_cons.mpr ⟨m_ok_124, List.forall_mem_cons.mpr ⟨m_ok_125, List.forall_mem_cons.mpr ⟨m_ok_128, List.forall_mem_cons.mpr ⟨m_ok_131, List.forall_mem_cons.mpr ⟨m_ok_132, List.forall_mem_cons.mpr ⟨m_ok_134, List.forall_mem_cons.mpr ⟨m_ok_136, List.forall_mem_cons.mpr ⟨m_ok_137, List.forall_mem_cons.mpr ⟨m_ok_138, fun _ h => absurd h List.not_mem_nil⟩⟩⟩⟩⟩⟩⟩⟩⟩⟩⟩
theorem m_gok_7 : ∀ q ∈ m_g_7, q.2.all (fun c => c.all (m_ck1 q.1)) = true := List.forall_mem_cons.mpr ⟨m_ok_140, List.forall_mem_cons.mpr ⟨m_ok_146, List.forall_mem_cons.mpr ⟨m_ok_148, List.forall_mem_cons.mpr ⟨m_ok_150, List.forall_mem_cons.mpr ⟨m_ok_153, List.forall_mem_cons.mpr ⟨m_ok_154, List.forall_mem_cons.mpr ⟨m_ok_156, List.forall_mem_cons.mpr ⟨m_ok_158, fun _ h => absurd h List.not_mem_nil⟩⟩⟩⟩⟩⟩⟩⟩
theorem m_gok_8 : ∀ q ∈ m_g_8, q.2.all (fun c => c.all (m_ck1 q.1)) = true := List.forall_mem_cons.mpr ⟨m_ok_160, List.forall_mem_cons.mpr ⟨m_ok_162, List.forall_mem_cons.mpr ⟨m_ok_169, List.forall_mem_cons.mpr ⟨m_ok_170, List.forall_mem_cons.mpr ⟨m_ok_174, List.forall_mem_cons.mpr ⟨m_ok_176, fun _ h => absurd h List.not_mem_nil⟩⟩⟩⟩⟩⟩
theorem m_gok_9 : ∀ q ∈ m_g_9, q.2.all (fun c => c.all (m_ck1 q.1)) = true := List.forall_mem_cons.mpr ⟨m_ok_180, List.forall_mem_cons.mpr ⟨m_ok_182, List.forall_mem_cons.mpr ⟨m_ok_184, List.forall_mem_cons.mpr ⟨m_ok_186, List.forall_mem_cons.mpr ⟨m_ok_187, List.forall_mem_cons.mpr ⟨m_ok_188, List.forall_mem_cons.mpr ⟨m_ok_192, List.forall_mem_cons.mpr ⟨m_ok_194, List.forall_mem_cons.mpr ⟨m_ok_195, List.forall_mem_cons.mpr ⟨m_ok_196, List.forall_mem_cons.mpr ⟨m_ok_197, List.forall_mem_cons.mpr ⟨m_ok_198, List.forall_mem_cons.mpr ⟨m_ok_199, fun _ h => absurd h List.not_mem_nil⟩⟩⟩⟩⟩⟩⟩⟩⟩⟩⟩⟩⟩
theorem m_gok_10 : ∀ q ∈ m_g_10, q.2.all (fun c => c.all (m_ck1 q.1)) = true := List.forall_mem_cons.mpr ⟨m_ok_200, List.forall_mem_cons.mpr ⟨m_ok_201, List.forall_mem_cons.mpr ⟨m_ok_202, List.forall_mem_cons.mpr ⟨m_ok_205, List.forall_mem_cons.mpr ⟨m_ok_209, List.forall_mem_cons.mpr ⟨m_ok_210, List.forall_mem_cons.mpr ⟨m_ok_211, List.forall_mem_cons.mpr ⟨m_ok_212, List.forall_mem_cons.mpr ⟨m_ok_213, List.forall_mem_cons.mpr ⟨m_ok_215, List.forall_mem_cons.mpr ⟨m_ok_216, List.forall_mem_cons.mpr ⟨m_ok_217, List.forall_mem_cons.mpr ⟨m_ok_218, List.forall_mem_cons.mpr ⟨m_ok_219, fun _ h => absurd h List.not_mem_nil⟩⟩⟩⟩⟩⟩⟩⟩⟩⟩⟩⟩⟩⟩
theorem m_gok_11 : ∀ q ∈ m_g_11, q.2.all (fun c => c.all (m_ck1 q.1)) = true := List.forall_mem_cons.mpr ⟨m_ok_220, List.forall_mem_cons.mpr ⟨m_ok_221, List.forall_mem_cons.mpr ⟨m_ok_222, List.forall_mem_cons.mpr ⟨m_ok_223, List.forall_mem_cons.mpr ⟨m_ok_224, List.forall_mem_cons.mpr ⟨m_ok_225, List.forall_mem_cons.mpr ⟨m_ok_226, fun _ h => absurd h List.not_mem_nil⟩⟩⟩⟩⟩⟩⟩
theorem m_gok_12 : ∀ q ∈ m_g_12, q.2.all (fun c => c.all (m_ck1 q.1)) = true := List.forall_mem_cons.mpr ⟨m_ok_241, List.forall_mem_cons.mpr ⟨m_ok_242, List.forall_mem_cons.mpr ⟨m_ok_243, List.forall_mem_cons.mpr ⟨m_ok_244, List.forall_mem_cons.mpr ⟨m_ok_245, List.forall_mem_cons.mpr ⟨m_ok_246, List.forall_mem_cons.mpr ⟨m_ok_247, List.forall_mem_cons.mpr ⟨m_ok_249, List.forall_mem_cons.mpr ⟨m_ok_250, List.forall_mem_cons.mpr ⟨m_ok_251, List.forall_mem_cons.mpr ⟨m_ok_252, List.forall_mem_cons.mpr ⟨m_ok_256, fun _ h => absurd h List.not_mem_nil⟩⟩⟩⟩⟩⟩⟩⟩⟩⟩⟩⟩
theorem m_gok_13 : ∀ q ∈ m_g_13, q.2.all (fun c => c.all (m_ck1 q.1)) = true := List.forall_mem_cons.mpr ⟨m_ok_266, List.forall_mem_cons.mpr ⟨m_ok_269, List.forall_mem_cons.mpr ⟨m_ok_270, List.forall_mem_cons.mpr ⟨m_ok_271, List.forall_mem_cons.mpr ⟨m_ok_272, List.forall_mem_cons.mpr ⟨m_ok_273, List.forall_mem_cons.mpr ⟨m_ok_275, List.forall_mem_cons.mpr ⟨m_ok_276, List.forall_mem_cons.mpr ⟨m_ok_277, List.forall_mem_cons.mpr ⟨m_ok_278, List.forall_mem_cons.mpr ⟨m_ok_279, fun _ h => absurd h List.not_mem_nil⟩⟩⟩⟩⟩⟩⟩⟩⟩⟩⟩
theorem m_gok_14 : ∀ q ∈ m_g_14, q.2.all (fun c => c.all (m_ck1 q.1)) = true := List.forall_mem_cons.mpr ⟨m_ok_280, List.forall_mem_cons.mpr ⟨m_ok_282, List.forall_mem_cons.mpr ⟨m_ok_283, List.forall_mem_cons.mpr ⟨m_ok_285, List.forall_mem_cons.mpr ⟨m_ok_286, List.forall_mem_cons.mpr ⟨m_ok_287, List.forall_mem_cons.mpr ⟨m_ok_290, List.forall_mem_cons.mpr ⟨m_ok_291, List.forall_mem_cons.mpr ⟨m_ok_292, List.forall_mem_cons.mpr ⟨m_ok_293, List.forall_mem_cons.mpr ⟨m_ok_296, List.forall_mem_cons.mpr ⟨m_ok_297, List.forall_mem_cons.mpr ⟨m_ok_299, fun _ h => absurd h List.not_mem_nil⟩⟩⟩⟩⟩⟩⟩⟩⟩⟩⟩⟩⟩
theorem m_gok_15 : ∀ q ∈ m_g_15, q.2.all (fun c => c.all (m_ck1 q.1)) = true := List.forall_mem_cons.mpr ⟨m_ok_300, List.forall_mem_cons.mpr ⟨m_ok_301, List.forall_mem_cons.mpr ⟨m_ok_302, List.forall_mem_cons.mpr ⟨m_ok_303, List.forall_mem_cons.mpr ⟨m_ok_304, List.forall_mem_cons.mpr ⟨m_ok_305, List.forall_mem_cons.mpr ⟨m_ok_306, List.forall_mem_cons.mpr ⟨m_ok_308, List.forall_mem_cons.mpr ⟨m_ok_309, List.forall_mem_cons.mpr ⟨m_ok_310, List.forall_mem_cons.mpr ⟨m_ok_311, List.forall_mem_cons.mpr ⟨m_ok_312, List.forall_mem_cons.mpr ⟨m_ok_313, List.forall_mem_cons.mpr ⟨m_ok_316, List.forall_mem_cons.mpr ⟨m_ok_318, fun _ h => absurd h List.not_mem_nil⟩⟩⟩⟩⟩⟩⟩⟩⟩⟩⟩⟩⟩⟩⟩
theorem m_gok_16 : ∀ q ∈ m_g_16, q.2.all (fun c => c.all (m_ck1 q.1)) = true := List.forall_mem_cons.mpr ⟨m_ok_322, List.forall_mem_cons.mpr ⟨m_ok_323, List.forall_mem_cons.mpr ⟨m_ok_324, List.forall_mem_cons.mpr ⟨m_ok_325, List.forall_mem_cons.mpr ⟨m_ok_326, List.forall_mem_cons.mpr ⟨m_ok_328, List.forall_mem_cons.mpr ⟨m_ok_329, List.forall_mem_cons.mpr ⟨m_ok_330, List.forall_mem_cons.mpr ⟨m_ok_331, List.forall_mem_cons.mpr ⟨m_ok_332, List.forall_mem_cons.mpr ⟨m_ok_338, List.forall_mem_cons.mpr ⟨m_ok_339, fun _ h => absurd h List.not_mem_nil⟩⟩⟩⟩⟩⟩⟩⟩⟩⟩⟩⟩
theorem m_gok_17 : ∀ q ∈ m_g_17, q.2.all (fun c => c.all (m_ck1 q.1)) = true := List.forall_mem_cons.mpr ⟨m_ok_340, List.forall_mem_cons.mpr ⟨m_ok_341, List.forall_mem_cons.mpr ⟨m_ok_342, List.forall_mem_cons.mpr ⟨m_ok_344, List.forall_mem_cons.mpr ⟨m_ok_345, List.forall_mem_cons.mpr ⟨m_ok_346, List.forall_mem_cons.mpr ⟨m_ok_348, List.forall_mem_cons.mpr ⟨m_ok_353, List.forall_mem_cons.mpr ⟨m_ok_354, List.forall_mem_cons.mpr ⟨m_ok_356, List.forall_mem_cons.mpr ⟨m_ok_357, fun _ h => absurd h List.not_mem_nil⟩⟩⟩⟩⟩⟩⟩⟩⟩⟩⟩
theorem m_gok_18 : ∀ q ∈ m_g_18, q.2.all (fun c => c.all (m_ck1 q.1)) = true := List.forall_mem_cons.mpr ⟨m_ok_360, List.forall_mem_cons.mpr ⟨m_ok_361, List.forall_mem_cons.mpr ⟨m_ok_362, List.forall_mem_cons.mpr ⟨m_ok_364, List.forall_mem_cons.mpr ⟨m_ok_365, List.forall_mem_cons.mpr ⟨m_ok_367, List.forall_mem_cons.mpr ⟨m_ok_368, List.forall_mem_cons.mpr ⟨m_ok_369, List.forall_mem_cons.mpr ⟨m_ok_370, List.forall_mem_cons.mpr ⟨m_ok_371, List.forall_mem_cons.mpr ⟨m_ok_372, List.forall_mem_cons.mpr ⟨m_ok_373, fun _ h => absurd h List.not_mem_nil⟩⟩⟩⟩⟩⟩⟩⟩⟩⟩⟩⟩
theorem m_tbok : ∀ g ∈ m_tb, ∀ q ∈ g, q.2.all (fun c => c.all (m_ck1 q.1)) = true := List.forall_mem_cons.mpr ⟨m_gok_0, List.forall_mem_cons.mpr ⟨m_gok_1, List.forall_mem_cons.mpr ⟨m_gok_2, List.forall_mem_cons.mpr ⟨m_gok_3, List.forall_mem_cons.mpr ⟨m_gok_4, List.forall_mem_cons.mpr ⟨m_gok_5, List.forall_mem_cons.mpr ⟨m_gok_6, List.forall_mem_cons.mpr ⟨m_gok_7, List.forall_mem_cons.mpr ⟨m_gok_8, List.forall_mem_cons.mpr ⟨m_gok_9, List.forall_mem_cons.mpr ⟨m_gok_10, List.forall_mem_cons.mpr ⟨m_gok_11, List.forall_mem_cons.mpr ⟨m_gok_12, List.forall_mem_cons.mpr ⟨m_gok_13, List.forall_mem_cons.mpr ⟨m_gok_14, List.forall_mem_cons.mpr ⟨m_gok_15, List.forall_mem_cons.mpr ⟨m_gok_16, List.forall_mem_cons.mpr ⟨m_gok_17, List.forall_mem_cons.mpr ⟨m_gok_18, fun _ h => absurd h List.not_mem_nil⟩⟩⟩⟩⟩⟩⟩⟩⟩⟩⟩⟩⟩⟩⟩⟩⟩⟩⟩
theorem m_lkp {α : Type} : ∀ {l : List (Nat × α)} {k : Nat} {a : α}, l.lookup k = some a → (k, a) ∈ l
  | (k', a') :: l, k, a, h => by
    rw [List.lookup_cons] at h
    by_cases hk : (k == k') = true
    · rw [hk] at h
      cases h
      rw [beq_iff_eq.mp hk]
      exact List.mem_cons_self
    · simp only [Bool.not_eq_true] at hk
      rw [hk] at h
      exact List.mem_cons_of_mem _ (m_lkp h)
theorem m_fe_in {t : m_T} {pc : Nat} {q : m_I × Nat} (h : m_fe t pc = some q) : ∃ c ∈ t, (pc, q) ∈ c := by
  unfold m_fe at h
  split at h
  · rename_i c hc
    exact ⟨c, List.mem_of_getElem? hc, m_lkp h⟩
  · cases h
theorem m_ck_in {t : m_T} {k pc : Nat} {q : m_I × Nat} (ht : t.all (fun c => c.all (m_ck1 k)) = true) (h : m_fe t pc = some q) : m_ck1 k (pc, q) = true := by
  obtain ⟨c, h1, h2⟩ := m_fe_in h
  exact List.all_eq_true.mp (List.all_eq_true.mp ht c h1) _ h2
theorem m_okL : m_tL.all (fun c => c.all (m_ck1 1000)) = true := by
  have h : ∀ c ∈ m_tL, c.all (m_ck1 1000) = true := by
    intro c hc
    have e : m_tL = [m_tL_0, m_tL_1, m_tL_2, m_tL_3, m_tL_4, m_tL_5, m_tL_6, m_tL_7] ++ ([m_tL_8, m_tL_9, m_tL_10, m_tL_11, m_tL_12, m_tL_13, m_tL_14, m_tL_15] ++ ([m_tL_16, m_tL_17, m_tL_18, m_tL_19, m_tL_20, m_tL_21, m_tL_22, m_tL_23] ++ ([m_tL_24, m_tL_25, m_tL_26, m_tL_27, m_tL_28, m_tL_29, m_tL_30, m_tL_31] ++ ([m_tL_32, m_tL_33, m_tL_34, m_tL_35, m_tL_36, m_tL_37, m_tL_38, m_tL_39] ++ ([m_tL_40, m_tL_41, m_tL_42, m_tL_43, m_tL_44, m_tL_45, m_tL_46, m_tL_47] ++ ([m_tL_48, m_tL_49, m_tL_50, m_tL_51, m_tL_52, m_tL_53, m_tL_54, m_tL_55] ++ ([m_tL_56, m_tL_57, m_tL_58, m_tL_59, m_tL_60, m_tL_61, m_tL_62, m_tL_63] ++ ([m_tL_64, m_tL_65, m_tL_66, m_tL_67, m_tL_68, m_tL_69, m_tL_70, m_tL_71] ++ ([m_tL_72, m_tL_73, m_tL_74, m_tL_75, m_tL_76, m_tL_77, m_tL_78, m_tL_79] ++ ([m_tL_80, m_tL_81, m_tL_82, m_tL_83, m_tL_84, m_tL_85, m_tL_86, m_tL_87] ++ ([m_tL_88, m_tL_89, m_tL_90, m_tL_91, m_tL_92, m_tL_93, m_tL_94, m_tL_95] ++ ([m_tL_96, m_tL_97, m_tL_98, m_tL_99, m_tL_100, m_tL_101, m_tL_102, m_tL_103] ++ ([m_tL_104, m_tL_105, m_tL_106, m_tL_107, m_tL_108, m_tL_109, m_tL_110, m_tL_111] ++ ([m_tL_112, m_tL_113, m_tL_114, m_tL_115, m_tL_116, m_tL_117, m_tL_118, m_tL_119] ++ ([m_tL_120, m_tL_121, m_tL_122, m_tL_123, m_tL_124, m_tL_125, m_tL_126, m_tL_127] ++ ([m_tL_128, m_tL_129, m_tL_130, m_tL_131, m_tL_132, m_tL_133, m_tL_134, m_tL_135] ++ ([m_tL_136, m_tL_137, m_tL_138, m_tL_139, m_tL_140, m_tL_141, m_tL_142, m_tL_143] ++ ([m_tL_144, m_tL_145, m_tL_146, m_tL_147, m_tL_148, m_tL_149, m_tL_150, m_tL_151] ++ ([m_tL_152, m_tL_153]))))))))))))))))))) := rfl
    rw [e] at hc
    rcases List.mem_append.mp hc with hc | hc
    · exact List.all_eq_true.mp m_okL_0 c hc
    rcases List.mem_append.mp hc with hc | hc
    · exact List.all_eq_true.mp m_okL_1 c hc
    rcases List.mem_append.mp hc with hc | hc
    · exact List.all_eq_true.mp m_okL_2 c hc
    rcases List.mem_append.mp hc with hc | hc
    · exact List.all_eq_true.mp m_okL_3 c hc
    rcases List.mem_append.mp hc with hc | hc
    · exact List.all_eq_true.mp m_okL_4 c hc
    rcases List.mem_append.mp hc with hc | hc
    · exact List.all_eq_true.mp m_okL_5 c hc
    rcases List.mem_append.mp hc with hc | hc
    · exact List.all_eq_true.mp m_okL_6 c hc
    rcases List.mem_append.mp hc with hc | hc
    · exact List.all_eq_true.mp m_okL_7 c hc
    rcases List.mem_append.mp hc with hc | hc
    · exact List.all_eq_true.mp m_okL_8 c hc
    rcases List.mem_append.mp hc with hc | hc
    · exact List.all_eq_true.mp m_okL_9 c hc
    rcases List.mem_append.mp hc with hc | hc
    · exact List.all_eq_true.mp m_okL_10 c hc
    rcases List.mem_append.mp hc with hc | hc
    · exact List.all_eq_true.mp m_okL_11 c hc
    rcases List.mem_append.mp hc with hc | hc
    · exact List.all_eq_true.mp m_okL_12 c hc
    rcases List.mem_append.mp hc with hc | hc
    · exact List.all_eq_true.mp m_okL_13 c hc
    rcases List.mem_append.mp hc with hc | hc
    · exact List.all_eq_true.mp m_okL_14 c hc
    rcases List.mem_append.mp hc with hc | hc
    · exact List.all_eq_true.mp m_okL_15 c hc
    rcases List.mem_append.mp hc with hc | hc
    · exact List.all_eq_true.mp m_okL_16 c hc
    rcases List.mem_append.mp hc with hc | hc
    · exact List.all_eq_true.mp m_okL_17 c hc
    rcases List.mem_append.mp hc with hc | hc
    · exact List.all_eq_true.mp m_okL_18 c hc
    exact List.all_eq_true.mp m_okL_19 c hc
  exact List.all_eq_true.mpr h
theorem m_F_ok : m_FOk m_F := by
  have key : ∀ (k pc : Nat) (I : m_I) (len : Nat), m_ck1 k (pc, (I, len)) = true → ∃ (y : MethodName) (b : ByteArray) (n : Nat) (r : Option FieldType) (ins : Instr), m_me k = some (y, b, n, r) ∧ decode b pc = .ok (ins, len) ∧ m_tri y n r pc ins len = some I := by
    intro k pc I len h
    unfold m_ck1 at h
    split at h
    · rename_i y b n r hme
      split at h
      · rename_i ins len' hd
        simp only [Bool.and_eq_true, decide_eq_true_eq] at h
        obtain ⟨rfl, h2⟩ := h
        exact ⟨y, b, n, r, ins, hme, hd, h2⟩
      · cases h
    · cases h
  intro mid pc I len h
  unfold m_F at h
  split at h
  · rename_i hm
    subst hm
    exact key _ _ _ _ (m_ck_in m_okL h)
  · split at h
    · rename_i g hg
      split at h
      · rename_i t ht
        exact key _ _ _ _ (m_ck_in (m_tbok g (List.mem_of_getElem? hg) (mid, t) (m_lkp ht)) h)
      · cases h
    · cases h
