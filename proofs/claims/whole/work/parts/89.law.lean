/-! ===== the law: what the skeleton gives ===== -/
def R_law : String := "KilnPermitsLaw"
def lw_P (b : Addr) (xs : List Int32) (args : Array Value) (s : State) : Prop := args = #[.ref b] ∧ s.IntsAt b xs ∧ xs.length ≤ 2048 ∧ (Jvm.Cond.and given_1 narrow_1).before args s = true
def lw_Q (_ : Array Value) (s : State) (o : Outcome) (t : State) : Prop := o = .returned (some (.int 1)) ∧ Framed s o t [] 600000 7302250
def lw_Z (below : List Frame) (a : Array Value) (s : State) : State → Prop := fun t => ∃ o, t.status = .running ∧ Ended t below o ∧ lw_Q a s o t
/-- the law's own end, with 1 on the stack, nothing written that was there before, its room as the claim has it -/
theorem lw_ret {p : Program} {l : Launch} {e : Env} {s : State} {m : MethodId} {below : List Frame} {meth : Method} {c : Code} {b : Nat} (hx : p.tables.exec = Jvm.exec) (hb : c.code = code) (hr : meth.sig.returnType = ret) (hlocks : meth.locks = false) {pc : Nat} {H : Heap} {ls : Array Slot} (hdg : decode code pc = .ok (.ireturn, 1)) : W p l e room_1 s m #[Value.ref b] below meth c H [] 600000 7302250 (lw_Z below #[Value.ref b] s) (F0 m pc ls [.int 1]) := by
  intro T hT X
  obtain ⟨fs, hret, hrun, hended, hW, hframe⟩ := X.leave (v := some (.int 1)) (hlocks := hlocks) (fun h => by rw [hr] at h; cases h)
  have hmeth' : T.vm.method? m = some meth := X.method'
  refine ⟨T.setFrames fs, ?_, .returned (some (.int 1)), hrun, hended, rfl, ⟨_, rfl⟩, hW, hframe⟩
  jvm_step X.here [X.here.top, hx, hb, hdg, hmeth', hr, ret, narrow_b1]
  (try refine ⟨rfl, ?_⟩); (try refine ⟨rfl, ?_⟩)
  first | (intro acts; rw [hret _ acts rfl rfl rfl]) | rw [hret _ _ rfl rfl rfl]
  exact Steps.refl _
/-- what holds at the law's entry: the machine, the code, the tables' words (any of lw_tbl by 'hts w (by decide +kernel)'), the script of L ints xs at the cell b, what the Statement gives of the start (any of its parts by flat_of_before) -/
def lw_At (p : Program) (s : State) (m : MethodId) (meth : Method) (c : Code) (b L : Nat) (xs : Nat → Int32) : Prop :=
  p.tables.exec = Jvm.exec ∧ c.code = code ∧ meth.sig.returnType = ret ∧ c.maxLocals = 4 ∧ s.vm.findClass R_law = some m.cls ∧ (∀ w ∈ lw_tbl, w.before #[Value.ref b] s = true) ∧ va_X b L xs s s.heap ∧ b < s.heap.size ∧ meth.locks = false ∧ (Jvm.Cond.and given_1 narrow_1).before #[Value.ref b] s = true
/-! ===== the law's program ===== -/
def f_lret : List Value → Option (Prop × Option Value) := fun st => match st with
  | [.int v] => some (v = 1, some (.int v))
  | _ => none
/-! KilnPermitsLaw.law([I)Z -/
def m_L_law : List (Nat × mT) := [(0, tE (f_new 7)),
  (3, tD (f_dup)),
  (4, tC w_X6_init 7 1),
  (7, tD (f_as 1 1)),
  (8, tE (f_new 8)),
  (11, tD (f_dup)),
  (12, tC w_X7_init 8 1),
  (15, tD (f_as 2 1)),
  (16, tD (f_ic (nI 0) 1)),
  (17, tD (f_is 3 1)),
  (18, tD (f_il 3 1)),
  (19, tD (f_al 0 1)),
  (20, tD (f_alen)),
  (21, tD (f_ic (nI 4) 1)),
  (22, tD (f_b2 fun x y => x - y)),
  (23, tI2 (fun x y => y < x) 745),
  (26, tD (f_al 0 1)),
  (27, tD (f_il 3 1)),
  (28, tD (f_iald)),
  (29, tD (f_ic (nI 31) 2)),
  (31, tD (f_b2 fun x y => x &&& y)),
  (32, tD (f_sw (0) (20) 739 [132, 165, 208, 231, 274, 317, 330, 353, 386, 419, 452, 465, 490, 503, 516, 529, 542, 575, 608, 667, 716])),
  (132, tD (f_al 1 1)),
  (133, tD (f_al 0 1)),
  (134, tD (f_il 3 1)),
  (135, tD (f_ic (nI 1) 1)),
  (136, tD (f_b2 fun x y => x + y)),
  (137, tD (f_iald)),
  (138, tD (f_al 0 1)),
  (139, tD (f_il 3 1)),
  (140, tD (f_ic (nI 2) 1)),
  (141, tD (f_b2 fun x y => x + y)),
  (142, tD (f_iald)),
  (143, tC w_X6_issue 7 3),
  (146, tD (f_al 2 1)),
  (147, tD (f_al 0 1)),
  (148, tD (f_il 3 1)),
  (149, tD (f_ic (nI 1) 1)),
  (150, tD (f_b2 fun x y => x + y)),
  (151, tD (f_iald)),
  (152, tD (f_al 0 1)),
  (153, tD (f_il 3 1)),
  (154, tD (f_ic (nI 2) 1)),
  (155, tD (f_b2 fun x y => x + y)),
  (156, tD (f_iald)),
  (157, tC w_X7_issue 8 3),
  (160, tI2 (fun x y => x = y) 739),
  (163, tD (f_ic (nI 0) 1)),
  (165, tD (f_al 1 1)),
  (166, tD (f_al 0 1)),
  (167, tD (f_il 3 1)),
  (168, tD (f_ic (nI 1) 1)),
  (169, tD (f_b2 fun x y => x + y)),
  (170, tD (f_iald)),
  (171, tD (f_al 0 1)),
  (172, tD (f_il 3 1)),
  (173, tD (f_ic (nI 2) 1)),
  (174, tD (f_b2 fun x y => x + y)),
  (175, tD (f_iald)),
  (176, tD (f_al 0 1)),
  (177, tD (f_il 3 1)),
  (178, tD (f_ic (nI 3) 1)),
  (179, tD (f_b2 fun x y => x + y)),
  (180, tD (f_iald)),
  (181, tC w_X6_fire 7 4),
  (184, tD (f_al 2 1)),
  (185, tD (f_al 0 1)),
  (186, tD (f_il 3 1)),
  (187, tD (f_ic (nI 1) 1)),
  (188, tD (f_b2 fun x y => x + y)),
  (189, tD (f_iald)),
  (190, tD (f_al 0 1)),
  (191, tD (f_il 3 1)),
  (192, tD (f_ic (nI 2) 1)),
  (193, tD (f_b2 fun x y => x + y)),
  (194, tD (f_iald)),
  (195, tD (f_al 0 1)),
  (196, tD (f_il 3 1)),
  (197, tD (f_ic (nI 3) 1)),
  (198, tD (f_b2 fun x y => x + y)),
  (199, tD (f_iald)),
  (200, tC w_X7_fire 8 4),
  (203, tI2 (fun x y => x = y) 739),
  (206, tD (f_ic (nI 0) 1)),
  (208, tD (f_al 1 1)),
  (209, tD (f_al 0 1)),
  (210, tD (f_il 3 1)),
  (211, tD (f_ic (nI 1) 1)),
  (212, tD (f_b2 fun x y => x + y)),
  (213, tD (f_iald)),
  (214, tC w_X6_audit 7 2),
  (217, tD (f_al 2 1)),
  (218, tD (f_al 0 1)),
  (219, tD (f_il 3 1)),
  (220, tD (f_ic (nI 1) 1)),
  (221, tD (f_b2 fun x y => x + y)),
  (222, tD (f_iald)),
  (223, tC w_X7_audit 8 2),
  (226, tI2 (fun x y => x = y) 739),
  (229, tD (f_ic (nI 0) 1)),
  (231, tD (f_al 1 1)),
  (232, tD (f_al 0 1)),
  (233, tD (f_il 3 1)),
  (234, tD (f_ic (nI 1) 1)),
  (235, tD (f_b2 fun x y => x + y)),
  (236, tD (f_iald)),
  (237, tD (f_al 0 1)),
  (238, tD (f_il 3 1)),
  (239, tD (f_ic (nI 2) 1)),
  (240, tD (f_b2 fun x y => x + y)),
  (241, tD (f_iald)),
  (242, tD (f_al 0 1)),
  (243, tD (f_il 3 1)),
  (244, tD (f_ic (nI 3) 1)),
  (245, tD (f_b2 fun x y => x + y)),
  (246, tD (f_iald)),
  (247, tC w_X6_bid 7 4),
  (250, tD (f_al 2 1)),
  (251, tD (f_al 0 1)),
  (252, tD (f_il 3 1)),
  (253, tD (f_ic (nI 1) 1)),
  (254, tD (f_b2 fun x y => x + y)),
  (255, tD (f_iald)),
  (256, tD (f_al 0 1)),
  (257, tD (f_il 3 1)),
  (258, tD (f_ic (nI 2) 1)),
  (259, tD (f_b2 fun x y => x + y)),
  (260, tD (f_iald)),
  (261, tD (f_al 0 1)),
  (262, tD (f_il 3 1)),
  (263, tD (f_ic (nI 3) 1)),
  (264, tD (f_b2 fun x y => x + y)),
  (265, tD (f_iald)),
  (266, tC w_X7_bid 8 4),
  (269, tI2 (fun x y => x = y) 739),
  (272, tD (f_ic (nI 0) 1)),
  (274, tD (f_al 1 1)),
  (275, tD (f_al 0 1)),
  (276, tD (f_il 3 1)),
  (277, tD (f_ic (nI 1) 1)),
  (278, tD (f_b2 fun x y => x + y)),
  (279, tD (f_iald)),
  (280, tD (f_al 0 1)),
  (281, tD (f_il 3 1)),
  (282, tD (f_ic (nI 2) 1)),
  (283, tD (f_b2 fun x y => x + y)),
  (284, tD (f_iald)),
  (285, tD (f_al 0 1)),
  (286, tD (f_il 3 1)),
  (287, tD (f_ic (nI 3) 1)),
  (288, tD (f_b2 fun x y => x + y)),
  (289, tD (f_iald)),
  (290, tC w_X6_ask 7 4),
  (293, tD (f_al 2 1)),
  (294, tD (f_al 0 1)),
  (295, tD (f_il 3 1)),
  (296, tD (f_ic (nI 1) 1)),
  (297, tD (f_b2 fun x y => x + y)),
  (298, tD (f_iald)),
  (299, tD (f_al 0 1)),
  (300, tD (f_il 3 1)),
  (301, tD (f_ic (nI 2) 1)),
  (302, tD (f_b2 fun x y => x + y)),
  (303, tD (f_iald)),
  (304, tD (f_al 0 1)),
  (305, tD (f_il 3 1)),
  (306, tD (f_ic (nI 3) 1)),
  (307, tD (f_b2 fun x y => x + y)),
  (308, tD (f_iald)),
  (309, tC w_X7_ask 8 4),
  (312, tI2 (fun x y => x = y) 739),
  (315, tD (f_ic (nI 0) 1)),
  (317, tD (f_al 1 1)),
  (318, tC w_X6_orderAll 7 1),
  (321, tD (f_al 2 1)),
  (322, tC w_X7_orderAll 8 1),
  (325, tI2 (fun x y => x = y) 739),
  (328, tD (f_ic (nI 0) 1)),
  (330, tD (f_al 1 1)),
  (331, tD (f_al 0 1)),
  (332, tD (f_il 3 1)),
  (333, tD (f_ic (nI 1) 1)),
  (334, tD (f_b2 fun x y => x + y)),
  (335, tD (f_iald)),
  (336, tC w_X6_takeBack 7 2),
  (339, tD (f_al 2 1)),
  (340, tD (f_al 0 1)),
  (341, tD (f_il 3 1)),
  (342, tD (f_ic (nI 1) 1)),
  (343, tD (f_b2 fun x y => x + y)),
  (344, tD (f_iald)),
  (345, tC w_X7_takeBack 8 2),
  (348, tI2 (fun x y => x = y) 739),
  (351, tD (f_ic (nI 0) 1)),
  (353, tD (f_al 1 1)),
  (354, tD (f_al 0 1)),
  (355, tD (f_il 3 1)),
  (356, tD (f_ic (nI 1) 1)),
  (357, tD (f_b2 fun x y => x + y)),
  (358, tD (f_iald)),
  (359, tD (f_al 0 1)),
  (360, tD (f_il 3 1)),
  (361, tD (f_ic (nI 2) 1)),
  (362, tD (f_b2 fun x y => x + y)),
  (363, tD (f_iald)),
  (364, tC w_X6_buyReserve 7 3),
  (367, tD (f_al 2 1)),
  (368, tD (f_al 0 1)),
  (369, tD (f_il 3 1)),
  (370, tD (f_ic (nI 1) 1)),
  (371, tD (f_b2 fun x y => x + y)),
  (372, tD (f_iald)),
  (373, tD (f_al 0 1)),
  (374, tD (f_il 3 1)),
  (375, tD (f_ic (nI 2) 1)),
  (376, tD (f_b2 fun x y => x + y)),
  (377, tD (f_iald)),
  (378, tC w_X7_buyReserve 8 3),
  (381, tI2 (fun x y => x = y) 739),
  (384, tD (f_ic (nI 0) 1)),
  (386, tD (f_al 1 1)),
  (387, tD (f_al 0 1)),
  (388, tD (f_il 3 1)),
  (389, tD (f_ic (nI 1) 1)),
  (390, tD (f_b2 fun x y => x + y)),
  (391, tD (f_iald)),
  (392, tD (f_al 0 1)),
  (393, tD (f_il 3 1)),
  (394, tD (f_ic (nI 2) 1)),
  (395, tD (f_b2 fun x y => x + y)),
  (396, tD (f_iald)),
  (397, tC w_X6_borrow 7 3),
  (400, tD (f_al 2 1)),
  (401, tD (f_al 0 1)),
  (402, tD (f_il 3 1)),
  (403, tD (f_ic (nI 1) 1)),
  (404, tD (f_b2 fun x y => x + y)),
  (405, tD (f_iald)),
  (406, tD (f_al 0 1)),
  (407, tD (f_il 3 1)),
  (408, tD (f_ic (nI 2) 1)),
  (409, tD (f_b2 fun x y => x + y)),
  (410, tD (f_iald)),
  (411, tC w_X7_borrow 8 3),
  (414, tI2 (fun x y => x = y) 739),
  (417, tD (f_ic (nI 0) 1)),
  (419, tD (f_al 1 1)),
  (420, tD (f_al 0 1)),
  (421, tD (f_il 3 1)),
  (422, tD (f_ic (nI 1) 1)),
  (423, tD (f_b2 fun x y => x + y)),
  (424, tD (f_iald)),
  (425, tD (f_al 0 1)),
  (426, tD (f_il 3 1)),
  (427, tD (f_ic (nI 2) 1)),
  (428, tD (f_b2 fun x y => x + y)),
  (429, tD (f_iald)),
  (430, tC w_X6_set 7 3),
  (433, tD (f_al 2 1)),
  (434, tD (f_al 0 1)),
  (435, tD (f_il 3 1)),
  (436, tD (f_ic (nI 1) 1)),
  (437, tD (f_b2 fun x y => x + y)),
  (438, tD (f_iald)),
  (439, tD (f_al 0 1)),
  (440, tD (f_il 3 1)),
  (441, tD (f_ic (nI 2) 1)),
  (442, tD (f_b2 fun x y => x + y)),
  (443, tD (f_iald)),
  (444, tC w_X7_set 8 3),
  (447, tI2 (fun x y => x = y) 739),
  (450, tD (f_ic (nI 0) 1)),
  (452, tD (f_al 1 1)),
  (453, tC w_X6_endYear 7 1),
  (456, tD (f_al 2 1)),
  (457, tC w_X7_endYear 8 1),
  (460, tI2 (fun x y => x = y) 739),
  (463, tD (f_ic (nI 0) 1)),
  (465, tD (f_al 1 1)),
  (466, tD (f_al 0 1)),
  (467, tD (f_il 3 1)),
  (468, tD (f_ic (nI 1) 1)),
  (469, tD (f_b2 fun x y => x + y)),
  (470, tD (f_iald)),
  (471, tD (f_i2c)),
  (472, tC w_X6_type 7 2),
  (475, tD (f_al 2 1)),
  (476, tD (f_al 0 1)),
  (477, tD (f_il 3 1)),
  (478, tD (f_ic (nI 1) 1)),
  (479, tD (f_b2 fun x y => x + y)),
  (480, tD (f_iald)),
  (481, tD (f_i2c)),
  (482, tC w_X7_type 8 2),
  (485, tI2 (fun x y => x = y) 739),
  (488, tD (f_ic (nI 0) 1)),
  (490, tD (f_al 1 1)),
  (491, tC w_X6_clearText 7 1),
  (494, tD (f_al 2 1)),
  (495, tC w_X7_clearText 8 1),
  (498, tI2 (fun x y => x = y) 739),
  (501, tD (f_ic (nI 0) 1)),
  (503, tD (f_al 1 1)),
  (504, tC w_X6_undo 7 1),
  (507, tD (f_al 2 1)),
  (508, tC w_X7_undo 8 1),
  (511, tI2 (fun x y => x = y) 739),
  (514, tD (f_ic (nI 0) 1)),
  (516, tD (f_al 1 1)),
  (517, tC w_X6_keep 7 1),
  (520, tD (f_al 2 1)),
  (521, tC w_X7_keep 8 1),
  (524, tI2 (fun x y => x = y) 739),
  (527, tD (f_ic (nI 0) 1)),
  (529, tD (f_al 1 1)),
  (530, tC w_X6_restore 7 1),
  (533, tD (f_al 2 1)),
  (534, tC w_X7_restore 8 1),
  (537, tI2 (fun x y => x = y) 739),
  (540, tD (f_ic (nI 0) 1)),
  (542, tD (f_al 1 1)),
  (543, tD (f_al 0 1)),
  (544, tD (f_il 3 1)),
  (545, tD (f_ic (nI 1) 1)),
  (546, tD (f_b2 fun x y => x + y)),
  (547, tD (f_iald)),
  (548, tD (f_al 0 1)),
  (549, tD (f_il 3 1)),
  (550, tD (f_ic (nI 2) 1)),
  (551, tD (f_b2 fun x y => x + y)),
  (552, tD (f_iald)),
  (553, tC w_X6_kiln 7 3),
  (556, tD (f_al 2 1)),
  (557, tD (f_al 0 1)),
  (558, tD (f_il 3 1)),
  (559, tD (f_ic (nI 1) 1)),
  (560, tD (f_b2 fun x y => x + y)),
  (561, tD (f_iald)),
  (562, tD (f_al 0 1)),
  (563, tD (f_il 3 1)),
  (564, tD (f_ic (nI 2) 1)),
  (565, tD (f_b2 fun x y => x + y)),
  (566, tD (f_iald)),
  (567, tC w_X7_kiln 8 3),
  (570, tI2 (fun x y => x = y) 739),
  (573, tD (f_ic (nI 0) 1)),
  (575, tD (f_al 1 1)),
  (576, tD (f_al 0 1)),
  (577, tD (f_il 3 1)),
  (578, tD (f_ic (nI 1) 1)),
  (579, tD (f_b2 fun x y => x + y)),
  (580, tD (f_iald)),
  (581, tD (f_al 0 1)),
  (582, tD (f_il 3 1)),
  (583, tD (f_ic (nI 2) 1)),
  (584, tD (f_b2 fun x y => x + y)),
  (585, tD (f_iald)),
  (586, tC w_X6_ofYear 7 3),
  (589, tD (f_al 2 1)),
  (590, tD (f_al 0 1)),
  (591, tD (f_il 3 1)),
  (592, tD (f_ic (nI 1) 1)),
  (593, tD (f_b2 fun x y => x + y)),
  (594, tD (f_iald)),
  (595, tD (f_al 0 1)),
  (596, tD (f_il 3 1)),
  (597, tD (f_ic (nI 2) 1)),
  (598, tD (f_b2 fun x y => x + y)),
  (599, tD (f_iald)),
  (600, tC w_X7_ofYear 8 3),
  (603, tI2 (fun x y => x = y) 739),
  (606, tD (f_ic (nI 0) 1)),
  (608, tD (f_al 1 1)),
  (609, tD (f_al 0 1)),
  (610, tD (f_il 3 1)),
  (611, tD (f_ic (nI 1) 1)),
  (612, tD (f_b2 fun x y => x + y)),
  (613, tD (f_iald)),
  (614, tI1 (fun x => x = 0) 621),
  (617, tD (f_ic (nI 1) 1)),
  (618, tD (f_goto 622)),
  (621, tD (f_ic (nI 0) 1)),
  (622, tD (f_al 0 1)),
  (623, tD (f_il 3 1)),
  (624, tD (f_ic (nI 2) 1)),
  (625, tD (f_b2 fun x y => x + y)),
  (626, tD (f_iald)),
  (627, tD (f_al 0 1)),
  (628, tD (f_il 3 1)),
  (629, tD (f_ic (nI 3) 1)),
  (630, tD (f_b2 fun x y => x + y)),
  (631, tD (f_iald)),
  (632, tC w_X6_order 7 4),
  (635, tD (f_al 2 1)),
  (636, tD (f_al 0 1)),
  (637, tD (f_il 3 1)),
  (638, tD (f_ic (nI 1) 1)),
  (639, tD (f_b2 fun x y => x + y)),
  (640, tD (f_iald)),
  (641, tI1 (fun x => x = 0) 648),
  (644, tD (f_ic (nI 1) 1)),
  (645, tD (f_goto 649)),
  (648, tD (f_ic (nI 0) 1)),
  (649, tD (f_al 0 1)),
  (650, tD (f_il 3 1)),
  (651, tD (f_ic (nI 2) 1)),
  (652, tD (f_b2 fun x y => x + y)),
  (653, tD (f_iald)),
  (654, tD (f_al 0 1)),
  (655, tD (f_il 3 1)),
  (656, tD (f_ic (nI 3) 1)),
  (657, tD (f_b2 fun x y => x + y)),
  (658, tD (f_iald)),
  (659, tC w_X7_order 8 4),
  (662, tI2 (fun x y => x = y) 739),
  (665, tD (f_ic (nI 0) 1)),
  (667, tD (f_al 1 1)),
  (668, tD (f_al 0 1)),
  (669, tD (f_il 3 1)),
  (670, tD (f_ic (nI 1) 1)),
  (671, tD (f_b2 fun x y => x + y)),
  (672, tD (f_iald)),
  (673, tI1 (fun x => x = 0) 680),
  (676, tD (f_ic (nI 1) 1)),
  (677, tD (f_goto 681)),
  (680, tD (f_ic (nI 0) 1)),
  (681, tD (f_al 0 1)),
  (682, tD (f_il 3 1)),
  (683, tD (f_ic (nI 2) 1)),
  (684, tD (f_b2 fun x y => x + y)),
  (685, tD (f_iald)),
  (686, tC w_X6_depth 7 3),
  (689, tD (f_al 2 1)),
  (690, tD (f_al 0 1)),
  (691, tD (f_il 3 1)),
  (692, tD (f_ic (nI 1) 1)),
  (693, tD (f_b2 fun x y => x + y)),
  (694, tD (f_iald)),
  (695, tI1 (fun x => x = 0) 702),
  (698, tD (f_ic (nI 1) 1)),
  (699, tD (f_goto 703)),
  (702, tD (f_ic (nI 0) 1)),
  (703, tD (f_al 0 1)),
  (704, tD (f_il 3 1)),
  (705, tD (f_ic (nI 2) 1)),
  (706, tD (f_b2 fun x y => x + y)),
  (707, tD (f_iald)),
  (708, tC w_X7_depth 8 3),
  (711, tI2 (fun x y => x = y) 739),
  (714, tD (f_ic (nI 0) 1)),
  (716, tD (f_al 1 1)),
  (717, tD (f_al 0 1)),
  (718, tD (f_il 3 1)),
  (719, tD (f_ic (nI 1) 1)),
  (720, tD (f_b2 fun x y => x + y)),
  (721, tD (f_iald)),
  (722, tC w_X6_count 7 2),
  (725, tD (f_al 2 1)),
  (726, tD (f_al 0 1)),
  (727, tD (f_il 3 1)),
  (728, tD (f_ic (nI 1) 1)),
  (729, tD (f_b2 fun x y => x + y)),
  (730, tD (f_iald)),
  (731, tC w_X7_count 8 2),
  (734, tI2 (fun x y => x = y) 739),
  (737, tD (f_ic (nI 0) 1)),
  (739, tD (f_inc 3 (nI 4))),
  (742, tD (f_goto 18)),
  (745, tD (f_ic (nI 1) 1)),
  (746, tR f_lret)]
abbrev w_L_law : mS := wm m_L_law 1 3
set_option maxRecDepth 100000 in
theorem lo_L_law : locs_ok m_L_law := List.forall_mem_cons.mpr ⟨loc_E (fun _ => mo_new),
  List.forall_mem_cons.mpr ⟨loc_D mo_dup,
  List.forall_mem_cons.mpr ⟨loc_C sm_X6_init.1,
  List.forall_mem_cons.mpr ⟨loc_D mo_as,
  List.forall_mem_cons.mpr ⟨loc_E (fun _ => mo_new),
  List.forall_mem_cons.mpr ⟨loc_D mo_dup,
  List.forall_mem_cons.mpr ⟨loc_C sm_X7_init.1,
  List.forall_mem_cons.mpr ⟨loc_D mo_as,
  List.forall_mem_cons.mpr ⟨loc_D mo_ic,
  List.forall_mem_cons.mpr ⟨loc_D mo_is,
  List.forall_mem_cons.mpr ⟨loc_D mo_il,
  List.forall_mem_cons.mpr ⟨loc_D mo_al,
  List.forall_mem_cons.mpr ⟨loc_D mo_alen,
  List.forall_mem_cons.mpr ⟨loc_D mo_ic,
  List.forall_mem_cons.mpr ⟨loc_D mo_b2,
  List.forall_mem_cons.mpr ⟨loc_I2,
  List.forall_mem_cons.mpr ⟨loc_D mo_al,
  List.forall_mem_cons.mpr ⟨loc_D mo_il,
  List.forall_mem_cons.mpr ⟨loc_D mo_iald,
  List.forall_mem_cons.mpr ⟨loc_D mo_ic,
  List.forall_mem_cons.mpr ⟨loc_D mo_b2,
  List.forall_mem_cons.mpr ⟨loc_D mo_sw,
  List.forall_mem_cons.mpr ⟨loc_D mo_al,
  List.forall_mem_cons.mpr ⟨loc_D mo_al,
  List.forall_mem_cons.mpr ⟨loc_D mo_il,
  List.forall_mem_cons.mpr ⟨loc_D mo_ic,
  List.forall_mem_cons.mpr ⟨loc_D mo_b2,
  List.forall_mem_cons.mpr ⟨loc_D mo_iald,
  List.forall_mem_cons.mpr ⟨loc_D mo_al,
  List.forall_mem_cons.mpr ⟨loc_D mo_il,
  List.forall_mem_cons.mpr ⟨loc_D mo_ic,
  List.forall_mem_cons.mpr ⟨loc_D mo_b2,
  List.forall_mem_cons.mpr ⟨loc_D mo_iald,
  List.forall_mem_cons.mpr ⟨loc_C sm_X6_issue.1,
  List.forall_mem_cons.mpr ⟨loc_D mo_al,
  List.forall_mem_cons.mpr ⟨loc_D mo_al,
  List.forall_mem_cons.mpr ⟨loc_D mo_il,
  List.forall_mem_cons.mpr ⟨loc_D mo_ic,
  List.forall_mem_cons.mpr ⟨loc_D mo_b2,
  List.forall_mem_cons.mpr ⟨loc_D mo_iald,
  List.forall_mem_cons.mpr ⟨loc_D mo_al,
  List.forall_mem_cons.mpr ⟨loc_D mo_il,
  List.forall_mem_cons.mpr ⟨loc_D mo_ic,
  List.forall_mem_cons.mpr ⟨loc_D mo_b2,
  List.forall_mem_cons.mpr ⟨loc_D mo_iald,
  List.forall_mem_cons.mpr ⟨loc_C sm_X7_issue.1,
  List.forall_mem_cons.mpr ⟨loc_I2,
  List.forall_mem_cons.mpr ⟨loc_D mo_ic,
  List.forall_mem_cons.mpr ⟨loc_D mo_al,
  List.forall_mem_cons.mpr ⟨loc_D mo_al,
  List.forall_mem_cons.mpr ⟨loc_D mo_il,
  List.forall_mem_cons.mpr ⟨loc_D mo_ic,
  List.forall_mem_cons.mpr ⟨loc_D mo_b2,
  List.forall_mem_cons.mpr ⟨loc_D mo_iald,
  List.forall_mem_cons.mpr ⟨loc_D mo_al,
  List.forall_mem_cons.mpr ⟨loc_D mo_il,
  List.forall_mem_cons.mpr ⟨loc_D mo_ic,
  List.forall_mem_cons.mpr ⟨loc_D mo_b2,
  List.forall_mem_cons.mpr ⟨loc_D mo_iald,
  List.forall_mem_cons.mpr ⟨loc_D mo_al,
  List.forall_mem_cons.mpr ⟨loc_D mo_il,
  List.forall_mem_cons.mpr ⟨loc_D mo_ic,
  List.forall_mem_cons.mpr ⟨loc_D mo_b2,
  List.forall_mem_cons.mpr ⟨loc_D mo_iald,
  List.forall_mem_cons.mpr ⟨loc_C sm_X6_fire.1,
  List.forall_mem_cons.mpr ⟨loc_D mo_al,
  List.forall_mem_cons.mpr ⟨loc_D mo_al,
  List.forall_mem_cons.mpr ⟨loc_D mo_il,
  List.forall_mem_cons.mpr ⟨loc_D mo_ic,
  List.forall_mem_cons.mpr ⟨loc_D mo_b2,
  List.forall_mem_cons.mpr ⟨loc_D mo_iald,
  List.forall_mem_cons.mpr ⟨loc_D mo_al,
  List.forall_mem_cons.mpr ⟨loc_D mo_il,
  List.forall_mem_cons.mpr ⟨loc_D mo_ic,
  List.forall_mem_cons.mpr ⟨loc_D mo_b2,
  List.forall_mem_cons.mpr ⟨loc_D mo_iald,
  List.forall_mem_cons.mpr ⟨loc_D mo_al,
  List.forall_mem_cons.mpr ⟨loc_D mo_il,
  List.forall_mem_cons.mpr ⟨loc_D mo_ic,
  List.forall_mem_cons.mpr ⟨loc_D mo_b2,
  List.forall_mem_cons.mpr ⟨loc_D mo_iald,
  List.forall_mem_cons.mpr ⟨loc_C sm_X7_fire.1,
  List.forall_mem_cons.mpr ⟨loc_I2,
  List.forall_mem_cons.mpr ⟨loc_D mo_ic,
  List.forall_mem_cons.mpr ⟨loc_D mo_al,
  List.forall_mem_cons.mpr ⟨loc_D mo_al,
  List.forall_mem_cons.mpr ⟨loc_D mo_il,
  List.forall_mem_cons.mpr ⟨loc_D mo_ic,
  List.forall_mem_cons.mpr ⟨loc_D mo_b2,
  List.forall_mem_cons.mpr ⟨loc_D mo_iald,
  List.forall_mem_cons.mpr ⟨loc_C sm_X6_audit.1,
  List.forall_mem_cons.mpr ⟨loc_D mo_al,
  List.forall_mem_cons.mpr ⟨loc_D mo_al,
  List.forall_mem_cons.mpr ⟨loc_D mo_il,
  List.forall_mem_cons.mpr ⟨loc_D mo_ic,
  List.forall_mem_cons.mpr ⟨loc_D mo_b2,
  List.forall_mem_cons.mpr ⟨loc_D mo_iald,
  List.forall_mem_cons.mpr ⟨loc_C sm_X7_audit.1,
  List.forall_mem_cons.mpr ⟨loc_I2,
  List.forall_mem_cons.mpr ⟨loc_D mo_ic,
  List.forall_mem_cons.mpr ⟨loc_D mo_al,
  List.forall_mem_cons.mpr ⟨loc_D mo_al,
  List.forall_mem_cons.mpr ⟨loc_D mo_il,
  List.forall_mem_cons.mpr ⟨loc_D mo_ic,
  List.forall_mem_cons.mpr ⟨loc_D mo_b2,
  List.forall_mem_cons.mpr ⟨loc_D mo_iald,
  List.forall_mem_cons.mpr ⟨loc_D mo_al,
  List.forall_mem_cons.mpr ⟨loc_D mo_il,
  List.forall_mem_cons.mpr ⟨loc_D mo_ic,
  List.forall_mem_cons.mpr ⟨loc_D mo_b2,
  List.forall_mem_cons.mpr ⟨loc_D mo_iald,
  List.forall_mem_cons.mpr ⟨loc_D mo_al,
  List.forall_mem_cons.mpr ⟨loc_D mo_il,
  List.forall_mem_cons.mpr ⟨loc_D mo_ic,
  List.forall_mem_cons.mpr ⟨loc_D mo_b2,
  List.forall_mem_cons.mpr ⟨loc_D mo_iald,
  List.forall_mem_cons.mpr ⟨loc_C sm_X6_bid.1,
  List.forall_mem_cons.mpr ⟨loc_D mo_al,
  List.forall_mem_cons.mpr ⟨loc_D mo_al,
  List.forall_mem_cons.mpr ⟨loc_D mo_il,
  List.forall_mem_cons.mpr ⟨loc_D mo_ic,
  List.forall_mem_cons.mpr ⟨loc_D mo_b2,
  List.forall_mem_cons.mpr ⟨loc_D mo_iald,
  List.forall_mem_cons.mpr ⟨loc_D mo_al,
  List.forall_mem_cons.mpr ⟨loc_D mo_il,
  List.forall_mem_cons.mpr ⟨loc_D mo_ic,
  List.forall_mem_cons.mpr ⟨loc_D mo_b2,
  List.forall_mem_cons.mpr ⟨loc_D mo_iald,
  List.forall_mem_cons.mpr ⟨loc_D mo_al,
  List.forall_mem_cons.mpr ⟨loc_D mo_il,
  List.forall_mem_cons.mpr ⟨loc_D mo_ic,
  List.forall_mem_cons.mpr ⟨loc_D mo_b2,
  List.forall_mem_cons.mpr ⟨loc_D mo_iald,
  List.forall_mem_cons.mpr ⟨loc_C sm_X7_bid.1,
  List.forall_mem_cons.mpr ⟨loc_I2,
  List.forall_mem_cons.mpr ⟨loc_D mo_ic,
  List.forall_mem_cons.mpr ⟨loc_D mo_al,
  List.forall_mem_cons.mpr ⟨loc_D mo_al,
  List.forall_mem_cons.mpr ⟨loc_D mo_il,
  List.forall_mem_cons.mpr ⟨loc_D mo_ic,
  List.forall_mem_cons.mpr ⟨loc_D mo_b2,
  List.forall_mem_cons.mpr ⟨loc_D mo_iald,
  List.forall_mem_cons.mpr ⟨loc_D mo_al,
  List.forall_mem_cons.mpr ⟨loc_D mo_il,
  List.forall_mem_cons.mpr ⟨loc_D mo_ic,
  List.forall_mem_cons.mpr ⟨loc_D mo_b2,
  List.forall_mem_cons.mpr ⟨loc_D mo_iald,
  List.forall_mem_cons.mpr ⟨loc_D mo_al,
  List.forall_mem_cons.mpr ⟨loc_D mo_il,
  List.forall_mem_cons.mpr ⟨loc_D mo_ic,
  List.forall_mem_cons.mpr ⟨loc_D mo_b2,
  List.forall_mem_cons.mpr ⟨loc_D mo_iald,
  List.forall_mem_cons.mpr ⟨loc_C sm_X6_ask.1,
  List.forall_mem_cons.mpr ⟨loc_D mo_al,
  List.forall_mem_cons.mpr ⟨loc_D mo_al,
  List.forall_mem_cons.mpr ⟨loc_D mo_il,
  List.forall_mem_cons.mpr ⟨loc_D mo_ic,
  List.forall_mem_cons.mpr ⟨loc_D mo_b2,
  List.forall_mem_cons.mpr ⟨loc_D mo_iald,
  List.forall_mem_cons.mpr ⟨loc_D mo_al,
  List.forall_mem_cons.mpr ⟨loc_D mo_il,
  List.forall_mem_cons.mpr ⟨loc_D mo_ic,
  List.forall_mem_cons.mpr ⟨loc_D mo_b2,
  List.forall_mem_cons.mpr ⟨loc_D mo_iald,
  List.forall_mem_cons.mpr ⟨loc_D mo_al,
  List.forall_mem_cons.mpr ⟨loc_D mo_il,
  List.forall_mem_cons.mpr ⟨loc_D mo_ic,
  List.forall_mem_cons.mpr ⟨loc_D mo_b2,
  List.forall_mem_cons.mpr ⟨loc_D mo_iald,
  List.forall_mem_cons.mpr ⟨loc_C sm_X7_ask.1,
  List.forall_mem_cons.mpr ⟨loc_I2,
  List.forall_mem_cons.mpr ⟨loc_D mo_ic,
  List.forall_mem_cons.mpr ⟨loc_D mo_al,
  List.forall_mem_cons.mpr ⟨loc_C sm_X6_orderAll.1,
  List.forall_mem_cons.mpr ⟨loc_D mo_al,
  List.forall_mem_cons.mpr ⟨loc_C sm_X7_orderAll.1,
  List.forall_mem_cons.mpr ⟨loc_I2,
  List.forall_mem_cons.mpr ⟨loc_D mo_ic,
  List.forall_mem_cons.mpr ⟨loc_D mo_al,
  List.forall_mem_cons.mpr ⟨loc_D mo_al,
  List.forall_mem_cons.mpr ⟨loc_D mo_il,
  List.forall_mem_cons.mpr ⟨loc_D mo_ic,
  List.forall_mem_cons.mpr ⟨loc_D mo_b2,
  List.forall_mem_cons.mpr ⟨loc_D mo_iald,
  List.forall_mem_cons.mpr ⟨loc_C sm_X6_takeBack.1,
  List.forall_mem_cons.mpr ⟨loc_D mo_al,
  List.forall_mem_cons.mpr ⟨loc_D mo_al,
  List.forall_mem_cons.mpr ⟨loc_D mo_il,
  List.forall_mem_cons.mpr ⟨loc_D mo_ic,
  List.forall_mem_cons.mpr ⟨loc_D mo_b2,
  List.forall_mem_cons.mpr ⟨loc_D mo_iald,
  List.forall_mem_cons.mpr ⟨loc_C sm_X7_takeBack.1,
  List.forall_mem_cons.mpr ⟨loc_I2,
  List.forall_mem_cons.mpr ⟨loc_D mo_ic,
  List.forall_mem_cons.mpr ⟨loc_D mo_al,
  List.forall_mem_cons.mpr ⟨loc_D mo_al,
  List.forall_mem_cons.mpr ⟨loc_D mo_il,
  List.forall_mem_cons.mpr ⟨loc_D mo_ic,
  List.forall_mem_cons.mpr ⟨loc_D mo_b2,
  List.forall_mem_cons.mpr ⟨loc_D mo_iald,
  List.forall_mem_cons.mpr ⟨loc_D mo_al,
  List.forall_mem_cons.mpr ⟨loc_D mo_il,
  List.forall_mem_cons.mpr ⟨loc_D mo_ic,
  List.forall_mem_cons.mpr ⟨loc_D mo_b2,
  List.forall_mem_cons.mpr ⟨loc_D mo_iald,
  List.forall_mem_cons.mpr ⟨loc_C sm_X6_buyReserve.1,
  List.forall_mem_cons.mpr ⟨loc_D mo_al,
  List.forall_mem_cons.mpr ⟨loc_D mo_al,
  List.forall_mem_cons.mpr ⟨loc_D mo_il,
  List.forall_mem_cons.mpr ⟨loc_D mo_ic,
  List.forall_mem_cons.mpr ⟨loc_D mo_b2,
  List.forall_mem_cons.mpr ⟨loc_D mo_iald,
  List.forall_mem_cons.mpr ⟨loc_D mo_al,
  List.forall_mem_cons.mpr ⟨loc_D mo_il,
  List.forall_mem_cons.mpr ⟨loc_D mo_ic,
  List.forall_mem_cons.mpr ⟨loc_D mo_b2,
  List.forall_mem_cons.mpr ⟨loc_D mo_iald,
  List.forall_mem_cons.mpr ⟨loc_C sm_X7_buyReserve.1,
  List.forall_mem_cons.mpr ⟨loc_I2,
  List.forall_mem_cons.mpr ⟨loc_D mo_ic,
  List.forall_mem_cons.mpr ⟨loc_D mo_al,
  List.forall_mem_cons.mpr ⟨loc_D mo_al,
  List.forall_mem_cons.mpr ⟨loc_D mo_il,
  List.forall_mem_cons.mpr ⟨loc_D mo_ic,
  List.forall_mem_cons.mpr ⟨loc_D mo_b2,
  List.forall_mem_cons.mpr ⟨loc_D mo_iald,
  List.forall_mem_cons.mpr ⟨loc_D mo_al,
  List.forall_mem_cons.mpr ⟨loc_D mo_il,
  List.forall_mem_cons.mpr ⟨loc_D mo_ic,
  List.forall_mem_cons.mpr ⟨loc_D mo_b2,
  List.forall_mem_cons.mpr ⟨loc_D mo_iald,
  List.forall_mem_cons.mpr ⟨loc_C sm_X6_borrow.1,
  List.forall_mem_cons.mpr ⟨loc_D mo_al,
  List.forall_mem_cons.mpr ⟨loc_D mo_al,
  List.forall_mem_cons.mpr ⟨loc_D mo_il,
  List.forall_mem_cons.mpr ⟨loc_D mo_ic,
  List.forall_mem_cons.mpr ⟨loc_D mo_b2,
  List.forall_mem_cons.mpr ⟨loc_D mo_iald,
  List.forall_mem_cons.mpr ⟨loc_D mo_al,
  List.forall_mem_cons.mpr ⟨loc_D mo_il,
  List.forall_mem_cons.mpr ⟨loc_D mo_ic,
  List.forall_mem_cons.mpr ⟨loc_D mo_b2,
  List.forall_mem_cons.mpr ⟨loc_D mo_iald,
  List.forall_mem_cons.mpr ⟨loc_C sm_X7_borrow.1,
  List.forall_mem_cons.mpr ⟨loc_I2,
  List.forall_mem_cons.mpr ⟨loc_D mo_ic,
  List.forall_mem_cons.mpr ⟨loc_D mo_al,
  List.forall_mem_cons.mpr ⟨loc_D mo_al,
  List.forall_mem_cons.mpr ⟨loc_D mo_il,
  List.forall_mem_cons.mpr ⟨loc_D mo_ic,
  List.forall_mem_cons.mpr ⟨loc_D mo_b2,
  List.forall_mem_cons.mpr ⟨loc_D mo_iald,
  List.forall_mem_cons.mpr ⟨loc_D mo_al,
  List.forall_mem_cons.mpr ⟨loc_D mo_il,
  List.forall_mem_cons.mpr ⟨loc_D mo_ic,
  List.forall_mem_cons.mpr ⟨loc_D mo_b2,
  List.forall_mem_cons.mpr ⟨loc_D mo_iald,
  List.forall_mem_cons.mpr ⟨loc_C sm_X6_set.1,
  List.forall_mem_cons.mpr ⟨loc_D mo_al,
  List.forall_mem_cons.mpr ⟨loc_D mo_al,
  List.forall_mem_cons.mpr ⟨loc_D mo_il,
  List.forall_mem_cons.mpr ⟨loc_D mo_ic,
  List.forall_mem_cons.mpr ⟨loc_D mo_b2,
  List.forall_mem_cons.mpr ⟨loc_D mo_iald,
  List.forall_mem_cons.mpr ⟨loc_D mo_al,
  List.forall_mem_cons.mpr ⟨loc_D mo_il,
  List.forall_mem_cons.mpr ⟨loc_D mo_ic,
  List.forall_mem_cons.mpr ⟨loc_D mo_b2,
  List.forall_mem_cons.mpr ⟨loc_D mo_iald,
  List.forall_mem_cons.mpr ⟨loc_C sm_X7_set.1,
  List.forall_mem_cons.mpr ⟨loc_I2,
  List.forall_mem_cons.mpr ⟨loc_D mo_ic,
  List.forall_mem_cons.mpr ⟨loc_D mo_al,
  List.forall_mem_cons.mpr ⟨loc_C sm_X6_endYear.1,
  List.forall_mem_cons.mpr ⟨loc_D mo_al,
  List.forall_mem_cons.mpr ⟨loc_C sm_X7_endYear.1,
  List.forall_mem_cons.mpr ⟨loc_I2,
  List.forall_mem_cons.mpr ⟨loc_D mo_ic,
  List.forall_mem_cons.mpr ⟨loc_D mo_al,
  List.forall_mem_cons.mpr ⟨loc_D mo_al,
  List.forall_mem_cons.mpr ⟨loc_D mo_il,
  List.forall_mem_cons.mpr ⟨loc_D mo_ic,
  List.forall_mem_cons.mpr ⟨loc_D mo_b2,
  List.forall_mem_cons.mpr ⟨loc_D mo_iald,
  List.forall_mem_cons.mpr ⟨loc_D mo_i2c,
  List.forall_mem_cons.mpr ⟨loc_C sm_X6_type.1,
  List.forall_mem_cons.mpr ⟨loc_D mo_al,
  List.forall_mem_cons.mpr ⟨loc_D mo_al,
  List.forall_mem_cons.mpr ⟨loc_D mo_il,
  List.forall_mem_cons.mpr ⟨loc_D mo_ic,
  List.forall_mem_cons.mpr ⟨loc_D mo_b2,
  List.forall_mem_cons.mpr ⟨loc_D mo_iald,
  List.forall_mem_cons.mpr ⟨loc_D mo_i2c,
  List.forall_mem_cons.mpr ⟨loc_C sm_X7_type.1,
  List.forall_mem_cons.mpr ⟨loc_I2,
  List.forall_mem_cons.mpr ⟨loc_D mo_ic,
  List.forall_mem_cons.mpr ⟨loc_D mo_al,
  List.forall_mem_cons.mpr ⟨loc_C sm_X6_clearText.1,
  List.forall_mem_cons.mpr ⟨loc_D mo_al,
  List.forall_mem_cons.mpr ⟨loc_C sm_X7_clearText.1,
  List.forall_mem_cons.mpr ⟨loc_I2,
  List.forall_mem_cons.mpr ⟨loc_D mo_ic,
  List.forall_mem_cons.mpr ⟨loc_D mo_al,
  List.forall_mem_cons.mpr ⟨loc_C sm_X6_undo.1,
  List.forall_mem_cons.mpr ⟨loc_D mo_al,
  List.forall_mem_cons.mpr ⟨loc_C sm_X7_undo.1,
  List.forall_mem_cons.mpr ⟨loc_I2,
  List.forall_mem_cons.mpr ⟨loc_D mo_ic,
  List.forall_mem_cons.mpr ⟨loc_D mo_al,
  List.forall_mem_cons.mpr ⟨loc_C sm_X6_keep.1,
  List.forall_mem_cons.mpr ⟨loc_D mo_al,
  List.forall_mem_cons.mpr ⟨loc_C sm_X7_keep.1,
  List.forall_mem_cons.mpr ⟨loc_I2,
  List.forall_mem_cons.mpr ⟨loc_D mo_ic,
  List.forall_mem_cons.mpr ⟨loc_D mo_al,
  List.forall_mem_cons.mpr ⟨loc_C sm_X6_restore.1,
  List.forall_mem_cons.mpr ⟨loc_D mo_al,
  List.forall_mem_cons.mpr ⟨loc_C sm_X7_restore.1,
  List.forall_mem_cons.mpr ⟨loc_I2,
  List.forall_mem_cons.mpr ⟨loc_D mo_ic,
  List.forall_mem_cons.mpr ⟨loc_D mo_al,
  List.forall_mem_cons.mpr ⟨loc_D mo_al,
  List.forall_mem_cons.mpr ⟨loc_D mo_il,
  List.forall_mem_cons.mpr ⟨loc_D mo_ic,
  List.forall_mem_cons.mpr ⟨loc_D mo_b2,
  List.forall_mem_cons.mpr ⟨loc_D mo_iald,
  List.forall_mem_cons.mpr ⟨loc_D mo_al,
  List.forall_mem_cons.mpr ⟨loc_D mo_il,
  List.forall_mem_cons.mpr ⟨loc_D mo_ic,
  List.forall_mem_cons.mpr ⟨loc_D mo_b2,
  List.forall_mem_cons.mpr ⟨loc_D mo_iald,
  List.forall_mem_cons.mpr ⟨loc_C sm_X6_kiln.1,
  List.forall_mem_cons.mpr ⟨loc_D mo_al,
  List.forall_mem_cons.mpr ⟨loc_D mo_al,
  List.forall_mem_cons.mpr ⟨loc_D mo_il,
  List.forall_mem_cons.mpr ⟨loc_D mo_ic,
  List.forall_mem_cons.mpr ⟨loc_D mo_b2,
  List.forall_mem_cons.mpr ⟨loc_D mo_iald,
  List.forall_mem_cons.mpr ⟨loc_D mo_al,
  List.forall_mem_cons.mpr ⟨loc_D mo_il,
  List.forall_mem_cons.mpr ⟨loc_D mo_ic,
  List.forall_mem_cons.mpr ⟨loc_D mo_b2,
  List.forall_mem_cons.mpr ⟨loc_D mo_iald,
  List.forall_mem_cons.mpr ⟨loc_C sm_X7_kiln.1,
  List.forall_mem_cons.mpr ⟨loc_I2,
  List.forall_mem_cons.mpr ⟨loc_D mo_ic,
  List.forall_mem_cons.mpr ⟨loc_D mo_al,
  List.forall_mem_cons.mpr ⟨loc_D mo_al,
  List.forall_mem_cons.mpr ⟨loc_D mo_il,
  List.forall_mem_cons.mpr ⟨loc_D mo_ic,
  List.forall_mem_cons.mpr ⟨loc_D mo_b2,
  List.forall_mem_cons.mpr ⟨loc_D mo_iald,
  List.forall_mem_cons.mpr ⟨loc_D mo_al,
  List.forall_mem_cons.mpr ⟨loc_D mo_il,
  List.forall_mem_cons.mpr ⟨loc_D mo_ic,
  List.forall_mem_cons.mpr ⟨loc_D mo_b2,
  List.forall_mem_cons.mpr ⟨loc_D mo_iald,
  List.forall_mem_cons.mpr ⟨loc_C sm_X6_ofYear.1,
  List.forall_mem_cons.mpr ⟨loc_D mo_al,
  List.forall_mem_cons.mpr ⟨loc_D mo_al,
  List.forall_mem_cons.mpr ⟨loc_D mo_il,
  List.forall_mem_cons.mpr ⟨loc_D mo_ic,
  List.forall_mem_cons.mpr ⟨loc_D mo_b2,
  List.forall_mem_cons.mpr ⟨loc_D mo_iald,
  List.forall_mem_cons.mpr ⟨loc_D mo_al,
  List.forall_mem_cons.mpr ⟨loc_D mo_il,
  List.forall_mem_cons.mpr ⟨loc_D mo_ic,
  List.forall_mem_cons.mpr ⟨loc_D mo_b2,
  List.forall_mem_cons.mpr ⟨loc_D mo_iald,
  List.forall_mem_cons.mpr ⟨loc_C sm_X7_ofYear.1,
  List.forall_mem_cons.mpr ⟨loc_I2,
  List.forall_mem_cons.mpr ⟨loc_D mo_ic,
  List.forall_mem_cons.mpr ⟨loc_D mo_al,
  List.forall_mem_cons.mpr ⟨loc_D mo_al,
  List.forall_mem_cons.mpr ⟨loc_D mo_il,
  List.forall_mem_cons.mpr ⟨loc_D mo_ic,
  List.forall_mem_cons.mpr ⟨loc_D mo_b2,
  List.forall_mem_cons.mpr ⟨loc_D mo_iald,
  List.forall_mem_cons.mpr ⟨loc_I1,
  List.forall_mem_cons.mpr ⟨loc_D mo_ic,
  List.forall_mem_cons.mpr ⟨loc_D mo_goto,
  List.forall_mem_cons.mpr ⟨loc_D mo_ic,
  List.forall_mem_cons.mpr ⟨loc_D mo_al,
  List.forall_mem_cons.mpr ⟨loc_D mo_il,
  List.forall_mem_cons.mpr ⟨loc_D mo_ic,
  List.forall_mem_cons.mpr ⟨loc_D mo_b2,
  List.forall_mem_cons.mpr ⟨loc_D mo_iald,
  List.forall_mem_cons.mpr ⟨loc_D mo_al,
  List.forall_mem_cons.mpr ⟨loc_D mo_il,
  List.forall_mem_cons.mpr ⟨loc_D mo_ic,
  List.forall_mem_cons.mpr ⟨loc_D mo_b2,
  List.forall_mem_cons.mpr ⟨loc_D mo_iald,
  List.forall_mem_cons.mpr ⟨loc_C sm_X6_order.1,
  List.forall_mem_cons.mpr ⟨loc_D mo_al,
  List.forall_mem_cons.mpr ⟨loc_D mo_al,
  List.forall_mem_cons.mpr ⟨loc_D mo_il,
  List.forall_mem_cons.mpr ⟨loc_D mo_ic,
  List.forall_mem_cons.mpr ⟨loc_D mo_b2,
  List.forall_mem_cons.mpr ⟨loc_D mo_iald,
  List.forall_mem_cons.mpr ⟨loc_I1,
  List.forall_mem_cons.mpr ⟨loc_D mo_ic,
  List.forall_mem_cons.mpr ⟨loc_D mo_goto,
  List.forall_mem_cons.mpr ⟨loc_D mo_ic,
  List.forall_mem_cons.mpr ⟨loc_D mo_al,
  List.forall_mem_cons.mpr ⟨loc_D mo_il,
  List.forall_mem_cons.mpr ⟨loc_D mo_ic,
  List.forall_mem_cons.mpr ⟨loc_D mo_b2,
  List.forall_mem_cons.mpr ⟨loc_D mo_iald,
  List.forall_mem_cons.mpr ⟨loc_D mo_al,
  List.forall_mem_cons.mpr ⟨loc_D mo_il,
  List.forall_mem_cons.mpr ⟨loc_D mo_ic,
  List.forall_mem_cons.mpr ⟨loc_D mo_b2,
  List.forall_mem_cons.mpr ⟨loc_D mo_iald,
  List.forall_mem_cons.mpr ⟨loc_C sm_X7_order.1,
  List.forall_mem_cons.mpr ⟨loc_I2,
  List.forall_mem_cons.mpr ⟨loc_D mo_ic,
  List.forall_mem_cons.mpr ⟨loc_D mo_al,
  List.forall_mem_cons.mpr ⟨loc_D mo_al,
  List.forall_mem_cons.mpr ⟨loc_D mo_il,
  List.forall_mem_cons.mpr ⟨loc_D mo_ic,
  List.forall_mem_cons.mpr ⟨loc_D mo_b2,
  List.forall_mem_cons.mpr ⟨loc_D mo_iald,
  List.forall_mem_cons.mpr ⟨loc_I1,
  List.forall_mem_cons.mpr ⟨loc_D mo_ic,
  List.forall_mem_cons.mpr ⟨loc_D mo_goto,
  List.forall_mem_cons.mpr ⟨loc_D mo_ic,
  List.forall_mem_cons.mpr ⟨loc_D mo_al,
  List.forall_mem_cons.mpr ⟨loc_D mo_il,
  List.forall_mem_cons.mpr ⟨loc_D mo_ic,
  List.forall_mem_cons.mpr ⟨loc_D mo_b2,
  List.forall_mem_cons.mpr ⟨loc_D mo_iald,
  List.forall_mem_cons.mpr ⟨loc_C sm_X6_depth.1,
  List.forall_mem_cons.mpr ⟨loc_D mo_al,
  List.forall_mem_cons.mpr ⟨loc_D mo_al,
  List.forall_mem_cons.mpr ⟨loc_D mo_il,
  List.forall_mem_cons.mpr ⟨loc_D mo_ic,
  List.forall_mem_cons.mpr ⟨loc_D mo_b2,
  List.forall_mem_cons.mpr ⟨loc_D mo_iald,
  List.forall_mem_cons.mpr ⟨loc_I1,
  List.forall_mem_cons.mpr ⟨loc_D mo_ic,
  List.forall_mem_cons.mpr ⟨loc_D mo_goto,
  List.forall_mem_cons.mpr ⟨loc_D mo_ic,
  List.forall_mem_cons.mpr ⟨loc_D mo_al,
  List.forall_mem_cons.mpr ⟨loc_D mo_il,
  List.forall_mem_cons.mpr ⟨loc_D mo_ic,
  List.forall_mem_cons.mpr ⟨loc_D mo_b2,
  List.forall_mem_cons.mpr ⟨loc_D mo_iald,
  List.forall_mem_cons.mpr ⟨loc_C sm_X7_depth.1,
  List.forall_mem_cons.mpr ⟨loc_I2,
  List.forall_mem_cons.mpr ⟨loc_D mo_ic,
  List.forall_mem_cons.mpr ⟨loc_D mo_al,
  List.forall_mem_cons.mpr ⟨loc_D mo_al,
  List.forall_mem_cons.mpr ⟨loc_D mo_il,
  List.forall_mem_cons.mpr ⟨loc_D mo_ic,
  List.forall_mem_cons.mpr ⟨loc_D mo_b2,
  List.forall_mem_cons.mpr ⟨loc_D mo_iald,
  List.forall_mem_cons.mpr ⟨loc_C sm_X6_count.1,
  List.forall_mem_cons.mpr ⟨loc_D mo_al,
  List.forall_mem_cons.mpr ⟨loc_D mo_al,
  List.forall_mem_cons.mpr ⟨loc_D mo_il,
  List.forall_mem_cons.mpr ⟨loc_D mo_ic,
  List.forall_mem_cons.mpr ⟨loc_D mo_b2,
  List.forall_mem_cons.mpr ⟨loc_D mo_iald,
  List.forall_mem_cons.mpr ⟨loc_C sm_X7_count.1,
  List.forall_mem_cons.mpr ⟨loc_I2,
  List.forall_mem_cons.mpr ⟨loc_D mo_ic,
  List.forall_mem_cons.mpr ⟨loc_D mo_inc,
  List.forall_mem_cons.mpr ⟨loc_D mo_goto,
  List.forall_mem_cons.mpr ⟨loc_D mo_ic,
  List.forall_mem_cons.mpr ⟨loc_R,
  fun _ h => absurd h List.not_mem_nil⟩⟩⟩⟩⟩⟩⟩⟩⟩⟩⟩⟩⟩⟩⟩⟩⟩⟩⟩⟩⟩⟩⟩⟩⟩⟩⟩⟩⟩⟩⟩⟩⟩⟩⟩⟩⟩⟩⟩⟩⟩⟩⟩⟩⟩⟩⟩⟩⟩⟩⟩⟩⟩⟩⟩⟩⟩⟩⟩⟩⟩⟩⟩⟩⟩⟩⟩⟩⟩⟩⟩⟩⟩⟩⟩⟩⟩⟩⟩⟩⟩⟩⟩⟩⟩⟩⟩⟩⟩⟩⟩⟩⟩⟩⟩⟩⟩⟩⟩⟩⟩⟩⟩⟩⟩⟩⟩⟩⟩⟩⟩⟩⟩⟩⟩⟩⟩⟩⟩⟩⟩⟩⟩⟩⟩⟩⟩⟩⟩⟩⟩⟩⟩⟩⟩⟩⟩⟩⟩⟩⟩⟩⟩⟩⟩⟩⟩⟩⟩⟩⟩⟩⟩⟩⟩⟩⟩⟩⟩⟩⟩⟩⟩⟩⟩⟩⟩⟩⟩⟩⟩⟩⟩⟩⟩⟩⟩⟩⟩⟩⟩⟩⟩⟩⟩⟩⟩⟩⟩⟩⟩⟩⟩⟩⟩⟩⟩⟩⟩⟩⟩⟩⟩⟩⟩⟩⟩⟩⟩⟩⟩⟩⟩⟩⟩⟩⟩⟩⟩⟩⟩⟩⟩⟩⟩⟩⟩⟩⟩⟩⟩⟩⟩⟩⟩⟩⟩⟩⟩⟩⟩⟩⟩⟩⟩⟩⟩⟩⟩⟩⟩⟩⟩⟩⟩⟩⟩⟩⟩⟩⟩⟩⟩⟩⟩⟩⟩⟩⟩⟩⟩⟩⟩⟩⟩⟩⟩⟩⟩⟩⟩⟩⟩⟩⟩⟩⟩⟩⟩⟩⟩⟩⟩⟩⟩⟩⟩⟩⟩⟩⟩⟩⟩⟩⟩⟩⟩⟩⟩⟩⟩⟩⟩⟩⟩⟩⟩⟩⟩⟩⟩⟩⟩⟩⟩⟩⟩⟩⟩⟩⟩⟩⟩⟩⟩⟩⟩⟩⟩⟩⟩⟩⟩⟩⟩⟩⟩⟩⟩⟩⟩⟩⟩⟩⟩⟩⟩⟩⟩⟩⟩⟩⟩⟩⟩⟩⟩⟩⟩⟩⟩⟩⟩⟩⟩⟩⟩⟩⟩⟩⟩⟩⟩⟩⟩⟩⟩⟩⟩⟩⟩⟩⟩⟩⟩⟩⟩⟩⟩⟩⟩⟩⟩⟩⟩⟩⟩⟩⟩⟩⟩⟩⟩⟩⟩⟩⟩⟩⟩⟩⟩⟩⟩⟩⟩⟩⟩⟩⟩⟩⟩⟩⟩⟩⟩⟩⟩⟩⟩⟩⟩⟩⟩⟩⟩⟩⟩⟩⟩⟩⟩⟩⟩⟩⟩⟩⟩⟩⟩⟩⟩⟩⟩⟩⟩⟩⟩⟩⟩⟩
set_option maxRecDepth 100000 in
theorem e_L_law_0 {Q : mQ} {ls st : List Value} {g : mG} : WP m_L_law Q 0 ls st g = ∃ a : Nat, (frsh g a ∧ (7 = 5 → gK g (a + 1) = 0) ∧ alv g ls ∧ alv g st) ∧ WP m_L_law Q 3 ls (.ref a :: st) (nw g a 7 0 (xn 7) (fun _ => 0)) := E_new lo_L_law rfl
set_option maxRecDepth 100000 in
theorem e_L_law_3 {Q : mQ} {ls st : List Value} {g : mG} {x : Value} : WP m_L_law Q 3 ls (x :: st) g = (cat1 x ∧ WP m_L_law Q 4 ls (x :: x :: st) g) := E_dup lo_L_law rfl
set_option maxRecDepth 100000 in
theorem e_L_law_4 {Q : mQ} {ls st : List Value} {g : mG} {b : Nat} : WP m_L_law Q 4 ls (.ref b :: st) g = (st.length ≤ 4 ∧ gK g b = 7 ∧ stbs g ls ∧ stbs g st ∧ w_X6_init [.ref b] g (fun v g' => WP m_L_law Q 7 ls (v.toList ++ st) g')) := E_CV (ar := [.ref b]) lo_L_law rfl rfl rfl (by decide)
set_option maxRecDepth 100000 in
theorem e_L_law_7 {Q : mQ} {l0 l1 l2 l3 : Value} {st : List Value} {g : mG} {x : Nat} : WP m_L_law Q 7 [l0, l1, l2, l3] (.ref x :: st) g = (nl1 l0 ∧ WP m_L_law Q 8 [l0, .ref x, l2, l3] st g) := E_as (i := 1) (n := 1) lo_L_law rfl (Nat.le_of_ble_eq_true rfl)
set_option maxRecDepth 100000 in
theorem e_L_law_7n {Q : mQ} {l0 l1 l2 l3 : Value} {st : List Value} {g : mG} : WP m_L_law Q 7 [l0, l1, l2, l3] (.null :: st) g = (nl1 l0 ∧ WP m_L_law Q 8 [l0, .null, l2, l3] st g) := E_asn (i := 1) (n := 1) lo_L_law rfl (Nat.le_of_ble_eq_true rfl)
set_option maxRecDepth 100000 in
theorem e_L_law_8 {Q : mQ} {ls st : List Value} {g : mG} : WP m_L_law Q 8 ls st g = ∃ a : Nat, (frsh g a ∧ (8 = 5 → gK g (a + 1) = 0) ∧ alv g ls ∧ alv g st) ∧ WP m_L_law Q 11 ls (.ref a :: st) (nw g a 8 0 (xn 8) (fun _ => 0)) := E_new lo_L_law rfl
set_option maxRecDepth 100000 in
theorem e_L_law_11 {Q : mQ} {ls st : List Value} {g : mG} {x : Value} : WP m_L_law Q 11 ls (x :: st) g = (cat1 x ∧ WP m_L_law Q 12 ls (x :: x :: st) g) := E_dup lo_L_law rfl
set_option maxRecDepth 100000 in
theorem e_L_law_12 {Q : mQ} {ls st : List Value} {g : mG} {b : Nat} : WP m_L_law Q 12 ls (.ref b :: st) g = (st.length ≤ 4 ∧ gK g b = 8 ∧ stbs g ls ∧ stbs g st ∧ w_X7_init [.ref b] g (fun v g' => WP m_L_law Q 15 ls (v.toList ++ st) g')) := E_CV (ar := [.ref b]) lo_L_law rfl rfl rfl (by decide)
set_option maxRecDepth 100000 in
theorem e_L_law_15 {Q : mQ} {l0 l1 l2 l3 : Value} {st : List Value} {g : mG} {x : Nat} : WP m_L_law Q 15 [l0, l1, l2, l3] (.ref x :: st) g = (nl1 l1 ∧ WP m_L_law Q 16 [l0, l1, .ref x, l3] st g) := E_as (i := 2) (n := 1) lo_L_law rfl (Nat.le_of_ble_eq_true rfl)
set_option maxRecDepth 100000 in
theorem e_L_law_15n {Q : mQ} {l0 l1 l2 l3 : Value} {st : List Value} {g : mG} : WP m_L_law Q 15 [l0, l1, l2, l3] (.null :: st) g = (nl1 l1 ∧ WP m_L_law Q 16 [l0, l1, .null, l3] st g) := E_asn (i := 2) (n := 1) lo_L_law rfl (Nat.le_of_ble_eq_true rfl)
set_option maxRecDepth 100000 in
theorem e_L_law_16 {Q : mQ} {ls st : List Value} {g : mG} : WP m_L_law Q 16 ls st g = WP m_L_law Q 17 ls (.int (nI 0) :: st) g := E_ic (v := nI 0) (n := 1) lo_L_law rfl
set_option maxRecDepth 100000 in
theorem e_L_law_17 {Q : mQ} {l0 l1 l2 l3 : Value} {st : List Value} {g : mG} {x : Int32} : WP m_L_law Q 17 [l0, l1, l2, l3] (.int x :: st) g = (nl1 l2 ∧ WP m_L_law Q 18 [l0, l1, l2, .int x] st g) := E_is (i := 3) (n := 1) lo_L_law rfl (Nat.le_of_ble_eq_true rfl)
set_option maxRecDepth 100000 in
theorem e_L_law_18 {Q : mQ} {l0 l1 l2 : Value} {st : List Value} {g : mG} {x : Int32} : WP m_L_law Q 18 [l0, l1, l2, .int x] st g = WP m_L_law Q 19 [l0, l1, l2, .int x] (.int x :: st) g := E_il (i := 3) (n := 1) lo_L_law rfl rfl
set_option maxRecDepth 100000 in
theorem e_L_law_19 {Q : mQ} {l1 l2 l3 : Value} {st : List Value} {g : mG} {x : Nat} : WP m_L_law Q 19 [.ref x, l1, l2, l3] st g = WP m_L_law Q 20 [.ref x, l1, l2, l3] (.ref x :: st) g := E_al (i := 0) (n := 1) lo_L_law rfl rfl
set_option maxRecDepth 100000 in
theorem e_L_law_19n {Q : mQ} {l1 l2 l3 : Value} {st : List Value} {g : mG} : WP m_L_law Q 19 [.null, l1, l2, l3] st g = WP m_L_law Q 20 [.null, l1, l2, l3] (.null :: st) g := E_aln (i := 0) (n := 1) lo_L_law rfl rfl
set_option maxRecDepth 100000 in
theorem e_L_law_20 {Q : mQ} {ls st : List Value} {g : mG} {a : Nat} : WP m_L_law Q 20 ls (.ref a :: st) g = ((10 ≤ gK g a ∧ gK g a ≤ 17) ∧ WP m_L_law Q 21 ls (.int (nI (gN g a)) :: st) g) := E_alen lo_L_law rfl
set_option maxRecDepth 100000 in
theorem e_L_law_21 {Q : mQ} {ls st : List Value} {g : mG} : WP m_L_law Q 21 ls st g = WP m_L_law Q 22 ls (.int (nI 4) :: st) g := E_ic (v := nI 4) (n := 1) lo_L_law rfl
set_option maxRecDepth 100000 in
theorem e_L_law_22 {Q : mQ} {ls st : List Value} {g : mG} {x y : Int32} : WP m_L_law Q 22 ls (.int y :: .int x :: st) g = WP m_L_law Q 23 ls (.int (x - y) :: st) g := E_b2 (f := fun x y => x - y) lo_L_law rfl
set_option maxRecDepth 100000 in
theorem e_L_law_23 {Q : mQ} {ls st : List Value} {g : mG} {x y : Int32} : WP m_L_law Q 23 ls (.int y :: .int x :: st) g = ((y < x → WP m_L_law Q 745 ls st g) ∧ (¬ (y < x) → WP m_L_law Q 26 ls st g)) := E_I2 (c := fun x y => y < x) (t := 745) lo_L_law rfl
set_option maxRecDepth 100000 in
theorem e_L_law_26 {Q : mQ} {l1 l2 l3 : Value} {st : List Value} {g : mG} {x : Nat} : WP m_L_law Q 26 [.ref x, l1, l2, l3] st g = WP m_L_law Q 27 [.ref x, l1, l2, l3] (.ref x :: st) g := E_al (i := 0) (n := 1) lo_L_law rfl rfl
set_option maxRecDepth 100000 in
theorem e_L_law_26n {Q : mQ} {l1 l2 l3 : Value} {st : List Value} {g : mG} : WP m_L_law Q 26 [.null, l1, l2, l3] st g = WP m_L_law Q 27 [.null, l1, l2, l3] (.null :: st) g := E_aln (i := 0) (n := 1) lo_L_law rfl rfl
set_option maxRecDepth 100000 in
theorem e_L_law_27 {Q : mQ} {l0 l1 l2 : Value} {st : List Value} {g : mG} {x : Int32} : WP m_L_law Q 27 [l0, l1, l2, .int x] st g = WP m_L_law Q 28 [l0, l1, l2, .int x] (.int x :: st) g := E_il (i := 3) (n := 1) lo_L_law rfl rfl
set_option maxRecDepth 100000 in
theorem e_L_law_28 {Q : mQ} {ls st : List Value} {g : mG} {a : Nat} {i : Int32} : WP m_L_law Q 28 ls (.int i :: .ref a :: st) g = ((isIA g a ∧ vp_in i (gN g a)) ∧ WP m_L_law Q 29 ls (.int (gI g a i.toNatClampNeg) :: st) g) := E_iald lo_L_law rfl
set_option maxRecDepth 100000 in
theorem e_L_law_29 {Q : mQ} {ls st : List Value} {g : mG} : WP m_L_law Q 29 ls st g = WP m_L_law Q 31 ls (.int (nI 31) :: st) g := E_ic (v := nI 31) (n := 2) lo_L_law rfl
set_option maxRecDepth 100000 in
theorem e_L_law_31 {Q : mQ} {ls st : List Value} {g : mG} {x y : Int32} : WP m_L_law Q 31 ls (.int y :: .int x :: st) g = WP m_L_law Q 32 ls (.int (x &&& y) :: st) g := E_b2 (f := fun x y => x &&& y) lo_L_law rfl
set_option maxRecDepth 100000 in
theorem e_L_law_32 {Q : mQ} {ls st : List Value} {g : mG} {x : Int32} : WP m_L_law Q 32 ls (.int x :: st) g = WP m_L_law Q (if x.toInt < 0 ∨ 20 < x.toInt then 739 else [132, 165, 208, 231, 274, 317, 330, 353, 386, 419, 452, 465, 490, 503, 516, 529, 542, 575, 608, 667, 716].getD (x.toInt - 0).toNat 739) ls st g := E_sw lo_L_law rfl
set_option maxRecDepth 100000 in
theorem e_L_law_132 {Q : mQ} {l0 l2 l3 : Value} {st : List Value} {g : mG} {x : Nat} : WP m_L_law Q 132 [l0, .ref x, l2, l3] st g = WP m_L_law Q 133 [l0, .ref x, l2, l3] (.ref x :: st) g := E_al (i := 1) (n := 1) lo_L_law rfl rfl
set_option maxRecDepth 100000 in
theorem e_L_law_132n {Q : mQ} {l0 l2 l3 : Value} {st : List Value} {g : mG} : WP m_L_law Q 132 [l0, .null, l2, l3] st g = WP m_L_law Q 133 [l0, .null, l2, l3] (.null :: st) g := E_aln (i := 1) (n := 1) lo_L_law rfl rfl
set_option maxRecDepth 100000 in
theorem e_L_law_133 {Q : mQ} {l1 l2 l3 : Value} {st : List Value} {g : mG} {x : Nat} : WP m_L_law Q 133 [.ref x, l1, l2, l3] st g = WP m_L_law Q 134 [.ref x, l1, l2, l3] (.ref x :: st) g := E_al (i := 0) (n := 1) lo_L_law rfl rfl
set_option maxRecDepth 100000 in
theorem e_L_law_133n {Q : mQ} {l1 l2 l3 : Value} {st : List Value} {g : mG} : WP m_L_law Q 133 [.null, l1, l2, l3] st g = WP m_L_law Q 134 [.null, l1, l2, l3] (.null :: st) g := E_aln (i := 0) (n := 1) lo_L_law rfl rfl
set_option maxRecDepth 100000 in
theorem e_L_law_134 {Q : mQ} {l0 l1 l2 : Value} {st : List Value} {g : mG} {x : Int32} : WP m_L_law Q 134 [l0, l1, l2, .int x] st g = WP m_L_law Q 135 [l0, l1, l2, .int x] (.int x :: st) g := E_il (i := 3) (n := 1) lo_L_law rfl rfl
set_option maxRecDepth 100000 in
theorem e_L_law_135 {Q : mQ} {ls st : List Value} {g : mG} : WP m_L_law Q 135 ls st g = WP m_L_law Q 136 ls (.int (nI 1) :: st) g := E_ic (v := nI 1) (n := 1) lo_L_law rfl
set_option maxRecDepth 100000 in
theorem e_L_law_136 {Q : mQ} {ls st : List Value} {g : mG} {x y : Int32} : WP m_L_law Q 136 ls (.int y :: .int x :: st) g = WP m_L_law Q 137 ls (.int (x + y) :: st) g := E_b2 (f := fun x y => x + y) lo_L_law rfl
set_option maxRecDepth 100000 in
theorem e_L_law_137 {Q : mQ} {ls st : List Value} {g : mG} {a : Nat} {i : Int32} : WP m_L_law Q 137 ls (.int i :: .ref a :: st) g = ((isIA g a ∧ vp_in i (gN g a)) ∧ WP m_L_law Q 138 ls (.int (gI g a i.toNatClampNeg) :: st) g) := E_iald lo_L_law rfl
set_option maxRecDepth 100000 in
theorem e_L_law_138 {Q : mQ} {l1 l2 l3 : Value} {st : List Value} {g : mG} {x : Nat} : WP m_L_law Q 138 [.ref x, l1, l2, l3] st g = WP m_L_law Q 139 [.ref x, l1, l2, l3] (.ref x :: st) g := E_al (i := 0) (n := 1) lo_L_law rfl rfl
set_option maxRecDepth 100000 in
theorem e_L_law_138n {Q : mQ} {l1 l2 l3 : Value} {st : List Value} {g : mG} : WP m_L_law Q 138 [.null, l1, l2, l3] st g = WP m_L_law Q 139 [.null, l1, l2, l3] (.null :: st) g := E_aln (i := 0) (n := 1) lo_L_law rfl rfl
set_option maxRecDepth 100000 in
theorem e_L_law_139 {Q : mQ} {l0 l1 l2 : Value} {st : List Value} {g : mG} {x : Int32} : WP m_L_law Q 139 [l0, l1, l2, .int x] st g = WP m_L_law Q 140 [l0, l1, l2, .int x] (.int x :: st) g := E_il (i := 3) (n := 1) lo_L_law rfl rfl
set_option maxRecDepth 100000 in
theorem e_L_law_140 {Q : mQ} {ls st : List Value} {g : mG} : WP m_L_law Q 140 ls st g = WP m_L_law Q 141 ls (.int (nI 2) :: st) g := E_ic (v := nI 2) (n := 1) lo_L_law rfl
set_option maxRecDepth 100000 in
theorem e_L_law_141 {Q : mQ} {ls st : List Value} {g : mG} {x y : Int32} : WP m_L_law Q 141 ls (.int y :: .int x :: st) g = WP m_L_law Q 142 ls (.int (x + y) :: st) g := E_b2 (f := fun x y => x + y) lo_L_law rfl
set_option maxRecDepth 100000 in
theorem e_L_law_142 {Q : mQ} {ls st : List Value} {g : mG} {a : Nat} {i : Int32} : WP m_L_law Q 142 ls (.int i :: .ref a :: st) g = ((isIA g a ∧ vp_in i (gN g a)) ∧ WP m_L_law Q 143 ls (.int (gI g a i.toNatClampNeg) :: st) g) := E_iald lo_L_law rfl
set_option maxRecDepth 100000 in
theorem e_L_law_143 {Q : mQ} {ls st : List Value} {g : mG} {b : Nat} {a0 a1 : Value} : WP m_L_law Q 143 ls (a1 :: a0 :: .ref b :: st) g = (st.length ≤ 4 ∧ gK g b = 7 ∧ stbs g ls ∧ stbs g st ∧ w_X6_issue [.ref b, a0, a1] g (fun v g' => WP m_L_law Q 146 ls (v.toList ++ st) g')) := E_CV (ar := [a1, a0, .ref b]) lo_L_law rfl rfl rfl (by decide)
set_option maxRecDepth 100000 in
theorem e_L_law_146 {Q : mQ} {l0 l1 l3 : Value} {st : List Value} {g : mG} {x : Nat} : WP m_L_law Q 146 [l0, l1, .ref x, l3] st g = WP m_L_law Q 147 [l0, l1, .ref x, l3] (.ref x :: st) g := E_al (i := 2) (n := 1) lo_L_law rfl rfl
set_option maxRecDepth 100000 in
theorem e_L_law_146n {Q : mQ} {l0 l1 l3 : Value} {st : List Value} {g : mG} : WP m_L_law Q 146 [l0, l1, .null, l3] st g = WP m_L_law Q 147 [l0, l1, .null, l3] (.null :: st) g := E_aln (i := 2) (n := 1) lo_L_law rfl rfl
set_option maxRecDepth 100000 in
theorem e_L_law_147 {Q : mQ} {l1 l2 l3 : Value} {st : List Value} {g : mG} {x : Nat} : WP m_L_law Q 147 [.ref x, l1, l2, l3] st g = WP m_L_law Q 148 [.ref x, l1, l2, l3] (.ref x :: st) g := E_al (i := 0) (n := 1) lo_L_law rfl rfl
set_option maxRecDepth 100000 in
theorem e_L_law_147n {Q : mQ} {l1 l2 l3 : Value} {st : List Value} {g : mG} : WP m_L_law Q 147 [.null, l1, l2, l3] st g = WP m_L_law Q 148 [.null, l1, l2, l3] (.null :: st) g := E_aln (i := 0) (n := 1) lo_L_law rfl rfl
set_option maxRecDepth 100000 in
theorem e_L_law_148 {Q : mQ} {l0 l1 l2 : Value} {st : List Value} {g : mG} {x : Int32} : WP m_L_law Q 148 [l0, l1, l2, .int x] st g = WP m_L_law Q 149 [l0, l1, l2, .int x] (.int x :: st) g := E_il (i := 3) (n := 1) lo_L_law rfl rfl
set_option maxRecDepth 100000 in
theorem e_L_law_149 {Q : mQ} {ls st : List Value} {g : mG} : WP m_L_law Q 149 ls st g = WP m_L_law Q 150 ls (.int (nI 1) :: st) g := E_ic (v := nI 1) (n := 1) lo_L_law rfl
set_option maxRecDepth 100000 in
theorem e_L_law_150 {Q : mQ} {ls st : List Value} {g : mG} {x y : Int32} : WP m_L_law Q 150 ls (.int y :: .int x :: st) g = WP m_L_law Q 151 ls (.int (x + y) :: st) g := E_b2 (f := fun x y => x + y) lo_L_law rfl
set_option maxRecDepth 100000 in
theorem e_L_law_151 {Q : mQ} {ls st : List Value} {g : mG} {a : Nat} {i : Int32} : WP m_L_law Q 151 ls (.int i :: .ref a :: st) g = ((isIA g a ∧ vp_in i (gN g a)) ∧ WP m_L_law Q 152 ls (.int (gI g a i.toNatClampNeg) :: st) g) := E_iald lo_L_law rfl
set_option maxRecDepth 100000 in
theorem e_L_law_152 {Q : mQ} {l1 l2 l3 : Value} {st : List Value} {g : mG} {x : Nat} : WP m_L_law Q 152 [.ref x, l1, l2, l3] st g = WP m_L_law Q 153 [.ref x, l1, l2, l3] (.ref x :: st) g := E_al (i := 0) (n := 1) lo_L_law rfl rfl
set_option maxRecDepth 100000 in
theorem e_L_law_152n {Q : mQ} {l1 l2 l3 : Value} {st : List Value} {g : mG} : WP m_L_law Q 152 [.null, l1, l2, l3] st g = WP m_L_law Q 153 [.null, l1, l2, l3] (.null :: st) g := E_aln (i := 0) (n := 1) lo_L_law rfl rfl
set_option maxRecDepth 100000 in
theorem e_L_law_153 {Q : mQ} {l0 l1 l2 : Value} {st : List Value} {g : mG} {x : Int32} : WP m_L_law Q 153 [l0, l1, l2, .int x] st g = WP m_L_law Q 154 [l0, l1, l2, .int x] (.int x :: st) g := E_il (i := 3) (n := 1) lo_L_law rfl rfl
set_option maxRecDepth 100000 in
theorem e_L_law_154 {Q : mQ} {ls st : List Value} {g : mG} : WP m_L_law Q 154 ls st g = WP m_L_law Q 155 ls (.int (nI 2) :: st) g := E_ic (v := nI 2) (n := 1) lo_L_law rfl
set_option maxRecDepth 100000 in
theorem e_L_law_155 {Q : mQ} {ls st : List Value} {g : mG} {x y : Int32} : WP m_L_law Q 155 ls (.int y :: .int x :: st) g = WP m_L_law Q 156 ls (.int (x + y) :: st) g := E_b2 (f := fun x y => x + y) lo_L_law rfl
set_option maxRecDepth 100000 in
theorem e_L_law_156 {Q : mQ} {ls st : List Value} {g : mG} {a : Nat} {i : Int32} : WP m_L_law Q 156 ls (.int i :: .ref a :: st) g = ((isIA g a ∧ vp_in i (gN g a)) ∧ WP m_L_law Q 157 ls (.int (gI g a i.toNatClampNeg) :: st) g) := E_iald lo_L_law rfl
set_option maxRecDepth 100000 in
theorem e_L_law_157 {Q : mQ} {ls st : List Value} {g : mG} {b : Nat} {a0 a1 : Value} : WP m_L_law Q 157 ls (a1 :: a0 :: .ref b :: st) g = (st.length ≤ 4 ∧ gK g b = 8 ∧ stbs g ls ∧ stbs g st ∧ w_X7_issue [.ref b, a0, a1] g (fun v g' => WP m_L_law Q 160 ls (v.toList ++ st) g')) := E_CV (ar := [a1, a0, .ref b]) lo_L_law rfl rfl rfl (by decide)
set_option maxRecDepth 100000 in
theorem e_L_law_160 {Q : mQ} {ls st : List Value} {g : mG} {x y : Int32} : WP m_L_law Q 160 ls (.int y :: .int x :: st) g = ((x = y → WP m_L_law Q 739 ls st g) ∧ (¬ (x = y) → WP m_L_law Q 163 ls st g)) := E_I2 (c := fun x y => x = y) (t := 739) lo_L_law rfl
set_option maxRecDepth 100000 in
theorem e_L_law_163 {Q : mQ} {ls st : List Value} {g : mG} : WP m_L_law Q 163 ls st g = WP m_L_law Q 164 ls (.int (nI 0) :: st) g := E_ic (v := nI 0) (n := 1) lo_L_law rfl
set_option maxRecDepth 100000 in
theorem e_L_law_165 {Q : mQ} {l0 l2 l3 : Value} {st : List Value} {g : mG} {x : Nat} : WP m_L_law Q 165 [l0, .ref x, l2, l3] st g = WP m_L_law Q 166 [l0, .ref x, l2, l3] (.ref x :: st) g := E_al (i := 1) (n := 1) lo_L_law rfl rfl
set_option maxRecDepth 100000 in
theorem e_L_law_165n {Q : mQ} {l0 l2 l3 : Value} {st : List Value} {g : mG} : WP m_L_law Q 165 [l0, .null, l2, l3] st g = WP m_L_law Q 166 [l0, .null, l2, l3] (.null :: st) g := E_aln (i := 1) (n := 1) lo_L_law rfl rfl
set_option maxRecDepth 100000 in
theorem e_L_law_166 {Q : mQ} {l1 l2 l3 : Value} {st : List Value} {g : mG} {x : Nat} : WP m_L_law Q 166 [.ref x, l1, l2, l3] st g = WP m_L_law Q 167 [.ref x, l1, l2, l3] (.ref x :: st) g := E_al (i := 0) (n := 1) lo_L_law rfl rfl
set_option maxRecDepth 100000 in
theorem e_L_law_166n {Q : mQ} {l1 l2 l3 : Value} {st : List Value} {g : mG} : WP m_L_law Q 166 [.null, l1, l2, l3] st g = WP m_L_law Q 167 [.null, l1, l2, l3] (.null :: st) g := E_aln (i := 0) (n := 1) lo_L_law rfl rfl
set_option maxRecDepth 100000 in
theorem e_L_law_167 {Q : mQ} {l0 l1 l2 : Value} {st : List Value} {g : mG} {x : Int32} : WP m_L_law Q 167 [l0, l1, l2, .int x] st g = WP m_L_law Q 168 [l0, l1, l2, .int x] (.int x :: st) g := E_il (i := 3) (n := 1) lo_L_law rfl rfl
set_option maxRecDepth 100000 in
theorem e_L_law_168 {Q : mQ} {ls st : List Value} {g : mG} : WP m_L_law Q 168 ls st g = WP m_L_law Q 169 ls (.int (nI 1) :: st) g := E_ic (v := nI 1) (n := 1) lo_L_law rfl
set_option maxRecDepth 100000 in
theorem e_L_law_169 {Q : mQ} {ls st : List Value} {g : mG} {x y : Int32} : WP m_L_law Q 169 ls (.int y :: .int x :: st) g = WP m_L_law Q 170 ls (.int (x + y) :: st) g := E_b2 (f := fun x y => x + y) lo_L_law rfl
set_option maxRecDepth 100000 in
theorem e_L_law_170 {Q : mQ} {ls st : List Value} {g : mG} {a : Nat} {i : Int32} : WP m_L_law Q 170 ls (.int i :: .ref a :: st) g = ((isIA g a ∧ vp_in i (gN g a)) ∧ WP m_L_law Q 171 ls (.int (gI g a i.toNatClampNeg) :: st) g) := E_iald lo_L_law rfl
set_option maxRecDepth 100000 in
theorem e_L_law_171 {Q : mQ} {l1 l2 l3 : Value} {st : List Value} {g : mG} {x : Nat} : WP m_L_law Q 171 [.ref x, l1, l2, l3] st g = WP m_L_law Q 172 [.ref x, l1, l2, l3] (.ref x :: st) g := E_al (i := 0) (n := 1) lo_L_law rfl rfl
set_option maxRecDepth 100000 in
theorem e_L_law_171n {Q : mQ} {l1 l2 l3 : Value} {st : List Value} {g : mG} : WP m_L_law Q 171 [.null, l1, l2, l3] st g = WP m_L_law Q 172 [.null, l1, l2, l3] (.null :: st) g := E_aln (i := 0) (n := 1) lo_L_law rfl rfl
set_option maxRecDepth 100000 in
theorem e_L_law_172 {Q : mQ} {l0 l1 l2 : Value} {st : List Value} {g : mG} {x : Int32} : WP m_L_law Q 172 [l0, l1, l2, .int x] st g = WP m_L_law Q 173 [l0, l1, l2, .int x] (.int x :: st) g := E_il (i := 3) (n := 1) lo_L_law rfl rfl
set_option maxRecDepth 100000 in
theorem e_L_law_173 {Q : mQ} {ls st : List Value} {g : mG} : WP m_L_law Q 173 ls st g = WP m_L_law Q 174 ls (.int (nI 2) :: st) g := E_ic (v := nI 2) (n := 1) lo_L_law rfl
set_option maxRecDepth 100000 in
theorem e_L_law_174 {Q : mQ} {ls st : List Value} {g : mG} {x y : Int32} : WP m_L_law Q 174 ls (.int y :: .int x :: st) g = WP m_L_law Q 175 ls (.int (x + y) :: st) g := E_b2 (f := fun x y => x + y) lo_L_law rfl
set_option maxRecDepth 100000 in
theorem e_L_law_175 {Q : mQ} {ls st : List Value} {g : mG} {a : Nat} {i : Int32} : WP m_L_law Q 175 ls (.int i :: .ref a :: st) g = ((isIA g a ∧ vp_in i (gN g a)) ∧ WP m_L_law Q 176 ls (.int (gI g a i.toNatClampNeg) :: st) g) := E_iald lo_L_law rfl
set_option maxRecDepth 100000 in
theorem e_L_law_176 {Q : mQ} {l1 l2 l3 : Value} {st : List Value} {g : mG} {x : Nat} : WP m_L_law Q 176 [.ref x, l1, l2, l3] st g = WP m_L_law Q 177 [.ref x, l1, l2, l3] (.ref x :: st) g := E_al (i := 0) (n := 1) lo_L_law rfl rfl
set_option maxRecDepth 100000 in
theorem e_L_law_176n {Q : mQ} {l1 l2 l3 : Value} {st : List Value} {g : mG} : WP m_L_law Q 176 [.null, l1, l2, l3] st g = WP m_L_law Q 177 [.null, l1, l2, l3] (.null :: st) g := E_aln (i := 0) (n := 1) lo_L_law rfl rfl
set_option maxRecDepth 100000 in
theorem e_L_law_177 {Q : mQ} {l0 l1 l2 : Value} {st : List Value} {g : mG} {x : Int32} : WP m_L_law Q 177 [l0, l1, l2, .int x] st g = WP m_L_law Q 178 [l0, l1, l2, .int x] (.int x :: st) g := E_il (i := 3) (n := 1) lo_L_law rfl rfl
set_option maxRecDepth 100000 in
theorem e_L_law_178 {Q : mQ} {ls st : List Value} {g : mG} : WP m_L_law Q 178 ls st g = WP m_L_law Q 179 ls (.int (nI 3) :: st) g := E_ic (v := nI 3) (n := 1) lo_L_law rfl
set_option maxRecDepth 100000 in
theorem e_L_law_179 {Q : mQ} {ls st : List Value} {g : mG} {x y : Int32} : WP m_L_law Q 179 ls (.int y :: .int x :: st) g = WP m_L_law Q 180 ls (.int (x + y) :: st) g := E_b2 (f := fun x y => x + y) lo_L_law rfl
set_option maxRecDepth 100000 in
theorem e_L_law_180 {Q : mQ} {ls st : List Value} {g : mG} {a : Nat} {i : Int32} : WP m_L_law Q 180 ls (.int i :: .ref a :: st) g = ((isIA g a ∧ vp_in i (gN g a)) ∧ WP m_L_law Q 181 ls (.int (gI g a i.toNatClampNeg) :: st) g) := E_iald lo_L_law rfl
set_option maxRecDepth 100000 in
theorem e_L_law_181 {Q : mQ} {ls st : List Value} {g : mG} {b : Nat} {a0 a1 a2 : Value} : WP m_L_law Q 181 ls (a2 :: a1 :: a0 :: .ref b :: st) g = (st.length ≤ 4 ∧ gK g b = 7 ∧ stbs g ls ∧ stbs g st ∧ w_X6_fire [.ref b, a0, a1, a2] g (fun v g' => WP m_L_law Q 184 ls (v.toList ++ st) g')) := E_CV (ar := [a2, a1, a0, .ref b]) lo_L_law rfl rfl rfl (by decide)
set_option maxRecDepth 100000 in
theorem e_L_law_184 {Q : mQ} {l0 l1 l3 : Value} {st : List Value} {g : mG} {x : Nat} : WP m_L_law Q 184 [l0, l1, .ref x, l3] st g = WP m_L_law Q 185 [l0, l1, .ref x, l3] (.ref x :: st) g := E_al (i := 2) (n := 1) lo_L_law rfl rfl
set_option maxRecDepth 100000 in
theorem e_L_law_184n {Q : mQ} {l0 l1 l3 : Value} {st : List Value} {g : mG} : WP m_L_law Q 184 [l0, l1, .null, l3] st g = WP m_L_law Q 185 [l0, l1, .null, l3] (.null :: st) g := E_aln (i := 2) (n := 1) lo_L_law rfl rfl
set_option maxRecDepth 100000 in
theorem e_L_law_185 {Q : mQ} {l1 l2 l3 : Value} {st : List Value} {g : mG} {x : Nat} : WP m_L_law Q 185 [.ref x, l1, l2, l3] st g = WP m_L_law Q 186 [.ref x, l1, l2, l3] (.ref x :: st) g := E_al (i := 0) (n := 1) lo_L_law rfl rfl
set_option maxRecDepth 100000 in
theorem e_L_law_185n {Q : mQ} {l1 l2 l3 : Value} {st : List Value} {g : mG} : WP m_L_law Q 185 [.null, l1, l2, l3] st g = WP m_L_law Q 186 [.null, l1, l2, l3] (.null :: st) g := E_aln (i := 0) (n := 1) lo_L_law rfl rfl
set_option maxRecDepth 100000 in
theorem e_L_law_186 {Q : mQ} {l0 l1 l2 : Value} {st : List Value} {g : mG} {x : Int32} : WP m_L_law Q 186 [l0, l1, l2, .int x] st g = WP m_L_law Q 187 [l0, l1, l2, .int x] (.int x :: st) g := E_il (i := 3) (n := 1) lo_L_law rfl rfl
set_option maxRecDepth 100000 in
theorem e_L_law_187 {Q : mQ} {ls st : List Value} {g : mG} : WP m_L_law Q 187 ls st g = WP m_L_law Q 188 ls (.int (nI 1) :: st) g := E_ic (v := nI 1) (n := 1) lo_L_law rfl
set_option maxRecDepth 100000 in
theorem e_L_law_188 {Q : mQ} {ls st : List Value} {g : mG} {x y : Int32} : WP m_L_law Q 188 ls (.int y :: .int x :: st) g = WP m_L_law Q 189 ls (.int (x + y) :: st) g := E_b2 (f := fun x y => x + y) lo_L_law rfl
set_option maxRecDepth 100000 in
theorem e_L_law_189 {Q : mQ} {ls st : List Value} {g : mG} {a : Nat} {i : Int32} : WP m_L_law Q 189 ls (.int i :: .ref a :: st) g = ((isIA g a ∧ vp_in i (gN g a)) ∧ WP m_L_law Q 190 ls (.int (gI g a i.toNatClampNeg) :: st) g) := E_iald lo_L_law rfl
set_option maxRecDepth 100000 in
theorem e_L_law_190 {Q : mQ} {l1 l2 l3 : Value} {st : List Value} {g : mG} {x : Nat} : WP m_L_law Q 190 [.ref x, l1, l2, l3] st g = WP m_L_law Q 191 [.ref x, l1, l2, l3] (.ref x :: st) g := E_al (i := 0) (n := 1) lo_L_law rfl rfl
set_option maxRecDepth 100000 in
theorem e_L_law_190n {Q : mQ} {l1 l2 l3 : Value} {st : List Value} {g : mG} : WP m_L_law Q 190 [.null, l1, l2, l3] st g = WP m_L_law Q 191 [.null, l1, l2, l3] (.null :: st) g := E_aln (i := 0) (n := 1) lo_L_law rfl rfl
set_option maxRecDepth 100000 in
theorem e_L_law_191 {Q : mQ} {l0 l1 l2 : Value} {st : List Value} {g : mG} {x : Int32} : WP m_L_law Q 191 [l0, l1, l2, .int x] st g = WP m_L_law Q 192 [l0, l1, l2, .int x] (.int x :: st) g := E_il (i := 3) (n := 1) lo_L_law rfl rfl
set_option maxRecDepth 100000 in
theorem e_L_law_192 {Q : mQ} {ls st : List Value} {g : mG} : WP m_L_law Q 192 ls st g = WP m_L_law Q 193 ls (.int (nI 2) :: st) g := E_ic (v := nI 2) (n := 1) lo_L_law rfl
set_option maxRecDepth 100000 in
theorem e_L_law_193 {Q : mQ} {ls st : List Value} {g : mG} {x y : Int32} : WP m_L_law Q 193 ls (.int y :: .int x :: st) g = WP m_L_law Q 194 ls (.int (x + y) :: st) g := E_b2 (f := fun x y => x + y) lo_L_law rfl
set_option maxRecDepth 100000 in
theorem e_L_law_194 {Q : mQ} {ls st : List Value} {g : mG} {a : Nat} {i : Int32} : WP m_L_law Q 194 ls (.int i :: .ref a :: st) g = ((isIA g a ∧ vp_in i (gN g a)) ∧ WP m_L_law Q 195 ls (.int (gI g a i.toNatClampNeg) :: st) g) := E_iald lo_L_law rfl
set_option maxRecDepth 100000 in
theorem e_L_law_195 {Q : mQ} {l1 l2 l3 : Value} {st : List Value} {g : mG} {x : Nat} : WP m_L_law Q 195 [.ref x, l1, l2, l3] st g = WP m_L_law Q 196 [.ref x, l1, l2, l3] (.ref x :: st) g := E_al (i := 0) (n := 1) lo_L_law rfl rfl
set_option maxRecDepth 100000 in
theorem e_L_law_195n {Q : mQ} {l1 l2 l3 : Value} {st : List Value} {g : mG} : WP m_L_law Q 195 [.null, l1, l2, l3] st g = WP m_L_law Q 196 [.null, l1, l2, l3] (.null :: st) g := E_aln (i := 0) (n := 1) lo_L_law rfl rfl
set_option maxRecDepth 100000 in
theorem e_L_law_196 {Q : mQ} {l0 l1 l2 : Value} {st : List Value} {g : mG} {x : Int32} : WP m_L_law Q 196 [l0, l1, l2, .int x] st g = WP m_L_law Q 197 [l0, l1, l2, .int x] (.int x :: st) g := E_il (i := 3) (n := 1) lo_L_law rfl rfl
set_option maxRecDepth 100000 in
theorem e_L_law_197 {Q : mQ} {ls st : List Value} {g : mG} : WP m_L_law Q 197 ls st g = WP m_L_law Q 198 ls (.int (nI 3) :: st) g := E_ic (v := nI 3) (n := 1) lo_L_law rfl
set_option maxRecDepth 100000 in
theorem e_L_law_198 {Q : mQ} {ls st : List Value} {g : mG} {x y : Int32} : WP m_L_law Q 198 ls (.int y :: .int x :: st) g = WP m_L_law Q 199 ls (.int (x + y) :: st) g := E_b2 (f := fun x y => x + y) lo_L_law rfl
set_option maxRecDepth 100000 in
theorem e_L_law_199 {Q : mQ} {ls st : List Value} {g : mG} {a : Nat} {i : Int32} : WP m_L_law Q 199 ls (.int i :: .ref a :: st) g = ((isIA g a ∧ vp_in i (gN g a)) ∧ WP m_L_law Q 200 ls (.int (gI g a i.toNatClampNeg) :: st) g) := E_iald lo_L_law rfl
set_option maxRecDepth 100000 in
theorem e_L_law_200 {Q : mQ} {ls st : List Value} {g : mG} {b : Nat} {a0 a1 a2 : Value} : WP m_L_law Q 200 ls (a2 :: a1 :: a0 :: .ref b :: st) g = (st.length ≤ 4 ∧ gK g b = 8 ∧ stbs g ls ∧ stbs g st ∧ w_X7_fire [.ref b, a0, a1, a2] g (fun v g' => WP m_L_law Q 203 ls (v.toList ++ st) g')) := E_CV (ar := [a2, a1, a0, .ref b]) lo_L_law rfl rfl rfl (by decide)
set_option maxRecDepth 100000 in
theorem e_L_law_203 {Q : mQ} {ls st : List Value} {g : mG} {x y : Int32} : WP m_L_law Q 203 ls (.int y :: .int x :: st) g = ((x = y → WP m_L_law Q 739 ls st g) ∧ (¬ (x = y) → WP m_L_law Q 206 ls st g)) := E_I2 (c := fun x y => x = y) (t := 739) lo_L_law rfl
set_option maxRecDepth 100000 in
theorem e_L_law_206 {Q : mQ} {ls st : List Value} {g : mG} : WP m_L_law Q 206 ls st g = WP m_L_law Q 207 ls (.int (nI 0) :: st) g := E_ic (v := nI 0) (n := 1) lo_L_law rfl
set_option maxRecDepth 100000 in
theorem e_L_law_208 {Q : mQ} {l0 l2 l3 : Value} {st : List Value} {g : mG} {x : Nat} : WP m_L_law Q 208 [l0, .ref x, l2, l3] st g = WP m_L_law Q 209 [l0, .ref x, l2, l3] (.ref x :: st) g := E_al (i := 1) (n := 1) lo_L_law rfl rfl
set_option maxRecDepth 100000 in
theorem e_L_law_208n {Q : mQ} {l0 l2 l3 : Value} {st : List Value} {g : mG} : WP m_L_law Q 208 [l0, .null, l2, l3] st g = WP m_L_law Q 209 [l0, .null, l2, l3] (.null :: st) g := E_aln (i := 1) (n := 1) lo_L_law rfl rfl
set_option maxRecDepth 100000 in
theorem e_L_law_209 {Q : mQ} {l1 l2 l3 : Value} {st : List Value} {g : mG} {x : Nat} : WP m_L_law Q 209 [.ref x, l1, l2, l3] st g = WP m_L_law Q 210 [.ref x, l1, l2, l3] (.ref x :: st) g := E_al (i := 0) (n := 1) lo_L_law rfl rfl
set_option maxRecDepth 100000 in
theorem e_L_law_209n {Q : mQ} {l1 l2 l3 : Value} {st : List Value} {g : mG} : WP m_L_law Q 209 [.null, l1, l2, l3] st g = WP m_L_law Q 210 [.null, l1, l2, l3] (.null :: st) g := E_aln (i := 0) (n := 1) lo_L_law rfl rfl
set_option maxRecDepth 100000 in
theorem e_L_law_210 {Q : mQ} {l0 l1 l2 : Value} {st : List Value} {g : mG} {x : Int32} : WP m_L_law Q 210 [l0, l1, l2, .int x] st g = WP m_L_law Q 211 [l0, l1, l2, .int x] (.int x :: st) g := E_il (i := 3) (n := 1) lo_L_law rfl rfl
set_option maxRecDepth 100000 in
theorem e_L_law_211 {Q : mQ} {ls st : List Value} {g : mG} : WP m_L_law Q 211 ls st g = WP m_L_law Q 212 ls (.int (nI 1) :: st) g := E_ic (v := nI 1) (n := 1) lo_L_law rfl
set_option maxRecDepth 100000 in
theorem e_L_law_212 {Q : mQ} {ls st : List Value} {g : mG} {x y : Int32} : WP m_L_law Q 212 ls (.int y :: .int x :: st) g = WP m_L_law Q 213 ls (.int (x + y) :: st) g := E_b2 (f := fun x y => x + y) lo_L_law rfl
set_option maxRecDepth 100000 in
theorem e_L_law_213 {Q : mQ} {ls st : List Value} {g : mG} {a : Nat} {i : Int32} : WP m_L_law Q 213 ls (.int i :: .ref a :: st) g = ((isIA g a ∧ vp_in i (gN g a)) ∧ WP m_L_law Q 214 ls (.int (gI g a i.toNatClampNeg) :: st) g) := E_iald lo_L_law rfl
set_option maxRecDepth 100000 in
theorem e_L_law_214 {Q : mQ} {ls st : List Value} {g : mG} {b : Nat} {a0 : Value} : WP m_L_law Q 214 ls (a0 :: .ref b :: st) g = (st.length ≤ 4 ∧ gK g b = 7 ∧ stbs g ls ∧ stbs g st ∧ w_X6_audit [.ref b, a0] g (fun v g' => WP m_L_law Q 217 ls (v.toList ++ st) g')) := E_CV (ar := [a0, .ref b]) lo_L_law rfl rfl rfl (by decide)
set_option maxRecDepth 100000 in
theorem e_L_law_217 {Q : mQ} {l0 l1 l3 : Value} {st : List Value} {g : mG} {x : Nat} : WP m_L_law Q 217 [l0, l1, .ref x, l3] st g = WP m_L_law Q 218 [l0, l1, .ref x, l3] (.ref x :: st) g := E_al (i := 2) (n := 1) lo_L_law rfl rfl
set_option maxRecDepth 100000 in
theorem e_L_law_217n {Q : mQ} {l0 l1 l3 : Value} {st : List Value} {g : mG} : WP m_L_law Q 217 [l0, l1, .null, l3] st g = WP m_L_law Q 218 [l0, l1, .null, l3] (.null :: st) g := E_aln (i := 2) (n := 1) lo_L_law rfl rfl
set_option maxRecDepth 100000 in
theorem e_L_law_218 {Q : mQ} {l1 l2 l3 : Value} {st : List Value} {g : mG} {x : Nat} : WP m_L_law Q 218 [.ref x, l1, l2, l3] st g = WP m_L_law Q 219 [.ref x, l1, l2, l3] (.ref x :: st) g := E_al (i := 0) (n := 1) lo_L_law rfl rfl
set_option maxRecDepth 100000 in
theorem e_L_law_218n {Q : mQ} {l1 l2 l3 : Value} {st : List Value} {g : mG} : WP m_L_law Q 218 [.null, l1, l2, l3] st g = WP m_L_law Q 219 [.null, l1, l2, l3] (.null :: st) g := E_aln (i := 0) (n := 1) lo_L_law rfl rfl
set_option maxRecDepth 100000 in
theorem e_L_law_219 {Q : mQ} {l0 l1 l2 : Value} {st : List Value} {g : mG} {x : Int32} : WP m_L_law Q 219 [l0, l1, l2, .int x] st g = WP m_L_law Q 220 [l0, l1, l2, .int x] (.int x :: st) g := E_il (i := 3) (n := 1) lo_L_law rfl rfl
set_option maxRecDepth 100000 in
theorem e_L_law_220 {Q : mQ} {ls st : List Value} {g : mG} : WP m_L_law Q 220 ls st g = WP m_L_law Q 221 ls (.int (nI 1) :: st) g := E_ic (v := nI 1) (n := 1) lo_L_law rfl
set_option maxRecDepth 100000 in
theorem e_L_law_221 {Q : mQ} {ls st : List Value} {g : mG} {x y : Int32} : WP m_L_law Q 221 ls (.int y :: .int x :: st) g = WP m_L_law Q 222 ls (.int (x + y) :: st) g := E_b2 (f := fun x y => x + y) lo_L_law rfl
set_option maxRecDepth 100000 in
theorem e_L_law_222 {Q : mQ} {ls st : List Value} {g : mG} {a : Nat} {i : Int32} : WP m_L_law Q 222 ls (.int i :: .ref a :: st) g = ((isIA g a ∧ vp_in i (gN g a)) ∧ WP m_L_law Q 223 ls (.int (gI g a i.toNatClampNeg) :: st) g) := E_iald lo_L_law rfl
set_option maxRecDepth 100000 in
theorem e_L_law_223 {Q : mQ} {ls st : List Value} {g : mG} {b : Nat} {a0 : Value} : WP m_L_law Q 223 ls (a0 :: .ref b :: st) g = (st.length ≤ 4 ∧ gK g b = 8 ∧ stbs g ls ∧ stbs g st ∧ w_X7_audit [.ref b, a0] g (fun v g' => WP m_L_law Q 226 ls (v.toList ++ st) g')) := E_CV (ar := [a0, .ref b]) lo_L_law rfl rfl rfl (by decide)
set_option maxRecDepth 100000 in
theorem e_L_law_226 {Q : mQ} {ls st : List Value} {g : mG} {x y : Int32} : WP m_L_law Q 226 ls (.int y :: .int x :: st) g = ((x = y → WP m_L_law Q 739 ls st g) ∧ (¬ (x = y) → WP m_L_law Q 229 ls st g)) := E_I2 (c := fun x y => x = y) (t := 739) lo_L_law rfl
set_option maxRecDepth 100000 in
theorem e_L_law_229 {Q : mQ} {ls st : List Value} {g : mG} : WP m_L_law Q 229 ls st g = WP m_L_law Q 230 ls (.int (nI 0) :: st) g := E_ic (v := nI 0) (n := 1) lo_L_law rfl
set_option maxRecDepth 100000 in
theorem e_L_law_231 {Q : mQ} {l0 l2 l3 : Value} {st : List Value} {g : mG} {x : Nat} : WP m_L_law Q 231 [l0, .ref x, l2, l3] st g = WP m_L_law Q 232 [l0, .ref x, l2, l3] (.ref x :: st) g := E_al (i := 1) (n := 1) lo_L_law rfl rfl
set_option maxRecDepth 100000 in
theorem e_L_law_231n {Q : mQ} {l0 l2 l3 : Value} {st : List Value} {g : mG} : WP m_L_law Q 231 [l0, .null, l2, l3] st g = WP m_L_law Q 232 [l0, .null, l2, l3] (.null :: st) g := E_aln (i := 1) (n := 1) lo_L_law rfl rfl
set_option maxRecDepth 100000 in
theorem e_L_law_232 {Q : mQ} {l1 l2 l3 : Value} {st : List Value} {g : mG} {x : Nat} : WP m_L_law Q 232 [.ref x, l1, l2, l3] st g = WP m_L_law Q 233 [.ref x, l1, l2, l3] (.ref x :: st) g := E_al (i := 0) (n := 1) lo_L_law rfl rfl
set_option maxRecDepth 100000 in
theorem e_L_law_232n {Q : mQ} {l1 l2 l3 : Value} {st : List Value} {g : mG} : WP m_L_law Q 232 [.null, l1, l2, l3] st g = WP m_L_law Q 233 [.null, l1, l2, l3] (.null :: st) g := E_aln (i := 0) (n := 1) lo_L_law rfl rfl
set_option maxRecDepth 100000 in
theorem e_L_law_233 {Q : mQ} {l0 l1 l2 : Value} {st : List Value} {g : mG} {x : Int32} : WP m_L_law Q 233 [l0, l1, l2, .int x] st g = WP m_L_law Q 234 [l0, l1, l2, .int x] (.int x :: st) g := E_il (i := 3) (n := 1) lo_L_law rfl rfl
set_option maxRecDepth 100000 in
theorem e_L_law_234 {Q : mQ} {ls st : List Value} {g : mG} : WP m_L_law Q 234 ls st g = WP m_L_law Q 235 ls (.int (nI 1) :: st) g := E_ic (v := nI 1) (n := 1) lo_L_law rfl
set_option maxRecDepth 100000 in
theorem e_L_law_235 {Q : mQ} {ls st : List Value} {g : mG} {x y : Int32} : WP m_L_law Q 235 ls (.int y :: .int x :: st) g = WP m_L_law Q 236 ls (.int (x + y) :: st) g := E_b2 (f := fun x y => x + y) lo_L_law rfl
set_option maxRecDepth 100000 in
theorem e_L_law_236 {Q : mQ} {ls st : List Value} {g : mG} {a : Nat} {i : Int32} : WP m_L_law Q 236 ls (.int i :: .ref a :: st) g = ((isIA g a ∧ vp_in i (gN g a)) ∧ WP m_L_law Q 237 ls (.int (gI g a i.toNatClampNeg) :: st) g) := E_iald lo_L_law rfl
set_option maxRecDepth 100000 in
theorem e_L_law_237 {Q : mQ} {l1 l2 l3 : Value} {st : List Value} {g : mG} {x : Nat} : WP m_L_law Q 237 [.ref x, l1, l2, l3] st g = WP m_L_law Q 238 [.ref x, l1, l2, l3] (.ref x :: st) g := E_al (i := 0) (n := 1) lo_L_law rfl rfl
set_option maxRecDepth 100000 in
theorem e_L_law_237n {Q : mQ} {l1 l2 l3 : Value} {st : List Value} {g : mG} : WP m_L_law Q 237 [.null, l1, l2, l3] st g = WP m_L_law Q 238 [.null, l1, l2, l3] (.null :: st) g := E_aln (i := 0) (n := 1) lo_L_law rfl rfl
set_option maxRecDepth 100000 in
theorem e_L_law_238 {Q : mQ} {l0 l1 l2 : Value} {st : List Value} {g : mG} {x : Int32} : WP m_L_law Q 238 [l0, l1, l2, .int x] st g = WP m_L_law Q 239 [l0, l1, l2, .int x] (.int x :: st) g := E_il (i := 3) (n := 1) lo_L_law rfl rfl
set_option maxRecDepth 100000 in
theorem e_L_law_239 {Q : mQ} {ls st : List Value} {g : mG} : WP m_L_law Q 239 ls st g = WP m_L_law Q 240 ls (.int (nI 2) :: st) g := E_ic (v := nI 2) (n := 1) lo_L_law rfl
set_option maxRecDepth 100000 in
theorem e_L_law_240 {Q : mQ} {ls st : List Value} {g : mG} {x y : Int32} : WP m_L_law Q 240 ls (.int y :: .int x :: st) g = WP m_L_law Q 241 ls (.int (x + y) :: st) g := E_b2 (f := fun x y => x + y) lo_L_law rfl
set_option maxRecDepth 100000 in
theorem e_L_law_241 {Q : mQ} {ls st : List Value} {g : mG} {a : Nat} {i : Int32} : WP m_L_law Q 241 ls (.int i :: .ref a :: st) g = ((isIA g a ∧ vp_in i (gN g a)) ∧ WP m_L_law Q 242 ls (.int (gI g a i.toNatClampNeg) :: st) g) := E_iald lo_L_law rfl
set_option maxRecDepth 100000 in
theorem e_L_law_242 {Q : mQ} {l1 l2 l3 : Value} {st : List Value} {g : mG} {x : Nat} : WP m_L_law Q 242 [.ref x, l1, l2, l3] st g = WP m_L_law Q 243 [.ref x, l1, l2, l3] (.ref x :: st) g := E_al (i := 0) (n := 1) lo_L_law rfl rfl
set_option maxRecDepth 100000 in
theorem e_L_law_242n {Q : mQ} {l1 l2 l3 : Value} {st : List Value} {g : mG} : WP m_L_law Q 242 [.null, l1, l2, l3] st g = WP m_L_law Q 243 [.null, l1, l2, l3] (.null :: st) g := E_aln (i := 0) (n := 1) lo_L_law rfl rfl
set_option maxRecDepth 100000 in
theorem e_L_law_243 {Q : mQ} {l0 l1 l2 : Value} {st : List Value} {g : mG} {x : Int32} : WP m_L_law Q 243 [l0, l1, l2, .int x] st g = WP m_L_law Q 244 [l0, l1, l2, .int x] (.int x :: st) g := E_il (i := 3) (n := 1) lo_L_law rfl rfl
set_option maxRecDepth 100000 in
theorem e_L_law_244 {Q : mQ} {ls st : List Value} {g : mG} : WP m_L_law Q 244 ls st g = WP m_L_law Q 245 ls (.int (nI 3) :: st) g := E_ic (v := nI 3) (n := 1) lo_L_law rfl
set_option maxRecDepth 100000 in
theorem e_L_law_245 {Q : mQ} {ls st : List Value} {g : mG} {x y : Int32} : WP m_L_law Q 245 ls (.int y :: .int x :: st) g = WP m_L_law Q 246 ls (.int (x + y) :: st) g := E_b2 (f := fun x y => x + y) lo_L_law rfl
set_option maxRecDepth 100000 in
theorem e_L_law_246 {Q : mQ} {ls st : List Value} {g : mG} {a : Nat} {i : Int32} : WP m_L_law Q 246 ls (.int i :: .ref a :: st) g = ((isIA g a ∧ vp_in i (gN g a)) ∧ WP m_L_law Q 247 ls (.int (gI g a i.toNatClampNeg) :: st) g) := E_iald lo_L_law rfl
set_option maxRecDepth 100000 in
theorem e_L_law_247 {Q : mQ} {ls st : List Value} {g : mG} {b : Nat} {a0 a1 a2 : Value} : WP m_L_law Q 247 ls (a2 :: a1 :: a0 :: .ref b :: st) g = (st.length ≤ 4 ∧ gK g b = 7 ∧ stbs g ls ∧ stbs g st ∧ w_X6_bid [.ref b, a0, a1, a2] g (fun v g' => WP m_L_law Q 250 ls (v.toList ++ st) g')) := E_CV (ar := [a2, a1, a0, .ref b]) lo_L_law rfl rfl rfl (by decide)
set_option maxRecDepth 100000 in
theorem e_L_law_250 {Q : mQ} {l0 l1 l3 : Value} {st : List Value} {g : mG} {x : Nat} : WP m_L_law Q 250 [l0, l1, .ref x, l3] st g = WP m_L_law Q 251 [l0, l1, .ref x, l3] (.ref x :: st) g := E_al (i := 2) (n := 1) lo_L_law rfl rfl
set_option maxRecDepth 100000 in
theorem e_L_law_250n {Q : mQ} {l0 l1 l3 : Value} {st : List Value} {g : mG} : WP m_L_law Q 250 [l0, l1, .null, l3] st g = WP m_L_law Q 251 [l0, l1, .null, l3] (.null :: st) g := E_aln (i := 2) (n := 1) lo_L_law rfl rfl
set_option maxRecDepth 100000 in
theorem e_L_law_251 {Q : mQ} {l1 l2 l3 : Value} {st : List Value} {g : mG} {x : Nat} : WP m_L_law Q 251 [.ref x, l1, l2, l3] st g = WP m_L_law Q 252 [.ref x, l1, l2, l3] (.ref x :: st) g := E_al (i := 0) (n := 1) lo_L_law rfl rfl
set_option maxRecDepth 100000 in
theorem e_L_law_251n {Q : mQ} {l1 l2 l3 : Value} {st : List Value} {g : mG} : WP m_L_law Q 251 [.null, l1, l2, l3] st g = WP m_L_law Q 252 [.null, l1, l2, l3] (.null :: st) g := E_aln (i := 0) (n := 1) lo_L_law rfl rfl
set_option maxRecDepth 100000 in
theorem e_L_law_252 {Q : mQ} {l0 l1 l2 : Value} {st : List Value} {g : mG} {x : Int32} : WP m_L_law Q 252 [l0, l1, l2, .int x] st g = WP m_L_law Q 253 [l0, l1, l2, .int x] (.int x :: st) g := E_il (i := 3) (n := 1) lo_L_law rfl rfl
set_option maxRecDepth 100000 in
theorem e_L_law_253 {Q : mQ} {ls st : List Value} {g : mG} : WP m_L_law Q 253 ls st g = WP m_L_law Q 254 ls (.int (nI 1) :: st) g := E_ic (v := nI 1) (n := 1) lo_L_law rfl
set_option maxRecDepth 100000 in
theorem e_L_law_254 {Q : mQ} {ls st : List Value} {g : mG} {x y : Int32} : WP m_L_law Q 254 ls (.int y :: .int x :: st) g = WP m_L_law Q 255 ls (.int (x + y) :: st) g := E_b2 (f := fun x y => x + y) lo_L_law rfl
set_option maxRecDepth 100000 in
theorem e_L_law_255 {Q : mQ} {ls st : List Value} {g : mG} {a : Nat} {i : Int32} : WP m_L_law Q 255 ls (.int i :: .ref a :: st) g = ((isIA g a ∧ vp_in i (gN g a)) ∧ WP m_L_law Q 256 ls (.int (gI g a i.toNatClampNeg) :: st) g) := E_iald lo_L_law rfl
set_option maxRecDepth 100000 in
theorem e_L_law_256 {Q : mQ} {l1 l2 l3 : Value} {st : List Value} {g : mG} {x : Nat} : WP m_L_law Q 256 [.ref x, l1, l2, l3] st g = WP m_L_law Q 257 [.ref x, l1, l2, l3] (.ref x :: st) g := E_al (i := 0) (n := 1) lo_L_law rfl rfl
set_option maxRecDepth 100000 in
theorem e_L_law_256n {Q : mQ} {l1 l2 l3 : Value} {st : List Value} {g : mG} : WP m_L_law Q 256 [.null, l1, l2, l3] st g = WP m_L_law Q 257 [.null, l1, l2, l3] (.null :: st) g := E_aln (i := 0) (n := 1) lo_L_law rfl rfl
set_option maxRecDepth 100000 in
theorem e_L_law_257 {Q : mQ} {l0 l1 l2 : Value} {st : List Value} {g : mG} {x : Int32} : WP m_L_law Q 257 [l0, l1, l2, .int x] st g = WP m_L_law Q 258 [l0, l1, l2, .int x] (.int x :: st) g := E_il (i := 3) (n := 1) lo_L_law rfl rfl
set_option maxRecDepth 100000 in
theorem e_L_law_258 {Q : mQ} {ls st : List Value} {g : mG} : WP m_L_law Q 258 ls st g = WP m_L_law Q 259 ls (.int (nI 2) :: st) g := E_ic (v := nI 2) (n := 1) lo_L_law rfl
set_option maxRecDepth 100000 in
theorem e_L_law_259 {Q : mQ} {ls st : List Value} {g : mG} {x y : Int32} : WP m_L_law Q 259 ls (.int y :: .int x :: st) g = WP m_L_law Q 260 ls (.int (x + y) :: st) g := E_b2 (f := fun x y => x + y) lo_L_law rfl
set_option maxRecDepth 100000 in
theorem e_L_law_260 {Q : mQ} {ls st : List Value} {g : mG} {a : Nat} {i : Int32} : WP m_L_law Q 260 ls (.int i :: .ref a :: st) g = ((isIA g a ∧ vp_in i (gN g a)) ∧ WP m_L_law Q 261 ls (.int (gI g a i.toNatClampNeg) :: st) g) := E_iald lo_L_law rfl
set_option maxRecDepth 100000 in
theorem e_L_law_261 {Q : mQ} {l1 l2 l3 : Value} {st : List Value} {g : mG} {x : Nat} : WP m_L_law Q 261 [.ref x, l1, l2, l3] st g = WP m_L_law Q 262 [.ref x, l1, l2, l3] (.ref x :: st) g := E_al (i := 0) (n := 1) lo_L_law rfl rfl
set_option maxRecDepth 100000 in
theorem e_L_law_261n {Q : mQ} {l1 l2 l3 : Value} {st : List Value} {g : mG} : WP m_L_law Q 261 [.null, l1, l2, l3] st g = WP m_L_law Q 262 [.null, l1, l2, l3] (.null :: st) g := E_aln (i := 0) (n := 1) lo_L_law rfl rfl
set_option maxRecDepth 100000 in
theorem e_L_law_262 {Q : mQ} {l0 l1 l2 : Value} {st : List Value} {g : mG} {x : Int32} : WP m_L_law Q 262 [l0, l1, l2, .int x] st g = WP m_L_law Q 263 [l0, l1, l2, .int x] (.int x :: st) g := E_il (i := 3) (n := 1) lo_L_law rfl rfl
set_option maxRecDepth 100000 in
theorem e_L_law_263 {Q : mQ} {ls st : List Value} {g : mG} : WP m_L_law Q 263 ls st g = WP m_L_law Q 264 ls (.int (nI 3) :: st) g := E_ic (v := nI 3) (n := 1) lo_L_law rfl
set_option maxRecDepth 100000 in
theorem e_L_law_264 {Q : mQ} {ls st : List Value} {g : mG} {x y : Int32} : WP m_L_law Q 264 ls (.int y :: .int x :: st) g = WP m_L_law Q 265 ls (.int (x + y) :: st) g := E_b2 (f := fun x y => x + y) lo_L_law rfl
set_option maxRecDepth 100000 in
theorem e_L_law_265 {Q : mQ} {ls st : List Value} {g : mG} {a : Nat} {i : Int32} : WP m_L_law Q 265 ls (.int i :: .ref a :: st) g = ((isIA g a ∧ vp_in i (gN g a)) ∧ WP m_L_law Q 266 ls (.int (gI g a i.toNatClampNeg) :: st) g) := E_iald lo_L_law rfl
set_option maxRecDepth 100000 in
theorem e_L_law_266 {Q : mQ} {ls st : List Value} {g : mG} {b : Nat} {a0 a1 a2 : Value} : WP m_L_law Q 266 ls (a2 :: a1 :: a0 :: .ref b :: st) g = (st.length ≤ 4 ∧ gK g b = 8 ∧ stbs g ls ∧ stbs g st ∧ w_X7_bid [.ref b, a0, a1, a2] g (fun v g' => WP m_L_law Q 269 ls (v.toList ++ st) g')) := E_CV (ar := [a2, a1, a0, .ref b]) lo_L_law rfl rfl rfl (by decide)
set_option maxRecDepth 100000 in
theorem e_L_law_269 {Q : mQ} {ls st : List Value} {g : mG} {x y : Int32} : WP m_L_law Q 269 ls (.int y :: .int x :: st) g = ((x = y → WP m_L_law Q 739 ls st g) ∧ (¬ (x = y) → WP m_L_law Q 272 ls st g)) := E_I2 (c := fun x y => x = y) (t := 739) lo_L_law rfl
set_option maxRecDepth 100000 in
theorem e_L_law_272 {Q : mQ} {ls st : List Value} {g : mG} : WP m_L_law Q 272 ls st g = WP m_L_law Q 273 ls (.int (nI 0) :: st) g := E_ic (v := nI 0) (n := 1) lo_L_law rfl
set_option maxRecDepth 100000 in
theorem e_L_law_274 {Q : mQ} {l0 l2 l3 : Value} {st : List Value} {g : mG} {x : Nat} : WP m_L_law Q 274 [l0, .ref x, l2, l3] st g = WP m_L_law Q 275 [l0, .ref x, l2, l3] (.ref x :: st) g := E_al (i := 1) (n := 1) lo_L_law rfl rfl
set_option maxRecDepth 100000 in
theorem e_L_law_274n {Q : mQ} {l0 l2 l3 : Value} {st : List Value} {g : mG} : WP m_L_law Q 274 [l0, .null, l2, l3] st g = WP m_L_law Q 275 [l0, .null, l2, l3] (.null :: st) g := E_aln (i := 1) (n := 1) lo_L_law rfl rfl
set_option maxRecDepth 100000 in
theorem e_L_law_275 {Q : mQ} {l1 l2 l3 : Value} {st : List Value} {g : mG} {x : Nat} : WP m_L_law Q 275 [.ref x, l1, l2, l3] st g = WP m_L_law Q 276 [.ref x, l1, l2, l3] (.ref x :: st) g := E_al (i := 0) (n := 1) lo_L_law rfl rfl
set_option maxRecDepth 100000 in
theorem e_L_law_275n {Q : mQ} {l1 l2 l3 : Value} {st : List Value} {g : mG} : WP m_L_law Q 275 [.null, l1, l2, l3] st g = WP m_L_law Q 276 [.null, l1, l2, l3] (.null :: st) g := E_aln (i := 0) (n := 1) lo_L_law rfl rfl
set_option maxRecDepth 100000 in
theorem e_L_law_276 {Q : mQ} {l0 l1 l2 : Value} {st : List Value} {g : mG} {x : Int32} : WP m_L_law Q 276 [l0, l1, l2, .int x] st g = WP m_L_law Q 277 [l0, l1, l2, .int x] (.int x :: st) g := E_il (i := 3) (n := 1) lo_L_law rfl rfl
set_option maxRecDepth 100000 in
theorem e_L_law_277 {Q : mQ} {ls st : List Value} {g : mG} : WP m_L_law Q 277 ls st g = WP m_L_law Q 278 ls (.int (nI 1) :: st) g := E_ic (v := nI 1) (n := 1) lo_L_law rfl
set_option maxRecDepth 100000 in
theorem e_L_law_278 {Q : mQ} {ls st : List Value} {g : mG} {x y : Int32} : WP m_L_law Q 278 ls (.int y :: .int x :: st) g = WP m_L_law Q 279 ls (.int (x + y) :: st) g := E_b2 (f := fun x y => x + y) lo_L_law rfl
set_option maxRecDepth 100000 in
theorem e_L_law_279 {Q : mQ} {ls st : List Value} {g : mG} {a : Nat} {i : Int32} : WP m_L_law Q 279 ls (.int i :: .ref a :: st) g = ((isIA g a ∧ vp_in i (gN g a)) ∧ WP m_L_law Q 280 ls (.int (gI g a i.toNatClampNeg) :: st) g) := E_iald lo_L_law rfl
set_option maxRecDepth 100000 in
theorem e_L_law_280 {Q : mQ} {l1 l2 l3 : Value} {st : List Value} {g : mG} {x : Nat} : WP m_L_law Q 280 [.ref x, l1, l2, l3] st g = WP m_L_law Q 281 [.ref x, l1, l2, l3] (.ref x :: st) g := E_al (i := 0) (n := 1) lo_L_law rfl rfl
set_option maxRecDepth 100000 in
theorem e_L_law_280n {Q : mQ} {l1 l2 l3 : Value} {st : List Value} {g : mG} : WP m_L_law Q 280 [.null, l1, l2, l3] st g = WP m_L_law Q 281 [.null, l1, l2, l3] (.null :: st) g := E_aln (i := 0) (n := 1) lo_L_law rfl rfl
set_option maxRecDepth 100000 in
theorem e_L_law_281 {Q : mQ} {l0 l1 l2 : Value} {st : List Value} {g : mG} {x : Int32} : WP m_L_law Q 281 [l0, l1, l2, .int x] st g = WP m_L_law Q 282 [l0, l1, l2, .int x] (.int x :: st) g := E_il (i := 3) (n := 1) lo_L_law rfl rfl
set_option maxRecDepth 100000 in
theorem e_L_law_282 {Q : mQ} {ls st : List Value} {g : mG} : WP m_L_law Q 282 ls st g = WP m_L_law Q 283 ls (.int (nI 2) :: st) g := E_ic (v := nI 2) (n := 1) lo_L_law rfl
set_option maxRecDepth 100000 in
theorem e_L_law_283 {Q : mQ} {ls st : List Value} {g : mG} {x y : Int32} : WP m_L_law Q 283 ls (.int y :: .int x :: st) g = WP m_L_law Q 284 ls (.int (x + y) :: st) g := E_b2 (f := fun x y => x + y) lo_L_law rfl
set_option maxRecDepth 100000 in
theorem e_L_law_284 {Q : mQ} {ls st : List Value} {g : mG} {a : Nat} {i : Int32} : WP m_L_law Q 284 ls (.int i :: .ref a :: st) g = ((isIA g a ∧ vp_in i (gN g a)) ∧ WP m_L_law Q 285 ls (.int (gI g a i.toNatClampNeg) :: st) g) := E_iald lo_L_law rfl
set_option maxRecDepth 100000 in
theorem e_L_law_285 {Q : mQ} {l1 l2 l3 : Value} {st : List Value} {g : mG} {x : Nat} : WP m_L_law Q 285 [.ref x, l1, l2, l3] st g = WP m_L_law Q 286 [.ref x, l1, l2, l3] (.ref x :: st) g := E_al (i := 0) (n := 1) lo_L_law rfl rfl
set_option maxRecDepth 100000 in
theorem e_L_law_285n {Q : mQ} {l1 l2 l3 : Value} {st : List Value} {g : mG} : WP m_L_law Q 285 [.null, l1, l2, l3] st g = WP m_L_law Q 286 [.null, l1, l2, l3] (.null :: st) g := E_aln (i := 0) (n := 1) lo_L_law rfl rfl
set_option maxRecDepth 100000 in
theorem e_L_law_286 {Q : mQ} {l0 l1 l2 : Value} {st : List Value} {g : mG} {x : Int32} : WP m_L_law Q 286 [l0, l1, l2, .int x] st g = WP m_L_law Q 287 [l0, l1, l2, .int x] (.int x :: st) g := E_il (i := 3) (n := 1) lo_L_law rfl rfl
set_option maxRecDepth 100000 in
theorem e_L_law_287 {Q : mQ} {ls st : List Value} {g : mG} : WP m_L_law Q 287 ls st g = WP m_L_law Q 288 ls (.int (nI 3) :: st) g := E_ic (v := nI 3) (n := 1) lo_L_law rfl
set_option maxRecDepth 100000 in
theorem e_L_law_288 {Q : mQ} {ls st : List Value} {g : mG} {x y : Int32} : WP m_L_law Q 288 ls (.int y :: .int x :: st) g = WP m_L_law Q 289 ls (.int (x + y) :: st) g := E_b2 (f := fun x y => x + y) lo_L_law rfl
set_option maxRecDepth 100000 in
theorem e_L_law_289 {Q : mQ} {ls st : List Value} {g : mG} {a : Nat} {i : Int32} : WP m_L_law Q 289 ls (.int i :: .ref a :: st) g = ((isIA g a ∧ vp_in i (gN g a)) ∧ WP m_L_law Q 290 ls (.int (gI g a i.toNatClampNeg) :: st) g) := E_iald lo_L_law rfl
set_option maxRecDepth 100000 in
theorem e_L_law_290 {Q : mQ} {ls st : List Value} {g : mG} {b : Nat} {a0 a1 a2 : Value} : WP m_L_law Q 290 ls (a2 :: a1 :: a0 :: .ref b :: st) g = (st.length ≤ 4 ∧ gK g b = 7 ∧ stbs g ls ∧ stbs g st ∧ w_X6_ask [.ref b, a0, a1, a2] g (fun v g' => WP m_L_law Q 293 ls (v.toList ++ st) g')) := E_CV (ar := [a2, a1, a0, .ref b]) lo_L_law rfl rfl rfl (by decide)
set_option maxRecDepth 100000 in
theorem e_L_law_293 {Q : mQ} {l0 l1 l3 : Value} {st : List Value} {g : mG} {x : Nat} : WP m_L_law Q 293 [l0, l1, .ref x, l3] st g = WP m_L_law Q 294 [l0, l1, .ref x, l3] (.ref x :: st) g := E_al (i := 2) (n := 1) lo_L_law rfl rfl
set_option maxRecDepth 100000 in
theorem e_L_law_293n {Q : mQ} {l0 l1 l3 : Value} {st : List Value} {g : mG} : WP m_L_law Q 293 [l0, l1, .null, l3] st g = WP m_L_law Q 294 [l0, l1, .null, l3] (.null :: st) g := E_aln (i := 2) (n := 1) lo_L_law rfl rfl
set_option maxRecDepth 100000 in
theorem e_L_law_294 {Q : mQ} {l1 l2 l3 : Value} {st : List Value} {g : mG} {x : Nat} : WP m_L_law Q 294 [.ref x, l1, l2, l3] st g = WP m_L_law Q 295 [.ref x, l1, l2, l3] (.ref x :: st) g := E_al (i := 0) (n := 1) lo_L_law rfl rfl
set_option maxRecDepth 100000 in
theorem e_L_law_294n {Q : mQ} {l1 l2 l3 : Value} {st : List Value} {g : mG} : WP m_L_law Q 294 [.null, l1, l2, l3] st g = WP m_L_law Q 295 [.null, l1, l2, l3] (.null :: st) g := E_aln (i := 0) (n := 1) lo_L_law rfl rfl
set_option maxRecDepth 100000 in
theorem e_L_law_295 {Q : mQ} {l0 l1 l2 : Value} {st : List Value} {g : mG} {x : Int32} : WP m_L_law Q 295 [l0, l1, l2, .int x] st g = WP m_L_law Q 296 [l0, l1, l2, .int x] (.int x :: st) g := E_il (i := 3) (n := 1) lo_L_law rfl rfl
set_option maxRecDepth 100000 in
theorem e_L_law_296 {Q : mQ} {ls st : List Value} {g : mG} : WP m_L_law Q 296 ls st g = WP m_L_law Q 297 ls (.int (nI 1) :: st) g := E_ic (v := nI 1) (n := 1) lo_L_law rfl
set_option maxRecDepth 100000 in
theorem e_L_law_297 {Q : mQ} {ls st : List Value} {g : mG} {x y : Int32} : WP m_L_law Q 297 ls (.int y :: .int x :: st) g = WP m_L_law Q 298 ls (.int (x + y) :: st) g := E_b2 (f := fun x y => x + y) lo_L_law rfl
set_option maxRecDepth 100000 in
theorem e_L_law_298 {Q : mQ} {ls st : List Value} {g : mG} {a : Nat} {i : Int32} : WP m_L_law Q 298 ls (.int i :: .ref a :: st) g = ((isIA g a ∧ vp_in i (gN g a)) ∧ WP m_L_law Q 299 ls (.int (gI g a i.toNatClampNeg) :: st) g) := E_iald lo_L_law rfl
set_option maxRecDepth 100000 in
theorem e_L_law_299 {Q : mQ} {l1 l2 l3 : Value} {st : List Value} {g : mG} {x : Nat} : WP m_L_law Q 299 [.ref x, l1, l2, l3] st g = WP m_L_law Q 300 [.ref x, l1, l2, l3] (.ref x :: st) g := E_al (i := 0) (n := 1) lo_L_law rfl rfl
set_option maxRecDepth 100000 in
theorem e_L_law_299n {Q : mQ} {l1 l2 l3 : Value} {st : List Value} {g : mG} : WP m_L_law Q 299 [.null, l1, l2, l3] st g = WP m_L_law Q 300 [.null, l1, l2, l3] (.null :: st) g := E_aln (i := 0) (n := 1) lo_L_law rfl rfl
set_option maxRecDepth 100000 in
theorem e_L_law_300 {Q : mQ} {l0 l1 l2 : Value} {st : List Value} {g : mG} {x : Int32} : WP m_L_law Q 300 [l0, l1, l2, .int x] st g = WP m_L_law Q 301 [l0, l1, l2, .int x] (.int x :: st) g := E_il (i := 3) (n := 1) lo_L_law rfl rfl
set_option maxRecDepth 100000 in
theorem e_L_law_301 {Q : mQ} {ls st : List Value} {g : mG} : WP m_L_law Q 301 ls st g = WP m_L_law Q 302 ls (.int (nI 2) :: st) g := E_ic (v := nI 2) (n := 1) lo_L_law rfl
set_option maxRecDepth 100000 in
theorem e_L_law_302 {Q : mQ} {ls st : List Value} {g : mG} {x y : Int32} : WP m_L_law Q 302 ls (.int y :: .int x :: st) g = WP m_L_law Q 303 ls (.int (x + y) :: st) g := E_b2 (f := fun x y => x + y) lo_L_law rfl
set_option maxRecDepth 100000 in
theorem e_L_law_303 {Q : mQ} {ls st : List Value} {g : mG} {a : Nat} {i : Int32} : WP m_L_law Q 303 ls (.int i :: .ref a :: st) g = ((isIA g a ∧ vp_in i (gN g a)) ∧ WP m_L_law Q 304 ls (.int (gI g a i.toNatClampNeg) :: st) g) := E_iald lo_L_law rfl
set_option maxRecDepth 100000 in
theorem e_L_law_304 {Q : mQ} {l1 l2 l3 : Value} {st : List Value} {g : mG} {x : Nat} : WP m_L_law Q 304 [.ref x, l1, l2, l3] st g = WP m_L_law Q 305 [.ref x, l1, l2, l3] (.ref x :: st) g := E_al (i := 0) (n := 1) lo_L_law rfl rfl
set_option maxRecDepth 100000 in
theorem e_L_law_304n {Q : mQ} {l1 l2 l3 : Value} {st : List Value} {g : mG} : WP m_L_law Q 304 [.null, l1, l2, l3] st g = WP m_L_law Q 305 [.null, l1, l2, l3] (.null :: st) g := E_aln (i := 0) (n := 1) lo_L_law rfl rfl
set_option maxRecDepth 100000 in
theorem e_L_law_305 {Q : mQ} {l0 l1 l2 : Value} {st : List Value} {g : mG} {x : Int32} : WP m_L_law Q 305 [l0, l1, l2, .int x] st g = WP m_L_law Q 306 [l0, l1, l2, .int x] (.int x :: st) g := E_il (i := 3) (n := 1) lo_L_law rfl rfl
set_option maxRecDepth 100000 in
theorem e_L_law_306 {Q : mQ} {ls st : List Value} {g : mG} : WP m_L_law Q 306 ls st g = WP m_L_law Q 307 ls (.int (nI 3) :: st) g := E_ic (v := nI 3) (n := 1) lo_L_law rfl
set_option maxRecDepth 100000 in
theorem e_L_law_307 {Q : mQ} {ls st : List Value} {g : mG} {x y : Int32} : WP m_L_law Q 307 ls (.int y :: .int x :: st) g = WP m_L_law Q 308 ls (.int (x + y) :: st) g := E_b2 (f := fun x y => x + y) lo_L_law rfl
set_option maxRecDepth 100000 in
theorem e_L_law_308 {Q : mQ} {ls st : List Value} {g : mG} {a : Nat} {i : Int32} : WP m_L_law Q 308 ls (.int i :: .ref a :: st) g = ((isIA g a ∧ vp_in i (gN g a)) ∧ WP m_L_law Q 309 ls (.int (gI g a i.toNatClampNeg) :: st) g) := E_iald lo_L_law rfl
set_option maxRecDepth 100000 in
theorem e_L_law_309 {Q : mQ} {ls st : List Value} {g : mG} {b : Nat} {a0 a1 a2 : Value} : WP m_L_law Q 309 ls (a2 :: a1 :: a0 :: .ref b :: st) g = (st.length ≤ 4 ∧ gK g b = 8 ∧ stbs g ls ∧ stbs g st ∧ w_X7_ask [.ref b, a0, a1, a2] g (fun v g' => WP m_L_law Q 312 ls (v.toList ++ st) g')) := E_CV (ar := [a2, a1, a0, .ref b]) lo_L_law rfl rfl rfl (by decide)
set_option maxRecDepth 100000 in
theorem e_L_law_312 {Q : mQ} {ls st : List Value} {g : mG} {x y : Int32} : WP m_L_law Q 312 ls (.int y :: .int x :: st) g = ((x = y → WP m_L_law Q 739 ls st g) ∧ (¬ (x = y) → WP m_L_law Q 315 ls st g)) := E_I2 (c := fun x y => x = y) (t := 739) lo_L_law rfl
set_option maxRecDepth 100000 in
theorem e_L_law_315 {Q : mQ} {ls st : List Value} {g : mG} : WP m_L_law Q 315 ls st g = WP m_L_law Q 316 ls (.int (nI 0) :: st) g := E_ic (v := nI 0) (n := 1) lo_L_law rfl
set_option maxRecDepth 100000 in
theorem e_L_law_317 {Q : mQ} {l0 l2 l3 : Value} {st : List Value} {g : mG} {x : Nat} : WP m_L_law Q 317 [l0, .ref x, l2, l3] st g = WP m_L_law Q 318 [l0, .ref x, l2, l3] (.ref x :: st) g := E_al (i := 1) (n := 1) lo_L_law rfl rfl
set_option maxRecDepth 100000 in
theorem e_L_law_317n {Q : mQ} {l0 l2 l3 : Value} {st : List Value} {g : mG} : WP m_L_law Q 317 [l0, .null, l2, l3] st g = WP m_L_law Q 318 [l0, .null, l2, l3] (.null :: st) g := E_aln (i := 1) (n := 1) lo_L_law rfl rfl
set_option maxRecDepth 100000 in
theorem e_L_law_318 {Q : mQ} {ls st : List Value} {g : mG} {b : Nat} : WP m_L_law Q 318 ls (.ref b :: st) g = (st.length ≤ 4 ∧ gK g b = 7 ∧ stbs g ls ∧ stbs g st ∧ w_X6_orderAll [.ref b] g (fun v g' => WP m_L_law Q 321 ls (v.toList ++ st) g')) := E_CV (ar := [.ref b]) lo_L_law rfl rfl rfl (by decide)
set_option maxRecDepth 100000 in
theorem e_L_law_321 {Q : mQ} {l0 l1 l3 : Value} {st : List Value} {g : mG} {x : Nat} : WP m_L_law Q 321 [l0, l1, .ref x, l3] st g = WP m_L_law Q 322 [l0, l1, .ref x, l3] (.ref x :: st) g := E_al (i := 2) (n := 1) lo_L_law rfl rfl
set_option maxRecDepth 100000 in
theorem e_L_law_321n {Q : mQ} {l0 l1 l3 : Value} {st : List Value} {g : mG} : WP m_L_law Q 321 [l0, l1, .null, l3] st g = WP m_L_law Q 322 [l0, l1, .null, l3] (.null :: st) g := E_aln (i := 2) (n := 1) lo_L_law rfl rfl
set_option maxRecDepth 100000 in
theorem e_L_law_322 {Q : mQ} {ls st : List Value} {g : mG} {b : Nat} : WP m_L_law Q 322 ls (.ref b :: st) g = (st.length ≤ 4 ∧ gK g b = 8 ∧ stbs g ls ∧ stbs g st ∧ w_X7_orderAll [.ref b] g (fun v g' => WP m_L_law Q 325 ls (v.toList ++ st) g')) := E_CV (ar := [.ref b]) lo_L_law rfl rfl rfl (by decide)
set_option maxRecDepth 100000 in
theorem e_L_law_325 {Q : mQ} {ls st : List Value} {g : mG} {x y : Int32} : WP m_L_law Q 325 ls (.int y :: .int x :: st) g = ((x = y → WP m_L_law Q 739 ls st g) ∧ (¬ (x = y) → WP m_L_law Q 328 ls st g)) := E_I2 (c := fun x y => x = y) (t := 739) lo_L_law rfl
set_option maxRecDepth 100000 in
theorem e_L_law_328 {Q : mQ} {ls st : List Value} {g : mG} : WP m_L_law Q 328 ls st g = WP m_L_law Q 329 ls (.int (nI 0) :: st) g := E_ic (v := nI 0) (n := 1) lo_L_law rfl
set_option maxRecDepth 100000 in
theorem e_L_law_330 {Q : mQ} {l0 l2 l3 : Value} {st : List Value} {g : mG} {x : Nat} : WP m_L_law Q 330 [l0, .ref x, l2, l3] st g = WP m_L_law Q 331 [l0, .ref x, l2, l3] (.ref x :: st) g := E_al (i := 1) (n := 1) lo_L_law rfl rfl
set_option maxRecDepth 100000 in
theorem e_L_law_330n {Q : mQ} {l0 l2 l3 : Value} {st : List Value} {g : mG} : WP m_L_law Q 330 [l0, .null, l2, l3] st g = WP m_L_law Q 331 [l0, .null, l2, l3] (.null :: st) g := E_aln (i := 1) (n := 1) lo_L_law rfl rfl
set_option maxRecDepth 100000 in
theorem e_L_law_331 {Q : mQ} {l1 l2 l3 : Value} {st : List Value} {g : mG} {x : Nat} : WP m_L_law Q 331 [.ref x, l1, l2, l3] st g = WP m_L_law Q 332 [.ref x, l1, l2, l3] (.ref x :: st) g := E_al (i := 0) (n := 1) lo_L_law rfl rfl
set_option maxRecDepth 100000 in
theorem e_L_law_331n {Q : mQ} {l1 l2 l3 : Value} {st : List Value} {g : mG} : WP m_L_law Q 331 [.null, l1, l2, l3] st g = WP m_L_law Q 332 [.null, l1, l2, l3] (.null :: st) g := E_aln (i := 0) (n := 1) lo_L_law rfl rfl
set_option maxRecDepth 100000 in
theorem e_L_law_332 {Q : mQ} {l0 l1 l2 : Value} {st : List Value} {g : mG} {x : Int32} : WP m_L_law Q 332 [l0, l1, l2, .int x] st g = WP m_L_law Q 333 [l0, l1, l2, .int x] (.int x :: st) g := E_il (i := 3) (n := 1) lo_L_law rfl rfl
set_option maxRecDepth 100000 in
theorem e_L_law_333 {Q : mQ} {ls st : List Value} {g : mG} : WP m_L_law Q 333 ls st g = WP m_L_law Q 334 ls (.int (nI 1) :: st) g := E_ic (v := nI 1) (n := 1) lo_L_law rfl
set_option maxRecDepth 100000 in
theorem e_L_law_334 {Q : mQ} {ls st : List Value} {g : mG} {x y : Int32} : WP m_L_law Q 334 ls (.int y :: .int x :: st) g = WP m_L_law Q 335 ls (.int (x + y) :: st) g := E_b2 (f := fun x y => x + y) lo_L_law rfl
set_option maxRecDepth 100000 in
theorem e_L_law_335 {Q : mQ} {ls st : List Value} {g : mG} {a : Nat} {i : Int32} : WP m_L_law Q 335 ls (.int i :: .ref a :: st) g = ((isIA g a ∧ vp_in i (gN g a)) ∧ WP m_L_law Q 336 ls (.int (gI g a i.toNatClampNeg) :: st) g) := E_iald lo_L_law rfl
set_option maxRecDepth 100000 in
theorem e_L_law_336 {Q : mQ} {ls st : List Value} {g : mG} {b : Nat} {a0 : Value} : WP m_L_law Q 336 ls (a0 :: .ref b :: st) g = (st.length ≤ 4 ∧ gK g b = 7 ∧ stbs g ls ∧ stbs g st ∧ w_X6_takeBack [.ref b, a0] g (fun v g' => WP m_L_law Q 339 ls (v.toList ++ st) g')) := E_CV (ar := [a0, .ref b]) lo_L_law rfl rfl rfl (by decide)
set_option maxRecDepth 100000 in
theorem e_L_law_339 {Q : mQ} {l0 l1 l3 : Value} {st : List Value} {g : mG} {x : Nat} : WP m_L_law Q 339 [l0, l1, .ref x, l3] st g = WP m_L_law Q 340 [l0, l1, .ref x, l3] (.ref x :: st) g := E_al (i := 2) (n := 1) lo_L_law rfl rfl
set_option maxRecDepth 100000 in
theorem e_L_law_339n {Q : mQ} {l0 l1 l3 : Value} {st : List Value} {g : mG} : WP m_L_law Q 339 [l0, l1, .null, l3] st g = WP m_L_law Q 340 [l0, l1, .null, l3] (.null :: st) g := E_aln (i := 2) (n := 1) lo_L_law rfl rfl
set_option maxRecDepth 100000 in
theorem e_L_law_340 {Q : mQ} {l1 l2 l3 : Value} {st : List Value} {g : mG} {x : Nat} : WP m_L_law Q 340 [.ref x, l1, l2, l3] st g = WP m_L_law Q 341 [.ref x, l1, l2, l3] (.ref x :: st) g := E_al (i := 0) (n := 1) lo_L_law rfl rfl
set_option maxRecDepth 100000 in
theorem e_L_law_340n {Q : mQ} {l1 l2 l3 : Value} {st : List Value} {g : mG} : WP m_L_law Q 340 [.null, l1, l2, l3] st g = WP m_L_law Q 341 [.null, l1, l2, l3] (.null :: st) g := E_aln (i := 0) (n := 1) lo_L_law rfl rfl
set_option maxRecDepth 100000 in
theorem e_L_law_341 {Q : mQ} {l0 l1 l2 : Value} {st : List Value} {g : mG} {x : Int32} : WP m_L_law Q 341 [l0, l1, l2, .int x] st g = WP m_L_law Q 342 [l0, l1, l2, .int x] (.int x :: st) g := E_il (i := 3) (n := 1) lo_L_law rfl rfl
set_option maxRecDepth 100000 in
theorem e_L_law_342 {Q : mQ} {ls st : List Value} {g : mG} : WP m_L_law Q 342 ls st g = WP m_L_law Q 343 ls (.int (nI 1) :: st) g := E_ic (v := nI 1) (n := 1) lo_L_law rfl
set_option maxRecDepth 100000 in
theorem e_L_law_343 {Q : mQ} {ls st : List Value} {g : mG} {x y : Int32} : WP m_L_law Q 343 ls (.int y :: .int x :: st) g = WP m_L_law Q 344 ls (.int (x + y) :: st) g := E_b2 (f := fun x y => x + y) lo_L_law rfl
set_option maxRecDepth 100000 in
theorem e_L_law_344 {Q : mQ} {ls st : List Value} {g : mG} {a : Nat} {i : Int32} : WP m_L_law Q 344 ls (.int i :: .ref a :: st) g = ((isIA g a ∧ vp_in i (gN g a)) ∧ WP m_L_law Q 345 ls (.int (gI g a i.toNatClampNeg) :: st) g) := E_iald lo_L_law rfl
set_option maxRecDepth 100000 in
theorem e_L_law_345 {Q : mQ} {ls st : List Value} {g : mG} {b : Nat} {a0 : Value} : WP m_L_law Q 345 ls (a0 :: .ref b :: st) g = (st.length ≤ 4 ∧ gK g b = 8 ∧ stbs g ls ∧ stbs g st ∧ w_X7_takeBack [.ref b, a0] g (fun v g' => WP m_L_law Q 348 ls (v.toList ++ st) g')) := E_CV (ar := [a0, .ref b]) lo_L_law rfl rfl rfl (by decide)
set_option maxRecDepth 100000 in
theorem e_L_law_348 {Q : mQ} {ls st : List Value} {g : mG} {x y : Int32} : WP m_L_law Q 348 ls (.int y :: .int x :: st) g = ((x = y → WP m_L_law Q 739 ls st g) ∧ (¬ (x = y) → WP m_L_law Q 351 ls st g)) := E_I2 (c := fun x y => x = y) (t := 739) lo_L_law rfl
set_option maxRecDepth 100000 in
theorem e_L_law_351 {Q : mQ} {ls st : List Value} {g : mG} : WP m_L_law Q 351 ls st g = WP m_L_law Q 352 ls (.int (nI 0) :: st) g := E_ic (v := nI 0) (n := 1) lo_L_law rfl
set_option maxRecDepth 100000 in
theorem e_L_law_353 {Q : mQ} {l0 l2 l3 : Value} {st : List Value} {g : mG} {x : Nat} : WP m_L_law Q 353 [l0, .ref x, l2, l3] st g = WP m_L_law Q 354 [l0, .ref x, l2, l3] (.ref x :: st) g := E_al (i := 1) (n := 1) lo_L_law rfl rfl
set_option maxRecDepth 100000 in
theorem e_L_law_353n {Q : mQ} {l0 l2 l3 : Value} {st : List Value} {g : mG} : WP m_L_law Q 353 [l0, .null, l2, l3] st g = WP m_L_law Q 354 [l0, .null, l2, l3] (.null :: st) g := E_aln (i := 1) (n := 1) lo_L_law rfl rfl
set_option maxRecDepth 100000 in
theorem e_L_law_354 {Q : mQ} {l1 l2 l3 : Value} {st : List Value} {g : mG} {x : Nat} : WP m_L_law Q 354 [.ref x, l1, l2, l3] st g = WP m_L_law Q 355 [.ref x, l1, l2, l3] (.ref x :: st) g := E_al (i := 0) (n := 1) lo_L_law rfl rfl
set_option maxRecDepth 100000 in
theorem e_L_law_354n {Q : mQ} {l1 l2 l3 : Value} {st : List Value} {g : mG} : WP m_L_law Q 354 [.null, l1, l2, l3] st g = WP m_L_law Q 355 [.null, l1, l2, l3] (.null :: st) g := E_aln (i := 0) (n := 1) lo_L_law rfl rfl
set_option maxRecDepth 100000 in
theorem e_L_law_355 {Q : mQ} {l0 l1 l2 : Value} {st : List Value} {g : mG} {x : Int32} : WP m_L_law Q 355 [l0, l1, l2, .int x] st g = WP m_L_law Q 356 [l0, l1, l2, .int x] (.int x :: st) g := E_il (i := 3) (n := 1) lo_L_law rfl rfl
set_option maxRecDepth 100000 in
theorem e_L_law_356 {Q : mQ} {ls st : List Value} {g : mG} : WP m_L_law Q 356 ls st g = WP m_L_law Q 357 ls (.int (nI 1) :: st) g := E_ic (v := nI 1) (n := 1) lo_L_law rfl
set_option maxRecDepth 100000 in
theorem e_L_law_357 {Q : mQ} {ls st : List Value} {g : mG} {x y : Int32} : WP m_L_law Q 357 ls (.int y :: .int x :: st) g = WP m_L_law Q 358 ls (.int (x + y) :: st) g := E_b2 (f := fun x y => x + y) lo_L_law rfl
set_option maxRecDepth 100000 in
theorem e_L_law_358 {Q : mQ} {ls st : List Value} {g : mG} {a : Nat} {i : Int32} : WP m_L_law Q 358 ls (.int i :: .ref a :: st) g = ((isIA g a ∧ vp_in i (gN g a)) ∧ WP m_L_law Q 359 ls (.int (gI g a i.toNatClampNeg) :: st) g) := E_iald lo_L_law rfl
set_option maxRecDepth 100000 in
theorem e_L_law_359 {Q : mQ} {l1 l2 l3 : Value} {st : List Value} {g : mG} {x : Nat} : WP m_L_law Q 359 [.ref x, l1, l2, l3] st g = WP m_L_law Q 360 [.ref x, l1, l2, l3] (.ref x :: st) g := E_al (i := 0) (n := 1) lo_L_law rfl rfl
set_option maxRecDepth 100000 in
theorem e_L_law_359n {Q : mQ} {l1 l2 l3 : Value} {st : List Value} {g : mG} : WP m_L_law Q 359 [.null, l1, l2, l3] st g = WP m_L_law Q 360 [.null, l1, l2, l3] (.null :: st) g := E_aln (i := 0) (n := 1) lo_L_law rfl rfl
set_option maxRecDepth 100000 in
theorem e_L_law_360 {Q : mQ} {l0 l1 l2 : Value} {st : List Value} {g : mG} {x : Int32} : WP m_L_law Q 360 [l0, l1, l2, .int x] st g = WP m_L_law Q 361 [l0, l1, l2, .int x] (.int x :: st) g := E_il (i := 3) (n := 1) lo_L_law rfl rfl
set_option maxRecDepth 100000 in
theorem e_L_law_361 {Q : mQ} {ls st : List Value} {g : mG} : WP m_L_law Q 361 ls st g = WP m_L_law Q 362 ls (.int (nI 2) :: st) g := E_ic (v := nI 2) (n := 1) lo_L_law rfl
set_option maxRecDepth 100000 in
theorem e_L_law_362 {Q : mQ} {ls st : List Value} {g : mG} {x y : Int32} : WP m_L_law Q 362 ls (.int y :: .int x :: st) g = WP m_L_law Q 363 ls (.int (x + y) :: st) g := E_b2 (f := fun x y => x + y) lo_L_law rfl
set_option maxRecDepth 100000 in
theorem e_L_law_363 {Q : mQ} {ls st : List Value} {g : mG} {a : Nat} {i : Int32} : WP m_L_law Q 363 ls (.int i :: .ref a :: st) g = ((isIA g a ∧ vp_in i (gN g a)) ∧ WP m_L_law Q 364 ls (.int (gI g a i.toNatClampNeg) :: st) g) := E_iald lo_L_law rfl
set_option maxRecDepth 100000 in
theorem e_L_law_364 {Q : mQ} {ls st : List Value} {g : mG} {b : Nat} {a0 a1 : Value} : WP m_L_law Q 364 ls (a1 :: a0 :: .ref b :: st) g = (st.length ≤ 4 ∧ gK g b = 7 ∧ stbs g ls ∧ stbs g st ∧ w_X6_buyReserve [.ref b, a0, a1] g (fun v g' => WP m_L_law Q 367 ls (v.toList ++ st) g')) := E_CV (ar := [a1, a0, .ref b]) lo_L_law rfl rfl rfl (by decide)
set_option maxRecDepth 100000 in
theorem e_L_law_367 {Q : mQ} {l0 l1 l3 : Value} {st : List Value} {g : mG} {x : Nat} : WP m_L_law Q 367 [l0, l1, .ref x, l3] st g = WP m_L_law Q 368 [l0, l1, .ref x, l3] (.ref x :: st) g := E_al (i := 2) (n := 1) lo_L_law rfl rfl
set_option maxRecDepth 100000 in
theorem e_L_law_367n {Q : mQ} {l0 l1 l3 : Value} {st : List Value} {g : mG} : WP m_L_law Q 367 [l0, l1, .null, l3] st g = WP m_L_law Q 368 [l0, l1, .null, l3] (.null :: st) g := E_aln (i := 2) (n := 1) lo_L_law rfl rfl
set_option maxRecDepth 100000 in
theorem e_L_law_368 {Q : mQ} {l1 l2 l3 : Value} {st : List Value} {g : mG} {x : Nat} : WP m_L_law Q 368 [.ref x, l1, l2, l3] st g = WP m_L_law Q 369 [.ref x, l1, l2, l3] (.ref x :: st) g := E_al (i := 0) (n := 1) lo_L_law rfl rfl
set_option maxRecDepth 100000 in
theorem e_L_law_368n {Q : mQ} {l1 l2 l3 : Value} {st : List Value} {g : mG} : WP m_L_law Q 368 [.null, l1, l2, l3] st g = WP m_L_law Q 369 [.null, l1, l2, l3] (.null :: st) g := E_aln (i := 0) (n := 1) lo_L_law rfl rfl
set_option maxRecDepth 100000 in
theorem e_L_law_369 {Q : mQ} {l0 l1 l2 : Value} {st : List Value} {g : mG} {x : Int32} : WP m_L_law Q 369 [l0, l1, l2, .int x] st g = WP m_L_law Q 370 [l0, l1, l2, .int x] (.int x :: st) g := E_il (i := 3) (n := 1) lo_L_law rfl rfl
set_option maxRecDepth 100000 in
theorem e_L_law_370 {Q : mQ} {ls st : List Value} {g : mG} : WP m_L_law Q 370 ls st g = WP m_L_law Q 371 ls (.int (nI 1) :: st) g := E_ic (v := nI 1) (n := 1) lo_L_law rfl
set_option maxRecDepth 100000 in
theorem e_L_law_371 {Q : mQ} {ls st : List Value} {g : mG} {x y : Int32} : WP m_L_law Q 371 ls (.int y :: .int x :: st) g = WP m_L_law Q 372 ls (.int (x + y) :: st) g := E_b2 (f := fun x y => x + y) lo_L_law rfl
set_option maxRecDepth 100000 in
theorem e_L_law_372 {Q : mQ} {ls st : List Value} {g : mG} {a : Nat} {i : Int32} : WP m_L_law Q 372 ls (.int i :: .ref a :: st) g = ((isIA g a ∧ vp_in i (gN g a)) ∧ WP m_L_law Q 373 ls (.int (gI g a i.toNatClampNeg) :: st) g) := E_iald lo_L_law rfl
set_option maxRecDepth 100000 in
theorem e_L_law_373 {Q : mQ} {l1 l2 l3 : Value} {st : List Value} {g : mG} {x : Nat} : WP m_L_law Q 373 [.ref x, l1, l2, l3] st g = WP m_L_law Q 374 [.ref x, l1, l2, l3] (.ref x :: st) g := E_al (i := 0) (n := 1) lo_L_law rfl rfl
set_option maxRecDepth 100000 in
theorem e_L_law_373n {Q : mQ} {l1 l2 l3 : Value} {st : List Value} {g : mG} : WP m_L_law Q 373 [.null, l1, l2, l3] st g = WP m_L_law Q 374 [.null, l1, l2, l3] (.null :: st) g := E_aln (i := 0) (n := 1) lo_L_law rfl rfl
set_option maxRecDepth 100000 in
theorem e_L_law_374 {Q : mQ} {l0 l1 l2 : Value} {st : List Value} {g : mG} {x : Int32} : WP m_L_law Q 374 [l0, l1, l2, .int x] st g = WP m_L_law Q 375 [l0, l1, l2, .int x] (.int x :: st) g := E_il (i := 3) (n := 1) lo_L_law rfl rfl
set_option maxRecDepth 100000 in
theorem e_L_law_375 {Q : mQ} {ls st : List Value} {g : mG} : WP m_L_law Q 375 ls st g = WP m_L_law Q 376 ls (.int (nI 2) :: st) g := E_ic (v := nI 2) (n := 1) lo_L_law rfl
set_option maxRecDepth 100000 in
theorem e_L_law_376 {Q : mQ} {ls st : List Value} {g : mG} {x y : Int32} : WP m_L_law Q 376 ls (.int y :: .int x :: st) g = WP m_L_law Q 377 ls (.int (x + y) :: st) g := E_b2 (f := fun x y => x + y) lo_L_law rfl
set_option maxRecDepth 100000 in
theorem e_L_law_377 {Q : mQ} {ls st : List Value} {g : mG} {a : Nat} {i : Int32} : WP m_L_law Q 377 ls (.int i :: .ref a :: st) g = ((isIA g a ∧ vp_in i (gN g a)) ∧ WP m_L_law Q 378 ls (.int (gI g a i.toNatClampNeg) :: st) g) := E_iald lo_L_law rfl
set_option maxRecDepth 100000 in
theorem e_L_law_378 {Q : mQ} {ls st : List Value} {g : mG} {b : Nat} {a0 a1 : Value} : WP m_L_law Q 378 ls (a1 :: a0 :: .ref b :: st) g = (st.length ≤ 4 ∧ gK g b = 8 ∧ stbs g ls ∧ stbs g st ∧ w_X7_buyReserve [.ref b, a0, a1] g (fun v g' => WP m_L_law Q 381 ls (v.toList ++ st) g')) := E_CV (ar := [a1, a0, .ref b]) lo_L_law rfl rfl rfl (by decide)
set_option maxRecDepth 100000 in
theorem e_L_law_381 {Q : mQ} {ls st : List Value} {g : mG} {x y : Int32} : WP m_L_law Q 381 ls (.int y :: .int x :: st) g = ((x = y → WP m_L_law Q 739 ls st g) ∧ (¬ (x = y) → WP m_L_law Q 384 ls st g)) := E_I2 (c := fun x y => x = y) (t := 739) lo_L_law rfl
set_option maxRecDepth 100000 in
theorem e_L_law_384 {Q : mQ} {ls st : List Value} {g : mG} : WP m_L_law Q 384 ls st g = WP m_L_law Q 385 ls (.int (nI 0) :: st) g := E_ic (v := nI 0) (n := 1) lo_L_law rfl
set_option maxRecDepth 100000 in
theorem e_L_law_386 {Q : mQ} {l0 l2 l3 : Value} {st : List Value} {g : mG} {x : Nat} : WP m_L_law Q 386 [l0, .ref x, l2, l3] st g = WP m_L_law Q 387 [l0, .ref x, l2, l3] (.ref x :: st) g := E_al (i := 1) (n := 1) lo_L_law rfl rfl
set_option maxRecDepth 100000 in
theorem e_L_law_386n {Q : mQ} {l0 l2 l3 : Value} {st : List Value} {g : mG} : WP m_L_law Q 386 [l0, .null, l2, l3] st g = WP m_L_law Q 387 [l0, .null, l2, l3] (.null :: st) g := E_aln (i := 1) (n := 1) lo_L_law rfl rfl
set_option maxRecDepth 100000 in
theorem e_L_law_387 {Q : mQ} {l1 l2 l3 : Value} {st : List Value} {g : mG} {x : Nat} : WP m_L_law Q 387 [.ref x, l1, l2, l3] st g = WP m_L_law Q 388 [.ref x, l1, l2, l3] (.ref x :: st) g := E_al (i := 0) (n := 1) lo_L_law rfl rfl
set_option maxRecDepth 100000 in
theorem e_L_law_387n {Q : mQ} {l1 l2 l3 : Value} {st : List Value} {g : mG} : WP m_L_law Q 387 [.null, l1, l2, l3] st g = WP m_L_law Q 388 [.null, l1, l2, l3] (.null :: st) g := E_aln (i := 0) (n := 1) lo_L_law rfl rfl
set_option maxRecDepth 100000 in
theorem e_L_law_388 {Q : mQ} {l0 l1 l2 : Value} {st : List Value} {g : mG} {x : Int32} : WP m_L_law Q 388 [l0, l1, l2, .int x] st g = WP m_L_law Q 389 [l0, l1, l2, .int x] (.int x :: st) g := E_il (i := 3) (n := 1) lo_L_law rfl rfl
set_option maxRecDepth 100000 in
theorem e_L_law_389 {Q : mQ} {ls st : List Value} {g : mG} : WP m_L_law Q 389 ls st g = WP m_L_law Q 390 ls (.int (nI 1) :: st) g := E_ic (v := nI 1) (n := 1) lo_L_law rfl
set_option maxRecDepth 100000 in
theorem e_L_law_390 {Q : mQ} {ls st : List Value} {g : mG} {x y : Int32} : WP m_L_law Q 390 ls (.int y :: .int x :: st) g = WP m_L_law Q 391 ls (.int (x + y) :: st) g := E_b2 (f := fun x y => x + y) lo_L_law rfl
set_option maxRecDepth 100000 in
theorem e_L_law_391 {Q : mQ} {ls st : List Value} {g : mG} {a : Nat} {i : Int32} : WP m_L_law Q 391 ls (.int i :: .ref a :: st) g = ((isIA g a ∧ vp_in i (gN g a)) ∧ WP m_L_law Q 392 ls (.int (gI g a i.toNatClampNeg) :: st) g) := E_iald lo_L_law rfl
set_option maxRecDepth 100000 in
theorem e_L_law_392 {Q : mQ} {l1 l2 l3 : Value} {st : List Value} {g : mG} {x : Nat} : WP m_L_law Q 392 [.ref x, l1, l2, l3] st g = WP m_L_law Q 393 [.ref x, l1, l2, l3] (.ref x :: st) g := E_al (i := 0) (n := 1) lo_L_law rfl rfl
set_option maxRecDepth 100000 in
theorem e_L_law_392n {Q : mQ} {l1 l2 l3 : Value} {st : List Value} {g : mG} : WP m_L_law Q 392 [.null, l1, l2, l3] st g = WP m_L_law Q 393 [.null, l1, l2, l3] (.null :: st) g := E_aln (i := 0) (n := 1) lo_L_law rfl rfl
set_option maxRecDepth 100000 in
theorem e_L_law_393 {Q : mQ} {l0 l1 l2 : Value} {st : List Value} {g : mG} {x : Int32} : WP m_L_law Q 393 [l0, l1, l2, .int x] st g = WP m_L_law Q 394 [l0, l1, l2, .int x] (.int x :: st) g := E_il (i := 3) (n := 1) lo_L_law rfl rfl
set_option maxRecDepth 100000 in
theorem e_L_law_394 {Q : mQ} {ls st : List Value} {g : mG} : WP m_L_law Q 394 ls st g = WP m_L_law Q 395 ls (.int (nI 2) :: st) g := E_ic (v := nI 2) (n := 1) lo_L_law rfl
set_option maxRecDepth 100000 in
theorem e_L_law_395 {Q : mQ} {ls st : List Value} {g : mG} {x y : Int32} : WP m_L_law Q 395 ls (.int y :: .int x :: st) g = WP m_L_law Q 396 ls (.int (x + y) :: st) g := E_b2 (f := fun x y => x + y) lo_L_law rfl
set_option maxRecDepth 100000 in
theorem e_L_law_396 {Q : mQ} {ls st : List Value} {g : mG} {a : Nat} {i : Int32} : WP m_L_law Q 396 ls (.int i :: .ref a :: st) g = ((isIA g a ∧ vp_in i (gN g a)) ∧ WP m_L_law Q 397 ls (.int (gI g a i.toNatClampNeg) :: st) g) := E_iald lo_L_law rfl
set_option maxRecDepth 100000 in
theorem e_L_law_397 {Q : mQ} {ls st : List Value} {g : mG} {b : Nat} {a0 a1 : Value} : WP m_L_law Q 397 ls (a1 :: a0 :: .ref b :: st) g = (st.length ≤ 4 ∧ gK g b = 7 ∧ stbs g ls ∧ stbs g st ∧ w_X6_borrow [.ref b, a0, a1] g (fun v g' => WP m_L_law Q 400 ls (v.toList ++ st) g')) := E_CV (ar := [a1, a0, .ref b]) lo_L_law rfl rfl rfl (by decide)
set_option maxRecDepth 100000 in
theorem e_L_law_400 {Q : mQ} {l0 l1 l3 : Value} {st : List Value} {g : mG} {x : Nat} : WP m_L_law Q 400 [l0, l1, .ref x, l3] st g = WP m_L_law Q 401 [l0, l1, .ref x, l3] (.ref x :: st) g := E_al (i := 2) (n := 1) lo_L_law rfl rfl
set_option maxRecDepth 100000 in
theorem e_L_law_400n {Q : mQ} {l0 l1 l3 : Value} {st : List Value} {g : mG} : WP m_L_law Q 400 [l0, l1, .null, l3] st g = WP m_L_law Q 401 [l0, l1, .null, l3] (.null :: st) g := E_aln (i := 2) (n := 1) lo_L_law rfl rfl
set_option maxRecDepth 100000 in
theorem e_L_law_401 {Q : mQ} {l1 l2 l3 : Value} {st : List Value} {g : mG} {x : Nat} : WP m_L_law Q 401 [.ref x, l1, l2, l3] st g = WP m_L_law Q 402 [.ref x, l1, l2, l3] (.ref x :: st) g := E_al (i := 0) (n := 1) lo_L_law rfl rfl
set_option maxRecDepth 100000 in
theorem e_L_law_401n {Q : mQ} {l1 l2 l3 : Value} {st : List Value} {g : mG} : WP m_L_law Q 401 [.null, l1, l2, l3] st g = WP m_L_law Q 402 [.null, l1, l2, l3] (.null :: st) g := E_aln (i := 0) (n := 1) lo_L_law rfl rfl
set_option maxRecDepth 100000 in
theorem e_L_law_402 {Q : mQ} {l0 l1 l2 : Value} {st : List Value} {g : mG} {x : Int32} : WP m_L_law Q 402 [l0, l1, l2, .int x] st g = WP m_L_law Q 403 [l0, l1, l2, .int x] (.int x :: st) g := E_il (i := 3) (n := 1) lo_L_law rfl rfl
set_option maxRecDepth 100000 in
theorem e_L_law_403 {Q : mQ} {ls st : List Value} {g : mG} : WP m_L_law Q 403 ls st g = WP m_L_law Q 404 ls (.int (nI 1) :: st) g := E_ic (v := nI 1) (n := 1) lo_L_law rfl
set_option maxRecDepth 100000 in
theorem e_L_law_404 {Q : mQ} {ls st : List Value} {g : mG} {x y : Int32} : WP m_L_law Q 404 ls (.int y :: .int x :: st) g = WP m_L_law Q 405 ls (.int (x + y) :: st) g := E_b2 (f := fun x y => x + y) lo_L_law rfl
set_option maxRecDepth 100000 in
theorem e_L_law_405 {Q : mQ} {ls st : List Value} {g : mG} {a : Nat} {i : Int32} : WP m_L_law Q 405 ls (.int i :: .ref a :: st) g = ((isIA g a ∧ vp_in i (gN g a)) ∧ WP m_L_law Q 406 ls (.int (gI g a i.toNatClampNeg) :: st) g) := E_iald lo_L_law rfl
set_option maxRecDepth 100000 in
theorem e_L_law_406 {Q : mQ} {l1 l2 l3 : Value} {st : List Value} {g : mG} {x : Nat} : WP m_L_law Q 406 [.ref x, l1, l2, l3] st g = WP m_L_law Q 407 [.ref x, l1, l2, l3] (.ref x :: st) g := E_al (i := 0) (n := 1) lo_L_law rfl rfl
set_option maxRecDepth 100000 in
theorem e_L_law_406n {Q : mQ} {l1 l2 l3 : Value} {st : List Value} {g : mG} : WP m_L_law Q 406 [.null, l1, l2, l3] st g = WP m_L_law Q 407 [.null, l1, l2, l3] (.null :: st) g := E_aln (i := 0) (n := 1) lo_L_law rfl rfl
set_option maxRecDepth 100000 in
theorem e_L_law_407 {Q : mQ} {l0 l1 l2 : Value} {st : List Value} {g : mG} {x : Int32} : WP m_L_law Q 407 [l0, l1, l2, .int x] st g = WP m_L_law Q 408 [l0, l1, l2, .int x] (.int x :: st) g := E_il (i := 3) (n := 1) lo_L_law rfl rfl
set_option maxRecDepth 100000 in
theorem e_L_law_408 {Q : mQ} {ls st : List Value} {g : mG} : WP m_L_law Q 408 ls st g = WP m_L_law Q 409 ls (.int (nI 2) :: st) g := E_ic (v := nI 2) (n := 1) lo_L_law rfl
set_option maxRecDepth 100000 in
theorem e_L_law_409 {Q : mQ} {ls st : List Value} {g : mG} {x y : Int32} : WP m_L_law Q 409 ls (.int y :: .int x :: st) g = WP m_L_law Q 410 ls (.int (x + y) :: st) g := E_b2 (f := fun x y => x + y) lo_L_law rfl
set_option maxRecDepth 100000 in
theorem e_L_law_410 {Q : mQ} {ls st : List Value} {g : mG} {a : Nat} {i : Int32} : WP m_L_law Q 410 ls (.int i :: .ref a :: st) g = ((isIA g a ∧ vp_in i (gN g a)) ∧ WP m_L_law Q 411 ls (.int (gI g a i.toNatClampNeg) :: st) g) := E_iald lo_L_law rfl
set_option maxRecDepth 100000 in
theorem e_L_law_411 {Q : mQ} {ls st : List Value} {g : mG} {b : Nat} {a0 a1 : Value} : WP m_L_law Q 411 ls (a1 :: a0 :: .ref b :: st) g = (st.length ≤ 4 ∧ gK g b = 8 ∧ stbs g ls ∧ stbs g st ∧ w_X7_borrow [.ref b, a0, a1] g (fun v g' => WP m_L_law Q 414 ls (v.toList ++ st) g')) := E_CV (ar := [a1, a0, .ref b]) lo_L_law rfl rfl rfl (by decide)
set_option maxRecDepth 100000 in
theorem e_L_law_414 {Q : mQ} {ls st : List Value} {g : mG} {x y : Int32} : WP m_L_law Q 414 ls (.int y :: .int x :: st) g = ((x = y → WP m_L_law Q 739 ls st g) ∧ (¬ (x = y) → WP m_L_law Q 417 ls st g)) := E_I2 (c := fun x y => x = y) (t := 739) lo_L_law rfl
set_option maxRecDepth 100000 in
theorem e_L_law_417 {Q : mQ} {ls st : List Value} {g : mG} : WP m_L_law Q 417 ls st g = WP m_L_law Q 418 ls (.int (nI 0) :: st) g := E_ic (v := nI 0) (n := 1) lo_L_law rfl
set_option maxRecDepth 100000 in
theorem e_L_law_419 {Q : mQ} {l0 l2 l3 : Value} {st : List Value} {g : mG} {x : Nat} : WP m_L_law Q 419 [l0, .ref x, l2, l3] st g = WP m_L_law Q 420 [l0, .ref x, l2, l3] (.ref x :: st) g := E_al (i := 1) (n := 1) lo_L_law rfl rfl
set_option maxRecDepth 100000 in
theorem e_L_law_419n {Q : mQ} {l0 l2 l3 : Value} {st : List Value} {g : mG} : WP m_L_law Q 419 [l0, .null, l2, l3] st g = WP m_L_law Q 420 [l0, .null, l2, l3] (.null :: st) g := E_aln (i := 1) (n := 1) lo_L_law rfl rfl
set_option maxRecDepth 100000 in
theorem e_L_law_420 {Q : mQ} {l1 l2 l3 : Value} {st : List Value} {g : mG} {x : Nat} : WP m_L_law Q 420 [.ref x, l1, l2, l3] st g = WP m_L_law Q 421 [.ref x, l1, l2, l3] (.ref x :: st) g := E_al (i := 0) (n := 1) lo_L_law rfl rfl
set_option maxRecDepth 100000 in
theorem e_L_law_420n {Q : mQ} {l1 l2 l3 : Value} {st : List Value} {g : mG} : WP m_L_law Q 420 [.null, l1, l2, l3] st g = WP m_L_law Q 421 [.null, l1, l2, l3] (.null :: st) g := E_aln (i := 0) (n := 1) lo_L_law rfl rfl
set_option maxRecDepth 100000 in
theorem e_L_law_421 {Q : mQ} {l0 l1 l2 : Value} {st : List Value} {g : mG} {x : Int32} : WP m_L_law Q 421 [l0, l1, l2, .int x] st g = WP m_L_law Q 422 [l0, l1, l2, .int x] (.int x :: st) g := E_il (i := 3) (n := 1) lo_L_law rfl rfl
set_option maxRecDepth 100000 in
theorem e_L_law_422 {Q : mQ} {ls st : List Value} {g : mG} : WP m_L_law Q 422 ls st g = WP m_L_law Q 423 ls (.int (nI 1) :: st) g := E_ic (v := nI 1) (n := 1) lo_L_law rfl
set_option maxRecDepth 100000 in
theorem e_L_law_423 {Q : mQ} {ls st : List Value} {g : mG} {x y : Int32} : WP m_L_law Q 423 ls (.int y :: .int x :: st) g = WP m_L_law Q 424 ls (.int (x + y) :: st) g := E_b2 (f := fun x y => x + y) lo_L_law rfl
set_option maxRecDepth 100000 in
theorem e_L_law_424 {Q : mQ} {ls st : List Value} {g : mG} {a : Nat} {i : Int32} : WP m_L_law Q 424 ls (.int i :: .ref a :: st) g = ((isIA g a ∧ vp_in i (gN g a)) ∧ WP m_L_law Q 425 ls (.int (gI g a i.toNatClampNeg) :: st) g) := E_iald lo_L_law rfl
set_option maxRecDepth 100000 in
theorem e_L_law_425 {Q : mQ} {l1 l2 l3 : Value} {st : List Value} {g : mG} {x : Nat} : WP m_L_law Q 425 [.ref x, l1, l2, l3] st g = WP m_L_law Q 426 [.ref x, l1, l2, l3] (.ref x :: st) g := E_al (i := 0) (n := 1) lo_L_law rfl rfl
set_option maxRecDepth 100000 in
theorem e_L_law_425n {Q : mQ} {l1 l2 l3 : Value} {st : List Value} {g : mG} : WP m_L_law Q 425 [.null, l1, l2, l3] st g = WP m_L_law Q 426 [.null, l1, l2, l3] (.null :: st) g := E_aln (i := 0) (n := 1) lo_L_law rfl rfl
set_option maxRecDepth 100000 in
theorem e_L_law_426 {Q : mQ} {l0 l1 l2 : Value} {st : List Value} {g : mG} {x : Int32} : WP m_L_law Q 426 [l0, l1, l2, .int x] st g = WP m_L_law Q 427 [l0, l1, l2, .int x] (.int x :: st) g := E_il (i := 3) (n := 1) lo_L_law rfl rfl
set_option maxRecDepth 100000 in
theorem e_L_law_427 {Q : mQ} {ls st : List Value} {g : mG} : WP m_L_law Q 427 ls st g = WP m_L_law Q 428 ls (.int (nI 2) :: st) g := E_ic (v := nI 2) (n := 1) lo_L_law rfl
set_option maxRecDepth 100000 in
theorem e_L_law_428 {Q : mQ} {ls st : List Value} {g : mG} {x y : Int32} : WP m_L_law Q 428 ls (.int y :: .int x :: st) g = WP m_L_law Q 429 ls (.int (x + y) :: st) g := E_b2 (f := fun x y => x + y) lo_L_law rfl
set_option maxRecDepth 100000 in
theorem e_L_law_429 {Q : mQ} {ls st : List Value} {g : mG} {a : Nat} {i : Int32} : WP m_L_law Q 429 ls (.int i :: .ref a :: st) g = ((isIA g a ∧ vp_in i (gN g a)) ∧ WP m_L_law Q 430 ls (.int (gI g a i.toNatClampNeg) :: st) g) := E_iald lo_L_law rfl
set_option maxRecDepth 100000 in
theorem e_L_law_430 {Q : mQ} {ls st : List Value} {g : mG} {b : Nat} {a0 a1 : Value} : WP m_L_law Q 430 ls (a1 :: a0 :: .ref b :: st) g = (st.length ≤ 4 ∧ gK g b = 7 ∧ stbs g ls ∧ stbs g st ∧ w_X6_set [.ref b, a0, a1] g (fun v g' => WP m_L_law Q 433 ls (v.toList ++ st) g')) := E_CV (ar := [a1, a0, .ref b]) lo_L_law rfl rfl rfl (by decide)
set_option maxRecDepth 100000 in
theorem e_L_law_433 {Q : mQ} {l0 l1 l3 : Value} {st : List Value} {g : mG} {x : Nat} : WP m_L_law Q 433 [l0, l1, .ref x, l3] st g = WP m_L_law Q 434 [l0, l1, .ref x, l3] (.ref x :: st) g := E_al (i := 2) (n := 1) lo_L_law rfl rfl
set_option maxRecDepth 100000 in
theorem e_L_law_433n {Q : mQ} {l0 l1 l3 : Value} {st : List Value} {g : mG} : WP m_L_law Q 433 [l0, l1, .null, l3] st g = WP m_L_law Q 434 [l0, l1, .null, l3] (.null :: st) g := E_aln (i := 2) (n := 1) lo_L_law rfl rfl
set_option maxRecDepth 100000 in
theorem e_L_law_434 {Q : mQ} {l1 l2 l3 : Value} {st : List Value} {g : mG} {x : Nat} : WP m_L_law Q 434 [.ref x, l1, l2, l3] st g = WP m_L_law Q 435 [.ref x, l1, l2, l3] (.ref x :: st) g := E_al (i := 0) (n := 1) lo_L_law rfl rfl
set_option maxRecDepth 100000 in
theorem e_L_law_434n {Q : mQ} {l1 l2 l3 : Value} {st : List Value} {g : mG} : WP m_L_law Q 434 [.null, l1, l2, l3] st g = WP m_L_law Q 435 [.null, l1, l2, l3] (.null :: st) g := E_aln (i := 0) (n := 1) lo_L_law rfl rfl
set_option maxRecDepth 100000 in
theorem e_L_law_435 {Q : mQ} {l0 l1 l2 : Value} {st : List Value} {g : mG} {x : Int32} : WP m_L_law Q 435 [l0, l1, l2, .int x] st g = WP m_L_law Q 436 [l0, l1, l2, .int x] (.int x :: st) g := E_il (i := 3) (n := 1) lo_L_law rfl rfl
set_option maxRecDepth 100000 in
theorem e_L_law_436 {Q : mQ} {ls st : List Value} {g : mG} : WP m_L_law Q 436 ls st g = WP m_L_law Q 437 ls (.int (nI 1) :: st) g := E_ic (v := nI 1) (n := 1) lo_L_law rfl
set_option maxRecDepth 100000 in
theorem e_L_law_437 {Q : mQ} {ls st : List Value} {g : mG} {x y : Int32} : WP m_L_law Q 437 ls (.int y :: .int x :: st) g = WP m_L_law Q 438 ls (.int (x + y) :: st) g := E_b2 (f := fun x y => x + y) lo_L_law rfl
set_option maxRecDepth 100000 in
theorem e_L_law_438 {Q : mQ} {ls st : List Value} {g : mG} {a : Nat} {i : Int32} : WP m_L_law Q 438 ls (.int i :: .ref a :: st) g = ((isIA g a ∧ vp_in i (gN g a)) ∧ WP m_L_law Q 439 ls (.int (gI g a i.toNatClampNeg) :: st) g) := E_iald lo_L_law rfl
set_option maxRecDepth 100000 in
theorem e_L_law_439 {Q : mQ} {l1 l2 l3 : Value} {st : List Value} {g : mG} {x : Nat} : WP m_L_law Q 439 [.ref x, l1, l2, l3] st g = WP m_L_law Q 440 [.ref x, l1, l2, l3] (.ref x :: st) g := E_al (i := 0) (n := 1) lo_L_law rfl rfl
set_option maxRecDepth 100000 in
theorem e_L_law_439n {Q : mQ} {l1 l2 l3 : Value} {st : List Value} {g : mG} : WP m_L_law Q 439 [.null, l1, l2, l3] st g = WP m_L_law Q 440 [.null, l1, l2, l3] (.null :: st) g := E_aln (i := 0) (n := 1) lo_L_law rfl rfl
set_option maxRecDepth 100000 in
theorem e_L_law_440 {Q : mQ} {l0 l1 l2 : Value} {st : List Value} {g : mG} {x : Int32} : WP m_L_law Q 440 [l0, l1, l2, .int x] st g = WP m_L_law Q 441 [l0, l1, l2, .int x] (.int x :: st) g := E_il (i := 3) (n := 1) lo_L_law rfl rfl
set_option maxRecDepth 100000 in
theorem e_L_law_441 {Q : mQ} {ls st : List Value} {g : mG} : WP m_L_law Q 441 ls st g = WP m_L_law Q 442 ls (.int (nI 2) :: st) g := E_ic (v := nI 2) (n := 1) lo_L_law rfl
set_option maxRecDepth 100000 in
theorem e_L_law_442 {Q : mQ} {ls st : List Value} {g : mG} {x y : Int32} : WP m_L_law Q 442 ls (.int y :: .int x :: st) g = WP m_L_law Q 443 ls (.int (x + y) :: st) g := E_b2 (f := fun x y => x + y) lo_L_law rfl
set_option maxRecDepth 100000 in
theorem e_L_law_443 {Q : mQ} {ls st : List Value} {g : mG} {a : Nat} {i : Int32} : WP m_L_law Q 443 ls (.int i :: .ref a :: st) g = ((isIA g a ∧ vp_in i (gN g a)) ∧ WP m_L_law Q 444 ls (.int (gI g a i.toNatClampNeg) :: st) g) := E_iald lo_L_law rfl
set_option maxRecDepth 100000 in
theorem e_L_law_444 {Q : mQ} {ls st : List Value} {g : mG} {b : Nat} {a0 a1 : Value} : WP m_L_law Q 444 ls (a1 :: a0 :: .ref b :: st) g = (st.length ≤ 4 ∧ gK g b = 8 ∧ stbs g ls ∧ stbs g st ∧ w_X7_set [.ref b, a0, a1] g (fun v g' => WP m_L_law Q 447 ls (v.toList ++ st) g')) := E_CV (ar := [a1, a0, .ref b]) lo_L_law rfl rfl rfl (by decide)
set_option maxRecDepth 100000 in
theorem e_L_law_447 {Q : mQ} {ls st : List Value} {g : mG} {x y : Int32} : WP m_L_law Q 447 ls (.int y :: .int x :: st) g = ((x = y → WP m_L_law Q 739 ls st g) ∧ (¬ (x = y) → WP m_L_law Q 450 ls st g)) := E_I2 (c := fun x y => x = y) (t := 739) lo_L_law rfl
set_option maxRecDepth 100000 in
theorem e_L_law_450 {Q : mQ} {ls st : List Value} {g : mG} : WP m_L_law Q 450 ls st g = WP m_L_law Q 451 ls (.int (nI 0) :: st) g := E_ic (v := nI 0) (n := 1) lo_L_law rfl
set_option maxRecDepth 100000 in
theorem e_L_law_452 {Q : mQ} {l0 l2 l3 : Value} {st : List Value} {g : mG} {x : Nat} : WP m_L_law Q 452 [l0, .ref x, l2, l3] st g = WP m_L_law Q 453 [l0, .ref x, l2, l3] (.ref x :: st) g := E_al (i := 1) (n := 1) lo_L_law rfl rfl
set_option maxRecDepth 100000 in
theorem e_L_law_452n {Q : mQ} {l0 l2 l3 : Value} {st : List Value} {g : mG} : WP m_L_law Q 452 [l0, .null, l2, l3] st g = WP m_L_law Q 453 [l0, .null, l2, l3] (.null :: st) g := E_aln (i := 1) (n := 1) lo_L_law rfl rfl
set_option maxRecDepth 100000 in
theorem e_L_law_453 {Q : mQ} {ls st : List Value} {g : mG} {b : Nat} : WP m_L_law Q 453 ls (.ref b :: st) g = (st.length ≤ 4 ∧ gK g b = 7 ∧ stbs g ls ∧ stbs g st ∧ w_X6_endYear [.ref b] g (fun v g' => WP m_L_law Q 456 ls (v.toList ++ st) g')) := E_CV (ar := [.ref b]) lo_L_law rfl rfl rfl (by decide)
set_option maxRecDepth 100000 in
theorem e_L_law_456 {Q : mQ} {l0 l1 l3 : Value} {st : List Value} {g : mG} {x : Nat} : WP m_L_law Q 456 [l0, l1, .ref x, l3] st g = WP m_L_law Q 457 [l0, l1, .ref x, l3] (.ref x :: st) g := E_al (i := 2) (n := 1) lo_L_law rfl rfl
set_option maxRecDepth 100000 in
theorem e_L_law_456n {Q : mQ} {l0 l1 l3 : Value} {st : List Value} {g : mG} : WP m_L_law Q 456 [l0, l1, .null, l3] st g = WP m_L_law Q 457 [l0, l1, .null, l3] (.null :: st) g := E_aln (i := 2) (n := 1) lo_L_law rfl rfl
set_option maxRecDepth 100000 in
theorem e_L_law_457 {Q : mQ} {ls st : List Value} {g : mG} {b : Nat} : WP m_L_law Q 457 ls (.ref b :: st) g = (st.length ≤ 4 ∧ gK g b = 8 ∧ stbs g ls ∧ stbs g st ∧ w_X7_endYear [.ref b] g (fun v g' => WP m_L_law Q 460 ls (v.toList ++ st) g')) := E_CV (ar := [.ref b]) lo_L_law rfl rfl rfl (by decide)
set_option maxRecDepth 100000 in
theorem e_L_law_460 {Q : mQ} {ls st : List Value} {g : mG} {x y : Int32} : WP m_L_law Q 460 ls (.int y :: .int x :: st) g = ((x = y → WP m_L_law Q 739 ls st g) ∧ (¬ (x = y) → WP m_L_law Q 463 ls st g)) := E_I2 (c := fun x y => x = y) (t := 739) lo_L_law rfl
set_option maxRecDepth 100000 in
theorem e_L_law_463 {Q : mQ} {ls st : List Value} {g : mG} : WP m_L_law Q 463 ls st g = WP m_L_law Q 464 ls (.int (nI 0) :: st) g := E_ic (v := nI 0) (n := 1) lo_L_law rfl
set_option maxRecDepth 100000 in
theorem e_L_law_465 {Q : mQ} {l0 l2 l3 : Value} {st : List Value} {g : mG} {x : Nat} : WP m_L_law Q 465 [l0, .ref x, l2, l3] st g = WP m_L_law Q 466 [l0, .ref x, l2, l3] (.ref x :: st) g := E_al (i := 1) (n := 1) lo_L_law rfl rfl
set_option maxRecDepth 100000 in
theorem e_L_law_465n {Q : mQ} {l0 l2 l3 : Value} {st : List Value} {g : mG} : WP m_L_law Q 465 [l0, .null, l2, l3] st g = WP m_L_law Q 466 [l0, .null, l2, l3] (.null :: st) g := E_aln (i := 1) (n := 1) lo_L_law rfl rfl
set_option maxRecDepth 100000 in
theorem e_L_law_466 {Q : mQ} {l1 l2 l3 : Value} {st : List Value} {g : mG} {x : Nat} : WP m_L_law Q 466 [.ref x, l1, l2, l3] st g = WP m_L_law Q 467 [.ref x, l1, l2, l3] (.ref x :: st) g := E_al (i := 0) (n := 1) lo_L_law rfl rfl
set_option maxRecDepth 100000 in
theorem e_L_law_466n {Q : mQ} {l1 l2 l3 : Value} {st : List Value} {g : mG} : WP m_L_law Q 466 [.null, l1, l2, l3] st g = WP m_L_law Q 467 [.null, l1, l2, l3] (.null :: st) g := E_aln (i := 0) (n := 1) lo_L_law rfl rfl
set_option maxRecDepth 100000 in
theorem e_L_law_467 {Q : mQ} {l0 l1 l2 : Value} {st : List Value} {g : mG} {x : Int32} : WP m_L_law Q 467 [l0, l1, l2, .int x] st g = WP m_L_law Q 468 [l0, l1, l2, .int x] (.int x :: st) g := E_il (i := 3) (n := 1) lo_L_law rfl rfl
set_option maxRecDepth 100000 in
theorem e_L_law_468 {Q : mQ} {ls st : List Value} {g : mG} : WP m_L_law Q 468 ls st g = WP m_L_law Q 469 ls (.int (nI 1) :: st) g := E_ic (v := nI 1) (n := 1) lo_L_law rfl
set_option maxRecDepth 100000 in
theorem e_L_law_469 {Q : mQ} {ls st : List Value} {g : mG} {x y : Int32} : WP m_L_law Q 469 ls (.int y :: .int x :: st) g = WP m_L_law Q 470 ls (.int (x + y) :: st) g := E_b2 (f := fun x y => x + y) lo_L_law rfl
set_option maxRecDepth 100000 in
theorem e_L_law_470 {Q : mQ} {ls st : List Value} {g : mG} {a : Nat} {i : Int32} : WP m_L_law Q 470 ls (.int i :: .ref a :: st) g = ((isIA g a ∧ vp_in i (gN g a)) ∧ WP m_L_law Q 471 ls (.int (gI g a i.toNatClampNeg) :: st) g) := E_iald lo_L_law rfl
set_option maxRecDepth 100000 in
theorem e_L_law_471 {Q : mQ} {ls st : List Value} {g : mG} {x : Int32} : WP m_L_law Q 471 ls (.int x :: st) g = WP m_L_law Q 472 ls (.int (x.toUInt32 % 65536).toInt32 :: st) g := E_i2c lo_L_law rfl
set_option maxRecDepth 100000 in
theorem e_L_law_472 {Q : mQ} {ls st : List Value} {g : mG} {b : Nat} {a0 : Value} : WP m_L_law Q 472 ls (a0 :: .ref b :: st) g = (st.length ≤ 4 ∧ gK g b = 7 ∧ stbs g ls ∧ stbs g st ∧ w_X6_type [.ref b, a0] g (fun v g' => WP m_L_law Q 475 ls (v.toList ++ st) g')) := E_CV (ar := [a0, .ref b]) lo_L_law rfl rfl rfl (by decide)
set_option maxRecDepth 100000 in
theorem e_L_law_475 {Q : mQ} {l0 l1 l3 : Value} {st : List Value} {g : mG} {x : Nat} : WP m_L_law Q 475 [l0, l1, .ref x, l3] st g = WP m_L_law Q 476 [l0, l1, .ref x, l3] (.ref x :: st) g := E_al (i := 2) (n := 1) lo_L_law rfl rfl
set_option maxRecDepth 100000 in
theorem e_L_law_475n {Q : mQ} {l0 l1 l3 : Value} {st : List Value} {g : mG} : WP m_L_law Q 475 [l0, l1, .null, l3] st g = WP m_L_law Q 476 [l0, l1, .null, l3] (.null :: st) g := E_aln (i := 2) (n := 1) lo_L_law rfl rfl
set_option maxRecDepth 100000 in
theorem e_L_law_476 {Q : mQ} {l1 l2 l3 : Value} {st : List Value} {g : mG} {x : Nat} : WP m_L_law Q 476 [.ref x, l1, l2, l3] st g = WP m_L_law Q 477 [.ref x, l1, l2, l3] (.ref x :: st) g := E_al (i := 0) (n := 1) lo_L_law rfl rfl
set_option maxRecDepth 100000 in
theorem e_L_law_476n {Q : mQ} {l1 l2 l3 : Value} {st : List Value} {g : mG} : WP m_L_law Q 476 [.null, l1, l2, l3] st g = WP m_L_law Q 477 [.null, l1, l2, l3] (.null :: st) g := E_aln (i := 0) (n := 1) lo_L_law rfl rfl
set_option maxRecDepth 100000 in
theorem e_L_law_477 {Q : mQ} {l0 l1 l2 : Value} {st : List Value} {g : mG} {x : Int32} : WP m_L_law Q 477 [l0, l1, l2, .int x] st g = WP m_L_law Q 478 [l0, l1, l2, .int x] (.int x :: st) g := E_il (i := 3) (n := 1) lo_L_law rfl rfl
set_option maxRecDepth 100000 in
theorem e_L_law_478 {Q : mQ} {ls st : List Value} {g : mG} : WP m_L_law Q 478 ls st g = WP m_L_law Q 479 ls (.int (nI 1) :: st) g := E_ic (v := nI 1) (n := 1) lo_L_law rfl
set_option maxRecDepth 100000 in
theorem e_L_law_479 {Q : mQ} {ls st : List Value} {g : mG} {x y : Int32} : WP m_L_law Q 479 ls (.int y :: .int x :: st) g = WP m_L_law Q 480 ls (.int (x + y) :: st) g := E_b2 (f := fun x y => x + y) lo_L_law rfl
set_option maxRecDepth 100000 in
theorem e_L_law_480 {Q : mQ} {ls st : List Value} {g : mG} {a : Nat} {i : Int32} : WP m_L_law Q 480 ls (.int i :: .ref a :: st) g = ((isIA g a ∧ vp_in i (gN g a)) ∧ WP m_L_law Q 481 ls (.int (gI g a i.toNatClampNeg) :: st) g) := E_iald lo_L_law rfl
set_option maxRecDepth 100000 in
theorem e_L_law_481 {Q : mQ} {ls st : List Value} {g : mG} {x : Int32} : WP m_L_law Q 481 ls (.int x :: st) g = WP m_L_law Q 482 ls (.int (x.toUInt32 % 65536).toInt32 :: st) g := E_i2c lo_L_law rfl
set_option maxRecDepth 100000 in
theorem e_L_law_482 {Q : mQ} {ls st : List Value} {g : mG} {b : Nat} {a0 : Value} : WP m_L_law Q 482 ls (a0 :: .ref b :: st) g = (st.length ≤ 4 ∧ gK g b = 8 ∧ stbs g ls ∧ stbs g st ∧ w_X7_type [.ref b, a0] g (fun v g' => WP m_L_law Q 485 ls (v.toList ++ st) g')) := E_CV (ar := [a0, .ref b]) lo_L_law rfl rfl rfl (by decide)
set_option maxRecDepth 100000 in
theorem e_L_law_485 {Q : mQ} {ls st : List Value} {g : mG} {x y : Int32} : WP m_L_law Q 485 ls (.int y :: .int x :: st) g = ((x = y → WP m_L_law Q 739 ls st g) ∧ (¬ (x = y) → WP m_L_law Q 488 ls st g)) := E_I2 (c := fun x y => x = y) (t := 739) lo_L_law rfl
set_option maxRecDepth 100000 in
theorem e_L_law_488 {Q : mQ} {ls st : List Value} {g : mG} : WP m_L_law Q 488 ls st g = WP m_L_law Q 489 ls (.int (nI 0) :: st) g := E_ic (v := nI 0) (n := 1) lo_L_law rfl
set_option maxRecDepth 100000 in
theorem e_L_law_490 {Q : mQ} {l0 l2 l3 : Value} {st : List Value} {g : mG} {x : Nat} : WP m_L_law Q 490 [l0, .ref x, l2, l3] st g = WP m_L_law Q 491 [l0, .ref x, l2, l3] (.ref x :: st) g := E_al (i := 1) (n := 1) lo_L_law rfl rfl
set_option maxRecDepth 100000 in
theorem e_L_law_490n {Q : mQ} {l0 l2 l3 : Value} {st : List Value} {g : mG} : WP m_L_law Q 490 [l0, .null, l2, l3] st g = WP m_L_law Q 491 [l0, .null, l2, l3] (.null :: st) g := E_aln (i := 1) (n := 1) lo_L_law rfl rfl
set_option maxRecDepth 100000 in
theorem e_L_law_491 {Q : mQ} {ls st : List Value} {g : mG} {b : Nat} : WP m_L_law Q 491 ls (.ref b :: st) g = (st.length ≤ 4 ∧ gK g b = 7 ∧ stbs g ls ∧ stbs g st ∧ w_X6_clearText [.ref b] g (fun v g' => WP m_L_law Q 494 ls (v.toList ++ st) g')) := E_CV (ar := [.ref b]) lo_L_law rfl rfl rfl (by decide)
set_option maxRecDepth 100000 in
theorem e_L_law_494 {Q : mQ} {l0 l1 l3 : Value} {st : List Value} {g : mG} {x : Nat} : WP m_L_law Q 494 [l0, l1, .ref x, l3] st g = WP m_L_law Q 495 [l0, l1, .ref x, l3] (.ref x :: st) g := E_al (i := 2) (n := 1) lo_L_law rfl rfl
set_option maxRecDepth 100000 in
theorem e_L_law_494n {Q : mQ} {l0 l1 l3 : Value} {st : List Value} {g : mG} : WP m_L_law Q 494 [l0, l1, .null, l3] st g = WP m_L_law Q 495 [l0, l1, .null, l3] (.null :: st) g := E_aln (i := 2) (n := 1) lo_L_law rfl rfl
set_option maxRecDepth 100000 in
theorem e_L_law_495 {Q : mQ} {ls st : List Value} {g : mG} {b : Nat} : WP m_L_law Q 495 ls (.ref b :: st) g = (st.length ≤ 4 ∧ gK g b = 8 ∧ stbs g ls ∧ stbs g st ∧ w_X7_clearText [.ref b] g (fun v g' => WP m_L_law Q 498 ls (v.toList ++ st) g')) := E_CV (ar := [.ref b]) lo_L_law rfl rfl rfl (by decide)
set_option maxRecDepth 100000 in
theorem e_L_law_498 {Q : mQ} {ls st : List Value} {g : mG} {x y : Int32} : WP m_L_law Q 498 ls (.int y :: .int x :: st) g = ((x = y → WP m_L_law Q 739 ls st g) ∧ (¬ (x = y) → WP m_L_law Q 501 ls st g)) := E_I2 (c := fun x y => x = y) (t := 739) lo_L_law rfl
set_option maxRecDepth 100000 in
theorem e_L_law_501 {Q : mQ} {ls st : List Value} {g : mG} : WP m_L_law Q 501 ls st g = WP m_L_law Q 502 ls (.int (nI 0) :: st) g := E_ic (v := nI 0) (n := 1) lo_L_law rfl
set_option maxRecDepth 100000 in
theorem e_L_law_503 {Q : mQ} {l0 l2 l3 : Value} {st : List Value} {g : mG} {x : Nat} : WP m_L_law Q 503 [l0, .ref x, l2, l3] st g = WP m_L_law Q 504 [l0, .ref x, l2, l3] (.ref x :: st) g := E_al (i := 1) (n := 1) lo_L_law rfl rfl
set_option maxRecDepth 100000 in
theorem e_L_law_503n {Q : mQ} {l0 l2 l3 : Value} {st : List Value} {g : mG} : WP m_L_law Q 503 [l0, .null, l2, l3] st g = WP m_L_law Q 504 [l0, .null, l2, l3] (.null :: st) g := E_aln (i := 1) (n := 1) lo_L_law rfl rfl
set_option maxRecDepth 100000 in
theorem e_L_law_504 {Q : mQ} {ls st : List Value} {g : mG} {b : Nat} : WP m_L_law Q 504 ls (.ref b :: st) g = (st.length ≤ 4 ∧ gK g b = 7 ∧ stbs g ls ∧ stbs g st ∧ w_X6_undo [.ref b] g (fun v g' => WP m_L_law Q 507 ls (v.toList ++ st) g')) := E_CV (ar := [.ref b]) lo_L_law rfl rfl rfl (by decide)
set_option maxRecDepth 100000 in
theorem e_L_law_507 {Q : mQ} {l0 l1 l3 : Value} {st : List Value} {g : mG} {x : Nat} : WP m_L_law Q 507 [l0, l1, .ref x, l3] st g = WP m_L_law Q 508 [l0, l1, .ref x, l3] (.ref x :: st) g := E_al (i := 2) (n := 1) lo_L_law rfl rfl
set_option maxRecDepth 100000 in
theorem e_L_law_507n {Q : mQ} {l0 l1 l3 : Value} {st : List Value} {g : mG} : WP m_L_law Q 507 [l0, l1, .null, l3] st g = WP m_L_law Q 508 [l0, l1, .null, l3] (.null :: st) g := E_aln (i := 2) (n := 1) lo_L_law rfl rfl
set_option maxRecDepth 100000 in
theorem e_L_law_508 {Q : mQ} {ls st : List Value} {g : mG} {b : Nat} : WP m_L_law Q 508 ls (.ref b :: st) g = (st.length ≤ 4 ∧ gK g b = 8 ∧ stbs g ls ∧ stbs g st ∧ w_X7_undo [.ref b] g (fun v g' => WP m_L_law Q 511 ls (v.toList ++ st) g')) := E_CV (ar := [.ref b]) lo_L_law rfl rfl rfl (by decide)
set_option maxRecDepth 100000 in
theorem e_L_law_511 {Q : mQ} {ls st : List Value} {g : mG} {x y : Int32} : WP m_L_law Q 511 ls (.int y :: .int x :: st) g = ((x = y → WP m_L_law Q 739 ls st g) ∧ (¬ (x = y) → WP m_L_law Q 514 ls st g)) := E_I2 (c := fun x y => x = y) (t := 739) lo_L_law rfl
set_option maxRecDepth 100000 in
theorem e_L_law_514 {Q : mQ} {ls st : List Value} {g : mG} : WP m_L_law Q 514 ls st g = WP m_L_law Q 515 ls (.int (nI 0) :: st) g := E_ic (v := nI 0) (n := 1) lo_L_law rfl
set_option maxRecDepth 100000 in
theorem e_L_law_516 {Q : mQ} {l0 l2 l3 : Value} {st : List Value} {g : mG} {x : Nat} : WP m_L_law Q 516 [l0, .ref x, l2, l3] st g = WP m_L_law Q 517 [l0, .ref x, l2, l3] (.ref x :: st) g := E_al (i := 1) (n := 1) lo_L_law rfl rfl
set_option maxRecDepth 100000 in
theorem e_L_law_516n {Q : mQ} {l0 l2 l3 : Value} {st : List Value} {g : mG} : WP m_L_law Q 516 [l0, .null, l2, l3] st g = WP m_L_law Q 517 [l0, .null, l2, l3] (.null :: st) g := E_aln (i := 1) (n := 1) lo_L_law rfl rfl
set_option maxRecDepth 100000 in
theorem e_L_law_517 {Q : mQ} {ls st : List Value} {g : mG} {b : Nat} : WP m_L_law Q 517 ls (.ref b :: st) g = (st.length ≤ 4 ∧ gK g b = 7 ∧ stbs g ls ∧ stbs g st ∧ w_X6_keep [.ref b] g (fun v g' => WP m_L_law Q 520 ls (v.toList ++ st) g')) := E_CV (ar := [.ref b]) lo_L_law rfl rfl rfl (by decide)
set_option maxRecDepth 100000 in
theorem e_L_law_520 {Q : mQ} {l0 l1 l3 : Value} {st : List Value} {g : mG} {x : Nat} : WP m_L_law Q 520 [l0, l1, .ref x, l3] st g = WP m_L_law Q 521 [l0, l1, .ref x, l3] (.ref x :: st) g := E_al (i := 2) (n := 1) lo_L_law rfl rfl
set_option maxRecDepth 100000 in
theorem e_L_law_520n {Q : mQ} {l0 l1 l3 : Value} {st : List Value} {g : mG} : WP m_L_law Q 520 [l0, l1, .null, l3] st g = WP m_L_law Q 521 [l0, l1, .null, l3] (.null :: st) g := E_aln (i := 2) (n := 1) lo_L_law rfl rfl
set_option maxRecDepth 100000 in
theorem e_L_law_521 {Q : mQ} {ls st : List Value} {g : mG} {b : Nat} : WP m_L_law Q 521 ls (.ref b :: st) g = (st.length ≤ 4 ∧ gK g b = 8 ∧ stbs g ls ∧ stbs g st ∧ w_X7_keep [.ref b] g (fun v g' => WP m_L_law Q 524 ls (v.toList ++ st) g')) := E_CV (ar := [.ref b]) lo_L_law rfl rfl rfl (by decide)
set_option maxRecDepth 100000 in
theorem e_L_law_524 {Q : mQ} {ls st : List Value} {g : mG} {x y : Int32} : WP m_L_law Q 524 ls (.int y :: .int x :: st) g = ((x = y → WP m_L_law Q 739 ls st g) ∧ (¬ (x = y) → WP m_L_law Q 527 ls st g)) := E_I2 (c := fun x y => x = y) (t := 739) lo_L_law rfl
set_option maxRecDepth 100000 in
theorem e_L_law_527 {Q : mQ} {ls st : List Value} {g : mG} : WP m_L_law Q 527 ls st g = WP m_L_law Q 528 ls (.int (nI 0) :: st) g := E_ic (v := nI 0) (n := 1) lo_L_law rfl
set_option maxRecDepth 100000 in
theorem e_L_law_529 {Q : mQ} {l0 l2 l3 : Value} {st : List Value} {g : mG} {x : Nat} : WP m_L_law Q 529 [l0, .ref x, l2, l3] st g = WP m_L_law Q 530 [l0, .ref x, l2, l3] (.ref x :: st) g := E_al (i := 1) (n := 1) lo_L_law rfl rfl
set_option maxRecDepth 100000 in
theorem e_L_law_529n {Q : mQ} {l0 l2 l3 : Value} {st : List Value} {g : mG} : WP m_L_law Q 529 [l0, .null, l2, l3] st g = WP m_L_law Q 530 [l0, .null, l2, l3] (.null :: st) g := E_aln (i := 1) (n := 1) lo_L_law rfl rfl
set_option maxRecDepth 100000 in
theorem e_L_law_530 {Q : mQ} {ls st : List Value} {g : mG} {b : Nat} : WP m_L_law Q 530 ls (.ref b :: st) g = (st.length ≤ 4 ∧ gK g b = 7 ∧ stbs g ls ∧ stbs g st ∧ w_X6_restore [.ref b] g (fun v g' => WP m_L_law Q 533 ls (v.toList ++ st) g')) := E_CV (ar := [.ref b]) lo_L_law rfl rfl rfl (by decide)
set_option maxRecDepth 100000 in
theorem e_L_law_533 {Q : mQ} {l0 l1 l3 : Value} {st : List Value} {g : mG} {x : Nat} : WP m_L_law Q 533 [l0, l1, .ref x, l3] st g = WP m_L_law Q 534 [l0, l1, .ref x, l3] (.ref x :: st) g := E_al (i := 2) (n := 1) lo_L_law rfl rfl
set_option maxRecDepth 100000 in
theorem e_L_law_533n {Q : mQ} {l0 l1 l3 : Value} {st : List Value} {g : mG} : WP m_L_law Q 533 [l0, l1, .null, l3] st g = WP m_L_law Q 534 [l0, l1, .null, l3] (.null :: st) g := E_aln (i := 2) (n := 1) lo_L_law rfl rfl
set_option maxRecDepth 100000 in
theorem e_L_law_534 {Q : mQ} {ls st : List Value} {g : mG} {b : Nat} : WP m_L_law Q 534 ls (.ref b :: st) g = (st.length ≤ 4 ∧ gK g b = 8 ∧ stbs g ls ∧ stbs g st ∧ w_X7_restore [.ref b] g (fun v g' => WP m_L_law Q 537 ls (v.toList ++ st) g')) := E_CV (ar := [.ref b]) lo_L_law rfl rfl rfl (by decide)
set_option maxRecDepth 100000 in
theorem e_L_law_537 {Q : mQ} {ls st : List Value} {g : mG} {x y : Int32} : WP m_L_law Q 537 ls (.int y :: .int x :: st) g = ((x = y → WP m_L_law Q 739 ls st g) ∧ (¬ (x = y) → WP m_L_law Q 540 ls st g)) := E_I2 (c := fun x y => x = y) (t := 739) lo_L_law rfl
set_option maxRecDepth 100000 in
theorem e_L_law_540 {Q : mQ} {ls st : List Value} {g : mG} : WP m_L_law Q 540 ls st g = WP m_L_law Q 541 ls (.int (nI 0) :: st) g := E_ic (v := nI 0) (n := 1) lo_L_law rfl
set_option maxRecDepth 100000 in
theorem e_L_law_542 {Q : mQ} {l0 l2 l3 : Value} {st : List Value} {g : mG} {x : Nat} : WP m_L_law Q 542 [l0, .ref x, l2, l3] st g = WP m_L_law Q 543 [l0, .ref x, l2, l3] (.ref x :: st) g := E_al (i := 1) (n := 1) lo_L_law rfl rfl
set_option maxRecDepth 100000 in
theorem e_L_law_542n {Q : mQ} {l0 l2 l3 : Value} {st : List Value} {g : mG} : WP m_L_law Q 542 [l0, .null, l2, l3] st g = WP m_L_law Q 543 [l0, .null, l2, l3] (.null :: st) g := E_aln (i := 1) (n := 1) lo_L_law rfl rfl
set_option maxRecDepth 100000 in
theorem e_L_law_543 {Q : mQ} {l1 l2 l3 : Value} {st : List Value} {g : mG} {x : Nat} : WP m_L_law Q 543 [.ref x, l1, l2, l3] st g = WP m_L_law Q 544 [.ref x, l1, l2, l3] (.ref x :: st) g := E_al (i := 0) (n := 1) lo_L_law rfl rfl
set_option maxRecDepth 100000 in
theorem e_L_law_543n {Q : mQ} {l1 l2 l3 : Value} {st : List Value} {g : mG} : WP m_L_law Q 543 [.null, l1, l2, l3] st g = WP m_L_law Q 544 [.null, l1, l2, l3] (.null :: st) g := E_aln (i := 0) (n := 1) lo_L_law rfl rfl
set_option maxRecDepth 100000 in
theorem e_L_law_544 {Q : mQ} {l0 l1 l2 : Value} {st : List Value} {g : mG} {x : Int32} : WP m_L_law Q 544 [l0, l1, l2, .int x] st g = WP m_L_law Q 545 [l0, l1, l2, .int x] (.int x :: st) g := E_il (i := 3) (n := 1) lo_L_law rfl rfl
set_option maxRecDepth 100000 in
theorem e_L_law_545 {Q : mQ} {ls st : List Value} {g : mG} : WP m_L_law Q 545 ls st g = WP m_L_law Q 546 ls (.int (nI 1) :: st) g := E_ic (v := nI 1) (n := 1) lo_L_law rfl
set_option maxRecDepth 100000 in
theorem e_L_law_546 {Q : mQ} {ls st : List Value} {g : mG} {x y : Int32} : WP m_L_law Q 546 ls (.int y :: .int x :: st) g = WP m_L_law Q 547 ls (.int (x + y) :: st) g := E_b2 (f := fun x y => x + y) lo_L_law rfl
set_option maxRecDepth 100000 in
theorem e_L_law_547 {Q : mQ} {ls st : List Value} {g : mG} {a : Nat} {i : Int32} : WP m_L_law Q 547 ls (.int i :: .ref a :: st) g = ((isIA g a ∧ vp_in i (gN g a)) ∧ WP m_L_law Q 548 ls (.int (gI g a i.toNatClampNeg) :: st) g) := E_iald lo_L_law rfl
set_option maxRecDepth 100000 in
theorem e_L_law_548 {Q : mQ} {l1 l2 l3 : Value} {st : List Value} {g : mG} {x : Nat} : WP m_L_law Q 548 [.ref x, l1, l2, l3] st g = WP m_L_law Q 549 [.ref x, l1, l2, l3] (.ref x :: st) g := E_al (i := 0) (n := 1) lo_L_law rfl rfl
set_option maxRecDepth 100000 in
theorem e_L_law_548n {Q : mQ} {l1 l2 l3 : Value} {st : List Value} {g : mG} : WP m_L_law Q 548 [.null, l1, l2, l3] st g = WP m_L_law Q 549 [.null, l1, l2, l3] (.null :: st) g := E_aln (i := 0) (n := 1) lo_L_law rfl rfl
set_option maxRecDepth 100000 in
theorem e_L_law_549 {Q : mQ} {l0 l1 l2 : Value} {st : List Value} {g : mG} {x : Int32} : WP m_L_law Q 549 [l0, l1, l2, .int x] st g = WP m_L_law Q 550 [l0, l1, l2, .int x] (.int x :: st) g := E_il (i := 3) (n := 1) lo_L_law rfl rfl
set_option maxRecDepth 100000 in
theorem e_L_law_550 {Q : mQ} {ls st : List Value} {g : mG} : WP m_L_law Q 550 ls st g = WP m_L_law Q 551 ls (.int (nI 2) :: st) g := E_ic (v := nI 2) (n := 1) lo_L_law rfl
set_option maxRecDepth 100000 in
theorem e_L_law_551 {Q : mQ} {ls st : List Value} {g : mG} {x y : Int32} : WP m_L_law Q 551 ls (.int y :: .int x :: st) g = WP m_L_law Q 552 ls (.int (x + y) :: st) g := E_b2 (f := fun x y => x + y) lo_L_law rfl
set_option maxRecDepth 100000 in
theorem e_L_law_552 {Q : mQ} {ls st : List Value} {g : mG} {a : Nat} {i : Int32} : WP m_L_law Q 552 ls (.int i :: .ref a :: st) g = ((isIA g a ∧ vp_in i (gN g a)) ∧ WP m_L_law Q 553 ls (.int (gI g a i.toNatClampNeg) :: st) g) := E_iald lo_L_law rfl
set_option maxRecDepth 100000 in
theorem e_L_law_553 {Q : mQ} {ls st : List Value} {g : mG} {b : Nat} {a0 a1 : Value} : WP m_L_law Q 553 ls (a1 :: a0 :: .ref b :: st) g = (st.length ≤ 4 ∧ gK g b = 7 ∧ stbs g ls ∧ stbs g st ∧ w_X6_kiln [.ref b, a0, a1] g (fun v g' => WP m_L_law Q 556 ls (v.toList ++ st) g')) := E_CV (ar := [a1, a0, .ref b]) lo_L_law rfl rfl rfl (by decide)
set_option maxRecDepth 100000 in
theorem e_L_law_556 {Q : mQ} {l0 l1 l3 : Value} {st : List Value} {g : mG} {x : Nat} : WP m_L_law Q 556 [l0, l1, .ref x, l3] st g = WP m_L_law Q 557 [l0, l1, .ref x, l3] (.ref x :: st) g := E_al (i := 2) (n := 1) lo_L_law rfl rfl
set_option maxRecDepth 100000 in
theorem e_L_law_556n {Q : mQ} {l0 l1 l3 : Value} {st : List Value} {g : mG} : WP m_L_law Q 556 [l0, l1, .null, l3] st g = WP m_L_law Q 557 [l0, l1, .null, l3] (.null :: st) g := E_aln (i := 2) (n := 1) lo_L_law rfl rfl
set_option maxRecDepth 100000 in
theorem e_L_law_557 {Q : mQ} {l1 l2 l3 : Value} {st : List Value} {g : mG} {x : Nat} : WP m_L_law Q 557 [.ref x, l1, l2, l3] st g = WP m_L_law Q 558 [.ref x, l1, l2, l3] (.ref x :: st) g := E_al (i := 0) (n := 1) lo_L_law rfl rfl
set_option maxRecDepth 100000 in
theorem e_L_law_557n {Q : mQ} {l1 l2 l3 : Value} {st : List Value} {g : mG} : WP m_L_law Q 557 [.null, l1, l2, l3] st g = WP m_L_law Q 558 [.null, l1, l2, l3] (.null :: st) g := E_aln (i := 0) (n := 1) lo_L_law rfl rfl
set_option maxRecDepth 100000 in
theorem e_L_law_558 {Q : mQ} {l0 l1 l2 : Value} {st : List Value} {g : mG} {x : Int32} : WP m_L_law Q 558 [l0, l1, l2, .int x] st g = WP m_L_law Q 559 [l0, l1, l2, .int x] (.int x :: st) g := E_il (i := 3) (n := 1) lo_L_law rfl rfl
set_option maxRecDepth 100000 in
theorem e_L_law_559 {Q : mQ} {ls st : List Value} {g : mG} : WP m_L_law Q 559 ls st g = WP m_L_law Q 560 ls (.int (nI 1) :: st) g := E_ic (v := nI 1) (n := 1) lo_L_law rfl
set_option maxRecDepth 100000 in
theorem e_L_law_560 {Q : mQ} {ls st : List Value} {g : mG} {x y : Int32} : WP m_L_law Q 560 ls (.int y :: .int x :: st) g = WP m_L_law Q 561 ls (.int (x + y) :: st) g := E_b2 (f := fun x y => x + y) lo_L_law rfl
set_option maxRecDepth 100000 in
theorem e_L_law_561 {Q : mQ} {ls st : List Value} {g : mG} {a : Nat} {i : Int32} : WP m_L_law Q 561 ls (.int i :: .ref a :: st) g = ((isIA g a ∧ vp_in i (gN g a)) ∧ WP m_L_law Q 562 ls (.int (gI g a i.toNatClampNeg) :: st) g) := E_iald lo_L_law rfl
set_option maxRecDepth 100000 in
theorem e_L_law_562 {Q : mQ} {l1 l2 l3 : Value} {st : List Value} {g : mG} {x : Nat} : WP m_L_law Q 562 [.ref x, l1, l2, l3] st g = WP m_L_law Q 563 [.ref x, l1, l2, l3] (.ref x :: st) g := E_al (i := 0) (n := 1) lo_L_law rfl rfl
set_option maxRecDepth 100000 in
theorem e_L_law_562n {Q : mQ} {l1 l2 l3 : Value} {st : List Value} {g : mG} : WP m_L_law Q 562 [.null, l1, l2, l3] st g = WP m_L_law Q 563 [.null, l1, l2, l3] (.null :: st) g := E_aln (i := 0) (n := 1) lo_L_law rfl rfl
set_option maxRecDepth 100000 in
theorem e_L_law_563 {Q : mQ} {l0 l1 l2 : Value} {st : List Value} {g : mG} {x : Int32} : WP m_L_law Q 563 [l0, l1, l2, .int x] st g = WP m_L_law Q 564 [l0, l1, l2, .int x] (.int x :: st) g := E_il (i := 3) (n := 1) lo_L_law rfl rfl
set_option maxRecDepth 100000 in
theorem e_L_law_564 {Q : mQ} {ls st : List Value} {g : mG} : WP m_L_law Q 564 ls st g = WP m_L_law Q 565 ls (.int (nI 2) :: st) g := E_ic (v := nI 2) (n := 1) lo_L_law rfl
set_option maxRecDepth 100000 in
theorem e_L_law_565 {Q : mQ} {ls st : List Value} {g : mG} {x y : Int32} : WP m_L_law Q 565 ls (.int y :: .int x :: st) g = WP m_L_law Q 566 ls (.int (x + y) :: st) g := E_b2 (f := fun x y => x + y) lo_L_law rfl
set_option maxRecDepth 100000 in
theorem e_L_law_566 {Q : mQ} {ls st : List Value} {g : mG} {a : Nat} {i : Int32} : WP m_L_law Q 566 ls (.int i :: .ref a :: st) g = ((isIA g a ∧ vp_in i (gN g a)) ∧ WP m_L_law Q 567 ls (.int (gI g a i.toNatClampNeg) :: st) g) := E_iald lo_L_law rfl
set_option maxRecDepth 100000 in
theorem e_L_law_567 {Q : mQ} {ls st : List Value} {g : mG} {b : Nat} {a0 a1 : Value} : WP m_L_law Q 567 ls (a1 :: a0 :: .ref b :: st) g = (st.length ≤ 4 ∧ gK g b = 8 ∧ stbs g ls ∧ stbs g st ∧ w_X7_kiln [.ref b, a0, a1] g (fun v g' => WP m_L_law Q 570 ls (v.toList ++ st) g')) := E_CV (ar := [a1, a0, .ref b]) lo_L_law rfl rfl rfl (by decide)
set_option maxRecDepth 100000 in
theorem e_L_law_570 {Q : mQ} {ls st : List Value} {g : mG} {x y : Int32} : WP m_L_law Q 570 ls (.int y :: .int x :: st) g = ((x = y → WP m_L_law Q 739 ls st g) ∧ (¬ (x = y) → WP m_L_law Q 573 ls st g)) := E_I2 (c := fun x y => x = y) (t := 739) lo_L_law rfl
set_option maxRecDepth 100000 in
theorem e_L_law_573 {Q : mQ} {ls st : List Value} {g : mG} : WP m_L_law Q 573 ls st g = WP m_L_law Q 574 ls (.int (nI 0) :: st) g := E_ic (v := nI 0) (n := 1) lo_L_law rfl
set_option maxRecDepth 100000 in
theorem e_L_law_575 {Q : mQ} {l0 l2 l3 : Value} {st : List Value} {g : mG} {x : Nat} : WP m_L_law Q 575 [l0, .ref x, l2, l3] st g = WP m_L_law Q 576 [l0, .ref x, l2, l3] (.ref x :: st) g := E_al (i := 1) (n := 1) lo_L_law rfl rfl
set_option maxRecDepth 100000 in
theorem e_L_law_575n {Q : mQ} {l0 l2 l3 : Value} {st : List Value} {g : mG} : WP m_L_law Q 575 [l0, .null, l2, l3] st g = WP m_L_law Q 576 [l0, .null, l2, l3] (.null :: st) g := E_aln (i := 1) (n := 1) lo_L_law rfl rfl
set_option maxRecDepth 100000 in
theorem e_L_law_576 {Q : mQ} {l1 l2 l3 : Value} {st : List Value} {g : mG} {x : Nat} : WP m_L_law Q 576 [.ref x, l1, l2, l3] st g = WP m_L_law Q 577 [.ref x, l1, l2, l3] (.ref x :: st) g := E_al (i := 0) (n := 1) lo_L_law rfl rfl
set_option maxRecDepth 100000 in
theorem e_L_law_576n {Q : mQ} {l1 l2 l3 : Value} {st : List Value} {g : mG} : WP m_L_law Q 576 [.null, l1, l2, l3] st g = WP m_L_law Q 577 [.null, l1, l2, l3] (.null :: st) g := E_aln (i := 0) (n := 1) lo_L_law rfl rfl
set_option maxRecDepth 100000 in
theorem e_L_law_577 {Q : mQ} {l0 l1 l2 : Value} {st : List Value} {g : mG} {x : Int32} : WP m_L_law Q 577 [l0, l1, l2, .int x] st g = WP m_L_law Q 578 [l0, l1, l2, .int x] (.int x :: st) g := E_il (i := 3) (n := 1) lo_L_law rfl rfl
set_option maxRecDepth 100000 in
theorem e_L_law_578 {Q : mQ} {ls st : List Value} {g : mG} : WP m_L_law Q 578 ls st g = WP m_L_law Q 579 ls (.int (nI 1) :: st) g := E_ic (v := nI 1) (n := 1) lo_L_law rfl
set_option maxRecDepth 100000 in
theorem e_L_law_579 {Q : mQ} {ls st : List Value} {g : mG} {x y : Int32} : WP m_L_law Q 579 ls (.int y :: .int x :: st) g = WP m_L_law Q 580 ls (.int (x + y) :: st) g := E_b2 (f := fun x y => x + y) lo_L_law rfl
set_option maxRecDepth 100000 in
theorem e_L_law_580 {Q : mQ} {ls st : List Value} {g : mG} {a : Nat} {i : Int32} : WP m_L_law Q 580 ls (.int i :: .ref a :: st) g = ((isIA g a ∧ vp_in i (gN g a)) ∧ WP m_L_law Q 581 ls (.int (gI g a i.toNatClampNeg) :: st) g) := E_iald lo_L_law rfl
set_option maxRecDepth 100000 in
theorem e_L_law_581 {Q : mQ} {l1 l2 l3 : Value} {st : List Value} {g : mG} {x : Nat} : WP m_L_law Q 581 [.ref x, l1, l2, l3] st g = WP m_L_law Q 582 [.ref x, l1, l2, l3] (.ref x :: st) g := E_al (i := 0) (n := 1) lo_L_law rfl rfl
set_option maxRecDepth 100000 in
theorem e_L_law_581n {Q : mQ} {l1 l2 l3 : Value} {st : List Value} {g : mG} : WP m_L_law Q 581 [.null, l1, l2, l3] st g = WP m_L_law Q 582 [.null, l1, l2, l3] (.null :: st) g := E_aln (i := 0) (n := 1) lo_L_law rfl rfl
set_option maxRecDepth 100000 in
theorem e_L_law_582 {Q : mQ} {l0 l1 l2 : Value} {st : List Value} {g : mG} {x : Int32} : WP m_L_law Q 582 [l0, l1, l2, .int x] st g = WP m_L_law Q 583 [l0, l1, l2, .int x] (.int x :: st) g := E_il (i := 3) (n := 1) lo_L_law rfl rfl
set_option maxRecDepth 100000 in
theorem e_L_law_583 {Q : mQ} {ls st : List Value} {g : mG} : WP m_L_law Q 583 ls st g = WP m_L_law Q 584 ls (.int (nI 2) :: st) g := E_ic (v := nI 2) (n := 1) lo_L_law rfl
set_option maxRecDepth 100000 in
theorem e_L_law_584 {Q : mQ} {ls st : List Value} {g : mG} {x y : Int32} : WP m_L_law Q 584 ls (.int y :: .int x :: st) g = WP m_L_law Q 585 ls (.int (x + y) :: st) g := E_b2 (f := fun x y => x + y) lo_L_law rfl
set_option maxRecDepth 100000 in
theorem e_L_law_585 {Q : mQ} {ls st : List Value} {g : mG} {a : Nat} {i : Int32} : WP m_L_law Q 585 ls (.int i :: .ref a :: st) g = ((isIA g a ∧ vp_in i (gN g a)) ∧ WP m_L_law Q 586 ls (.int (gI g a i.toNatClampNeg) :: st) g) := E_iald lo_L_law rfl
set_option maxRecDepth 100000 in
theorem e_L_law_586 {Q : mQ} {ls st : List Value} {g : mG} {b : Nat} {a0 a1 : Value} : WP m_L_law Q 586 ls (a1 :: a0 :: .ref b :: st) g = (st.length ≤ 4 ∧ gK g b = 7 ∧ stbs g ls ∧ stbs g st ∧ w_X6_ofYear [.ref b, a0, a1] g (fun v g' => WP m_L_law Q 589 ls (v.toList ++ st) g')) := E_CV (ar := [a1, a0, .ref b]) lo_L_law rfl rfl rfl (by decide)
set_option maxRecDepth 100000 in
theorem e_L_law_589 {Q : mQ} {l0 l1 l3 : Value} {st : List Value} {g : mG} {x : Nat} : WP m_L_law Q 589 [l0, l1, .ref x, l3] st g = WP m_L_law Q 590 [l0, l1, .ref x, l3] (.ref x :: st) g := E_al (i := 2) (n := 1) lo_L_law rfl rfl
set_option maxRecDepth 100000 in
theorem e_L_law_589n {Q : mQ} {l0 l1 l3 : Value} {st : List Value} {g : mG} : WP m_L_law Q 589 [l0, l1, .null, l3] st g = WP m_L_law Q 590 [l0, l1, .null, l3] (.null :: st) g := E_aln (i := 2) (n := 1) lo_L_law rfl rfl
set_option maxRecDepth 100000 in
theorem e_L_law_590 {Q : mQ} {l1 l2 l3 : Value} {st : List Value} {g : mG} {x : Nat} : WP m_L_law Q 590 [.ref x, l1, l2, l3] st g = WP m_L_law Q 591 [.ref x, l1, l2, l3] (.ref x :: st) g := E_al (i := 0) (n := 1) lo_L_law rfl rfl
set_option maxRecDepth 100000 in
theorem e_L_law_590n {Q : mQ} {l1 l2 l3 : Value} {st : List Value} {g : mG} : WP m_L_law Q 590 [.null, l1, l2, l3] st g = WP m_L_law Q 591 [.null, l1, l2, l3] (.null :: st) g := E_aln (i := 0) (n := 1) lo_L_law rfl rfl
set_option maxRecDepth 100000 in
theorem e_L_law_591 {Q : mQ} {l0 l1 l2 : Value} {st : List Value} {g : mG} {x : Int32} : WP m_L_law Q 591 [l0, l1, l2, .int x] st g = WP m_L_law Q 592 [l0, l1, l2, .int x] (.int x :: st) g := E_il (i := 3) (n := 1) lo_L_law rfl rfl
set_option maxRecDepth 100000 in
theorem e_L_law_592 {Q : mQ} {ls st : List Value} {g : mG} : WP m_L_law Q 592 ls st g = WP m_L_law Q 593 ls (.int (nI 1) :: st) g := E_ic (v := nI 1) (n := 1) lo_L_law rfl
set_option maxRecDepth 100000 in
theorem e_L_law_593 {Q : mQ} {ls st : List Value} {g : mG} {x y : Int32} : WP m_L_law Q 593 ls (.int y :: .int x :: st) g = WP m_L_law Q 594 ls (.int (x + y) :: st) g := E_b2 (f := fun x y => x + y) lo_L_law rfl
set_option maxRecDepth 100000 in
theorem e_L_law_594 {Q : mQ} {ls st : List Value} {g : mG} {a : Nat} {i : Int32} : WP m_L_law Q 594 ls (.int i :: .ref a :: st) g = ((isIA g a ∧ vp_in i (gN g a)) ∧ WP m_L_law Q 595 ls (.int (gI g a i.toNatClampNeg) :: st) g) := E_iald lo_L_law rfl
set_option maxRecDepth 100000 in
theorem e_L_law_595 {Q : mQ} {l1 l2 l3 : Value} {st : List Value} {g : mG} {x : Nat} : WP m_L_law Q 595 [.ref x, l1, l2, l3] st g = WP m_L_law Q 596 [.ref x, l1, l2, l3] (.ref x :: st) g := E_al (i := 0) (n := 1) lo_L_law rfl rfl
set_option maxRecDepth 100000 in
theorem e_L_law_595n {Q : mQ} {l1 l2 l3 : Value} {st : List Value} {g : mG} : WP m_L_law Q 595 [.null, l1, l2, l3] st g = WP m_L_law Q 596 [.null, l1, l2, l3] (.null :: st) g := E_aln (i := 0) (n := 1) lo_L_law rfl rfl
set_option maxRecDepth 100000 in
theorem e_L_law_596 {Q : mQ} {l0 l1 l2 : Value} {st : List Value} {g : mG} {x : Int32} : WP m_L_law Q 596 [l0, l1, l2, .int x] st g = WP m_L_law Q 597 [l0, l1, l2, .int x] (.int x :: st) g := E_il (i := 3) (n := 1) lo_L_law rfl rfl
set_option maxRecDepth 100000 in
theorem e_L_law_597 {Q : mQ} {ls st : List Value} {g : mG} : WP m_L_law Q 597 ls st g = WP m_L_law Q 598 ls (.int (nI 2) :: st) g := E_ic (v := nI 2) (n := 1) lo_L_law rfl
set_option maxRecDepth 100000 in
theorem e_L_law_598 {Q : mQ} {ls st : List Value} {g : mG} {x y : Int32} : WP m_L_law Q 598 ls (.int y :: .int x :: st) g = WP m_L_law Q 599 ls (.int (x + y) :: st) g := E_b2 (f := fun x y => x + y) lo_L_law rfl
set_option maxRecDepth 100000 in
theorem e_L_law_599 {Q : mQ} {ls st : List Value} {g : mG} {a : Nat} {i : Int32} : WP m_L_law Q 599 ls (.int i :: .ref a :: st) g = ((isIA g a ∧ vp_in i (gN g a)) ∧ WP m_L_law Q 600 ls (.int (gI g a i.toNatClampNeg) :: st) g) := E_iald lo_L_law rfl
set_option maxRecDepth 100000 in
theorem e_L_law_600 {Q : mQ} {ls st : List Value} {g : mG} {b : Nat} {a0 a1 : Value} : WP m_L_law Q 600 ls (a1 :: a0 :: .ref b :: st) g = (st.length ≤ 4 ∧ gK g b = 8 ∧ stbs g ls ∧ stbs g st ∧ w_X7_ofYear [.ref b, a0, a1] g (fun v g' => WP m_L_law Q 603 ls (v.toList ++ st) g')) := E_CV (ar := [a1, a0, .ref b]) lo_L_law rfl rfl rfl (by decide)
set_option maxRecDepth 100000 in
theorem e_L_law_603 {Q : mQ} {ls st : List Value} {g : mG} {x y : Int32} : WP m_L_law Q 603 ls (.int y :: .int x :: st) g = ((x = y → WP m_L_law Q 739 ls st g) ∧ (¬ (x = y) → WP m_L_law Q 606 ls st g)) := E_I2 (c := fun x y => x = y) (t := 739) lo_L_law rfl
set_option maxRecDepth 100000 in
theorem e_L_law_606 {Q : mQ} {ls st : List Value} {g : mG} : WP m_L_law Q 606 ls st g = WP m_L_law Q 607 ls (.int (nI 0) :: st) g := E_ic (v := nI 0) (n := 1) lo_L_law rfl
set_option maxRecDepth 100000 in
theorem e_L_law_608 {Q : mQ} {l0 l2 l3 : Value} {st : List Value} {g : mG} {x : Nat} : WP m_L_law Q 608 [l0, .ref x, l2, l3] st g = WP m_L_law Q 609 [l0, .ref x, l2, l3] (.ref x :: st) g := E_al (i := 1) (n := 1) lo_L_law rfl rfl
set_option maxRecDepth 100000 in
theorem e_L_law_608n {Q : mQ} {l0 l2 l3 : Value} {st : List Value} {g : mG} : WP m_L_law Q 608 [l0, .null, l2, l3] st g = WP m_L_law Q 609 [l0, .null, l2, l3] (.null :: st) g := E_aln (i := 1) (n := 1) lo_L_law rfl rfl
set_option maxRecDepth 100000 in
theorem e_L_law_609 {Q : mQ} {l1 l2 l3 : Value} {st : List Value} {g : mG} {x : Nat} : WP m_L_law Q 609 [.ref x, l1, l2, l3] st g = WP m_L_law Q 610 [.ref x, l1, l2, l3] (.ref x :: st) g := E_al (i := 0) (n := 1) lo_L_law rfl rfl
set_option maxRecDepth 100000 in
theorem e_L_law_609n {Q : mQ} {l1 l2 l3 : Value} {st : List Value} {g : mG} : WP m_L_law Q 609 [.null, l1, l2, l3] st g = WP m_L_law Q 610 [.null, l1, l2, l3] (.null :: st) g := E_aln (i := 0) (n := 1) lo_L_law rfl rfl
set_option maxRecDepth 100000 in
theorem e_L_law_610 {Q : mQ} {l0 l1 l2 : Value} {st : List Value} {g : mG} {x : Int32} : WP m_L_law Q 610 [l0, l1, l2, .int x] st g = WP m_L_law Q 611 [l0, l1, l2, .int x] (.int x :: st) g := E_il (i := 3) (n := 1) lo_L_law rfl rfl
set_option maxRecDepth 100000 in
theorem e_L_law_611 {Q : mQ} {ls st : List Value} {g : mG} : WP m_L_law Q 611 ls st g = WP m_L_law Q 612 ls (.int (nI 1) :: st) g := E_ic (v := nI 1) (n := 1) lo_L_law rfl
set_option maxRecDepth 100000 in
theorem e_L_law_612 {Q : mQ} {ls st : List Value} {g : mG} {x y : Int32} : WP m_L_law Q 612 ls (.int y :: .int x :: st) g = WP m_L_law Q 613 ls (.int (x + y) :: st) g := E_b2 (f := fun x y => x + y) lo_L_law rfl
set_option maxRecDepth 100000 in
theorem e_L_law_613 {Q : mQ} {ls st : List Value} {g : mG} {a : Nat} {i : Int32} : WP m_L_law Q 613 ls (.int i :: .ref a :: st) g = ((isIA g a ∧ vp_in i (gN g a)) ∧ WP m_L_law Q 614 ls (.int (gI g a i.toNatClampNeg) :: st) g) := E_iald lo_L_law rfl
set_option maxRecDepth 100000 in
theorem e_L_law_614 {Q : mQ} {ls st : List Value} {g : mG} {x : Int32} : WP m_L_law Q 614 ls (.int x :: st) g = ((x = 0 → WP m_L_law Q 621 ls st g) ∧ (¬ (x = 0) → WP m_L_law Q 617 ls st g)) := E_I1 (c := fun x => x = 0) (t := 621) lo_L_law rfl
set_option maxRecDepth 100000 in
theorem e_L_law_617 {Q : mQ} {ls st : List Value} {g : mG} : WP m_L_law Q 617 ls st g = WP m_L_law Q 618 ls (.int (nI 1) :: st) g := E_ic (v := nI 1) (n := 1) lo_L_law rfl
set_option maxRecDepth 100000 in
theorem e_L_law_618 {Q : mQ} {ls st : List Value} {g : mG} : WP m_L_law Q 618 ls st g = WP m_L_law Q 622 ls st g := E_goto lo_L_law rfl
set_option maxRecDepth 100000 in
theorem e_L_law_621 {Q : mQ} {ls st : List Value} {g : mG} : WP m_L_law Q 621 ls st g = WP m_L_law Q 622 ls (.int (nI 0) :: st) g := E_ic (v := nI 0) (n := 1) lo_L_law rfl
set_option maxRecDepth 100000 in
theorem e_L_law_622 {Q : mQ} {l1 l2 l3 : Value} {st : List Value} {g : mG} {x : Nat} : WP m_L_law Q 622 [.ref x, l1, l2, l3] st g = WP m_L_law Q 623 [.ref x, l1, l2, l3] (.ref x :: st) g := E_al (i := 0) (n := 1) lo_L_law rfl rfl
set_option maxRecDepth 100000 in
theorem e_L_law_622n {Q : mQ} {l1 l2 l3 : Value} {st : List Value} {g : mG} : WP m_L_law Q 622 [.null, l1, l2, l3] st g = WP m_L_law Q 623 [.null, l1, l2, l3] (.null :: st) g := E_aln (i := 0) (n := 1) lo_L_law rfl rfl
set_option maxRecDepth 100000 in
theorem e_L_law_623 {Q : mQ} {l0 l1 l2 : Value} {st : List Value} {g : mG} {x : Int32} : WP m_L_law Q 623 [l0, l1, l2, .int x] st g = WP m_L_law Q 624 [l0, l1, l2, .int x] (.int x :: st) g := E_il (i := 3) (n := 1) lo_L_law rfl rfl
set_option maxRecDepth 100000 in
theorem e_L_law_624 {Q : mQ} {ls st : List Value} {g : mG} : WP m_L_law Q 624 ls st g = WP m_L_law Q 625 ls (.int (nI 2) :: st) g := E_ic (v := nI 2) (n := 1) lo_L_law rfl
set_option maxRecDepth 100000 in
theorem e_L_law_625 {Q : mQ} {ls st : List Value} {g : mG} {x y : Int32} : WP m_L_law Q 625 ls (.int y :: .int x :: st) g = WP m_L_law Q 626 ls (.int (x + y) :: st) g := E_b2 (f := fun x y => x + y) lo_L_law rfl
set_option maxRecDepth 100000 in
theorem e_L_law_626 {Q : mQ} {ls st : List Value} {g : mG} {a : Nat} {i : Int32} : WP m_L_law Q 626 ls (.int i :: .ref a :: st) g = ((isIA g a ∧ vp_in i (gN g a)) ∧ WP m_L_law Q 627 ls (.int (gI g a i.toNatClampNeg) :: st) g) := E_iald lo_L_law rfl
set_option maxRecDepth 100000 in
theorem e_L_law_627 {Q : mQ} {l1 l2 l3 : Value} {st : List Value} {g : mG} {x : Nat} : WP m_L_law Q 627 [.ref x, l1, l2, l3] st g = WP m_L_law Q 628 [.ref x, l1, l2, l3] (.ref x :: st) g := E_al (i := 0) (n := 1) lo_L_law rfl rfl
set_option maxRecDepth 100000 in
theorem e_L_law_627n {Q : mQ} {l1 l2 l3 : Value} {st : List Value} {g : mG} : WP m_L_law Q 627 [.null, l1, l2, l3] st g = WP m_L_law Q 628 [.null, l1, l2, l3] (.null :: st) g := E_aln (i := 0) (n := 1) lo_L_law rfl rfl
set_option maxRecDepth 100000 in
theorem e_L_law_628 {Q : mQ} {l0 l1 l2 : Value} {st : List Value} {g : mG} {x : Int32} : WP m_L_law Q 628 [l0, l1, l2, .int x] st g = WP m_L_law Q 629 [l0, l1, l2, .int x] (.int x :: st) g := E_il (i := 3) (n := 1) lo_L_law rfl rfl
set_option maxRecDepth 100000 in
theorem e_L_law_629 {Q : mQ} {ls st : List Value} {g : mG} : WP m_L_law Q 629 ls st g = WP m_L_law Q 630 ls (.int (nI 3) :: st) g := E_ic (v := nI 3) (n := 1) lo_L_law rfl
set_option maxRecDepth 100000 in
theorem e_L_law_630 {Q : mQ} {ls st : List Value} {g : mG} {x y : Int32} : WP m_L_law Q 630 ls (.int y :: .int x :: st) g = WP m_L_law Q 631 ls (.int (x + y) :: st) g := E_b2 (f := fun x y => x + y) lo_L_law rfl
set_option maxRecDepth 100000 in
theorem e_L_law_631 {Q : mQ} {ls st : List Value} {g : mG} {a : Nat} {i : Int32} : WP m_L_law Q 631 ls (.int i :: .ref a :: st) g = ((isIA g a ∧ vp_in i (gN g a)) ∧ WP m_L_law Q 632 ls (.int (gI g a i.toNatClampNeg) :: st) g) := E_iald lo_L_law rfl
set_option maxRecDepth 100000 in
theorem e_L_law_632 {Q : mQ} {ls st : List Value} {g : mG} {b : Nat} {a0 a1 a2 : Value} : WP m_L_law Q 632 ls (a2 :: a1 :: a0 :: .ref b :: st) g = (st.length ≤ 4 ∧ gK g b = 7 ∧ stbs g ls ∧ stbs g st ∧ w_X6_order [.ref b, a0, a1, a2] g (fun v g' => WP m_L_law Q 635 ls (v.toList ++ st) g')) := E_CV (ar := [a2, a1, a0, .ref b]) lo_L_law rfl rfl rfl (by decide)
set_option maxRecDepth 100000 in
theorem e_L_law_635 {Q : mQ} {l0 l1 l3 : Value} {st : List Value} {g : mG} {x : Nat} : WP m_L_law Q 635 [l0, l1, .ref x, l3] st g = WP m_L_law Q 636 [l0, l1, .ref x, l3] (.ref x :: st) g := E_al (i := 2) (n := 1) lo_L_law rfl rfl
set_option maxRecDepth 100000 in
theorem e_L_law_635n {Q : mQ} {l0 l1 l3 : Value} {st : List Value} {g : mG} : WP m_L_law Q 635 [l0, l1, .null, l3] st g = WP m_L_law Q 636 [l0, l1, .null, l3] (.null :: st) g := E_aln (i := 2) (n := 1) lo_L_law rfl rfl
set_option maxRecDepth 100000 in
theorem e_L_law_636 {Q : mQ} {l1 l2 l3 : Value} {st : List Value} {g : mG} {x : Nat} : WP m_L_law Q 636 [.ref x, l1, l2, l3] st g = WP m_L_law Q 637 [.ref x, l1, l2, l3] (.ref x :: st) g := E_al (i := 0) (n := 1) lo_L_law rfl rfl
set_option maxRecDepth 100000 in
theorem e_L_law_636n {Q : mQ} {l1 l2 l3 : Value} {st : List Value} {g : mG} : WP m_L_law Q 636 [.null, l1, l2, l3] st g = WP m_L_law Q 637 [.null, l1, l2, l3] (.null :: st) g := E_aln (i := 0) (n := 1) lo_L_law rfl rfl
set_option maxRecDepth 100000 in
theorem e_L_law_637 {Q : mQ} {l0 l1 l2 : Value} {st : List Value} {g : mG} {x : Int32} : WP m_L_law Q 637 [l0, l1, l2, .int x] st g = WP m_L_law Q 638 [l0, l1, l2, .int x] (.int x :: st) g := E_il (i := 3) (n := 1) lo_L_law rfl rfl
set_option maxRecDepth 100000 in
theorem e_L_law_638 {Q : mQ} {ls st : List Value} {g : mG} : WP m_L_law Q 638 ls st g = WP m_L_law Q 639 ls (.int (nI 1) :: st) g := E_ic (v := nI 1) (n := 1) lo_L_law rfl
set_option maxRecDepth 100000 in
theorem e_L_law_639 {Q : mQ} {ls st : List Value} {g : mG} {x y : Int32} : WP m_L_law Q 639 ls (.int y :: .int x :: st) g = WP m_L_law Q 640 ls (.int (x + y) :: st) g := E_b2 (f := fun x y => x + y) lo_L_law rfl
set_option maxRecDepth 100000 in
theorem e_L_law_640 {Q : mQ} {ls st : List Value} {g : mG} {a : Nat} {i : Int32} : WP m_L_law Q 640 ls (.int i :: .ref a :: st) g = ((isIA g a ∧ vp_in i (gN g a)) ∧ WP m_L_law Q 641 ls (.int (gI g a i.toNatClampNeg) :: st) g) := E_iald lo_L_law rfl
set_option maxRecDepth 100000 in
theorem e_L_law_641 {Q : mQ} {ls st : List Value} {g : mG} {x : Int32} : WP m_L_law Q 641 ls (.int x :: st) g = ((x = 0 → WP m_L_law Q 648 ls st g) ∧ (¬ (x = 0) → WP m_L_law Q 644 ls st g)) := E_I1 (c := fun x => x = 0) (t := 648) lo_L_law rfl
set_option maxRecDepth 100000 in
theorem e_L_law_644 {Q : mQ} {ls st : List Value} {g : mG} : WP m_L_law Q 644 ls st g = WP m_L_law Q 645 ls (.int (nI 1) :: st) g := E_ic (v := nI 1) (n := 1) lo_L_law rfl
set_option maxRecDepth 100000 in
theorem e_L_law_645 {Q : mQ} {ls st : List Value} {g : mG} : WP m_L_law Q 645 ls st g = WP m_L_law Q 649 ls st g := E_goto lo_L_law rfl
set_option maxRecDepth 100000 in
theorem e_L_law_648 {Q : mQ} {ls st : List Value} {g : mG} : WP m_L_law Q 648 ls st g = WP m_L_law Q 649 ls (.int (nI 0) :: st) g := E_ic (v := nI 0) (n := 1) lo_L_law rfl
set_option maxRecDepth 100000 in
theorem e_L_law_649 {Q : mQ} {l1 l2 l3 : Value} {st : List Value} {g : mG} {x : Nat} : WP m_L_law Q 649 [.ref x, l1, l2, l3] st g = WP m_L_law Q 650 [.ref x, l1, l2, l3] (.ref x :: st) g := E_al (i := 0) (n := 1) lo_L_law rfl rfl
set_option maxRecDepth 100000 in
theorem e_L_law_649n {Q : mQ} {l1 l2 l3 : Value} {st : List Value} {g : mG} : WP m_L_law Q 649 [.null, l1, l2, l3] st g = WP m_L_law Q 650 [.null, l1, l2, l3] (.null :: st) g := E_aln (i := 0) (n := 1) lo_L_law rfl rfl
set_option maxRecDepth 100000 in
theorem e_L_law_650 {Q : mQ} {l0 l1 l2 : Value} {st : List Value} {g : mG} {x : Int32} : WP m_L_law Q 650 [l0, l1, l2, .int x] st g = WP m_L_law Q 651 [l0, l1, l2, .int x] (.int x :: st) g := E_il (i := 3) (n := 1) lo_L_law rfl rfl
set_option maxRecDepth 100000 in
theorem e_L_law_651 {Q : mQ} {ls st : List Value} {g : mG} : WP m_L_law Q 651 ls st g = WP m_L_law Q 652 ls (.int (nI 2) :: st) g := E_ic (v := nI 2) (n := 1) lo_L_law rfl
set_option maxRecDepth 100000 in
theorem e_L_law_652 {Q : mQ} {ls st : List Value} {g : mG} {x y : Int32} : WP m_L_law Q 652 ls (.int y :: .int x :: st) g = WP m_L_law Q 653 ls (.int (x + y) :: st) g := E_b2 (f := fun x y => x + y) lo_L_law rfl
set_option maxRecDepth 100000 in
theorem e_L_law_653 {Q : mQ} {ls st : List Value} {g : mG} {a : Nat} {i : Int32} : WP m_L_law Q 653 ls (.int i :: .ref a :: st) g = ((isIA g a ∧ vp_in i (gN g a)) ∧ WP m_L_law Q 654 ls (.int (gI g a i.toNatClampNeg) :: st) g) := E_iald lo_L_law rfl
set_option maxRecDepth 100000 in
theorem e_L_law_654 {Q : mQ} {l1 l2 l3 : Value} {st : List Value} {g : mG} {x : Nat} : WP m_L_law Q 654 [.ref x, l1, l2, l3] st g = WP m_L_law Q 655 [.ref x, l1, l2, l3] (.ref x :: st) g := E_al (i := 0) (n := 1) lo_L_law rfl rfl
set_option maxRecDepth 100000 in
theorem e_L_law_654n {Q : mQ} {l1 l2 l3 : Value} {st : List Value} {g : mG} : WP m_L_law Q 654 [.null, l1, l2, l3] st g = WP m_L_law Q 655 [.null, l1, l2, l3] (.null :: st) g := E_aln (i := 0) (n := 1) lo_L_law rfl rfl
set_option maxRecDepth 100000 in
theorem e_L_law_655 {Q : mQ} {l0 l1 l2 : Value} {st : List Value} {g : mG} {x : Int32} : WP m_L_law Q 655 [l0, l1, l2, .int x] st g = WP m_L_law Q 656 [l0, l1, l2, .int x] (.int x :: st) g := E_il (i := 3) (n := 1) lo_L_law rfl rfl
set_option maxRecDepth 100000 in
theorem e_L_law_656 {Q : mQ} {ls st : List Value} {g : mG} : WP m_L_law Q 656 ls st g = WP m_L_law Q 657 ls (.int (nI 3) :: st) g := E_ic (v := nI 3) (n := 1) lo_L_law rfl
set_option maxRecDepth 100000 in
theorem e_L_law_657 {Q : mQ} {ls st : List Value} {g : mG} {x y : Int32} : WP m_L_law Q 657 ls (.int y :: .int x :: st) g = WP m_L_law Q 658 ls (.int (x + y) :: st) g := E_b2 (f := fun x y => x + y) lo_L_law rfl
set_option maxRecDepth 100000 in
theorem e_L_law_658 {Q : mQ} {ls st : List Value} {g : mG} {a : Nat} {i : Int32} : WP m_L_law Q 658 ls (.int i :: .ref a :: st) g = ((isIA g a ∧ vp_in i (gN g a)) ∧ WP m_L_law Q 659 ls (.int (gI g a i.toNatClampNeg) :: st) g) := E_iald lo_L_law rfl
set_option maxRecDepth 100000 in
theorem e_L_law_659 {Q : mQ} {ls st : List Value} {g : mG} {b : Nat} {a0 a1 a2 : Value} : WP m_L_law Q 659 ls (a2 :: a1 :: a0 :: .ref b :: st) g = (st.length ≤ 4 ∧ gK g b = 8 ∧ stbs g ls ∧ stbs g st ∧ w_X7_order [.ref b, a0, a1, a2] g (fun v g' => WP m_L_law Q 662 ls (v.toList ++ st) g')) := E_CV (ar := [a2, a1, a0, .ref b]) lo_L_law rfl rfl rfl (by decide)
set_option maxRecDepth 100000 in
theorem e_L_law_662 {Q : mQ} {ls st : List Value} {g : mG} {x y : Int32} : WP m_L_law Q 662 ls (.int y :: .int x :: st) g = ((x = y → WP m_L_law Q 739 ls st g) ∧ (¬ (x = y) → WP m_L_law Q 665 ls st g)) := E_I2 (c := fun x y => x = y) (t := 739) lo_L_law rfl
set_option maxRecDepth 100000 in
theorem e_L_law_665 {Q : mQ} {ls st : List Value} {g : mG} : WP m_L_law Q 665 ls st g = WP m_L_law Q 666 ls (.int (nI 0) :: st) g := E_ic (v := nI 0) (n := 1) lo_L_law rfl
set_option maxRecDepth 100000 in
theorem e_L_law_667 {Q : mQ} {l0 l2 l3 : Value} {st : List Value} {g : mG} {x : Nat} : WP m_L_law Q 667 [l0, .ref x, l2, l3] st g = WP m_L_law Q 668 [l0, .ref x, l2, l3] (.ref x :: st) g := E_al (i := 1) (n := 1) lo_L_law rfl rfl
set_option maxRecDepth 100000 in
theorem e_L_law_667n {Q : mQ} {l0 l2 l3 : Value} {st : List Value} {g : mG} : WP m_L_law Q 667 [l0, .null, l2, l3] st g = WP m_L_law Q 668 [l0, .null, l2, l3] (.null :: st) g := E_aln (i := 1) (n := 1) lo_L_law rfl rfl
set_option maxRecDepth 100000 in
theorem e_L_law_668 {Q : mQ} {l1 l2 l3 : Value} {st : List Value} {g : mG} {x : Nat} : WP m_L_law Q 668 [.ref x, l1, l2, l3] st g = WP m_L_law Q 669 [.ref x, l1, l2, l3] (.ref x :: st) g := E_al (i := 0) (n := 1) lo_L_law rfl rfl
set_option maxRecDepth 100000 in
theorem e_L_law_668n {Q : mQ} {l1 l2 l3 : Value} {st : List Value} {g : mG} : WP m_L_law Q 668 [.null, l1, l2, l3] st g = WP m_L_law Q 669 [.null, l1, l2, l3] (.null :: st) g := E_aln (i := 0) (n := 1) lo_L_law rfl rfl
set_option maxRecDepth 100000 in
theorem e_L_law_669 {Q : mQ} {l0 l1 l2 : Value} {st : List Value} {g : mG} {x : Int32} : WP m_L_law Q 669 [l0, l1, l2, .int x] st g = WP m_L_law Q 670 [l0, l1, l2, .int x] (.int x :: st) g := E_il (i := 3) (n := 1) lo_L_law rfl rfl
set_option maxRecDepth 100000 in
theorem e_L_law_670 {Q : mQ} {ls st : List Value} {g : mG} : WP m_L_law Q 670 ls st g = WP m_L_law Q 671 ls (.int (nI 1) :: st) g := E_ic (v := nI 1) (n := 1) lo_L_law rfl
set_option maxRecDepth 100000 in
theorem e_L_law_671 {Q : mQ} {ls st : List Value} {g : mG} {x y : Int32} : WP m_L_law Q 671 ls (.int y :: .int x :: st) g = WP m_L_law Q 672 ls (.int (x + y) :: st) g := E_b2 (f := fun x y => x + y) lo_L_law rfl
set_option maxRecDepth 100000 in
theorem e_L_law_672 {Q : mQ} {ls st : List Value} {g : mG} {a : Nat} {i : Int32} : WP m_L_law Q 672 ls (.int i :: .ref a :: st) g = ((isIA g a ∧ vp_in i (gN g a)) ∧ WP m_L_law Q 673 ls (.int (gI g a i.toNatClampNeg) :: st) g) := E_iald lo_L_law rfl
set_option maxRecDepth 100000 in
theorem e_L_law_673 {Q : mQ} {ls st : List Value} {g : mG} {x : Int32} : WP m_L_law Q 673 ls (.int x :: st) g = ((x = 0 → WP m_L_law Q 680 ls st g) ∧ (¬ (x = 0) → WP m_L_law Q 676 ls st g)) := E_I1 (c := fun x => x = 0) (t := 680) lo_L_law rfl
set_option maxRecDepth 100000 in
theorem e_L_law_676 {Q : mQ} {ls st : List Value} {g : mG} : WP m_L_law Q 676 ls st g = WP m_L_law Q 677 ls (.int (nI 1) :: st) g := E_ic (v := nI 1) (n := 1) lo_L_law rfl
set_option maxRecDepth 100000 in
theorem e_L_law_677 {Q : mQ} {ls st : List Value} {g : mG} : WP m_L_law Q 677 ls st g = WP m_L_law Q 681 ls st g := E_goto lo_L_law rfl
set_option maxRecDepth 100000 in
theorem e_L_law_680 {Q : mQ} {ls st : List Value} {g : mG} : WP m_L_law Q 680 ls st g = WP m_L_law Q 681 ls (.int (nI 0) :: st) g := E_ic (v := nI 0) (n := 1) lo_L_law rfl
set_option maxRecDepth 100000 in
theorem e_L_law_681 {Q : mQ} {l1 l2 l3 : Value} {st : List Value} {g : mG} {x : Nat} : WP m_L_law Q 681 [.ref x, l1, l2, l3] st g = WP m_L_law Q 682 [.ref x, l1, l2, l3] (.ref x :: st) g := E_al (i := 0) (n := 1) lo_L_law rfl rfl
set_option maxRecDepth 100000 in
theorem e_L_law_681n {Q : mQ} {l1 l2 l3 : Value} {st : List Value} {g : mG} : WP m_L_law Q 681 [.null, l1, l2, l3] st g = WP m_L_law Q 682 [.null, l1, l2, l3] (.null :: st) g := E_aln (i := 0) (n := 1) lo_L_law rfl rfl
set_option maxRecDepth 100000 in
theorem e_L_law_682 {Q : mQ} {l0 l1 l2 : Value} {st : List Value} {g : mG} {x : Int32} : WP m_L_law Q 682 [l0, l1, l2, .int x] st g = WP m_L_law Q 683 [l0, l1, l2, .int x] (.int x :: st) g := E_il (i := 3) (n := 1) lo_L_law rfl rfl
set_option maxRecDepth 100000 in
theorem e_L_law_683 {Q : mQ} {ls st : List Value} {g : mG} : WP m_L_law Q 683 ls st g = WP m_L_law Q 684 ls (.int (nI 2) :: st) g := E_ic (v := nI 2) (n := 1) lo_L_law rfl
set_option maxRecDepth 100000 in
theorem e_L_law_684 {Q : mQ} {ls st : List Value} {g : mG} {x y : Int32} : WP m_L_law Q 684 ls (.int y :: .int x :: st) g = WP m_L_law Q 685 ls (.int (x + y) :: st) g := E_b2 (f := fun x y => x + y) lo_L_law rfl
set_option maxRecDepth 100000 in
theorem e_L_law_685 {Q : mQ} {ls st : List Value} {g : mG} {a : Nat} {i : Int32} : WP m_L_law Q 685 ls (.int i :: .ref a :: st) g = ((isIA g a ∧ vp_in i (gN g a)) ∧ WP m_L_law Q 686 ls (.int (gI g a i.toNatClampNeg) :: st) g) := E_iald lo_L_law rfl
set_option maxRecDepth 100000 in
theorem e_L_law_686 {Q : mQ} {ls st : List Value} {g : mG} {b : Nat} {a0 a1 : Value} : WP m_L_law Q 686 ls (a1 :: a0 :: .ref b :: st) g = (st.length ≤ 4 ∧ gK g b = 7 ∧ stbs g ls ∧ stbs g st ∧ w_X6_depth [.ref b, a0, a1] g (fun v g' => WP m_L_law Q 689 ls (v.toList ++ st) g')) := E_CV (ar := [a1, a0, .ref b]) lo_L_law rfl rfl rfl (by decide)
set_option maxRecDepth 100000 in
theorem e_L_law_689 {Q : mQ} {l0 l1 l3 : Value} {st : List Value} {g : mG} {x : Nat} : WP m_L_law Q 689 [l0, l1, .ref x, l3] st g = WP m_L_law Q 690 [l0, l1, .ref x, l3] (.ref x :: st) g := E_al (i := 2) (n := 1) lo_L_law rfl rfl
set_option maxRecDepth 100000 in
theorem e_L_law_689n {Q : mQ} {l0 l1 l3 : Value} {st : List Value} {g : mG} : WP m_L_law Q 689 [l0, l1, .null, l3] st g = WP m_L_law Q 690 [l0, l1, .null, l3] (.null :: st) g := E_aln (i := 2) (n := 1) lo_L_law rfl rfl
set_option maxRecDepth 100000 in
theorem e_L_law_690 {Q : mQ} {l1 l2 l3 : Value} {st : List Value} {g : mG} {x : Nat} : WP m_L_law Q 690 [.ref x, l1, l2, l3] st g = WP m_L_law Q 691 [.ref x, l1, l2, l3] (.ref x :: st) g := E_al (i := 0) (n := 1) lo_L_law rfl rfl
set_option maxRecDepth 100000 in
theorem e_L_law_690n {Q : mQ} {l1 l2 l3 : Value} {st : List Value} {g : mG} : WP m_L_law Q 690 [.null, l1, l2, l3] st g = WP m_L_law Q 691 [.null, l1, l2, l3] (.null :: st) g := E_aln (i := 0) (n := 1) lo_L_law rfl rfl
set_option maxRecDepth 100000 in
theorem e_L_law_691 {Q : mQ} {l0 l1 l2 : Value} {st : List Value} {g : mG} {x : Int32} : WP m_L_law Q 691 [l0, l1, l2, .int x] st g = WP m_L_law Q 692 [l0, l1, l2, .int x] (.int x :: st) g := E_il (i := 3) (n := 1) lo_L_law rfl rfl
set_option maxRecDepth 100000 in
theorem e_L_law_692 {Q : mQ} {ls st : List Value} {g : mG} : WP m_L_law Q 692 ls st g = WP m_L_law Q 693 ls (.int (nI 1) :: st) g := E_ic (v := nI 1) (n := 1) lo_L_law rfl
set_option maxRecDepth 100000 in
theorem e_L_law_693 {Q : mQ} {ls st : List Value} {g : mG} {x y : Int32} : WP m_L_law Q 693 ls (.int y :: .int x :: st) g = WP m_L_law Q 694 ls (.int (x + y) :: st) g := E_b2 (f := fun x y => x + y) lo_L_law rfl
set_option maxRecDepth 100000 in
theorem e_L_law_694 {Q : mQ} {ls st : List Value} {g : mG} {a : Nat} {i : Int32} : WP m_L_law Q 694 ls (.int i :: .ref a :: st) g = ((isIA g a ∧ vp_in i (gN g a)) ∧ WP m_L_law Q 695 ls (.int (gI g a i.toNatClampNeg) :: st) g) := E_iald lo_L_law rfl
set_option maxRecDepth 100000 in
theorem e_L_law_695 {Q : mQ} {ls st : List Value} {g : mG} {x : Int32} : WP m_L_law Q 695 ls (.int x :: st) g = ((x = 0 → WP m_L_law Q 702 ls st g) ∧ (¬ (x = 0) → WP m_L_law Q 698 ls st g)) := E_I1 (c := fun x => x = 0) (t := 702) lo_L_law rfl
set_option maxRecDepth 100000 in
theorem e_L_law_698 {Q : mQ} {ls st : List Value} {g : mG} : WP m_L_law Q 698 ls st g = WP m_L_law Q 699 ls (.int (nI 1) :: st) g := E_ic (v := nI 1) (n := 1) lo_L_law rfl
set_option maxRecDepth 100000 in
theorem e_L_law_699 {Q : mQ} {ls st : List Value} {g : mG} : WP m_L_law Q 699 ls st g = WP m_L_law Q 703 ls st g := E_goto lo_L_law rfl
set_option maxRecDepth 100000 in
theorem e_L_law_702 {Q : mQ} {ls st : List Value} {g : mG} : WP m_L_law Q 702 ls st g = WP m_L_law Q 703 ls (.int (nI 0) :: st) g := E_ic (v := nI 0) (n := 1) lo_L_law rfl
set_option maxRecDepth 100000 in
theorem e_L_law_703 {Q : mQ} {l1 l2 l3 : Value} {st : List Value} {g : mG} {x : Nat} : WP m_L_law Q 703 [.ref x, l1, l2, l3] st g = WP m_L_law Q 704 [.ref x, l1, l2, l3] (.ref x :: st) g := E_al (i := 0) (n := 1) lo_L_law rfl rfl
set_option maxRecDepth 100000 in
theorem e_L_law_703n {Q : mQ} {l1 l2 l3 : Value} {st : List Value} {g : mG} : WP m_L_law Q 703 [.null, l1, l2, l3] st g = WP m_L_law Q 704 [.null, l1, l2, l3] (.null :: st) g := E_aln (i := 0) (n := 1) lo_L_law rfl rfl
set_option maxRecDepth 100000 in
theorem e_L_law_704 {Q : mQ} {l0 l1 l2 : Value} {st : List Value} {g : mG} {x : Int32} : WP m_L_law Q 704 [l0, l1, l2, .int x] st g = WP m_L_law Q 705 [l0, l1, l2, .int x] (.int x :: st) g := E_il (i := 3) (n := 1) lo_L_law rfl rfl
set_option maxRecDepth 100000 in
theorem e_L_law_705 {Q : mQ} {ls st : List Value} {g : mG} : WP m_L_law Q 705 ls st g = WP m_L_law Q 706 ls (.int (nI 2) :: st) g := E_ic (v := nI 2) (n := 1) lo_L_law rfl
set_option maxRecDepth 100000 in
theorem e_L_law_706 {Q : mQ} {ls st : List Value} {g : mG} {x y : Int32} : WP m_L_law Q 706 ls (.int y :: .int x :: st) g = WP m_L_law Q 707 ls (.int (x + y) :: st) g := E_b2 (f := fun x y => x + y) lo_L_law rfl
set_option maxRecDepth 100000 in
theorem e_L_law_707 {Q : mQ} {ls st : List Value} {g : mG} {a : Nat} {i : Int32} : WP m_L_law Q 707 ls (.int i :: .ref a :: st) g = ((isIA g a ∧ vp_in i (gN g a)) ∧ WP m_L_law Q 708 ls (.int (gI g a i.toNatClampNeg) :: st) g) := E_iald lo_L_law rfl
set_option maxRecDepth 100000 in
theorem e_L_law_708 {Q : mQ} {ls st : List Value} {g : mG} {b : Nat} {a0 a1 : Value} : WP m_L_law Q 708 ls (a1 :: a0 :: .ref b :: st) g = (st.length ≤ 4 ∧ gK g b = 8 ∧ stbs g ls ∧ stbs g st ∧ w_X7_depth [.ref b, a0, a1] g (fun v g' => WP m_L_law Q 711 ls (v.toList ++ st) g')) := E_CV (ar := [a1, a0, .ref b]) lo_L_law rfl rfl rfl (by decide)
set_option maxRecDepth 100000 in
theorem e_L_law_711 {Q : mQ} {ls st : List Value} {g : mG} {x y : Int32} : WP m_L_law Q 711 ls (.int y :: .int x :: st) g = ((x = y → WP m_L_law Q 739 ls st g) ∧ (¬ (x = y) → WP m_L_law Q 714 ls st g)) := E_I2 (c := fun x y => x = y) (t := 739) lo_L_law rfl
set_option maxRecDepth 100000 in
theorem e_L_law_714 {Q : mQ} {ls st : List Value} {g : mG} : WP m_L_law Q 714 ls st g = WP m_L_law Q 715 ls (.int (nI 0) :: st) g := E_ic (v := nI 0) (n := 1) lo_L_law rfl
set_option maxRecDepth 100000 in
theorem e_L_law_716 {Q : mQ} {l0 l2 l3 : Value} {st : List Value} {g : mG} {x : Nat} : WP m_L_law Q 716 [l0, .ref x, l2, l3] st g = WP m_L_law Q 717 [l0, .ref x, l2, l3] (.ref x :: st) g := E_al (i := 1) (n := 1) lo_L_law rfl rfl
set_option maxRecDepth 100000 in
theorem e_L_law_716n {Q : mQ} {l0 l2 l3 : Value} {st : List Value} {g : mG} : WP m_L_law Q 716 [l0, .null, l2, l3] st g = WP m_L_law Q 717 [l0, .null, l2, l3] (.null :: st) g := E_aln (i := 1) (n := 1) lo_L_law rfl rfl
set_option maxRecDepth 100000 in
theorem e_L_law_717 {Q : mQ} {l1 l2 l3 : Value} {st : List Value} {g : mG} {x : Nat} : WP m_L_law Q 717 [.ref x, l1, l2, l3] st g = WP m_L_law Q 718 [.ref x, l1, l2, l3] (.ref x :: st) g := E_al (i := 0) (n := 1) lo_L_law rfl rfl
set_option maxRecDepth 100000 in
theorem e_L_law_717n {Q : mQ} {l1 l2 l3 : Value} {st : List Value} {g : mG} : WP m_L_law Q 717 [.null, l1, l2, l3] st g = WP m_L_law Q 718 [.null, l1, l2, l3] (.null :: st) g := E_aln (i := 0) (n := 1) lo_L_law rfl rfl
set_option maxRecDepth 100000 in
theorem e_L_law_718 {Q : mQ} {l0 l1 l2 : Value} {st : List Value} {g : mG} {x : Int32} : WP m_L_law Q 718 [l0, l1, l2, .int x] st g = WP m_L_law Q 719 [l0, l1, l2, .int x] (.int x :: st) g := E_il (i := 3) (n := 1) lo_L_law rfl rfl
set_option maxRecDepth 100000 in
theorem e_L_law_719 {Q : mQ} {ls st : List Value} {g : mG} : WP m_L_law Q 719 ls st g = WP m_L_law Q 720 ls (.int (nI 1) :: st) g := E_ic (v := nI 1) (n := 1) lo_L_law rfl
set_option maxRecDepth 100000 in
theorem e_L_law_720 {Q : mQ} {ls st : List Value} {g : mG} {x y : Int32} : WP m_L_law Q 720 ls (.int y :: .int x :: st) g = WP m_L_law Q 721 ls (.int (x + y) :: st) g := E_b2 (f := fun x y => x + y) lo_L_law rfl
set_option maxRecDepth 100000 in
theorem e_L_law_721 {Q : mQ} {ls st : List Value} {g : mG} {a : Nat} {i : Int32} : WP m_L_law Q 721 ls (.int i :: .ref a :: st) g = ((isIA g a ∧ vp_in i (gN g a)) ∧ WP m_L_law Q 722 ls (.int (gI g a i.toNatClampNeg) :: st) g) := E_iald lo_L_law rfl
set_option maxRecDepth 100000 in
theorem e_L_law_722 {Q : mQ} {ls st : List Value} {g : mG} {b : Nat} {a0 : Value} : WP m_L_law Q 722 ls (a0 :: .ref b :: st) g = (st.length ≤ 4 ∧ gK g b = 7 ∧ stbs g ls ∧ stbs g st ∧ w_X6_count [.ref b, a0] g (fun v g' => WP m_L_law Q 725 ls (v.toList ++ st) g')) := E_CV (ar := [a0, .ref b]) lo_L_law rfl rfl rfl (by decide)
set_option maxRecDepth 100000 in
theorem e_L_law_725 {Q : mQ} {l0 l1 l3 : Value} {st : List Value} {g : mG} {x : Nat} : WP m_L_law Q 725 [l0, l1, .ref x, l3] st g = WP m_L_law Q 726 [l0, l1, .ref x, l3] (.ref x :: st) g := E_al (i := 2) (n := 1) lo_L_law rfl rfl
set_option maxRecDepth 100000 in
theorem e_L_law_725n {Q : mQ} {l0 l1 l3 : Value} {st : List Value} {g : mG} : WP m_L_law Q 725 [l0, l1, .null, l3] st g = WP m_L_law Q 726 [l0, l1, .null, l3] (.null :: st) g := E_aln (i := 2) (n := 1) lo_L_law rfl rfl
set_option maxRecDepth 100000 in
theorem e_L_law_726 {Q : mQ} {l1 l2 l3 : Value} {st : List Value} {g : mG} {x : Nat} : WP m_L_law Q 726 [.ref x, l1, l2, l3] st g = WP m_L_law Q 727 [.ref x, l1, l2, l3] (.ref x :: st) g := E_al (i := 0) (n := 1) lo_L_law rfl rfl
set_option maxRecDepth 100000 in
theorem e_L_law_726n {Q : mQ} {l1 l2 l3 : Value} {st : List Value} {g : mG} : WP m_L_law Q 726 [.null, l1, l2, l3] st g = WP m_L_law Q 727 [.null, l1, l2, l3] (.null :: st) g := E_aln (i := 0) (n := 1) lo_L_law rfl rfl
set_option maxRecDepth 100000 in
theorem e_L_law_727 {Q : mQ} {l0 l1 l2 : Value} {st : List Value} {g : mG} {x : Int32} : WP m_L_law Q 727 [l0, l1, l2, .int x] st g = WP m_L_law Q 728 [l0, l1, l2, .int x] (.int x :: st) g := E_il (i := 3) (n := 1) lo_L_law rfl rfl
set_option maxRecDepth 100000 in
theorem e_L_law_728 {Q : mQ} {ls st : List Value} {g : mG} : WP m_L_law Q 728 ls st g = WP m_L_law Q 729 ls (.int (nI 1) :: st) g := E_ic (v := nI 1) (n := 1) lo_L_law rfl
set_option maxRecDepth 100000 in
theorem e_L_law_729 {Q : mQ} {ls st : List Value} {g : mG} {x y : Int32} : WP m_L_law Q 729 ls (.int y :: .int x :: st) g = WP m_L_law Q 730 ls (.int (x + y) :: st) g := E_b2 (f := fun x y => x + y) lo_L_law rfl
set_option maxRecDepth 100000 in
theorem e_L_law_730 {Q : mQ} {ls st : List Value} {g : mG} {a : Nat} {i : Int32} : WP m_L_law Q 730 ls (.int i :: .ref a :: st) g = ((isIA g a ∧ vp_in i (gN g a)) ∧ WP m_L_law Q 731 ls (.int (gI g a i.toNatClampNeg) :: st) g) := E_iald lo_L_law rfl
set_option maxRecDepth 100000 in
theorem e_L_law_731 {Q : mQ} {ls st : List Value} {g : mG} {b : Nat} {a0 : Value} : WP m_L_law Q 731 ls (a0 :: .ref b :: st) g = (st.length ≤ 4 ∧ gK g b = 8 ∧ stbs g ls ∧ stbs g st ∧ w_X7_count [.ref b, a0] g (fun v g' => WP m_L_law Q 734 ls (v.toList ++ st) g')) := E_CV (ar := [a0, .ref b]) lo_L_law rfl rfl rfl (by decide)
set_option maxRecDepth 100000 in
theorem e_L_law_734 {Q : mQ} {ls st : List Value} {g : mG} {x y : Int32} : WP m_L_law Q 734 ls (.int y :: .int x :: st) g = ((x = y → WP m_L_law Q 739 ls st g) ∧ (¬ (x = y) → WP m_L_law Q 737 ls st g)) := E_I2 (c := fun x y => x = y) (t := 739) lo_L_law rfl
set_option maxRecDepth 100000 in
theorem e_L_law_737 {Q : mQ} {ls st : List Value} {g : mG} : WP m_L_law Q 737 ls st g = WP m_L_law Q 738 ls (.int (nI 0) :: st) g := E_ic (v := nI 0) (n := 1) lo_L_law rfl
set_option maxRecDepth 100000 in
theorem e_L_law_739 {Q : mQ} {l0 l1 l2 : Value} {st : List Value} {g : mG} {x : Int32} : WP m_L_law Q 739 [l0, l1, l2, .int x] st g = (nl1 l2 ∧ WP m_L_law Q 742 [l0, l1, l2, .int (x + nI 4)] st g) := E_inc (i := 3) (d := nI 4) lo_L_law rfl rfl
set_option maxRecDepth 100000 in
theorem e_L_law_742 {Q : mQ} {ls st : List Value} {g : mG} : WP m_L_law Q 742 ls st g = WP m_L_law Q 18 ls st g := E_goto lo_L_law rfl
set_option maxRecDepth 100000 in
theorem e_L_law_745 {Q : mQ} {ls st : List Value} {g : mG} : WP m_L_law Q 745 ls st g = WP m_L_law Q 746 ls (.int (nI 1) :: st) g := E_ic (v := nI 1) (n := 1) lo_L_law rfl
set_option maxRecDepth 100000 in
theorem e_L_law_746 {Q : mQ} {ls : List Value} {g : mG} {v : Int32} : WP m_L_law Q 746 ls [.int v] g = (v = 1 ∧ Q (some (.int v)) g) := WP_at lo_L_law rfl

/-- a step of the law is true of the machine -/
def LSND (t : mT) (pc : Nat) : Prop := ∀ (p : Program) (l : Launch) (e : Env) (s : State) (m : MethodId) (b : Nat) (below : List Frame) (meth : Method) (c : Code) (D : va_G) (cA : Nat → ClassId) (n0 : Nat) (g0 : mG) (L0 : Nat → Nat) (ge : mG), CX p l e room_1 s m #[Value.ref b] below meth c D cA n0 g0 L0 R_law code 4 ("law", 10) → meth.sig.returnType = ret → s.heap.size ≤ n0 → gC ge - gC g0 ≤ 600000 → gS ge - gS g0 ≤ 7302250 →
  ∀ (ls st : List Value) (g : mG), t (Qx (some (.int 1)) ge) (MP p l e room_1 s m #[Value.ref b] below meth c D cA n0 g0 L0 4 ge (lw_Z below #[Value.ref b] s)) pc ls st g → MP p l e room_1 s m #[Value.ref b] below meth c D cA n0 g0 L0 4 ge (lw_Z below #[Value.ref b] s) pc ls st g
theorem SND.l {t : mT} {pc : Nat} (h : SND R_law code 4 ("law", 10) t pc) : LSND t pc := fun p l e s m b below meth c D cA n0 g0 L0 ge cx _ _ hc hs ls st g ht => h p l e room_1 s m #[Value.ref b] below meth c D cA n0 g0 L0 (some (.int 1)) ge (lw_Z below #[Value.ref b] s) cx hc hs _ ls st g ht
theorem l_bad (pc : Nat) : LSND tBad pc := fun _ _ _ _ _ _ _ _ _ _ _ _ _ _ _ _ _ _ _ _ _ _ _ h => h.elim
theorem l_ret {pc : Nat} (hd : decode code pc = .ok (.ireturn, 1)) : LSND (tR f_lret) pc := by
  intro p l e s m b below meth c D cA n0 g0 L0 ge cx hr hn hrc hrs ls st g ht
  match st, ht with
  | [.int v], ht =>
    obtain ⟨hv, -, rfl⟩ := ht
    have hv' : v = 1 := hv
    subst hv'
    exact ⟨⟨Nat.le_refl _, Nat.le_refl _⟩, fun a1 a2 a3 L H locs lsA hH hl hS hK => va_forget (fun q hq => Nat.le_trans hn (hS.2.2 q hq)) (W.widen hrc hrs (lw_ret cx.1 cx.2.1 hr cx.2.2.2.2.2.1 hd))⟩
set_option maxRecDepth 100000 in
theorem sl_L_law : ∀ q ∈ m_L_law, LSND q.2 q.1 := List.forall_mem_cons.mpr ⟨(snd_E (f := f_new 7) (fun _ => mo_new) (q_new ⟨by decide, by decide⟩ kc_L_7 kn_X6 ki_X6 dL_law_0)).l,
  List.forall_mem_cons.mpr ⟨(snd_D mo_dup (q_dup dL_law_3)).l,
  List.forall_mem_cons.mpr ⟨((snd_CI sm_X6_init (by decide) rfl km_L_9 kt_X6_init ki_X6 kx_X6_init ⟨by decide, by decide, by decide +kernel⟩ (by decide) (by decide) dL_law_4)).l,
  List.forall_mem_cons.mpr ⟨(snd_D mo_as (q_astore_n dL_law_7 rfl)).l,
  List.forall_mem_cons.mpr ⟨(snd_E (f := f_new 8) (fun _ => mo_new) (q_new ⟨by decide, by decide⟩ kc_L_10 kn_X7 ki_X7 dL_law_8)).l,
  List.forall_mem_cons.mpr ⟨(snd_D mo_dup (q_dup dL_law_11)).l,
  List.forall_mem_cons.mpr ⟨((snd_CI sm_X7_init (by decide) rfl km_L_12 kt_X7_init ki_X7 kx_X7_init ⟨by decide, by decide, by decide +kernel⟩ (by decide) (by decide) dL_law_12)).l,
  List.forall_mem_cons.mpr ⟨(snd_D mo_as (q_astore_n dL_law_15 rfl)).l,
  List.forall_mem_cons.mpr ⟨(snd_D mo_ic (q_iconst dL_law_16 (by decide))).l,
  List.forall_mem_cons.mpr ⟨(snd_D mo_is (q_istore_n dL_law_17 rfl)).l,
  List.forall_mem_cons.mpr ⟨(snd_D mo_il (q_iload_n dL_law_18 rfl)).l,
  List.forall_mem_cons.mpr ⟨(snd_D mo_al (q_aload_n dL_law_19 rfl)).l,
  List.forall_mem_cons.mpr ⟨(snd_D mo_alen (q_alen dL_law_20)).l,
  List.forall_mem_cons.mpr ⟨(snd_D mo_ic (q_iconst dL_law_21 (by decide))).l,
  List.forall_mem_cons.mpr ⟨(snd_D mo_b2 (q_isub dL_law_22)).l,
  List.forall_mem_cons.mpr ⟨((q_ic_gt dL_law_23 (by decide))).l,
  List.forall_mem_cons.mpr ⟨(snd_D mo_al (q_aload_n dL_law_26 rfl)).l,
  List.forall_mem_cons.mpr ⟨(snd_D mo_il (q_iload_n dL_law_27 rfl)).l,
  List.forall_mem_cons.mpr ⟨(snd_D mo_iald (q_iald dL_law_28)).l,
  List.forall_mem_cons.mpr ⟨(snd_D mo_ic (q_bipush dL_law_29 (by decide))).l,
  List.forall_mem_cons.mpr ⟨(snd_D mo_b2 (q_iand dL_law_31)).l,
  List.forall_mem_cons.mpr ⟨(snd_D mo_sw (q_sw dL_law_32 (by decide) (by decide) (by decide))).l,
  List.forall_mem_cons.mpr ⟨(snd_D mo_al (q_aload_n dL_law_132 rfl)).l,
  List.forall_mem_cons.mpr ⟨(snd_D mo_al (q_aload_n dL_law_133 rfl)).l,
  List.forall_mem_cons.mpr ⟨(snd_D mo_il (q_iload_n dL_law_134 rfl)).l,
  List.forall_mem_cons.mpr ⟨(snd_D mo_ic (q_iconst dL_law_135 (by decide))).l,
  List.forall_mem_cons.mpr ⟨(snd_D mo_b2 (q_iadd dL_law_136)).l,
  List.forall_mem_cons.mpr ⟨(snd_D mo_iald (q_iald dL_law_137)).l,
  List.forall_mem_cons.mpr ⟨(snd_D mo_al (q_aload_n dL_law_138 rfl)).l,
  List.forall_mem_cons.mpr ⟨(snd_D mo_il (q_iload_n dL_law_139 rfl)).l,
  List.forall_mem_cons.mpr ⟨(snd_D mo_ic (q_iconst dL_law_140 (by decide))).l,
  List.forall_mem_cons.mpr ⟨(snd_D mo_b2 (q_iadd dL_law_141)).l,
  List.forall_mem_cons.mpr ⟨(snd_D mo_iald (q_iald dL_law_142)).l,
  List.forall_mem_cons.mpr ⟨((snd_CV sm_X6_issue ⟨by decide, by decide⟩ rfl km_L_13 kt_X6_issue kv_X6_issue rfl ki_X6 kx_X6_issue ⟨by decide, by decide, by decide +kernel⟩ (by decide) (by decide) dL_law_143)).l,
  List.forall_mem_cons.mpr ⟨(snd_D mo_al (q_aload_n dL_law_146 rfl)).l,
  List.forall_mem_cons.mpr ⟨(snd_D mo_al (q_aload_n dL_law_147 rfl)).l,
  List.forall_mem_cons.mpr ⟨(snd_D mo_il (q_iload_n dL_law_148 rfl)).l,
  List.forall_mem_cons.mpr ⟨(snd_D mo_ic (q_iconst dL_law_149 (by decide))).l,
  List.forall_mem_cons.mpr ⟨(snd_D mo_b2 (q_iadd dL_law_150)).l,
  List.forall_mem_cons.mpr ⟨(snd_D mo_iald (q_iald dL_law_151)).l,
  List.forall_mem_cons.mpr ⟨(snd_D mo_al (q_aload_n dL_law_152 rfl)).l,
  List.forall_mem_cons.mpr ⟨(snd_D mo_il (q_iload_n dL_law_153 rfl)).l,
  List.forall_mem_cons.mpr ⟨(snd_D mo_ic (q_iconst dL_law_154 (by decide))).l,
  List.forall_mem_cons.mpr ⟨(snd_D mo_b2 (q_iadd dL_law_155)).l,
  List.forall_mem_cons.mpr ⟨(snd_D mo_iald (q_iald dL_law_156)).l,
  List.forall_mem_cons.mpr ⟨((snd_CV sm_X7_issue ⟨by decide, by decide⟩ rfl km_L_17 kt_X7_issue kv_X7_issue rfl ki_X7 kx_X7_issue ⟨by decide, by decide, by decide +kernel⟩ (by decide) (by decide) dL_law_157)).l,
  List.forall_mem_cons.mpr ⟨((q_ic_eq dL_law_160 (by decide))).l,
  List.forall_mem_cons.mpr ⟨(snd_D mo_ic (q_iconst dL_law_163 (by decide))).l,
  List.forall_mem_cons.mpr ⟨(snd_D mo_al (q_aload_n dL_law_165 rfl)).l,
  List.forall_mem_cons.mpr ⟨(snd_D mo_al (q_aload_n dL_law_166 rfl)).l,
  List.forall_mem_cons.mpr ⟨(snd_D mo_il (q_iload_n dL_law_167 rfl)).l,
  List.forall_mem_cons.mpr ⟨(snd_D mo_ic (q_iconst dL_law_168 (by decide))).l,
  List.forall_mem_cons.mpr ⟨(snd_D mo_b2 (q_iadd dL_law_169)).l,
  List.forall_mem_cons.mpr ⟨(snd_D mo_iald (q_iald dL_law_170)).l,
  List.forall_mem_cons.mpr ⟨(snd_D mo_al (q_aload_n dL_law_171 rfl)).l,
  List.forall_mem_cons.mpr ⟨(snd_D mo_il (q_iload_n dL_law_172 rfl)).l,
  List.forall_mem_cons.mpr ⟨(snd_D mo_ic (q_iconst dL_law_173 (by decide))).l,
  List.forall_mem_cons.mpr ⟨(snd_D mo_b2 (q_iadd dL_law_174)).l,
  List.forall_mem_cons.mpr ⟨(snd_D mo_iald (q_iald dL_law_175)).l,
  List.forall_mem_cons.mpr ⟨(snd_D mo_al (q_aload_n dL_law_176 rfl)).l,
  List.forall_mem_cons.mpr ⟨(snd_D mo_il (q_iload_n dL_law_177 rfl)).l,
  List.forall_mem_cons.mpr ⟨(snd_D mo_ic (q_iconst dL_law_178 (by decide))).l,
  List.forall_mem_cons.mpr ⟨(snd_D mo_b2 (q_iadd dL_law_179)).l,
  List.forall_mem_cons.mpr ⟨(snd_D mo_iald (q_iald dL_law_180)).l,
  List.forall_mem_cons.mpr ⟨((snd_CV sm_X6_fire ⟨by decide, by decide⟩ rfl km_L_18 kt_X6_fire kv_X6_fire rfl ki_X6 kx_X6_fire ⟨by decide, by decide, by decide +kernel⟩ (by decide) (by decide) dL_law_181)).l,
  List.forall_mem_cons.mpr ⟨(snd_D mo_al (q_aload_n dL_law_184 rfl)).l,
  List.forall_mem_cons.mpr ⟨(snd_D mo_al (q_aload_n dL_law_185 rfl)).l,
  List.forall_mem_cons.mpr ⟨(snd_D mo_il (q_iload_n dL_law_186 rfl)).l,
  List.forall_mem_cons.mpr ⟨(snd_D mo_ic (q_iconst dL_law_187 (by decide))).l,
  List.forall_mem_cons.mpr ⟨(snd_D mo_b2 (q_iadd dL_law_188)).l,
  List.forall_mem_cons.mpr ⟨(snd_D mo_iald (q_iald dL_law_189)).l,
  List.forall_mem_cons.mpr ⟨(snd_D mo_al (q_aload_n dL_law_190 rfl)).l,
  List.forall_mem_cons.mpr ⟨(snd_D mo_il (q_iload_n dL_law_191 rfl)).l,
  List.forall_mem_cons.mpr ⟨(snd_D mo_ic (q_iconst dL_law_192 (by decide))).l,
  List.forall_mem_cons.mpr ⟨(snd_D mo_b2 (q_iadd dL_law_193)).l,
  List.forall_mem_cons.mpr ⟨(snd_D mo_iald (q_iald dL_law_194)).l,
  List.forall_mem_cons.mpr ⟨(snd_D mo_al (q_aload_n dL_law_195 rfl)).l,
  List.forall_mem_cons.mpr ⟨(snd_D mo_il (q_iload_n dL_law_196 rfl)).l,
  List.forall_mem_cons.mpr ⟨(snd_D mo_ic (q_iconst dL_law_197 (by decide))).l,
  List.forall_mem_cons.mpr ⟨(snd_D mo_b2 (q_iadd dL_law_198)).l,
  List.forall_mem_cons.mpr ⟨(snd_D mo_iald (q_iald dL_law_199)).l,
  List.forall_mem_cons.mpr ⟨((snd_CV sm_X7_fire ⟨by decide, by decide⟩ rfl km_L_22 kt_X7_fire kv_X7_fire rfl ki_X7 kx_X7_fire ⟨by decide, by decide, by decide +kernel⟩ (by decide) (by decide) dL_law_200)).l,
  List.forall_mem_cons.mpr ⟨((q_ic_eq dL_law_203 (by decide))).l,
  List.forall_mem_cons.mpr ⟨(snd_D mo_ic (q_iconst dL_law_206 (by decide))).l,
  List.forall_mem_cons.mpr ⟨(snd_D mo_al (q_aload_n dL_law_208 rfl)).l,
  List.forall_mem_cons.mpr ⟨(snd_D mo_al (q_aload_n dL_law_209 rfl)).l,
  List.forall_mem_cons.mpr ⟨(snd_D mo_il (q_iload_n dL_law_210 rfl)).l,
  List.forall_mem_cons.mpr ⟨(snd_D mo_ic (q_iconst dL_law_211 (by decide))).l,
  List.forall_mem_cons.mpr ⟨(snd_D mo_b2 (q_iadd dL_law_212)).l,
  List.forall_mem_cons.mpr ⟨(snd_D mo_iald (q_iald dL_law_213)).l,
  List.forall_mem_cons.mpr ⟨((snd_CV sm_X6_audit ⟨by decide, by decide⟩ rfl km_L_23 kt_X6_audit kv_X6_audit rfl ki_X6 kx_X6_audit ⟨by decide, by decide, by decide +kernel⟩ (by decide) (by decide) dL_law_214)).l,
  List.forall_mem_cons.mpr ⟨(snd_D mo_al (q_aload_n dL_law_217 rfl)).l,
  List.forall_mem_cons.mpr ⟨(snd_D mo_al (q_aload_n dL_law_218 rfl)).l,
  List.forall_mem_cons.mpr ⟨(snd_D mo_il (q_iload_n dL_law_219 rfl)).l,
  List.forall_mem_cons.mpr ⟨(snd_D mo_ic (q_iconst dL_law_220 (by decide))).l,
  List.forall_mem_cons.mpr ⟨(snd_D mo_b2 (q_iadd dL_law_221)).l,
  List.forall_mem_cons.mpr ⟨(snd_D mo_iald (q_iald dL_law_222)).l,
  List.forall_mem_cons.mpr ⟨((snd_CV sm_X7_audit ⟨by decide, by decide⟩ rfl km_L_27 kt_X7_audit kv_X7_audit rfl ki_X7 kx_X7_audit ⟨by decide, by decide, by decide +kernel⟩ (by decide) (by decide) dL_law_223)).l,
  List.forall_mem_cons.mpr ⟨((q_ic_eq dL_law_226 (by decide))).l,
  List.forall_mem_cons.mpr ⟨(snd_D mo_ic (q_iconst dL_law_229 (by decide))).l,
  List.forall_mem_cons.mpr ⟨(snd_D mo_al (q_aload_n dL_law_231 rfl)).l,
  List.forall_mem_cons.mpr ⟨(snd_D mo_al (q_aload_n dL_law_232 rfl)).l,
  List.forall_mem_cons.mpr ⟨(snd_D mo_il (q_iload_n dL_law_233 rfl)).l,
  List.forall_mem_cons.mpr ⟨(snd_D mo_ic (q_iconst dL_law_234 (by decide))).l,
  List.forall_mem_cons.mpr ⟨(snd_D mo_b2 (q_iadd dL_law_235)).l,
  List.forall_mem_cons.mpr ⟨(snd_D mo_iald (q_iald dL_law_236)).l,
  List.forall_mem_cons.mpr ⟨(snd_D mo_al (q_aload_n dL_law_237 rfl)).l,
  List.forall_mem_cons.mpr ⟨(snd_D mo_il (q_iload_n dL_law_238 rfl)).l,
  List.forall_mem_cons.mpr ⟨(snd_D mo_ic (q_iconst dL_law_239 (by decide))).l,
  List.forall_mem_cons.mpr ⟨(snd_D mo_b2 (q_iadd dL_law_240)).l,
  List.forall_mem_cons.mpr ⟨(snd_D mo_iald (q_iald dL_law_241)).l,
  List.forall_mem_cons.mpr ⟨(snd_D mo_al (q_aload_n dL_law_242 rfl)).l,
  List.forall_mem_cons.mpr ⟨(snd_D mo_il (q_iload_n dL_law_243 rfl)).l,
  List.forall_mem_cons.mpr ⟨(snd_D mo_ic (q_iconst dL_law_244 (by decide))).l,
  List.forall_mem_cons.mpr ⟨(snd_D mo_b2 (q_iadd dL_law_245)).l,
  List.forall_mem_cons.mpr ⟨(snd_D mo_iald (q_iald dL_law_246)).l,
  List.forall_mem_cons.mpr ⟨((snd_CV sm_X6_bid ⟨by decide, by decide⟩ rfl km_L_28 kt_X6_bid kv_X6_bid rfl ki_X6 kx_X6_bid ⟨by decide, by decide, by decide +kernel⟩ (by decide) (by decide) dL_law_247)).l,
  List.forall_mem_cons.mpr ⟨(snd_D mo_al (q_aload_n dL_law_250 rfl)).l,
  List.forall_mem_cons.mpr ⟨(snd_D mo_al (q_aload_n dL_law_251 rfl)).l,
  List.forall_mem_cons.mpr ⟨(snd_D mo_il (q_iload_n dL_law_252 rfl)).l,
  List.forall_mem_cons.mpr ⟨(snd_D mo_ic (q_iconst dL_law_253 (by decide))).l,
  List.forall_mem_cons.mpr ⟨(snd_D mo_b2 (q_iadd dL_law_254)).l,
  List.forall_mem_cons.mpr ⟨(snd_D mo_iald (q_iald dL_law_255)).l,
  List.forall_mem_cons.mpr ⟨(snd_D mo_al (q_aload_n dL_law_256 rfl)).l,
  List.forall_mem_cons.mpr ⟨(snd_D mo_il (q_iload_n dL_law_257 rfl)).l,
  List.forall_mem_cons.mpr ⟨(snd_D mo_ic (q_iconst dL_law_258 (by decide))).l,
  List.forall_mem_cons.mpr ⟨(snd_D mo_b2 (q_iadd dL_law_259)).l,
  List.forall_mem_cons.mpr ⟨(snd_D mo_iald (q_iald dL_law_260)).l,
  List.forall_mem_cons.mpr ⟨(snd_D mo_al (q_aload_n dL_law_261 rfl)).l,
  List.forall_mem_cons.mpr ⟨(snd_D mo_il (q_iload_n dL_law_262 rfl)).l,
  List.forall_mem_cons.mpr ⟨(snd_D mo_ic (q_iconst dL_law_263 (by decide))).l,
  List.forall_mem_cons.mpr ⟨(snd_D mo_b2 (q_iadd dL_law_264)).l,
  List.forall_mem_cons.mpr ⟨(snd_D mo_iald (q_iald dL_law_265)).l,
  List.forall_mem_cons.mpr ⟨((snd_CV sm_X7_bid ⟨by decide, by decide⟩ rfl km_L_31 kt_X7_bid kv_X7_bid rfl ki_X7 kx_X7_bid ⟨by decide, by decide, by decide +kernel⟩ (by decide) (by decide) dL_law_266)).l,
  List.forall_mem_cons.mpr ⟨((q_ic_eq dL_law_269 (by decide))).l,
  List.forall_mem_cons.mpr ⟨(snd_D mo_ic (q_iconst dL_law_272 (by decide))).l,
  List.forall_mem_cons.mpr ⟨(snd_D mo_al (q_aload_n dL_law_274 rfl)).l,
  List.forall_mem_cons.mpr ⟨(snd_D mo_al (q_aload_n dL_law_275 rfl)).l,
  List.forall_mem_cons.mpr ⟨(snd_D mo_il (q_iload_n dL_law_276 rfl)).l,
  List.forall_mem_cons.mpr ⟨(snd_D mo_ic (q_iconst dL_law_277 (by decide))).l,
  List.forall_mem_cons.mpr ⟨(snd_D mo_b2 (q_iadd dL_law_278)).l,
  List.forall_mem_cons.mpr ⟨(snd_D mo_iald (q_iald dL_law_279)).l,
  List.forall_mem_cons.mpr ⟨(snd_D mo_al (q_aload_n dL_law_280 rfl)).l,
  List.forall_mem_cons.mpr ⟨(snd_D mo_il (q_iload_n dL_law_281 rfl)).l,
  List.forall_mem_cons.mpr ⟨(snd_D mo_ic (q_iconst dL_law_282 (by decide))).l,
  List.forall_mem_cons.mpr ⟨(snd_D mo_b2 (q_iadd dL_law_283)).l,
  List.forall_mem_cons.mpr ⟨(snd_D mo_iald (q_iald dL_law_284)).l,
  List.forall_mem_cons.mpr ⟨(snd_D mo_al (q_aload_n dL_law_285 rfl)).l,
  List.forall_mem_cons.mpr ⟨(snd_D mo_il (q_iload_n dL_law_286 rfl)).l,
  List.forall_mem_cons.mpr ⟨(snd_D mo_ic (q_iconst dL_law_287 (by decide))).l,
  List.forall_mem_cons.mpr ⟨(snd_D mo_b2 (q_iadd dL_law_288)).l,
  List.forall_mem_cons.mpr ⟨(snd_D mo_iald (q_iald dL_law_289)).l,
  List.forall_mem_cons.mpr ⟨((snd_CV sm_X6_ask ⟨by decide, by decide⟩ rfl km_L_32 kt_X6_ask kv_X6_ask rfl ki_X6 kx_X6_ask ⟨by decide, by decide, by decide +kernel⟩ (by decide) (by decide) dL_law_290)).l,
  List.forall_mem_cons.mpr ⟨(snd_D mo_al (q_aload_n dL_law_293 rfl)).l,
  List.forall_mem_cons.mpr ⟨(snd_D mo_al (q_aload_n dL_law_294 rfl)).l,
  List.forall_mem_cons.mpr ⟨(snd_D mo_il (q_iload_n dL_law_295 rfl)).l,
  List.forall_mem_cons.mpr ⟨(snd_D mo_ic (q_iconst dL_law_296 (by decide))).l,
  List.forall_mem_cons.mpr ⟨(snd_D mo_b2 (q_iadd dL_law_297)).l,
  List.forall_mem_cons.mpr ⟨(snd_D mo_iald (q_iald dL_law_298)).l,
  List.forall_mem_cons.mpr ⟨(snd_D mo_al (q_aload_n dL_law_299 rfl)).l,
  List.forall_mem_cons.mpr ⟨(snd_D mo_il (q_iload_n dL_law_300 rfl)).l,
  List.forall_mem_cons.mpr ⟨(snd_D mo_ic (q_iconst dL_law_301 (by decide))).l,
  List.forall_mem_cons.mpr ⟨(snd_D mo_b2 (q_iadd dL_law_302)).l,
  List.forall_mem_cons.mpr ⟨(snd_D mo_iald (q_iald dL_law_303)).l,
  List.forall_mem_cons.mpr ⟨(snd_D mo_al (q_aload_n dL_law_304 rfl)).l,
  List.forall_mem_cons.mpr ⟨(snd_D mo_il (q_iload_n dL_law_305 rfl)).l,
  List.forall_mem_cons.mpr ⟨(snd_D mo_ic (q_iconst dL_law_306 (by decide))).l,
  List.forall_mem_cons.mpr ⟨(snd_D mo_b2 (q_iadd dL_law_307)).l,
  List.forall_mem_cons.mpr ⟨(snd_D mo_iald (q_iald dL_law_308)).l,
  List.forall_mem_cons.mpr ⟨((snd_CV sm_X7_ask ⟨by decide, by decide⟩ rfl km_L_35 kt_X7_ask kv_X7_ask rfl ki_X7 kx_X7_ask ⟨by decide, by decide, by decide +kernel⟩ (by decide) (by decide) dL_law_309)).l,
  List.forall_mem_cons.mpr ⟨((q_ic_eq dL_law_312 (by decide))).l,
  List.forall_mem_cons.mpr ⟨(snd_D mo_ic (q_iconst dL_law_315 (by decide))).l,
  List.forall_mem_cons.mpr ⟨(snd_D mo_al (q_aload_n dL_law_317 rfl)).l,
  List.forall_mem_cons.mpr ⟨((snd_CV sm_X6_orderAll ⟨by decide, by decide⟩ rfl km_L_36 kt_X6_orderAll kv_X6_orderAll rfl ki_X6 kx_X6_orderAll ⟨by decide, by decide, by decide +kernel⟩ (by decide) (by decide) dL_law_318)).l,
  List.forall_mem_cons.mpr ⟨(snd_D mo_al (q_aload_n dL_law_321 rfl)).l,
  List.forall_mem_cons.mpr ⟨((snd_CV sm_X7_orderAll ⟨by decide, by decide⟩ rfl km_L_40 kt_X7_orderAll kv_X7_orderAll rfl ki_X7 kx_X7_orderAll ⟨by decide, by decide, by decide +kernel⟩ (by decide) (by decide) dL_law_322)).l,
  List.forall_mem_cons.mpr ⟨((q_ic_eq dL_law_325 (by decide))).l,
  List.forall_mem_cons.mpr ⟨(snd_D mo_ic (q_iconst dL_law_328 (by decide))).l,
  List.forall_mem_cons.mpr ⟨(snd_D mo_al (q_aload_n dL_law_330 rfl)).l,
  List.forall_mem_cons.mpr ⟨(snd_D mo_al (q_aload_n dL_law_331 rfl)).l,
  List.forall_mem_cons.mpr ⟨(snd_D mo_il (q_iload_n dL_law_332 rfl)).l,
  List.forall_mem_cons.mpr ⟨(snd_D mo_ic (q_iconst dL_law_333 (by decide))).l,
  List.forall_mem_cons.mpr ⟨(snd_D mo_b2 (q_iadd dL_law_334)).l,
  List.forall_mem_cons.mpr ⟨(snd_D mo_iald (q_iald dL_law_335)).l,
  List.forall_mem_cons.mpr ⟨((snd_CV sm_X6_takeBack ⟨by decide, by decide⟩ rfl km_L_41 kt_X6_takeBack kv_X6_takeBack rfl ki_X6 kx_X6_takeBack ⟨by decide, by decide, by decide +kernel⟩ (by decide) (by decide) dL_law_336)).l,
  List.forall_mem_cons.mpr ⟨(snd_D mo_al (q_aload_n dL_law_339 rfl)).l,
  List.forall_mem_cons.mpr ⟨(snd_D mo_al (q_aload_n dL_law_340 rfl)).l,
  List.forall_mem_cons.mpr ⟨(snd_D mo_il (q_iload_n dL_law_341 rfl)).l,
  List.forall_mem_cons.mpr ⟨(snd_D mo_ic (q_iconst dL_law_342 (by decide))).l,
  List.forall_mem_cons.mpr ⟨(snd_D mo_b2 (q_iadd dL_law_343)).l,
  List.forall_mem_cons.mpr ⟨(snd_D mo_iald (q_iald dL_law_344)).l,
  List.forall_mem_cons.mpr ⟨((snd_CV sm_X7_takeBack ⟨by decide, by decide⟩ rfl km_L_44 kt_X7_takeBack kv_X7_takeBack rfl ki_X7 kx_X7_takeBack ⟨by decide, by decide, by decide +kernel⟩ (by decide) (by decide) dL_law_345)).l,
  List.forall_mem_cons.mpr ⟨((q_ic_eq dL_law_348 (by decide))).l,
  List.forall_mem_cons.mpr ⟨(snd_D mo_ic (q_iconst dL_law_351 (by decide))).l,
  List.forall_mem_cons.mpr ⟨(snd_D mo_al (q_aload_n dL_law_353 rfl)).l,
  List.forall_mem_cons.mpr ⟨(snd_D mo_al (q_aload_n dL_law_354 rfl)).l,
  List.forall_mem_cons.mpr ⟨(snd_D mo_il (q_iload_n dL_law_355 rfl)).l,
  List.forall_mem_cons.mpr ⟨(snd_D mo_ic (q_iconst dL_law_356 (by decide))).l,
  List.forall_mem_cons.mpr ⟨(snd_D mo_b2 (q_iadd dL_law_357)).l,
  List.forall_mem_cons.mpr ⟨(snd_D mo_iald (q_iald dL_law_358)).l,
  List.forall_mem_cons.mpr ⟨(snd_D mo_al (q_aload_n dL_law_359 rfl)).l,
  List.forall_mem_cons.mpr ⟨(snd_D mo_il (q_iload_n dL_law_360 rfl)).l,
  List.forall_mem_cons.mpr ⟨(snd_D mo_ic (q_iconst dL_law_361 (by decide))).l,
  List.forall_mem_cons.mpr ⟨(snd_D mo_b2 (q_iadd dL_law_362)).l,
  List.forall_mem_cons.mpr ⟨(snd_D mo_iald (q_iald dL_law_363)).l,
  List.forall_mem_cons.mpr ⟨((snd_CV sm_X6_buyReserve ⟨by decide, by decide⟩ rfl km_L_45 kt_X6_buyReserve kv_X6_buyReserve rfl ki_X6 kx_X6_buyReserve ⟨by decide, by decide, by decide +kernel⟩ (by decide) (by decide) dL_law_364)).l,
  List.forall_mem_cons.mpr ⟨(snd_D mo_al (q_aload_n dL_law_367 rfl)).l,
  List.forall_mem_cons.mpr ⟨(snd_D mo_al (q_aload_n dL_law_368 rfl)).l,
  List.forall_mem_cons.mpr ⟨(snd_D mo_il (q_iload_n dL_law_369 rfl)).l,
  List.forall_mem_cons.mpr ⟨(snd_D mo_ic (q_iconst dL_law_370 (by decide))).l,
  List.forall_mem_cons.mpr ⟨(snd_D mo_b2 (q_iadd dL_law_371)).l,
  List.forall_mem_cons.mpr ⟨(snd_D mo_iald (q_iald dL_law_372)).l,
  List.forall_mem_cons.mpr ⟨(snd_D mo_al (q_aload_n dL_law_373 rfl)).l,
  List.forall_mem_cons.mpr ⟨(snd_D mo_il (q_iload_n dL_law_374 rfl)).l,
  List.forall_mem_cons.mpr ⟨(snd_D mo_ic (q_iconst dL_law_375 (by decide))).l,
  List.forall_mem_cons.mpr ⟨(snd_D mo_b2 (q_iadd dL_law_376)).l,
  List.forall_mem_cons.mpr ⟨(snd_D mo_iald (q_iald dL_law_377)).l,
  List.forall_mem_cons.mpr ⟨((snd_CV sm_X7_buyReserve ⟨by decide, by decide⟩ rfl km_L_48 kt_X7_buyReserve kv_X7_buyReserve rfl ki_X7 kx_X7_buyReserve ⟨by decide, by decide, by decide +kernel⟩ (by decide) (by decide) dL_law_378)).l,
  List.forall_mem_cons.mpr ⟨((q_ic_eq dL_law_381 (by decide))).l,
  List.forall_mem_cons.mpr ⟨(snd_D mo_ic (q_iconst dL_law_384 (by decide))).l,
  List.forall_mem_cons.mpr ⟨(snd_D mo_al (q_aload_n dL_law_386 rfl)).l,
  List.forall_mem_cons.mpr ⟨(snd_D mo_al (q_aload_n dL_law_387 rfl)).l,
  List.forall_mem_cons.mpr ⟨(snd_D mo_il (q_iload_n dL_law_388 rfl)).l,
  List.forall_mem_cons.mpr ⟨(snd_D mo_ic (q_iconst dL_law_389 (by decide))).l,
  List.forall_mem_cons.mpr ⟨(snd_D mo_b2 (q_iadd dL_law_390)).l,
  List.forall_mem_cons.mpr ⟨(snd_D mo_iald (q_iald dL_law_391)).l,
  List.forall_mem_cons.mpr ⟨(snd_D mo_al (q_aload_n dL_law_392 rfl)).l,
  List.forall_mem_cons.mpr ⟨(snd_D mo_il (q_iload_n dL_law_393 rfl)).l,
  List.forall_mem_cons.mpr ⟨(snd_D mo_ic (q_iconst dL_law_394 (by decide))).l,
  List.forall_mem_cons.mpr ⟨(snd_D mo_b2 (q_iadd dL_law_395)).l,
  List.forall_mem_cons.mpr ⟨(snd_D mo_iald (q_iald dL_law_396)).l,
  List.forall_mem_cons.mpr ⟨((snd_CV sm_X6_borrow ⟨by decide, by decide⟩ rfl km_L_49 kt_X6_borrow kv_X6_borrow rfl ki_X6 kx_X6_borrow ⟨by decide, by decide, by decide +kernel⟩ (by decide) (by decide) dL_law_397)).l,
  List.forall_mem_cons.mpr ⟨(snd_D mo_al (q_aload_n dL_law_400 rfl)).l,
  List.forall_mem_cons.mpr ⟨(snd_D mo_al (q_aload_n dL_law_401 rfl)).l,
  List.forall_mem_cons.mpr ⟨(snd_D mo_il (q_iload_n dL_law_402 rfl)).l,
  List.forall_mem_cons.mpr ⟨(snd_D mo_ic (q_iconst dL_law_403 (by decide))).l,
  List.forall_mem_cons.mpr ⟨(snd_D mo_b2 (q_iadd dL_law_404)).l,
  List.forall_mem_cons.mpr ⟨(snd_D mo_iald (q_iald dL_law_405)).l,
  List.forall_mem_cons.mpr ⟨(snd_D mo_al (q_aload_n dL_law_406 rfl)).l,
  List.forall_mem_cons.mpr ⟨(snd_D mo_il (q_iload_n dL_law_407 rfl)).l,
  List.forall_mem_cons.mpr ⟨(snd_D mo_ic (q_iconst dL_law_408 (by decide))).l,
  List.forall_mem_cons.mpr ⟨(snd_D mo_b2 (q_iadd dL_law_409)).l,
  List.forall_mem_cons.mpr ⟨(snd_D mo_iald (q_iald dL_law_410)).l,
  List.forall_mem_cons.mpr ⟨((snd_CV sm_X7_borrow ⟨by decide, by decide⟩ rfl km_L_52 kt_X7_borrow kv_X7_borrow rfl ki_X7 kx_X7_borrow ⟨by decide, by decide, by decide +kernel⟩ (by decide) (by decide) dL_law_411)).l,
  List.forall_mem_cons.mpr ⟨((q_ic_eq dL_law_414 (by decide))).l,
  List.forall_mem_cons.mpr ⟨(snd_D mo_ic (q_iconst dL_law_417 (by decide))).l,
  List.forall_mem_cons.mpr ⟨(snd_D mo_al (q_aload_n dL_law_419 rfl)).l,
  List.forall_mem_cons.mpr ⟨(snd_D mo_al (q_aload_n dL_law_420 rfl)).l,
  List.forall_mem_cons.mpr ⟨(snd_D mo_il (q_iload_n dL_law_421 rfl)).l,
  List.forall_mem_cons.mpr ⟨(snd_D mo_ic (q_iconst dL_law_422 (by decide))).l,
  List.forall_mem_cons.mpr ⟨(snd_D mo_b2 (q_iadd dL_law_423)).l,
  List.forall_mem_cons.mpr ⟨(snd_D mo_iald (q_iald dL_law_424)).l,
  List.forall_mem_cons.mpr ⟨(snd_D mo_al (q_aload_n dL_law_425 rfl)).l,
  List.forall_mem_cons.mpr ⟨(snd_D mo_il (q_iload_n dL_law_426 rfl)).l,
  List.forall_mem_cons.mpr ⟨(snd_D mo_ic (q_iconst dL_law_427 (by decide))).l,
  List.forall_mem_cons.mpr ⟨(snd_D mo_b2 (q_iadd dL_law_428)).l,
  List.forall_mem_cons.mpr ⟨(snd_D mo_iald (q_iald dL_law_429)).l,
  List.forall_mem_cons.mpr ⟨((snd_CV sm_X6_set ⟨by decide, by decide⟩ rfl km_L_53 kt_X6_set kv_X6_set rfl ki_X6 kx_X6_set ⟨by decide, by decide, by decide +kernel⟩ (by decide) (by decide) dL_law_430)).l,
  List.forall_mem_cons.mpr ⟨(snd_D mo_al (q_aload_n dL_law_433 rfl)).l,
  List.forall_mem_cons.mpr ⟨(snd_D mo_al (q_aload_n dL_law_434 rfl)).l,
  List.forall_mem_cons.mpr ⟨(snd_D mo_il (q_iload_n dL_law_435 rfl)).l,
  List.forall_mem_cons.mpr ⟨(snd_D mo_ic (q_iconst dL_law_436 (by decide))).l,
  List.forall_mem_cons.mpr ⟨(snd_D mo_b2 (q_iadd dL_law_437)).l,
  List.forall_mem_cons.mpr ⟨(snd_D mo_iald (q_iald dL_law_438)).l,
  List.forall_mem_cons.mpr ⟨(snd_D mo_al (q_aload_n dL_law_439 rfl)).l,
  List.forall_mem_cons.mpr ⟨(snd_D mo_il (q_iload_n dL_law_440 rfl)).l,
  List.forall_mem_cons.mpr ⟨(snd_D mo_ic (q_iconst dL_law_441 (by decide))).l,
  List.forall_mem_cons.mpr ⟨(snd_D mo_b2 (q_iadd dL_law_442)).l,
  List.forall_mem_cons.mpr ⟨(snd_D mo_iald (q_iald dL_law_443)).l,
  List.forall_mem_cons.mpr ⟨((snd_CV sm_X7_set ⟨by decide, by decide⟩ rfl km_L_56 kt_X7_set kv_X7_set rfl ki_X7 kx_X7_set ⟨by decide, by decide, by decide +kernel⟩ (by decide) (by decide) dL_law_444)).l,
  List.forall_mem_cons.mpr ⟨((q_ic_eq dL_law_447 (by decide))).l,
  List.forall_mem_cons.mpr ⟨(snd_D mo_ic (q_iconst dL_law_450 (by decide))).l,
  List.forall_mem_cons.mpr ⟨(snd_D mo_al (q_aload_n dL_law_452 rfl)).l,
  List.forall_mem_cons.mpr ⟨((snd_CV sm_X6_endYear ⟨by decide, by decide⟩ rfl km_L_57 kt_X6_endYear kv_X6_endYear rfl ki_X6 kx_X6_endYear ⟨by decide, by decide, by decide +kernel⟩ (by decide) (by decide) dL_law_453)).l,
  List.forall_mem_cons.mpr ⟨(snd_D mo_al (q_aload_n dL_law_456 rfl)).l,
  List.forall_mem_cons.mpr ⟨((snd_CV sm_X7_endYear ⟨by decide, by decide⟩ rfl km_L_60 kt_X7_endYear kv_X7_endYear rfl ki_X7 kx_X7_endYear ⟨by decide, by decide, by decide +kernel⟩ (by decide) (by decide) dL_law_457)).l,
  List.forall_mem_cons.mpr ⟨((q_ic_eq dL_law_460 (by decide))).l,
  List.forall_mem_cons.mpr ⟨(snd_D mo_ic (q_iconst dL_law_463 (by decide))).l,
  List.forall_mem_cons.mpr ⟨(snd_D mo_al (q_aload_n dL_law_465 rfl)).l,
  List.forall_mem_cons.mpr ⟨(snd_D mo_al (q_aload_n dL_law_466 rfl)).l,
  List.forall_mem_cons.mpr ⟨(snd_D mo_il (q_iload_n dL_law_467 rfl)).l,
  List.forall_mem_cons.mpr ⟨(snd_D mo_ic (q_iconst dL_law_468 (by decide))).l,
  List.forall_mem_cons.mpr ⟨(snd_D mo_b2 (q_iadd dL_law_469)).l,
  List.forall_mem_cons.mpr ⟨(snd_D mo_iald (q_iald dL_law_470)).l,
  List.forall_mem_cons.mpr ⟨(snd_D mo_i2c (q_i2c dL_law_471)).l,
  List.forall_mem_cons.mpr ⟨((snd_CV sm_X6_type ⟨by decide, by decide⟩ rfl km_L_61 kt_X6_type kv_X6_type rfl ki_X6 kx_X6_type ⟨by decide, by decide, by decide +kernel⟩ (by decide) (by decide) dL_law_472)).l,
  List.forall_mem_cons.mpr ⟨(snd_D mo_al (q_aload_n dL_law_475 rfl)).l,
  List.forall_mem_cons.mpr ⟨(snd_D mo_al (q_aload_n dL_law_476 rfl)).l,
  List.forall_mem_cons.mpr ⟨(snd_D mo_il (q_iload_n dL_law_477 rfl)).l,
  List.forall_mem_cons.mpr ⟨(snd_D mo_ic (q_iconst dL_law_478 (by decide))).l,
  List.forall_mem_cons.mpr ⟨(snd_D mo_b2 (q_iadd dL_law_479)).l,
  List.forall_mem_cons.mpr ⟨(snd_D mo_iald (q_iald dL_law_480)).l,
  List.forall_mem_cons.mpr ⟨(snd_D mo_i2c (q_i2c dL_law_481)).l,
  List.forall_mem_cons.mpr ⟨((snd_CV sm_X7_type ⟨by decide, by decide⟩ rfl km_L_65 kt_X7_type kv_X7_type rfl ki_X7 kx_X7_type ⟨by decide, by decide, by decide +kernel⟩ (by decide) (by decide) dL_law_482)).l,
  List.forall_mem_cons.mpr ⟨((q_ic_eq dL_law_485 (by decide))).l,
  List.forall_mem_cons.mpr ⟨(snd_D mo_ic (q_iconst dL_law_488 (by decide))).l,
  List.forall_mem_cons.mpr ⟨(snd_D mo_al (q_aload_n dL_law_490 rfl)).l,
  List.forall_mem_cons.mpr ⟨((snd_CV sm_X6_clearText ⟨by decide, by decide⟩ rfl km_L_66 kt_X6_clearText kv_X6_clearText rfl ki_X6 kx_X6_clearText ⟨by decide, by decide, by decide +kernel⟩ (by decide) (by decide) dL_law_491)).l,
  List.forall_mem_cons.mpr ⟨(snd_D mo_al (q_aload_n dL_law_494 rfl)).l,
  List.forall_mem_cons.mpr ⟨((snd_CV sm_X7_clearText ⟨by decide, by decide⟩ rfl km_L_69 kt_X7_clearText kv_X7_clearText rfl ki_X7 kx_X7_clearText ⟨by decide, by decide, by decide +kernel⟩ (by decide) (by decide) dL_law_495)).l,
  List.forall_mem_cons.mpr ⟨((q_ic_eq dL_law_498 (by decide))).l,
  List.forall_mem_cons.mpr ⟨(snd_D mo_ic (q_iconst dL_law_501 (by decide))).l,
  List.forall_mem_cons.mpr ⟨(snd_D mo_al (q_aload_n dL_law_503 rfl)).l,
  List.forall_mem_cons.mpr ⟨((snd_CV sm_X6_undo ⟨by decide, by decide⟩ rfl km_L_70 kt_X6_undo kv_X6_undo rfl ki_X6 kx_X6_undo ⟨by decide, by decide, by decide +kernel⟩ (by decide) (by decide) dL_law_504)).l,
  List.forall_mem_cons.mpr ⟨(snd_D mo_al (q_aload_n dL_law_507 rfl)).l,
  List.forall_mem_cons.mpr ⟨((snd_CV sm_X7_undo ⟨by decide, by decide⟩ rfl km_L_73 kt_X7_undo kv_X7_undo rfl ki_X7 kx_X7_undo ⟨by decide, by decide, by decide +kernel⟩ (by decide) (by decide) dL_law_508)).l,
  List.forall_mem_cons.mpr ⟨((q_ic_eq dL_law_511 (by decide))).l,
  List.forall_mem_cons.mpr ⟨(snd_D mo_ic (q_iconst dL_law_514 (by decide))).l,
  List.forall_mem_cons.mpr ⟨(snd_D mo_al (q_aload_n dL_law_516 rfl)).l,
  List.forall_mem_cons.mpr ⟨((snd_CV sm_X6_keep ⟨by decide, by decide⟩ rfl km_L_74 kt_X6_keep kv_X6_keep rfl ki_X6 kx_X6_keep ⟨by decide, by decide, by decide +kernel⟩ (by decide) (by decide) dL_law_517)).l,
  List.forall_mem_cons.mpr ⟨(snd_D mo_al (q_aload_n dL_law_520 rfl)).l,
  List.forall_mem_cons.mpr ⟨((snd_CV sm_X7_keep ⟨by decide, by decide⟩ rfl km_L_77 kt_X7_keep kv_X7_keep rfl ki_X7 kx_X7_keep ⟨by decide, by decide, by decide +kernel⟩ (by decide) (by decide) dL_law_521)).l,
  List.forall_mem_cons.mpr ⟨((q_ic_eq dL_law_524 (by decide))).l,
  List.forall_mem_cons.mpr ⟨(snd_D mo_ic (q_iconst dL_law_527 (by decide))).l,
  List.forall_mem_cons.mpr ⟨(snd_D mo_al (q_aload_n dL_law_529 rfl)).l,
  List.forall_mem_cons.mpr ⟨((snd_CV sm_X6_restore ⟨by decide, by decide⟩ rfl km_L_78 kt_X6_restore kv_X6_restore rfl ki_X6 kx_X6_restore ⟨by decide, by decide, by decide +kernel⟩ (by decide) (by decide) dL_law_530)).l,
  List.forall_mem_cons.mpr ⟨(snd_D mo_al (q_aload_n dL_law_533 rfl)).l,
  List.forall_mem_cons.mpr ⟨((snd_CV sm_X7_restore ⟨by decide, by decide⟩ rfl km_L_81 kt_X7_restore kv_X7_restore rfl ki_X7 kx_X7_restore ⟨by decide, by decide, by decide +kernel⟩ (by decide) (by decide) dL_law_534)).l,
  List.forall_mem_cons.mpr ⟨((q_ic_eq dL_law_537 (by decide))).l,
  List.forall_mem_cons.mpr ⟨(snd_D mo_ic (q_iconst dL_law_540 (by decide))).l,
  List.forall_mem_cons.mpr ⟨(snd_D mo_al (q_aload_n dL_law_542 rfl)).l,
  List.forall_mem_cons.mpr ⟨(snd_D mo_al (q_aload_n dL_law_543 rfl)).l,
  List.forall_mem_cons.mpr ⟨(snd_D mo_il (q_iload_n dL_law_544 rfl)).l,
  List.forall_mem_cons.mpr ⟨(snd_D mo_ic (q_iconst dL_law_545 (by decide))).l,
  List.forall_mem_cons.mpr ⟨(snd_D mo_b2 (q_iadd dL_law_546)).l,
  List.forall_mem_cons.mpr ⟨(snd_D mo_iald (q_iald dL_law_547)).l,
  List.forall_mem_cons.mpr ⟨(snd_D mo_al (q_aload_n dL_law_548 rfl)).l,
  List.forall_mem_cons.mpr ⟨(snd_D mo_il (q_iload_n dL_law_549 rfl)).l,
  List.forall_mem_cons.mpr ⟨(snd_D mo_ic (q_iconst dL_law_550 (by decide))).l,
  List.forall_mem_cons.mpr ⟨(snd_D mo_b2 (q_iadd dL_law_551)).l,
  List.forall_mem_cons.mpr ⟨(snd_D mo_iald (q_iald dL_law_552)).l,
  List.forall_mem_cons.mpr ⟨((snd_CV sm_X6_kiln ⟨by decide, by decide⟩ rfl km_L_82 kt_X6_kiln kv_X6_kiln rfl ki_X6 kx_X6_kiln ⟨by decide, by decide, by decide +kernel⟩ (by decide) (by decide) dL_law_553)).l,
  List.forall_mem_cons.mpr ⟨(snd_D mo_al (q_aload_n dL_law_556 rfl)).l,
  List.forall_mem_cons.mpr ⟨(snd_D mo_al (q_aload_n dL_law_557 rfl)).l,
  List.forall_mem_cons.mpr ⟨(snd_D mo_il (q_iload_n dL_law_558 rfl)).l,
  List.forall_mem_cons.mpr ⟨(snd_D mo_ic (q_iconst dL_law_559 (by decide))).l,
  List.forall_mem_cons.mpr ⟨(snd_D mo_b2 (q_iadd dL_law_560)).l,
  List.forall_mem_cons.mpr ⟨(snd_D mo_iald (q_iald dL_law_561)).l,
  List.forall_mem_cons.mpr ⟨(snd_D mo_al (q_aload_n dL_law_562 rfl)).l,
  List.forall_mem_cons.mpr ⟨(snd_D mo_il (q_iload_n dL_law_563 rfl)).l,
  List.forall_mem_cons.mpr ⟨(snd_D mo_ic (q_iconst dL_law_564 (by decide))).l,
  List.forall_mem_cons.mpr ⟨(snd_D mo_b2 (q_iadd dL_law_565)).l,
  List.forall_mem_cons.mpr ⟨(snd_D mo_iald (q_iald dL_law_566)).l,
  List.forall_mem_cons.mpr ⟨((snd_CV sm_X7_kiln ⟨by decide, by decide⟩ rfl km_L_85 kt_X7_kiln kv_X7_kiln rfl ki_X7 kx_X7_kiln ⟨by decide, by decide, by decide +kernel⟩ (by decide) (by decide) dL_law_567)).l,
  List.forall_mem_cons.mpr ⟨((q_ic_eq dL_law_570 (by decide))).l,
  List.forall_mem_cons.mpr ⟨(snd_D mo_ic (q_iconst dL_law_573 (by decide))).l,
  List.forall_mem_cons.mpr ⟨(snd_D mo_al (q_aload_n dL_law_575 rfl)).l,
  List.forall_mem_cons.mpr ⟨(snd_D mo_al (q_aload_n dL_law_576 rfl)).l,
  List.forall_mem_cons.mpr ⟨(snd_D mo_il (q_iload_n dL_law_577 rfl)).l,
  List.forall_mem_cons.mpr ⟨(snd_D mo_ic (q_iconst dL_law_578 (by decide))).l,
  List.forall_mem_cons.mpr ⟨(snd_D mo_b2 (q_iadd dL_law_579)).l,
  List.forall_mem_cons.mpr ⟨(snd_D mo_iald (q_iald dL_law_580)).l,
  List.forall_mem_cons.mpr ⟨(snd_D mo_al (q_aload_n dL_law_581 rfl)).l,
  List.forall_mem_cons.mpr ⟨(snd_D mo_il (q_iload_n dL_law_582 rfl)).l,
  List.forall_mem_cons.mpr ⟨(snd_D mo_ic (q_iconst dL_law_583 (by decide))).l,
  List.forall_mem_cons.mpr ⟨(snd_D mo_b2 (q_iadd dL_law_584)).l,
  List.forall_mem_cons.mpr ⟨(snd_D mo_iald (q_iald dL_law_585)).l,
  List.forall_mem_cons.mpr ⟨((snd_CV sm_X6_ofYear ⟨by decide, by decide⟩ rfl km_L_86 kt_X6_ofYear kv_X6_ofYear rfl ki_X6 kx_X6_ofYear ⟨by decide, by decide, by decide +kernel⟩ (by decide) (by decide) dL_law_586)).l,
  List.forall_mem_cons.mpr ⟨(snd_D mo_al (q_aload_n dL_law_589 rfl)).l,
  List.forall_mem_cons.mpr ⟨(snd_D mo_al (q_aload_n dL_law_590 rfl)).l,
  List.forall_mem_cons.mpr ⟨(snd_D mo_il (q_iload_n dL_law_591 rfl)).l,
  List.forall_mem_cons.mpr ⟨(snd_D mo_ic (q_iconst dL_law_592 (by decide))).l,
  List.forall_mem_cons.mpr ⟨(snd_D mo_b2 (q_iadd dL_law_593)).l,
  List.forall_mem_cons.mpr ⟨(snd_D mo_iald (q_iald dL_law_594)).l,
  List.forall_mem_cons.mpr ⟨(snd_D mo_al (q_aload_n dL_law_595 rfl)).l,
  List.forall_mem_cons.mpr ⟨(snd_D mo_il (q_iload_n dL_law_596 rfl)).l,
  List.forall_mem_cons.mpr ⟨(snd_D mo_ic (q_iconst dL_law_597 (by decide))).l,
  List.forall_mem_cons.mpr ⟨(snd_D mo_b2 (q_iadd dL_law_598)).l,
  List.forall_mem_cons.mpr ⟨(snd_D mo_iald (q_iald dL_law_599)).l,
  List.forall_mem_cons.mpr ⟨((snd_CV sm_X7_ofYear ⟨by decide, by decide⟩ rfl km_L_89 kt_X7_ofYear kv_X7_ofYear rfl ki_X7 kx_X7_ofYear ⟨by decide, by decide, by decide +kernel⟩ (by decide) (by decide) dL_law_600)).l,
  List.forall_mem_cons.mpr ⟨((q_ic_eq dL_law_603 (by decide))).l,
  List.forall_mem_cons.mpr ⟨(snd_D mo_ic (q_iconst dL_law_606 (by decide))).l,
  List.forall_mem_cons.mpr ⟨(snd_D mo_al (q_aload_n dL_law_608 rfl)).l,
  List.forall_mem_cons.mpr ⟨(snd_D mo_al (q_aload_n dL_law_609 rfl)).l,
  List.forall_mem_cons.mpr ⟨(snd_D mo_il (q_iload_n dL_law_610 rfl)).l,
  List.forall_mem_cons.mpr ⟨(snd_D mo_ic (q_iconst dL_law_611 (by decide))).l,
  List.forall_mem_cons.mpr ⟨(snd_D mo_b2 (q_iadd dL_law_612)).l,
  List.forall_mem_cons.mpr ⟨(snd_D mo_iald (q_iald dL_law_613)).l,
  List.forall_mem_cons.mpr ⟨((q_if_eq dL_law_614 (by decide))).l,
  List.forall_mem_cons.mpr ⟨(snd_D mo_ic (q_iconst dL_law_617 (by decide))).l,
  List.forall_mem_cons.mpr ⟨(snd_D mo_goto (q_goto dL_law_618 (by decide))).l,
  List.forall_mem_cons.mpr ⟨(snd_D mo_ic (q_iconst dL_law_621 (by decide))).l,
  List.forall_mem_cons.mpr ⟨(snd_D mo_al (q_aload_n dL_law_622 rfl)).l,
  List.forall_mem_cons.mpr ⟨(snd_D mo_il (q_iload_n dL_law_623 rfl)).l,
  List.forall_mem_cons.mpr ⟨(snd_D mo_ic (q_iconst dL_law_624 (by decide))).l,
  List.forall_mem_cons.mpr ⟨(snd_D mo_b2 (q_iadd dL_law_625)).l,
  List.forall_mem_cons.mpr ⟨(snd_D mo_iald (q_iald dL_law_626)).l,
  List.forall_mem_cons.mpr ⟨(snd_D mo_al (q_aload_n dL_law_627 rfl)).l,
  List.forall_mem_cons.mpr ⟨(snd_D mo_il (q_iload_n dL_law_628 rfl)).l,
  List.forall_mem_cons.mpr ⟨(snd_D mo_ic (q_iconst dL_law_629 (by decide))).l,
  List.forall_mem_cons.mpr ⟨(snd_D mo_b2 (q_iadd dL_law_630)).l,
  List.forall_mem_cons.mpr ⟨(snd_D mo_iald (q_iald dL_law_631)).l,
  List.forall_mem_cons.mpr ⟨((snd_CV sm_X6_order ⟨by decide, by decide⟩ rfl km_L_90 kt_X6_order kv_X6_order rfl ki_X6 kx_X6_order ⟨by decide, by decide, by decide +kernel⟩ (by decide) (by decide) dL_law_632)).l,
  List.forall_mem_cons.mpr ⟨(snd_D mo_al (q_aload_n dL_law_635 rfl)).l,
  List.forall_mem_cons.mpr ⟨(snd_D mo_al (q_aload_n dL_law_636 rfl)).l,
  List.forall_mem_cons.mpr ⟨(snd_D mo_il (q_iload_n dL_law_637 rfl)).l,
  List.forall_mem_cons.mpr ⟨(snd_D mo_ic (q_iconst dL_law_638 (by decide))).l,
  List.forall_mem_cons.mpr ⟨(snd_D mo_b2 (q_iadd dL_law_639)).l,
  List.forall_mem_cons.mpr ⟨(snd_D mo_iald (q_iald dL_law_640)).l,
  List.forall_mem_cons.mpr ⟨((q_if_eq dL_law_641 (by decide))).l,
  List.forall_mem_cons.mpr ⟨(snd_D mo_ic (q_iconst dL_law_644 (by decide))).l,
  List.forall_mem_cons.mpr ⟨(snd_D mo_goto (q_goto dL_law_645 (by decide))).l,
  List.forall_mem_cons.mpr ⟨(snd_D mo_ic (q_iconst dL_law_648 (by decide))).l,
  List.forall_mem_cons.mpr ⟨(snd_D mo_al (q_aload_n dL_law_649 rfl)).l,
  List.forall_mem_cons.mpr ⟨(snd_D mo_il (q_iload_n dL_law_650 rfl)).l,
  List.forall_mem_cons.mpr ⟨(snd_D mo_ic (q_iconst dL_law_651 (by decide))).l,
  List.forall_mem_cons.mpr ⟨(snd_D mo_b2 (q_iadd dL_law_652)).l,
  List.forall_mem_cons.mpr ⟨(snd_D mo_iald (q_iald dL_law_653)).l,
  List.forall_mem_cons.mpr ⟨(snd_D mo_al (q_aload_n dL_law_654 rfl)).l,
  List.forall_mem_cons.mpr ⟨(snd_D mo_il (q_iload_n dL_law_655 rfl)).l,
  List.forall_mem_cons.mpr ⟨(snd_D mo_ic (q_iconst dL_law_656 (by decide))).l,
  List.forall_mem_cons.mpr ⟨(snd_D mo_b2 (q_iadd dL_law_657)).l,
  List.forall_mem_cons.mpr ⟨(snd_D mo_iald (q_iald dL_law_658)).l,
  List.forall_mem_cons.mpr ⟨((snd_CV sm_X7_order ⟨by decide, by decide⟩ rfl km_L_94 kt_X7_order kv_X7_order rfl ki_X7 kx_X7_order ⟨by decide, by decide, by decide +kernel⟩ (by decide) (by decide) dL_law_659)).l,
  List.forall_mem_cons.mpr ⟨((q_ic_eq dL_law_662 (by decide))).l,
  List.forall_mem_cons.mpr ⟨(snd_D mo_ic (q_iconst dL_law_665 (by decide))).l,
  List.forall_mem_cons.mpr ⟨(snd_D mo_al (q_aload_n dL_law_667 rfl)).l,
  List.forall_mem_cons.mpr ⟨(snd_D mo_al (q_aload_n dL_law_668 rfl)).l,
  List.forall_mem_cons.mpr ⟨(snd_D mo_il (q_iload_n dL_law_669 rfl)).l,
  List.forall_mem_cons.mpr ⟨(snd_D mo_ic (q_iconst dL_law_670 (by decide))).l,
  List.forall_mem_cons.mpr ⟨(snd_D mo_b2 (q_iadd dL_law_671)).l,
  List.forall_mem_cons.mpr ⟨(snd_D mo_iald (q_iald dL_law_672)).l,
  List.forall_mem_cons.mpr ⟨((q_if_eq dL_law_673 (by decide))).l,
  List.forall_mem_cons.mpr ⟨(snd_D mo_ic (q_iconst dL_law_676 (by decide))).l,
  List.forall_mem_cons.mpr ⟨(snd_D mo_goto (q_goto dL_law_677 (by decide))).l,
  List.forall_mem_cons.mpr ⟨(snd_D mo_ic (q_iconst dL_law_680 (by decide))).l,
  List.forall_mem_cons.mpr ⟨(snd_D mo_al (q_aload_n dL_law_681 rfl)).l,
  List.forall_mem_cons.mpr ⟨(snd_D mo_il (q_iload_n dL_law_682 rfl)).l,
  List.forall_mem_cons.mpr ⟨(snd_D mo_ic (q_iconst dL_law_683 (by decide))).l,
  List.forall_mem_cons.mpr ⟨(snd_D mo_b2 (q_iadd dL_law_684)).l,
  List.forall_mem_cons.mpr ⟨(snd_D mo_iald (q_iald dL_law_685)).l,
  List.forall_mem_cons.mpr ⟨((snd_CV sm_X6_depth ⟨by decide, by decide⟩ rfl km_L_95 kt_X6_depth kv_X6_depth rfl ki_X6 kx_X6_depth ⟨by decide, by decide, by decide +kernel⟩ (by decide) (by decide) dL_law_686)).l,
  List.forall_mem_cons.mpr ⟨(snd_D mo_al (q_aload_n dL_law_689 rfl)).l,
  List.forall_mem_cons.mpr ⟨(snd_D mo_al (q_aload_n dL_law_690 rfl)).l,
  List.forall_mem_cons.mpr ⟨(snd_D mo_il (q_iload_n dL_law_691 rfl)).l,
  List.forall_mem_cons.mpr ⟨(snd_D mo_ic (q_iconst dL_law_692 (by decide))).l,
  List.forall_mem_cons.mpr ⟨(snd_D mo_b2 (q_iadd dL_law_693)).l,
  List.forall_mem_cons.mpr ⟨(snd_D mo_iald (q_iald dL_law_694)).l,
  List.forall_mem_cons.mpr ⟨((q_if_eq dL_law_695 (by decide))).l,
  List.forall_mem_cons.mpr ⟨(snd_D mo_ic (q_iconst dL_law_698 (by decide))).l,
  List.forall_mem_cons.mpr ⟨(snd_D mo_goto (q_goto dL_law_699 (by decide))).l,
  List.forall_mem_cons.mpr ⟨(snd_D mo_ic (q_iconst dL_law_702 (by decide))).l,
  List.forall_mem_cons.mpr ⟨(snd_D mo_al (q_aload_n dL_law_703 rfl)).l,
  List.forall_mem_cons.mpr ⟨(snd_D mo_il (q_iload_n dL_law_704 rfl)).l,
  List.forall_mem_cons.mpr ⟨(snd_D mo_ic (q_iconst dL_law_705 (by decide))).l,
  List.forall_mem_cons.mpr ⟨(snd_D mo_b2 (q_iadd dL_law_706)).l,
  List.forall_mem_cons.mpr ⟨(snd_D mo_iald (q_iald dL_law_707)).l,
  List.forall_mem_cons.mpr ⟨((snd_CV sm_X7_depth ⟨by decide, by decide⟩ rfl km_L_99 kt_X7_depth kv_X7_depth rfl ki_X7 kx_X7_depth ⟨by decide, by decide, by decide +kernel⟩ (by decide) (by decide) dL_law_708)).l,
  List.forall_mem_cons.mpr ⟨((q_ic_eq dL_law_711 (by decide))).l,
  List.forall_mem_cons.mpr ⟨(snd_D mo_ic (q_iconst dL_law_714 (by decide))).l,
  List.forall_mem_cons.mpr ⟨(snd_D mo_al (q_aload_n dL_law_716 rfl)).l,
  List.forall_mem_cons.mpr ⟨(snd_D mo_al (q_aload_n dL_law_717 rfl)).l,
  List.forall_mem_cons.mpr ⟨(snd_D mo_il (q_iload_n dL_law_718 rfl)).l,
  List.forall_mem_cons.mpr ⟨(snd_D mo_ic (q_iconst dL_law_719 (by decide))).l,
  List.forall_mem_cons.mpr ⟨(snd_D mo_b2 (q_iadd dL_law_720)).l,
  List.forall_mem_cons.mpr ⟨(snd_D mo_iald (q_iald dL_law_721)).l,
  List.forall_mem_cons.mpr ⟨((snd_CV sm_X6_count ⟨by decide, by decide⟩ rfl km_L_100 kt_X6_count kv_X6_count rfl ki_X6 kx_X6_count ⟨by decide, by decide, by decide +kernel⟩ (by decide) (by decide) dL_law_722)).l,
  List.forall_mem_cons.mpr ⟨(snd_D mo_al (q_aload_n dL_law_725 rfl)).l,
  List.forall_mem_cons.mpr ⟨(snd_D mo_al (q_aload_n dL_law_726 rfl)).l,
  List.forall_mem_cons.mpr ⟨(snd_D mo_il (q_iload_n dL_law_727 rfl)).l,
  List.forall_mem_cons.mpr ⟨(snd_D mo_ic (q_iconst dL_law_728 (by decide))).l,
  List.forall_mem_cons.mpr ⟨(snd_D mo_b2 (q_iadd dL_law_729)).l,
  List.forall_mem_cons.mpr ⟨(snd_D mo_iald (q_iald dL_law_730)).l,
  List.forall_mem_cons.mpr ⟨((snd_CV sm_X7_count ⟨by decide, by decide⟩ rfl km_L_103 kt_X7_count kv_X7_count rfl ki_X7 kx_X7_count ⟨by decide, by decide, by decide +kernel⟩ (by decide) (by decide) dL_law_731)).l,
  List.forall_mem_cons.mpr ⟨((q_ic_eq dL_law_734 (by decide))).l,
  List.forall_mem_cons.mpr ⟨(snd_D mo_ic (q_iconst dL_law_737 (by decide))).l,
  List.forall_mem_cons.mpr ⟨(snd_D mo_inc (q_inc dL_law_739 (by decide))).l,
  List.forall_mem_cons.mpr ⟨(snd_D mo_goto (q_goto dL_law_742 (by decide))).l,
  List.forall_mem_cons.mpr ⟨(snd_D mo_ic (q_iconst dL_law_745 (by decide))).l,
  List.forall_mem_cons.mpr ⟨l_ret dL_law_746,
  fun _ h => absurd h List.not_mem_nil⟩⟩⟩⟩⟩⟩⟩⟩⟩⟩⟩⟩⟩⟩⟩⟩⟩⟩⟩⟩⟩⟩⟩⟩⟩⟩⟩⟩⟩⟩⟩⟩⟩⟩⟩⟩⟩⟩⟩⟩⟩⟩⟩⟩⟩⟩⟩⟩⟩⟩⟩⟩⟩⟩⟩⟩⟩⟩⟩⟩⟩⟩⟩⟩⟩⟩⟩⟩⟩⟩⟩⟩⟩⟩⟩⟩⟩⟩⟩⟩⟩⟩⟩⟩⟩⟩⟩⟩⟩⟩⟩⟩⟩⟩⟩⟩⟩⟩⟩⟩⟩⟩⟩⟩⟩⟩⟩⟩⟩⟩⟩⟩⟩⟩⟩⟩⟩⟩⟩⟩⟩⟩⟩⟩⟩⟩⟩⟩⟩⟩⟩⟩⟩⟩⟩⟩⟩⟩⟩⟩⟩⟩⟩⟩⟩⟩⟩⟩⟩⟩⟩⟩⟩⟩⟩⟩⟩⟩⟩⟩⟩⟩⟩⟩⟩⟩⟩⟩⟩⟩⟩⟩⟩⟩⟩⟩⟩⟩⟩⟩⟩⟩⟩⟩⟩⟩⟩⟩⟩⟩⟩⟩⟩⟩⟩⟩⟩⟩⟩⟩⟩⟩⟩⟩⟩⟩⟩⟩⟩⟩⟩⟩⟩⟩⟩⟩⟩⟩⟩⟩⟩⟩⟩⟩⟩⟩⟩⟩⟩⟩⟩⟩⟩⟩⟩⟩⟩⟩⟩⟩⟩⟩⟩⟩⟩⟩⟩⟩⟩⟩⟩⟩⟩⟩⟩⟩⟩⟩⟩⟩⟩⟩⟩⟩⟩⟩⟩⟩⟩⟩⟩⟩⟩⟩⟩⟩⟩⟩⟩⟩⟩⟩⟩⟩⟩⟩⟩⟩⟩⟩⟩⟩⟩⟩⟩⟩⟩⟩⟩⟩⟩⟩⟩⟩⟩⟩⟩⟩⟩⟩⟩⟩⟩⟩⟩⟩⟩⟩⟩⟩⟩⟩⟩⟩⟩⟩⟩⟩⟩⟩⟩⟩⟩⟩⟩⟩⟩⟩⟩⟩⟩⟩⟩⟩⟩⟩⟩⟩⟩⟩⟩⟩⟩⟩⟩⟩⟩⟩⟩⟩⟩⟩⟩⟩⟩⟩⟩⟩⟩⟩⟩⟩⟩⟩⟩⟩⟩⟩⟩⟩⟩⟩⟩⟩⟩⟩⟩⟩⟩⟩⟩⟩⟩⟩⟩⟩⟩⟩⟩⟩⟩⟩⟩⟩⟩⟩⟩⟩⟩⟩⟩⟩⟩⟩⟩⟩⟩⟩⟩⟩⟩⟩⟩⟩⟩⟩⟩⟩⟩⟩⟩⟩⟩⟩⟩⟩⟩⟩⟩⟩⟩⟩⟩⟩⟩⟩⟩⟩⟩⟩⟩⟩⟩⟩⟩⟩⟩⟩⟩⟩⟩⟩⟩⟩⟩⟩⟩⟩⟩⟩
theorem law_sound {p : Program} {l : Launch} {e : Env} {s : State} {m : MethodId} {b : Nat} {below : List Frame} {meth : Method} {c : Code} {D : va_G} {cA : Nat → ClassId} {n0 : Nat} {g0 : mG} {L0 : Nat → Nat} {ge : mG} (cx : CX p l e room_1 s m #[Value.ref b] below meth c D cA n0 g0 L0 R_law code 4 ("law", 10)) (hr : meth.sig.returnType = ret) (hn : s.heap.size ≤ n0) (hc : gC ge - gC g0 ≤ 600000) (hs : gS ge - gS g0 ≤ 7302250) {pc : Nat} {ls st : List Value} {g : mG} (h : WP m_L_law (Qx (some (.int 1)) ge) pc ls st g) : MP p l e room_1 s m #[Value.ref b] below meth c D cA n0 g0 L0 4 ge (lw_Z below #[Value.ref b] s) pc ls st g :=
  h _ fun pc ls st g ht => lk_all (p := fun pc t => LSND t pc) l_bad m_L_law sl_L_law pc p l e s m b below meth c D cA n0 g0 L0 ge cx hr hn hc hs ls st g ht
