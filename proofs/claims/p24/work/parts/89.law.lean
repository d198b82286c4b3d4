/-! ===== the law: what the skeleton gives ===== -/
def R_law : String := "KilnPermitsLaw"
def lw_P (b : Addr) (xs : List Int32) (args : Array Value) (s : State) : Prop := args = #[.ref b] ∧ s.IntsAt b xs ∧ xs.length ≤ 260 ∧ (Jvm.Cond.and given_1 narrow_1).before args s = true
def lw_Q (_ : Array Value) (s : State) (o : Outcome) (t : State) : Prop := o = .returned (some (.int 1)) ∧ Framed s o t [] 685115 7046903
def lw_Z (below : List Frame) (a : Array Value) (s : State) : State → Prop := fun t => ∃ o, t.status = .running ∧ Ended t below o ∧ lw_Q a s o t
/-- the law's own end, with 1 on the stack, nothing written that was there before, its room as the claim has it -/
theorem lw_ret {p : Program} {l : Launch} {e : Env} {s : State} {m : MethodId} {below : List Frame} {meth : Method} {c : Code} {b : Nat} (hx : p.tables.exec = Jvm.exec) (hb : c.code = code) (hr : meth.sig.returnType = ret) (hlocks : meth.locks = false) {pc : Nat} {H : Heap} {ls : Array Slot} (hdg : decode code pc = .ok (.ireturn, 1)) : W p l e room_1 s m #[Value.ref b] below meth c H [] 685115 7046903 (lw_Z below #[Value.ref b] s) (F0 m pc ls [.int 1]) := by
  intro T hT X
  obtain ⟨fs, hret, hrun, hended, hW, hframe⟩ := X.leave (v := some (.int 1)) (hlocks := hlocks) (fun h => by rw [hr] at h; cases h)
  have hmeth' : T.vm.method? m = some meth := X.method'
  refine ⟨T.setFrames fs, ?_, .returned (some (.int 1)), hrun, hended, rfl, ⟨_, rfl⟩, hW, hframe⟩
  jvm_step X.here [X.here.top, hx, hb, hdg, hmeth', hr, ret, narrow_b1]
  (try refine ⟨rfl, ?_⟩); (try refine ⟨rfl, ?_⟩)
  first | (intro acts; rw [hret _ acts rfl rfl rfl]) | rw [hret _ _ rfl rfl rfl]
  exact Steps.refl _
/-- what holds at the law's entry: the machine, the code, the tables' words (any of lw_tbl by 'hts w (by decide +kernel)'), the script of L ints xs at the cell b, what the Statement gives of the start (any of its parts by flat_of_before) -/
def lw_At (p : Program) (s : State) (m : MethodId) (meth : Method) (c : Code) (b L : Nat) (xs : Nat → Int32) : Prop :=
  p.tables.exec = Jvm.exec ∧ c.code = code ∧ meth.sig.returnType = ret ∧ c.maxLocals = 12 ∧ s.vm.findClass R_law = some m.cls ∧ (∀ w ∈ lw_tbl, w.before #[Value.ref b] s = true) ∧ va_X b L xs s s.heap ∧ b < s.heap.size ∧ meth.locks = false ∧ (Jvm.Cond.and given_1 narrow_1).before #[Value.ref b] s = true
/-! ===== the law's program ===== -/
def f_lret : List Value → Option (Prop × Option Value) := fun st => match st with
  | [.int v] => some (v = 1, some (.int v))
  | _ => none
/-! KilnPermitsLaw.law([I)Z -/
def m_L_law : List (Nat × mT) := [(0, tE (f_new 7)),
  (3, tD (f_dup)),
  (4, tC w_X6_init 7 1),
  (7, tD (f_as 1 1)),
  (8, tD (f_ic (nI 0) 1)),
  (9, tD (f_is 2 1)),
  (10, tD (f_il 2 1)),
  (11, tD (f_ic (nI 22) 2)),
  (13, tI2 (fun x y => y ≤ x) 177),
  (16, tD (f_al 0 1)),
  (17, tD (f_ic (nI 2) 1)),
  (18, tD (f_il 2 1)),
  (19, tD (f_b2 fun x y => x * y)),
  (20, tC w_L_cell 0 2),
  (23, tD (f_is 3 1)),
  (24, tD (f_al 0 1)),
  (25, tD (f_ic (nI 2) 1)),
  (26, tD (f_il 2 1)),
  (27, tD (f_b2 fun x y => x * y)),
  (28, tD (f_ic (nI 1) 1)),
  (29, tD (f_b2 fun x y => x + y)),
  (30, tC w_L_cell 0 2),
  (33, tD (f_is 4 2)),
  (35, tD (f_al 1 1)),
  (36, tC w_L_digest 0 1),
  (39, tD (f_ls 5 2)),
  (41, tD (f_al 1 1)),
  (42, tD (f_ic (nI 19) 2)),
  (44, tC w_X6_count 7 2),
  (47, tD (f_is 7 2)),
  (49, tD (f_al 1 1)),
  (50, tD (f_il 3 1)),
  (51, tD (f_il 4 2)),
  (53, tC w_L_act 0 3),
  (56, tD (f_is 8 2)),
  (58, tD (f_il 8 2)),
  (60, tI1 (fun x => 0 ≤ x) 86),
  (63, tD (f_al 1 1)),
  (64, tC w_L_digest 0 1),
  (67, tD (f_ll 5 2)),
  (69, tD (f_lcmp)),
  (70, tI1 (fun x => ¬ x = 0) 84),
  (73, tD (f_al 1 1)),
  (74, tD (f_ic (nI 19) 2)),
  (76, tC w_X6_count 7 2),
  (79, tD (f_il 7 2)),
  (81, tI2 (fun x y => x = y) 86),
  (84, tD (f_ic (nI 0) 1)),
  (86, tD (f_il 8 2)),
  (88, tI1 (fun x => x < 0) 162),
  (91, tD (f_il 3 1)),
  (92, tD (f_ic (nI 4) 1)),
  (93, tC w_L_low 0 2),
  (96, tI1 (fun x => ¬ x = 0) 162),
  (99, tD (f_al 1 1)),
  (100, tC w_L_digest 0 1),
  (103, tD (f_ls 9 2)),
  (105, tD (f_al 1 1)),
  (106, tC w_X6_undo 7 1),
  (109, tD (f_is 11 2)),
  (111, tD (f_al 1 1)),
  (112, tC w_L_digest 0 1),
  (115, tD (f_ll 5 2)),
  (117, tD (f_lcmp)),
  (118, tI1 (fun x => ¬ x = 0) 160),
  (121, tD (f_il 11 2)),
  (123, tD (f_il 7 2)),
  (125, tD (f_ic (nI 4) 1)),
  (126, tI2 (fun x y => ¬ x = y) 133),
  (129, tD (f_ic (nI 3) 1)),
  (130, tD (f_goto 135)),
  (133, tD (f_il 7 2)),
  (135, tI2 (fun x y => ¬ x = y) 160),
  (138, tD (f_al 1 1)),
  (139, tD (f_il 3 1)),
  (140, tD (f_il 4 2)),
  (142, tC w_L_act 0 3),
  (145, tD (f_il 8 2)),
  (147, tI2 (fun x y => ¬ x = y) 160),
  (150, tD (f_al 1 1)),
  (151, tC w_L_digest 0 1),
  (154, tD (f_ll 9 2)),
  (156, tD (f_lcmp)),
  (157, tI1 (fun x => x = 0) 162),
  (160, tD (f_ic (nI 0) 1)),
  (162, tD (f_al 1 1)),
  (163, tC w_L_sums 0 1),
  (166, tI1 (fun x => ¬ x = 0) 171),
  (169, tD (f_ic (nI 0) 1)),
  (171, tD (f_inc 2 (nI 1))),
  (174, tD (f_goto 10)),
  (177, tD (f_ic (nI 1) 1)),
  (178, tR f_lret)]
abbrev w_L_law : mS := wm m_L_law 1 11
set_option maxRecDepth 100000 in
theorem lo_L_law : locs_ok m_L_law := List.forall_mem_cons.mpr ⟨loc_E (fun _ => mo_new),
  List.forall_mem_cons.mpr ⟨loc_D mo_dup,
  List.forall_mem_cons.mpr ⟨loc_C sm_X6_init.1,
  List.forall_mem_cons.mpr ⟨loc_D mo_as,
  List.forall_mem_cons.mpr ⟨loc_D mo_ic,
  List.forall_mem_cons.mpr ⟨loc_D mo_is,
  List.forall_mem_cons.mpr ⟨loc_D mo_il,
  List.forall_mem_cons.mpr ⟨loc_D mo_ic,
  List.forall_mem_cons.mpr ⟨loc_I2,
  List.forall_mem_cons.mpr ⟨loc_D mo_al,
  List.forall_mem_cons.mpr ⟨loc_D mo_ic,
  List.forall_mem_cons.mpr ⟨loc_D mo_il,
  List.forall_mem_cons.mpr ⟨loc_D mo_b2,
  List.forall_mem_cons.mpr ⟨loc_C sm_L_cell.1,
  List.forall_mem_cons.mpr ⟨loc_D mo_is,
  List.forall_mem_cons.mpr ⟨loc_D mo_al,
  List.forall_mem_cons.mpr ⟨loc_D mo_ic,
  List.forall_mem_cons.mpr ⟨loc_D mo_il,
  List.forall_mem_cons.mpr ⟨loc_D mo_b2,
  List.forall_mem_cons.mpr ⟨loc_D mo_ic,
  List.forall_mem_cons.mpr ⟨loc_D mo_b2,
  List.forall_mem_cons.mpr ⟨loc_C sm_L_cell.1,
  List.forall_mem_cons.mpr ⟨loc_D mo_is,
  List.forall_mem_cons.mpr ⟨loc_D mo_al,
  List.forall_mem_cons.mpr ⟨loc_C sm_L_digest.1,
  List.forall_mem_cons.mpr ⟨loc_D mo_ls,
  List.forall_mem_cons.mpr ⟨loc_D mo_al,
  List.forall_mem_cons.mpr ⟨loc_D mo_ic,
  List.forall_mem_cons.mpr ⟨loc_C sm_X6_count.1,
  List.forall_mem_cons.mpr ⟨loc_D mo_is,
  List.forall_mem_cons.mpr ⟨loc_D mo_al,
  List.forall_mem_cons.mpr ⟨loc_D mo_il,
  List.forall_mem_cons.mpr ⟨loc_D mo_il,
  List.forall_mem_cons.mpr ⟨loc_C sm_L_act.1,
  List.forall_mem_cons.mpr ⟨loc_D mo_is,
  List.forall_mem_cons.mpr ⟨loc_D mo_il,
  List.forall_mem_cons.mpr ⟨loc_I1,
  List.forall_mem_cons.mpr ⟨loc_D mo_al,
  List.forall_mem_cons.mpr ⟨loc_C sm_L_digest.1,
  List.forall_mem_cons.mpr ⟨loc_D mo_ll,
  List.forall_mem_cons.mpr ⟨loc_D mo_lcmp,
  List.forall_mem_cons.mpr ⟨loc_I1,
  List.forall_mem_cons.mpr ⟨loc_D mo_al,
  List.forall_mem_cons.mpr ⟨loc_D mo_ic,
  List.forall_mem_cons.mpr ⟨loc_C sm_X6_count.1,
  List.forall_mem_cons.mpr ⟨loc_D mo_il,
  List.forall_mem_cons.mpr ⟨loc_I2,
  List.forall_mem_cons.mpr ⟨loc_D mo_ic,
  List.forall_mem_cons.mpr ⟨loc_D mo_il,
  List.forall_mem_cons.mpr ⟨loc_I1,
  List.forall_mem_cons.mpr ⟨loc_D mo_il,
  List.forall_mem_cons.mpr ⟨loc_D mo_ic,
  List.forall_mem_cons.mpr ⟨loc_C sm_L_low.1,
  List.forall_mem_cons.mpr ⟨loc_I1,
  List.forall_mem_cons.mpr ⟨loc_D mo_al,
  List.forall_mem_cons.mpr ⟨loc_C sm_L_digest.1,
  List.forall_mem_cons.mpr ⟨loc_D mo_ls,
  List.forall_mem_cons.mpr ⟨loc_D mo_al,
  List.forall_mem_cons.mpr ⟨loc_C sm_X6_undo.1,
  List.forall_mem_cons.mpr ⟨loc_D mo_is,
  List.forall_mem_cons.mpr ⟨loc_D mo_al,
  List.forall_mem_cons.mpr ⟨loc_C sm_L_digest.1,
  List.forall_mem_cons.mpr ⟨loc_D mo_ll,
  List.forall_mem_cons.mpr ⟨loc_D mo_lcmp,
  List.forall_mem_cons.mpr ⟨loc_I1,
  List.forall_mem_cons.mpr ⟨loc_D mo_il,
  List.forall_mem_cons.mpr ⟨loc_D mo_il,
  List.forall_mem_cons.mpr ⟨loc_D mo_ic,
  List.forall_mem_cons.mpr ⟨loc_I2,
  List.forall_mem_cons.mpr ⟨loc_D mo_ic,
  List.forall_mem_cons.mpr ⟨loc_D mo_goto,
  List.forall_mem_cons.mpr ⟨loc_D mo_il,
  List.forall_mem_cons.mpr ⟨loc_I2,
  List.forall_mem_cons.mpr ⟨loc_D mo_al,
  List.forall_mem_cons.mpr ⟨loc_D mo_il,
  List.forall_mem_cons.mpr ⟨loc_D mo_il,
  List.forall_mem_cons.mpr ⟨loc_C sm_L_act.1,
  List.forall_mem_cons.mpr ⟨loc_D mo_il,
  List.forall_mem_cons.mpr ⟨loc_I2,
  List.forall_mem_cons.mpr ⟨loc_D mo_al,
  List.forall_mem_cons.mpr ⟨loc_C sm_L_digest.1,
  List.forall_mem_cons.mpr ⟨loc_D mo_ll,
  List.forall_mem_cons.mpr ⟨loc_D mo_lcmp,
  List.forall_mem_cons.mpr ⟨loc_I1,
  List.forall_mem_cons.mpr ⟨loc_D mo_ic,
  List.forall_mem_cons.mpr ⟨loc_D mo_al,
  List.forall_mem_cons.mpr ⟨loc_C sm_L_sums.1,
  List.forall_mem_cons.mpr ⟨loc_I1,
  List.forall_mem_cons.mpr ⟨loc_D mo_ic,
  List.forall_mem_cons.mpr ⟨loc_D mo_inc,
  List.forall_mem_cons.mpr ⟨loc_D mo_goto,
  List.forall_mem_cons.mpr ⟨loc_D mo_ic,
  List.forall_mem_cons.mpr ⟨loc_R,
  fun _ h => absurd h List.not_mem_nil⟩⟩⟩⟩⟩⟩⟩⟩⟩⟩⟩⟩⟩⟩⟩⟩⟩⟩⟩⟩⟩⟩⟩⟩⟩⟩⟩⟩⟩⟩⟩⟩⟩⟩⟩⟩⟩⟩⟩⟩⟩⟩⟩⟩⟩⟩⟩⟩⟩⟩⟩⟩⟩⟩⟩⟩⟩⟩⟩⟩⟩⟩⟩⟩⟩⟩⟩⟩⟩⟩⟩⟩⟩⟩⟩⟩⟩⟩⟩⟩⟩⟩⟩⟩⟩⟩⟩⟩⟩⟩⟩⟩⟩
theorem e_L_law_0 {Q : mQ} {ls st : List Value} {g : mG} : WP m_L_law Q 0 ls st g = ∃ a : Nat, (frsh g a ∧ (7 = 5 → gK g (a + 1) = 0) ∧ alv g ls ∧ alv g st) ∧ WP m_L_law Q 3 ls (.ref a :: st) (nw g a 7 0 (xn 7) (fun _ => 0)) := E_new lo_L_law rfl
theorem e_L_law_3 {Q : mQ} {ls st : List Value} {g : mG} {x : Value} : WP m_L_law Q 3 ls (x :: st) g = (cat1 x ∧ WP m_L_law Q 4 ls (x :: x :: st) g) := E_dup lo_L_law rfl
theorem e_L_law_4 {Q : mQ} {ls st : List Value} {g : mG} {b : Nat} : WP m_L_law Q 4 ls (.ref b :: st) g = (st.length ≤ 4 ∧ gK g b = 7 ∧ stbs g ls ∧ stbs g st ∧ w_X6_init [.ref b] g (fun v g' => WP m_L_law Q 7 ls (v.toList ++ st) g')) := E_CV (ar := [.ref b]) lo_L_law rfl rfl rfl (by decide)
theorem e_L_law_7 {Q : mQ} {l0 l1 l2 l3 l4 l5 l6 l7 l8 l9 l10 l11 : Value} {st : List Value} {g : mG} {x : Nat} : WP m_L_law Q 7 [l0, l1, l2, l3, l4, l5, l6, l7, l8, l9, l10, l11] (.ref x :: st) g = (nl1 l0 ∧ WP m_L_law Q 8 [l0, .ref x, l2, l3, l4, l5, l6, l7, l8, l9, l10, l11] st g) := E_as (i := 1) (n := 1) lo_L_law rfl (Nat.le_of_ble_eq_true rfl)
theorem e_L_law_7n {Q : mQ} {l0 l1 l2 l3 l4 l5 l6 l7 l8 l9 l10 l11 : Value} {st : List Value} {g : mG} : WP m_L_law Q 7 [l0, l1, l2, l3, l4, l5, l6, l7, l8, l9, l10, l11] (.null :: st) g = (nl1 l0 ∧ WP m_L_law Q 8 [l0, .null, l2, l3, l4, l5, l6, l7, l8, l9, l10, l11] st g) := E_asn (i := 1) (n := 1) lo_L_law rfl (Nat.le_of_ble_eq_true rfl)
theorem e_L_law_8 {Q : mQ} {ls st : List Value} {g : mG} : WP m_L_law Q 8 ls st g = WP m_L_law Q 9 ls (.int (nI 0) :: st) g := E_ic (v := nI 0) (n := 1) lo_L_law rfl
theorem e_L_law_9 {Q : mQ} {l0 l1 l2 l3 l4 l5 l6 l7 l8 l9 l10 l11 : Value} {st : List Value} {g : mG} {x : Int32} : WP m_L_law Q 9 [l0, l1, l2, l3, l4, l5, l6, l7, l8, l9, l10, l11] (.int x :: st) g = (nl1 l1 ∧ WP m_L_law Q 10 [l0, l1, .int x, l3, l4, l5, l6, l7, l8, l9, l10, l11] st g) := E_is (i := 2) (n := 1) lo_L_law rfl (Nat.le_of_ble_eq_true rfl)
theorem e_L_law_10 {Q : mQ} {l0 l1 l3 l4 l5 l6 l7 l8 l9 l10 l11 : Value} {st : List Value} {g : mG} {x : Int32} : WP m_L_law Q 10 [l0, l1, .int x, l3, l4, l5, l6, l7, l8, l9, l10, l11] st g = WP m_L_law Q 11 [l0, l1, .int x, l3, l4, l5, l6, l7, l8, l9, l10, l11] (.int x :: st) g := E_il (i := 2) (n := 1) lo_L_law rfl rfl
theorem e_L_law_11 {Q : mQ} {ls st : List Value} {g : mG} : WP m_L_law Q 11 ls st g = WP m_L_law Q 13 ls (.int (nI 22) :: st) g := E_ic (v := nI 22) (n := 2) lo_L_law rfl
theorem e_L_law_13 {Q : mQ} {ls st : List Value} {g : mG} {x y : Int32} : WP m_L_law Q 13 ls (.int y :: .int x :: st) g = ((y ≤ x → WP m_L_law Q 177 ls st g) ∧ (¬ (y ≤ x) → WP m_L_law Q 16 ls st g)) := E_I2 (c := fun x y => y ≤ x) (t := 177) lo_L_law rfl
theorem e_L_law_16 {Q : mQ} {l1 l2 l3 l4 l5 l6 l7 l8 l9 l10 l11 : Value} {st : List Value} {g : mG} {x : Nat} : WP m_L_law Q 16 [.ref x, l1, l2, l3, l4, l5, l6, l7, l8, l9, l10, l11] st g = WP m_L_law Q 17 [.ref x, l1, l2, l3, l4, l5, l6, l7, l8, l9, l10, l11] (.ref x :: st) g := E_al (i := 0) (n := 1) lo_L_law rfl rfl
theorem e_L_law_16n {Q : mQ} {l1 l2 l3 l4 l5 l6 l7 l8 l9 l10 l11 : Value} {st : List Value} {g : mG} : WP m_L_law Q 16 [.null, l1, l2, l3, l4, l5, l6, l7, l8, l9, l10, l11] st g = WP m_L_law Q 17 [.null, l1, l2, l3, l4, l5, l6, l7, l8, l9, l10, l11] (.null :: st) g := E_aln (i := 0) (n := 1) lo_L_law rfl rfl
theorem e_L_law_17 {Q : mQ} {ls st : List Value} {g : mG} : WP m_L_law Q 17 ls st g = WP m_L_law Q 18 ls (.int (nI 2) :: st) g := E_ic (v := nI 2) (n := 1) lo_L_law rfl
theorem e_L_law_18 {Q : mQ} {l0 l1 l3 l4 l5 l6 l7 l8 l9 l10 l11 : Value} {st : List Value} {g : mG} {x : Int32} : WP m_L_law Q 18 [l0, l1, .int x, l3, l4, l5, l6, l7, l8, l9, l10, l11] st g = WP m_L_law Q 19 [l0, l1, .int x, l3, l4, l5, l6, l7, l8, l9, l10, l11] (.int x :: st) g := E_il (i := 2) (n := 1) lo_L_law rfl rfl
theorem e_L_law_19 {Q : mQ} {ls st : List Value} {g : mG} {x y : Int32} : WP m_L_law Q 19 ls (.int y :: .int x :: st) g = WP m_L_law Q 20 ls (.int (x * y) :: st) g := E_b2 (f := fun x y => x * y) lo_L_law rfl
theorem e_L_law_20 {Q : mQ} {ls st : List Value} {g : mG} {a0 a1 : Value} : WP m_L_law Q 20 ls (a1 :: a0 :: st) g = (st.length ≤ 4 ∧ stbs g ls ∧ stbs g st ∧ w_L_cell [a0, a1] g (fun v g' => WP m_L_law Q 23 ls (v.toList ++ st) g')) := E_CS (ar := [a1, a0]) lo_L_law rfl rfl rfl
theorem e_L_law_23 {Q : mQ} {l0 l1 l2 l3 l4 l5 l6 l7 l8 l9 l10 l11 : Value} {st : List Value} {g : mG} {x : Int32} : WP m_L_law Q 23 [l0, l1, l2, l3, l4, l5, l6, l7, l8, l9, l10, l11] (.int x :: st) g = (nl1 l2 ∧ WP m_L_law Q 24 [l0, l1, l2, .int x, l4, l5, l6, l7, l8, l9, l10, l11] st g) := E_is (i := 3) (n := 1) lo_L_law rfl (Nat.le_of_ble_eq_true rfl)
theorem e_L_law_24 {Q : mQ} {l1 l2 l3 l4 l5 l6 l7 l8 l9 l10 l11 : Value} {st : List Value} {g : mG} {x : Nat} : WP m_L_law Q 24 [.ref x, l1, l2, l3, l4, l5, l6, l7, l8, l9, l10, l11] st g = WP m_L_law Q 25 [.ref x, l1, l2, l3, l4, l5, l6, l7, l8, l9, l10, l11] (.ref x :: st) g := E_al (i := 0) (n := 1) lo_L_law rfl rfl
theorem e_L_law_24n {Q : mQ} {l1 l2 l3 l4 l5 l6 l7 l8 l9 l10 l11 : Value} {st : List Value} {g : mG} : WP m_L_law Q 24 [.null, l1, l2, l3, l4, l5, l6, l7, l8, l9, l10, l11] st g = WP m_L_law Q 25 [.null, l1, l2, l3, l4, l5, l6, l7, l8, l9, l10, l11] (.null :: st) g := E_aln (i := 0) (n := 1) lo_L_law rfl rfl
theorem e_L_law_25 {Q : mQ} {ls st : List Value} {g : mG} : WP m_L_law Q 25 ls st g = WP m_L_law Q 26 ls (.int (nI 2) :: st) g := E_ic (v := nI 2) (n := 1) lo_L_law rfl
theorem e_L_law_26 {Q : mQ} {l0 l1 l3 l4 l5 l6 l7 l8 l9 l10 l11 : Value} {st : List Value} {g : mG} {x : Int32} : WP m_L_law Q 26 [l0, l1, .int x, l3, l4, l5, l6, l7, l8, l9, l10, l11] st g = WP m_L_law Q 27 [l0, l1, .int x, l3, l4, l5, l6, l7, l8, l9, l10, l11] (.int x :: st) g := E_il (i := 2) (n := 1) lo_L_law rfl rfl
theorem e_L_law_27 {Q : mQ} {ls st : List Value} {g : mG} {x y : Int32} : WP m_L_law Q 27 ls (.int y :: .int x :: st) g = WP m_L_law Q 28 ls (.int (x * y) :: st) g := E_b2 (f := fun x y => x * y) lo_L_law rfl
theorem e_L_law_28 {Q : mQ} {ls st : List Value} {g : mG} : WP m_L_law Q 28 ls st g = WP m_L_law Q 29 ls (.int (nI 1) :: st) g := E_ic (v := nI 1) (n := 1) lo_L_law rfl
theorem e_L_law_29 {Q : mQ} {ls st : List Value} {g : mG} {x y : Int32} : WP m_L_law Q 29 ls (.int y :: .int x :: st) g = WP m_L_law Q 30 ls (.int (x + y) :: st) g := E_b2 (f := fun x y => x + y) lo_L_law rfl
theorem e_L_law_30 {Q : mQ} {ls st : List Value} {g : mG} {a0 a1 : Value} : WP m_L_law Q 30 ls (a1 :: a0 :: st) g = (st.length ≤ 4 ∧ stbs g ls ∧ stbs g st ∧ w_L_cell [a0, a1] g (fun v g' => WP m_L_law Q 33 ls (v.toList ++ st) g')) := E_CS (ar := [a1, a0]) lo_L_law rfl rfl rfl
theorem e_L_law_33 {Q : mQ} {l0 l1 l2 l3 l4 l5 l6 l7 l8 l9 l10 l11 : Value} {st : List Value} {g : mG} {x : Int32} : WP m_L_law Q 33 [l0, l1, l2, l3, l4, l5, l6, l7, l8, l9, l10, l11] (.int x :: st) g = (nl1 l3 ∧ WP m_L_law Q 35 [l0, l1, l2, l3, .int x, l5, l6, l7, l8, l9, l10, l11] st g) := E_is (i := 4) (n := 2) lo_L_law rfl (Nat.le_of_ble_eq_true rfl)
theorem e_L_law_35 {Q : mQ} {l0 l2 l3 l4 l5 l6 l7 l8 l9 l10 l11 : Value} {st : List Value} {g : mG} {x : Nat} : WP m_L_law Q 35 [l0, .ref x, l2, l3, l4, l5, l6, l7, l8, l9, l10, l11] st g = WP m_L_law Q 36 [l0, .ref x, l2, l3, l4, l5, l6, l7, l8, l9, l10, l11] (.ref x :: st) g := E_al (i := 1) (n := 1) lo_L_law rfl rfl
theorem e_L_law_35n {Q : mQ} {l0 l2 l3 l4 l5 l6 l7 l8 l9 l10 l11 : Value} {st : List Value} {g : mG} : WP m_L_law Q 35 [l0, .null, l2, l3, l4, l5, l6, l7, l8, l9, l10, l11] st g = WP m_L_law Q 36 [l0, .null, l2, l3, l4, l5, l6, l7, l8, l9, l10, l11] (.null :: st) g := E_aln (i := 1) (n := 1) lo_L_law rfl rfl
theorem e_L_law_36 {Q : mQ} {ls st : List Value} {g : mG} {a0 : Value} : WP m_L_law Q 36 ls (a0 :: st) g = (st.length ≤ 4 ∧ stbs g ls ∧ stbs g st ∧ w_L_digest [a0] g (fun v g' => WP m_L_law Q 39 ls (v.toList ++ st) g')) := E_CS (ar := [a0]) lo_L_law rfl rfl rfl
theorem e_L_law_39 {Q : mQ} {l0 l1 l2 l3 l4 l5 l6 l7 l8 l9 l10 l11 : Value} {st : List Value} {g : mG} {x : Int64} : WP m_L_law Q 39 [l0, l1, l2, l3, l4, l5, l6, l7, l8, l9, l10, l11] (.long x :: st) g = (nl1 l4 ∧ WP m_L_law Q 41 [l0, l1, l2, l3, l4, .long x, .retAddr 0, l7, l8, l9, l10, l11] st g) := E_ls (i := 5) (n := 2) lo_L_law rfl (Nat.le_of_ble_eq_true rfl)
theorem e_L_law_41 {Q : mQ} {l0 l2 l3 l4 l5 l6 l7 l8 l9 l10 l11 : Value} {st : List Value} {g : mG} {x : Nat} : WP m_L_law Q 41 [l0, .ref x, l2, l3, l4, l5, l6, l7, l8, l9, l10, l11] st g = WP m_L_law Q 42 [l0, .ref x, l2, l3, l4, l5, l6, l7, l8, l9, l10, l11] (.ref x :: st) g := E_al (i := 1) (n := 1) lo_L_law rfl rfl
theorem e_L_law_41n {Q : mQ} {l0 l2 l3 l4 l5 l6 l7 l8 l9 l10 l11 : Value} {st : List Value} {g : mG} : WP m_L_law Q 41 [l0, .null, l2, l3, l4, l5, l6, l7, l8, l9, l10, l11] st g = WP m_L_law Q 42 [l0, .null, l2, l3, l4, l5, l6, l7, l8, l9, l10, l11] (.null :: st) g := E_aln (i := 1) (n := 1) lo_L_law rfl rfl
theorem e_L_law_42 {Q : mQ} {ls st : List Value} {g : mG} : WP m_L_law Q 42 ls st g = WP m_L_law Q 44 ls (.int (nI 19) :: st) g := E_ic (v := nI 19) (n := 2) lo_L_law rfl
theorem e_L_law_44 {Q : mQ} {ls st : List Value} {g : mG} {b : Nat} {a0 : Value} : WP m_L_law Q 44 ls (a0 :: .ref b :: st) g = (st.length ≤ 4 ∧ gK g b = 7 ∧ stbs g ls ∧ stbs g st ∧ w_X6_count [.ref b, a0] g (fun v g' => WP m_L_law Q 47 ls (v.toList ++ st) g')) := E_CV (ar := [a0, .ref b]) lo_L_law rfl rfl rfl (by decide)
theorem e_L_law_47 {Q : mQ} {l0 l1 l2 l3 l4 l5 l6 l7 l8 l9 l10 l11 : Value} {st : List Value} {g : mG} {x : Int32} : WP m_L_law Q 47 [l0, l1, l2, l3, l4, l5, l6, l7, l8, l9, l10, l11] (.int x :: st) g = (nl1 l6 ∧ WP m_L_law Q 49 [l0, l1, l2, l3, l4, l5, l6, .int x, l8, l9, l10, l11] st g) := E_is (i := 7) (n := 2) lo_L_law rfl (Nat.le_of_ble_eq_true rfl)
theorem e_L_law_49 {Q : mQ} {l0 l2 l3 l4 l5 l6 l7 l8 l9 l10 l11 : Value} {st : List Value} {g : mG} {x : Nat} : WP m_L_law Q 49 [l0, .ref x, l2, l3, l4, l5, l6, l7, l8, l9, l10, l11] st g = WP m_L_law Q 50 [l0, .ref x, l2, l3, l4, l5, l6, l7, l8, l9, l10, l11] (.ref x :: st) g := E_al (i := 1) (n := 1) lo_L_law rfl rfl
theorem e_L_law_49n {Q : mQ} {l0 l2 l3 l4 l5 l6 l7 l8 l9 l10 l11 : Value} {st : List Value} {g : mG} : WP m_L_law Q 49 [l0, .null, l2, l3, l4, l5, l6, l7, l8, l9, l10, l11] st g = WP m_L_law Q 50 [l0, .null, l2, l3, l4, l5, l6, l7, l8, l9, l10, l11] (.null :: st) g := E_aln (i := 1) (n := 1) lo_L_law rfl rfl
theorem e_L_law_50 {Q : mQ} {l0 l1 l2 l4 l5 l6 l7 l8 l9 l10 l11 : Value} {st : List Value} {g : mG} {x : Int32} : WP m_L_law Q 50 [l0, l1, l2, .int x, l4, l5, l6, l7, l8, l9, l10, l11] st g = WP m_L_law Q 51 [l0, l1, l2, .int x, l4, l5, l6, l7, l8, l9, l10, l11] (.int x :: st) g := E_il (i := 3) (n := 1) lo_L_law rfl rfl
theorem e_L_law_51 {Q : mQ} {l0 l1 l2 l3 l5 l6 l7 l8 l9 l10 l11 : Value} {st : List Value} {g : mG} {x : Int32} : WP m_L_law Q 51 [l0, l1, l2, l3, .int x, l5, l6, l7, l8, l9, l10, l11] st g = WP m_L_law Q 53 [l0, l1, l2, l3, .int x, l5, l6, l7, l8, l9, l10, l11] (.int x :: st) g := E_il (i := 4) (n := 2) lo_L_law rfl rfl
theorem e_L_law_53 {Q : mQ} {ls st : List Value} {g : mG} {a0 a1 a2 : Value} : WP m_L_law Q 53 ls (a2 :: a1 :: a0 :: st) g = (st.length ≤ 4 ∧ stbs g ls ∧ stbs g st ∧ w_L_act [a0, a1, a2] g (fun v g' => WP m_L_law Q 56 ls (v.toList ++ st) g')) := E_CS (ar := [a2, a1, a0]) lo_L_law rfl rfl rfl
theorem e_L_law_56 {Q : mQ} {l0 l1 l2 l3 l4 l5 l6 l7 l8 l9 l10 l11 : Value} {st : List Value} {g : mG} {x : Int32} : WP m_L_law Q 56 [l0, l1, l2, l3, l4, l5, l6, l7, l8, l9, l10, l11] (.int x :: st) g = (nl1 l7 ∧ WP m_L_law Q 58 [l0, l1, l2, l3, l4, l5, l6, l7, .int x, l9, l10, l11] st g) := E_is (i := 8) (n := 2) lo_L_law rfl (Nat.le_of_ble_eq_true rfl)
theorem e_L_law_58 {Q : mQ} {l0 l1 l2 l3 l4 l5 l6 l7 l9 l10 l11 : Value} {st : List Value} {g : mG} {x : Int32} : WP m_L_law Q 58 [l0, l1, l2, l3, l4, l5, l6, l7, .int x, l9, l10, l11] st g = WP m_L_law Q 60 [l0, l1, l2, l3, l4, l5, l6, l7, .int x, l9, l10, l11] (.int x :: st) g := E_il (i := 8) (n := 2) lo_L_law rfl rfl
theorem e_L_law_60 {Q : mQ} {ls st : List Value} {g : mG} {x : Int32} : WP m_L_law Q 60 ls (.int x :: st) g = ((0 ≤ x → WP m_L_law Q 86 ls st g) ∧ (¬ (0 ≤ x) → WP m_L_law Q 63 ls st g)) := E_I1 (c := fun x => 0 ≤ x) (t := 86) lo_L_law rfl
theorem e_L_law_63 {Q : mQ} {l0 l2 l3 l4 l5 l6 l7 l8 l9 l10 l11 : Value} {st : List Value} {g : mG} {x : Nat} : WP m_L_law Q 63 [l0, .ref x, l2, l3, l4, l5, l6, l7, l8, l9, l10, l11] st g = WP m_L_law Q 64 [l0, .ref x, l2, l3, l4, l5, l6, l7, l8, l9, l10, l11] (.ref x :: st) g := E_al (i := 1) (n := 1) lo_L_law rfl rfl
theorem e_L_law_63n {Q : mQ} {l0 l2 l3 l4 l5 l6 l7 l8 l9 l10 l11 : Value} {st : List Value} {g : mG} : WP m_L_law Q 63 [l0, .null, l2, l3, l4, l5, l6, l7, l8, l9, l10, l11] st g = WP m_L_law Q 64 [l0, .null, l2, l3, l4, l5, l6, l7, l8, l9, l10, l11] (.null :: st) g := E_aln (i := 1) (n := 1) lo_L_law rfl rfl
theorem e_L_law_64 {Q : mQ} {ls st : List Value} {g : mG} {a0 : Value} : WP m_L_law Q 64 ls (a0 :: st) g = (st.length ≤ 4 ∧ stbs g ls ∧ stbs g st ∧ w_L_digest [a0] g (fun v g' => WP m_L_law Q 67 ls (v.toList ++ st) g')) := E_CS (ar := [a0]) lo_L_law rfl rfl rfl
theorem e_L_law_67 {Q : mQ} {l0 l1 l2 l3 l4 l6 l7 l8 l9 l10 l11 : Value} {st : List Value} {g : mG} {x : Int64} : WP m_L_law Q 67 [l0, l1, l2, l3, l4, .long x, l6, l7, l8, l9, l10, l11] st g = WP m_L_law Q 69 [l0, l1, l2, l3, l4, .long x, l6, l7, l8, l9, l10, l11] (.long x :: st) g := E_ll (i := 5) (n := 2) lo_L_law rfl rfl
theorem e_L_law_69 {Q : mQ} {ls st : List Value} {g : mG} {x y : Int64} : WP m_L_law Q 69 ls (.long y :: .long x :: st) g = WP m_L_law Q 70 ls (.int (lg_cmp x y) :: st) g := E_lcmp lo_L_law rfl
theorem e_L_law_70 {Q : mQ} {ls st : List Value} {g : mG} {x : Int32} : WP m_L_law Q 70 ls (.int x :: st) g = ((¬ x = 0 → WP m_L_law Q 84 ls st g) ∧ (¬ (¬ x = 0) → WP m_L_law Q 73 ls st g)) := E_I1 (c := fun x => ¬ x = 0) (t := 84) lo_L_law rfl
theorem e_L_law_73 {Q : mQ} {l0 l2 l3 l4 l5 l6 l7 l8 l9 l10 l11 : Value} {st : List Value} {g : mG} {x : Nat} : WP m_L_law Q 73 [l0, .ref x, l2, l3, l4, l5, l6, l7, l8, l9, l10, l11] st g = WP m_L_law Q 74 [l0, .ref x, l2, l3, l4, l5, l6, l7, l8, l9, l10, l11] (.ref x :: st) g := E_al (i := 1) (n := 1) lo_L_law rfl rfl
theorem e_L_law_73n {Q : mQ} {l0 l2 l3 l4 l5 l6 l7 l8 l9 l10 l11 : Value} {st : List Value} {g : mG} : WP m_L_law Q 73 [l0, .null, l2, l3, l4, l5, l6, l7, l8, l9, l10, l11] st g = WP m_L_law Q 74 [l0, .null, l2, l3, l4, l5, l6, l7, l8, l9, l10, l11] (.null :: st) g := E_aln (i := 1) (n := 1) lo_L_law rfl rfl
theorem e_L_law_74 {Q : mQ} {ls st : List Value} {g : mG} : WP m_L_law Q 74 ls st g = WP m_L_law Q 76 ls (.int (nI 19) :: st) g := E_ic (v := nI 19) (n := 2) lo_L_law rfl
theorem e_L_law_76 {Q : mQ} {ls st : List Value} {g : mG} {b : Nat} {a0 : Value} : WP m_L_law Q 76 ls (a0 :: .ref b :: st) g = (st.length ≤ 4 ∧ gK g b = 7 ∧ stbs g ls ∧ stbs g st ∧ w_X6_count [.ref b, a0] g (fun v g' => WP m_L_law Q 79 ls (v.toList ++ st) g')) := E_CV (ar := [a0, .ref b]) lo_L_law rfl rfl rfl (by decide)
theorem e_L_law_79 {Q : mQ} {l0 l1 l2 l3 l4 l5 l6 l8 l9 l10 l11 : Value} {st : List Value} {g : mG} {x : Int32} : WP m_L_law Q 79 [l0, l1, l2, l3, l4, l5, l6, .int x, l8, l9, l10, l11] st g = WP m_L_law Q 81 [l0, l1, l2, l3, l4, l5, l6, .int x, l8, l9, l10, l11] (.int x :: st) g := E_il (i := 7) (n := 2) lo_L_law rfl rfl
theorem e_L_law_81 {Q : mQ} {ls st : List Value} {g : mG} {x y : Int32} : WP m_L_law Q 81 ls (.int y :: .int x :: st) g = ((x = y → WP m_L_law Q 86 ls st g) ∧ (¬ (x = y) → WP m_L_law Q 84 ls st g)) := E_I2 (c := fun x y => x = y) (t := 86) lo_L_law rfl
theorem e_L_law_84 {Q : mQ} {ls st : List Value} {g : mG} : WP m_L_law Q 84 ls st g = WP m_L_law Q 85 ls (.int (nI 0) :: st) g := E_ic (v := nI 0) (n := 1) lo_L_law rfl
theorem e_L_law_86 {Q : mQ} {l0 l1 l2 l3 l4 l5 l6 l7 l9 l10 l11 : Value} {st : List Value} {g : mG} {x : Int32} : WP m_L_law Q 86 [l0, l1, l2, l3, l4, l5, l6, l7, .int x, l9, l10, l11] st g = WP m_L_law Q 88 [l0, l1, l2, l3, l4, l5, l6, l7, .int x, l9, l10, l11] (.int x :: st) g := E_il (i := 8) (n := 2) lo_L_law rfl rfl
theorem e_L_law_88 {Q : mQ} {ls st : List Value} {g : mG} {x : Int32} : WP m_L_law Q 88 ls (.int x :: st) g = ((x < 0 → WP m_L_law Q 162 ls st g) ∧ (¬ (x < 0) → WP m_L_law Q 91 ls st g)) := E_I1 (c := fun x => x < 0) (t := 162) lo_L_law rfl
theorem e_L_law_91 {Q : mQ} {l0 l1 l2 l4 l5 l6 l7 l8 l9 l10 l11 : Value} {st : List Value} {g : mG} {x : Int32} : WP m_L_law Q 91 [l0, l1, l2, .int x, l4, l5, l6, l7, l8, l9, l10, l11] st g = WP m_L_law Q 92 [l0, l1, l2, .int x, l4, l5, l6, l7, l8, l9, l10, l11] (.int x :: st) g := E_il (i := 3) (n := 1) lo_L_law rfl rfl
theorem e_L_law_92 {Q : mQ} {ls st : List Value} {g : mG} : WP m_L_law Q 92 ls st g = WP m_L_law Q 93 ls (.int (nI 4) :: st) g := E_ic (v := nI 4) (n := 1) lo_L_law rfl
theorem e_L_law_93 {Q : mQ} {ls st : List Value} {g : mG} {a0 a1 : Value} : WP m_L_law Q 93 ls (a1 :: a0 :: st) g = (st.length ≤ 4 ∧ stbs g ls ∧ stbs g st ∧ w_L_low [a0, a1] g (fun v g' => WP m_L_law Q 96 ls (v.toList ++ st) g')) := E_CS (ar := [a1, a0]) lo_L_law rfl rfl rfl
theorem e_L_law_96 {Q : mQ} {ls st : List Value} {g : mG} {x : Int32} : WP m_L_law Q 96 ls (.int x :: st) g = ((¬ x = 0 → WP m_L_law Q 162 ls st g) ∧ (¬ (¬ x = 0) → WP m_L_law Q 99 ls st g)) := E_I1 (c := fun x => ¬ x = 0) (t := 162) lo_L_law rfl
theorem e_L_law_99 {Q : mQ} {l0 l2 l3 l4 l5 l6 l7 l8 l9 l10 l11 : Value} {st : List Value} {g : mG} {x : Nat} : WP m_L_law Q 99 [l0, .ref x, l2, l3, l4, l5, l6, l7, l8, l9, l10, l11] st g = WP m_L_law Q 100 [l0, .ref x, l2, l3, l4, l5, l6, l7, l8, l9, l10, l11] (.ref x :: st) g := E_al (i := 1) (n := 1) lo_L_law rfl rfl
theorem e_L_law_99n {Q : mQ} {l0 l2 l3 l4 l5 l6 l7 l8 l9 l10 l11 : Value} {st : List Value} {g : mG} : WP m_L_law Q 99 [l0, .null, l2, l3, l4, l5, l6, l7, l8, l9, l10, l11] st g = WP m_L_law Q 100 [l0, .null, l2, l3, l4, l5, l6, l7, l8, l9, l10, l11] (.null :: st) g := E_aln (i := 1) (n := 1) lo_L_law rfl rfl
theorem e_L_law_100 {Q : mQ} {ls st : List Value} {g : mG} {a0 : Value} : WP m_L_law Q 100 ls (a0 :: st) g = (st.length ≤ 4 ∧ stbs g ls ∧ stbs g st ∧ w_L_digest [a0] g (fun v g' => WP m_L_law Q 103 ls (v.toList ++ st) g')) := E_CS (ar := [a0]) lo_L_law rfl rfl rfl
theorem e_L_law_103 {Q : mQ} {l0 l1 l2 l3 l4 l5 l6 l7 l8 l9 l10 l11 : Value} {st : List Value} {g : mG} {x : Int64} : WP m_L_law Q 103 [l0, l1, l2, l3, l4, l5, l6, l7, l8, l9, l10, l11] (.long x :: st) g = (nl1 l8 ∧ WP m_L_law Q 105 [l0, l1, l2, l3, l4, l5, l6, l7, l8, .long x, .retAddr 0, l11] st g) := E_ls (i := 9) (n := 2) lo_L_law rfl (Nat.le_of_ble_eq_true rfl)
theorem e_L_law_105 {Q : mQ} {l0 l2 l3 l4 l5 l6 l7 l8 l9 l10 l11 : Value} {st : List Value} {g : mG} {x : Nat} : WP m_L_law Q 105 [l0, .ref x, l2, l3, l4, l5, l6, l7, l8, l9, l10, l11] st g = WP m_L_law Q 106 [l0, .ref x, l2, l3, l4, l5, l6, l7, l8, l9, l10, l11] (.ref x :: st) g := E_al (i := 1) (n := 1) lo_L_law rfl rfl
theorem e_L_law_105n {Q : mQ} {l0 l2 l3 l4 l5 l6 l7 l8 l9 l10 l11 : Value} {st : List Value} {g : mG} : WP m_L_law Q 105 [l0, .null, l2, l3, l4, l5, l6, l7, l8, l9, l10, l11] st g = WP m_L_law Q 106 [l0, .null, l2, l3, l4, l5, l6, l7, l8, l9, l10, l11] (.null :: st) g := E_aln (i := 1) (n := 1) lo_L_law rfl rfl
theorem e_L_law_106 {Q : mQ} {ls st : List Value} {g : mG} {b : Nat} : WP m_L_law Q 106 ls (.ref b :: st) g = (st.length ≤ 4 ∧ gK g b = 7 ∧ stbs g ls ∧ stbs g st ∧ w_X6_undo [.ref b] g (fun v g' => WP m_L_law Q 109 ls (v.toList ++ st) g')) := E_CV (ar := [.ref b]) lo_L_law rfl rfl rfl (by decide)
theorem e_L_law_109 {Q : mQ} {l0 l1 l2 l3 l4 l5 l6 l7 l8 l9 l10 l11 : Value} {st : List Value} {g : mG} {x : Int32} : WP m_L_law Q 109 [l0, l1, l2, l3, l4, l5, l6, l7, l8, l9, l10, l11] (.int x :: st) g = (nl1 l10 ∧ WP m_L_law Q 111 [l0, l1, l2, l3, l4, l5, l6, l7, l8, l9, l10, .int x] st g) := E_is (i := 11) (n := 2) lo_L_law rfl (Nat.le_of_ble_eq_true rfl)
theorem e_L_law_111 {Q : mQ} {l0 l2 l3 l4 l5 l6 l7 l8 l9 l10 l11 : Value} {st : List Value} {g : mG} {x : Nat} : WP m_L_law Q 111 [l0, .ref x, l2, l3, l4, l5, l6, l7, l8, l9, l10, l11] st g = WP m_L_law Q 112 [l0, .ref x, l2, l3, l4, l5, l6, l7, l8, l9, l10, l11] (.ref x :: st) g := E_al (i := 1) (n := 1) lo_L_law rfl rfl
theorem e_L_law_111n {Q : mQ} {l0 l2 l3 l4 l5 l6 l7 l8 l9 l10 l11 : Value} {st : List Value} {g : mG} : WP m_L_law Q 111 [l0, .null, l2, l3, l4, l5, l6, l7, l8, l9, l10, l11] st g = WP m_L_law Q 112 [l0, .null, l2, l3, l4, l5, l6, l7, l8, l9, l10, l11] (.null :: st) g := E_aln (i := 1) (n := 1) lo_L_law rfl rfl
theorem e_L_law_112 {Q : mQ} {ls st : List Value} {g : mG} {a0 : Value} : WP m_L_law Q 112 ls (a0 :: st) g = (st.length ≤ 4 ∧ stbs g ls ∧ stbs g st ∧ w_L_digest [a0] g (fun v g' => WP m_L_law Q 115 ls (v.toList ++ st) g')) := E_CS (ar := [a0]) lo_L_law rfl rfl rfl
theorem e_L_law_115 {Q : mQ} {l0 l1 l2 l3 l4 l6 l7 l8 l9 l10 l11 : Value} {st : List Value} {g : mG} {x : Int64} : WP m_L_law Q 115 [l0, l1, l2, l3, l4, .long x, l6, l7, l8, l9, l10, l11] st g = WP m_L_law Q 117 [l0, l1, l2, l3, l4, .long x, l6, l7, l8, l9, l10, l11] (.long x :: st) g := E_ll (i := 5) (n := 2) lo_L_law rfl rfl
theorem e_L_law_117 {Q : mQ} {ls st : List Value} {g : mG} {x y : Int64} : WP m_L_law Q 117 ls (.long y :: .long x :: st) g = WP m_L_law Q 118 ls (.int (lg_cmp x y) :: st) g := E_lcmp lo_L_law rfl
theorem e_L_law_118 {Q : mQ} {ls st : List Value} {g : mG} {x : Int32} : WP m_L_law Q 118 ls (.int x :: st) g = ((¬ x = 0 → WP m_L_law Q 160 ls st g) ∧ (¬ (¬ x = 0) → WP m_L_law Q 121 ls st g)) := E_I1 (c := fun x => ¬ x = 0) (t := 160) lo_L_law rfl
theorem e_L_law_121 {Q : mQ} {l0 l1 l2 l3 l4 l5 l6 l7 l8 l9 l10 : Value} {st : List Value} {g : mG} {x : Int32} : WP m_L_law Q 121 [l0, l1, l2, l3, l4, l5, l6, l7, l8, l9, l10, .int x] st g = WP m_L_law Q 123 [l0, l1, l2, l3, l4, l5, l6, l7, l8, l9, l10, .int x] (.int x :: st) g := E_il (i := 11) (n := 2) lo_L_law rfl rfl
theorem e_L_law_123 {Q : mQ} {l0 l1 l2 l3 l4 l5 l6 l8 l9 l10 l11 : Value} {st : List Value} {g : mG} {x : Int32} : WP m_L_law Q 123 [l0, l1, l2, l3, l4, l5, l6, .int x, l8, l9, l10, l11] st g = WP m_L_law Q 125 [l0, l1, l2, l3, l4, l5, l6, .int x, l8, l9, l10, l11] (.int x :: st) g := E_il (i := 7) (n := 2) lo_L_law rfl rfl
theorem e_L_law_125 {Q : mQ} {ls st : List Value} {g : mG} : WP m_L_law Q 125 ls st g = WP m_L_law Q 126 ls (.int (nI 4) :: st) g := E_ic (v := nI 4) (n := 1) lo_L_law rfl
theorem e_L_law_126 {Q : mQ} {ls st : List Value} {g : mG} {x y : Int32} : WP m_L_law Q 126 ls (.int y :: .int x :: st) g = ((¬ x = y → WP m_L_law Q 133 ls st g) ∧ (¬ (¬ x = y) → WP m_L_law Q 129 ls st g)) := E_I2 (c := fun x y => ¬ x = y) (t := 133) lo_L_law rfl
theorem e_L_law_129 {Q : mQ} {ls st : List Value} {g : mG} : WP m_L_law Q 129 ls st g = WP m_L_law Q 130 ls (.int (nI 3) :: st) g := E_ic (v := nI 3) (n := 1) lo_L_law rfl
theorem e_L_law_130 {Q : mQ} {ls st : List Value} {g : mG} : WP m_L_law Q 130 ls st g = WP m_L_law Q 135 ls st g := E_goto lo_L_law rfl
theorem e_L_law_133 {Q : mQ} {l0 l1 l2 l3 l4 l5 l6 l8 l9 l10 l11 : Value} {st : List Value} {g : mG} {x : Int32} : WP m_L_law Q 133 [l0, l1, l2, l3, l4, l5, l6, .int x, l8, l9, l10, l11] st g = WP m_L_law Q 135 [l0, l1, l2, l3, l4, l5, l6, .int x, l8, l9, l10, l11] (.int x :: st) g := E_il (i := 7) (n := 2) lo_L_law rfl rfl
theorem e_L_law_135 {Q : mQ} {ls st : List Value} {g : mG} {x y : Int32} : WP m_L_law Q 135 ls (.int y :: .int x :: st) g = ((¬ x = y → WP m_L_law Q 160 ls st g) ∧ (¬ (¬ x = y) → WP m_L_law Q 138 ls st g)) := E_I2 (c := fun x y => ¬ x = y) (t := 160) lo_L_law rfl
theorem e_L_law_138 {Q : mQ} {l0 l2 l3 l4 l5 l6 l7 l8 l9 l10 l11 : Value} {st : List Value} {g : mG} {x : Nat} : WP m_L_law Q 138 [l0, .ref x, l2, l3, l4, l5, l6, l7, l8, l9, l10, l11] st g = WP m_L_law Q 139 [l0, .ref x, l2, l3, l4, l5, l6, l7, l8, l9, l10, l11] (.ref x :: st) g := E_al (i := 1) (n := 1) lo_L_law rfl rfl
theorem e_L_law_138n {Q : mQ} {l0 l2 l3 l4 l5 l6 l7 l8 l9 l10 l11 : Value} {st : List Value} {g : mG} : WP m_L_law Q 138 [l0, .null, l2, l3, l4, l5, l6, l7, l8, l9, l10, l11] st g = WP m_L_law Q 139 [l0, .null, l2, l3, l4, l5, l6, l7, l8, l9, l10, l11] (.null :: st) g := E_aln (i := 1) (n := 1) lo_L_law rfl rfl
theorem e_L_law_139 {Q : mQ} {l0 l1 l2 l4 l5 l6 l7 l8 l9 l10 l11 : Value} {st : List Value} {g : mG} {x : Int32} : WP m_L_law Q 139 [l0, l1, l2, .int x, l4, l5, l6, l7, l8, l9, l10, l11] st g = WP m_L_law Q 140 [l0, l1, l2, .int x, l4, l5, l6, l7, l8, l9, l10, l11] (.int x :: st) g := E_il (i := 3) (n := 1) lo_L_law rfl rfl
theorem e_L_law_140 {Q : mQ} {l0 l1 l2 l3 l5 l6 l7 l8 l9 l10 l11 : Value} {st : List Value} {g : mG} {x : Int32} : WP m_L_law Q 140 [l0, l1, l2, l3, .int x, l5, l6, l7, l8, l9, l10, l11] st g = WP m_L_law Q 142 [l0, l1, l2, l3, .int x, l5, l6, l7, l8, l9, l10, l11] (.int x :: st) g := E_il (i := 4) (n := 2) lo_L_law rfl rfl
theorem e_L_law_142 {Q : mQ} {ls st : List Value} {g : mG} {a0 a1 a2 : Value} : WP m_L_law Q 142 ls (a2 :: a1 :: a0 :: st) g = (st.length ≤ 4 ∧ stbs g ls ∧ stbs g st ∧ w_L_act [a0, a1, a2] g (fun v g' => WP m_L_law Q 145 ls (v.toList ++ st) g')) := E_CS (ar := [a2, a1, a0]) lo_L_law rfl rfl rfl
theorem e_L_law_145 {Q : mQ} {l0 l1 l2 l3 l4 l5 l6 l7 l9 l10 l11 : Value} {st : List Value} {g : mG} {x : Int32} : WP m_L_law Q 145 [l0, l1, l2, l3, l4, l5, l6, l7, .int x, l9, l10, l11] st g = WP m_L_law Q 147 [l0, l1, l2, l3, l4, l5, l6, l7, .int x, l9, l10, l11] (.int x :: st) g := E_il (i := 8) (n := 2) lo_L_law rfl rfl
theorem e_L_law_147 {Q : mQ} {ls st : List Value} {g : mG} {x y : Int32} : WP m_L_law Q 147 ls (.int y :: .int x :: st) g = ((¬ x = y → WP m_L_law Q 160 ls st g) ∧ (¬ (¬ x = y) → WP m_L_law Q 150 ls st g)) := E_I2 (c := fun x y => ¬ x = y) (t := 160) lo_L_law rfl
theorem e_L_law_150 {Q : mQ} {l0 l2 l3 l4 l5 l6 l7 l8 l9 l10 l11 : Value} {st : List Value} {g : mG} {x : Nat} : WP m_L_law Q 150 [l0, .ref x, l2, l3, l4, l5, l6, l7, l8, l9, l10, l11] st g = WP m_L_law Q 151 [l0, .ref x, l2, l3, l4, l5, l6, l7, l8, l9, l10, l11] (.ref x :: st) g := E_al (i := 1) (n := 1) lo_L_law rfl rfl
theorem e_L_law_150n {Q : mQ} {l0 l2 l3 l4 l5 l6 l7 l8 l9 l10 l11 : Value} {st : List Value} {g : mG} : WP m_L_law Q 150 [l0, .null, l2, l3, l4, l5, l6, l7, l8, l9, l10, l11] st g = WP m_L_law Q 151 [l0, .null, l2, l3, l4, l5, l6, l7, l8, l9, l10, l11] (.null :: st) g := E_aln (i := 1) (n := 1) lo_L_law rfl rfl
theorem e_L_law_151 {Q : mQ} {ls st : List Value} {g : mG} {a0 : Value} : WP m_L_law Q 151 ls (a0 :: st) g = (st.length ≤ 4 ∧ stbs g ls ∧ stbs g st ∧ w_L_digest [a0] g (fun v g' => WP m_L_law Q 154 ls (v.toList ++ st) g')) := E_CS (ar := [a0]) lo_L_law rfl rfl rfl
theorem e_L_law_154 {Q : mQ} {l0 l1 l2 l3 l4 l5 l6 l7 l8 l10 l11 : Value} {st : List Value} {g : mG} {x : Int64} : WP m_L_law Q 154 [l0, l1, l2, l3, l4, l5, l6, l7, l8, .long x, l10, l11] st g = WP m_L_law Q 156 [l0, l1, l2, l3, l4, l5, l6, l7, l8, .long x, l10, l11] (.long x :: st) g := E_ll (i := 9) (n := 2) lo_L_law rfl rfl
theorem e_L_law_156 {Q : mQ} {ls st : List Value} {g : mG} {x y : Int64} : WP m_L_law Q 156 ls (.long y :: .long x :: st) g = WP m_L_law Q 157 ls (.int (lg_cmp x y) :: st) g := E_lcmp lo_L_law rfl
theorem e_L_law_157 {Q : mQ} {ls st : List Value} {g : mG} {x : Int32} : WP m_L_law Q 157 ls (.int x :: st) g = ((x = 0 → WP m_L_law Q 162 ls st g) ∧ (¬ (x = 0) → WP m_L_law Q 160 ls st g)) := E_I1 (c := fun x => x = 0) (t := 162) lo_L_law rfl
theorem e_L_law_160 {Q : mQ} {ls st : List Value} {g : mG} : WP m_L_law Q 160 ls st g = WP m_L_law Q 161 ls (.int (nI 0) :: st) g := E_ic (v := nI 0) (n := 1) lo_L_law rfl
theorem e_L_law_162 {Q : mQ} {l0 l2 l3 l4 l5 l6 l7 l8 l9 l10 l11 : Value} {st : List Value} {g : mG} {x : Nat} : WP m_L_law Q 162 [l0, .ref x, l2, l3, l4, l5, l6, l7, l8, l9, l10, l11] st g = WP m_L_law Q 163 [l0, .ref x, l2, l3, l4, l5, l6, l7, l8, l9, l10, l11] (.ref x :: st) g := E_al (i := 1) (n := 1) lo_L_law rfl rfl
theorem e_L_law_162n {Q : mQ} {l0 l2 l3 l4 l5 l6 l7 l8 l9 l10 l11 : Value} {st : List Value} {g : mG} : WP m_L_law Q 162 [l0, .null, l2, l3, l4, l5, l6, l7, l8, l9, l10, l11] st g = WP m_L_law Q 163 [l0, .null, l2, l3, l4, l5, l6, l7, l8, l9, l10, l11] (.null :: st) g := E_aln (i := 1) (n := 1) lo_L_law rfl rfl
theorem e_L_law_163 {Q : mQ} {ls st : List Value} {g : mG} {a0 : Value} : WP m_L_law Q 163 ls (a0 :: st) g = (st.length ≤ 4 ∧ stbs g ls ∧ stbs g st ∧ w_L_sums [a0] g (fun v g' => WP m_L_law Q 166 ls (v.toList ++ st) g')) := E_CS (ar := [a0]) lo_L_law rfl rfl rfl
theorem e_L_law_166 {Q : mQ} {ls st : List Value} {g : mG} {x : Int32} : WP m_L_law Q 166 ls (.int x :: st) g = ((¬ x = 0 → WP m_L_law Q 171 ls st g) ∧ (¬ (¬ x = 0) → WP m_L_law Q 169 ls st g)) := E_I1 (c := fun x => ¬ x = 0) (t := 171) lo_L_law rfl
theorem e_L_law_169 {Q : mQ} {ls st : List Value} {g : mG} : WP m_L_law Q 169 ls st g = WP m_L_law Q 170 ls (.int (nI 0) :: st) g := E_ic (v := nI 0) (n := 1) lo_L_law rfl
theorem e_L_law_171 {Q : mQ} {l0 l1 l3 l4 l5 l6 l7 l8 l9 l10 l11 : Value} {st : List Value} {g : mG} {x : Int32} : WP m_L_law Q 171 [l0, l1, .int x, l3, l4, l5, l6, l7, l8, l9, l10, l11] st g = (nl1 l1 ∧ WP m_L_law Q 174 [l0, l1, .int (x + nI 1), l3, l4, l5, l6, l7, l8, l9, l10, l11] st g) := E_inc (i := 2) (d := nI 1) lo_L_law rfl rfl
theorem e_L_law_174 {Q : mQ} {ls st : List Value} {g : mG} : WP m_L_law Q 174 ls st g = WP m_L_law Q 10 ls st g := E_goto lo_L_law rfl
theorem e_L_law_177 {Q : mQ} {ls st : List Value} {g : mG} : WP m_L_law Q 177 ls st g = WP m_L_law Q 178 ls (.int (nI 1) :: st) g := E_ic (v := nI 1) (n := 1) lo_L_law rfl
set_option maxRecDepth 100000 in
theorem e_L_law_178 {Q : mQ} {ls : List Value} {g : mG} {v : Int32} : WP m_L_law Q 178 ls [.int v] g = (v = 1 ∧ Q (some (.int v)) g) := WP_at lo_L_law rfl

/-- a step of the law is true of the machine -/
def LSND (t : mT) (pc : Nat) : Prop := ∀ (p : Program) (l : Launch) (e : Env) (s : State) (m : MethodId) (b : Nat) (below : List Frame) (meth : Method) (c : Code) (D : va_G) (cA : Nat → ClassId) (n0 : Nat) (g0 : mG) (L0 : Nat → Nat) (ge : mG), CX p l e room_1 s m #[Value.ref b] below meth c D cA n0 g0 L0 R_law code 12 ("law", 10) → meth.sig.returnType = ret → s.heap.size ≤ n0 → gC ge - gC g0 ≤ 685115 → gS ge - gS g0 ≤ 7046903 →
  ∀ (ls st : List Value) (g : mG), t (Qx (some (.int 1)) ge) (MP p l e room_1 s m #[Value.ref b] below meth c D cA n0 g0 L0 12 ge (lw_Z below #[Value.ref b] s)) pc ls st g → MP p l e room_1 s m #[Value.ref b] below meth c D cA n0 g0 L0 12 ge (lw_Z below #[Value.ref b] s) pc ls st g
theorem SND.l {t : mT} {pc : Nat} (h : SND R_law code 12 ("law", 10) t pc) : LSND t pc := fun p l e s m b below meth c D cA n0 g0 L0 ge cx _ _ hc hs ls st g ht => h p l e room_1 s m #[Value.ref b] below meth c D cA n0 g0 L0 (some (.int 1)) ge (lw_Z below #[Value.ref b] s) cx hc hs _ ls st g ht
theorem l_bad (pc : Nat) : LSND tBad pc := fun _ _ _ _ _ _ _ _ _ _ _ _ _ _ _ _ _ _ _ _ _ _ _ h => h.elim
theorem l_ret {pc : Nat} (hd : decode code pc = .ok (.ireturn, 1)) : LSND (tR f_lret) pc := by
  intro p l e s m b below meth c D cA n0 g0 L0 ge cx hr hn hrc hrs ls st g ht
  match st, ht with
  | [.int v], ht =>
    obtain ⟨hv, -, rfl⟩ := ht
    have hv' : v = 1 := hv
    subst hv'
    exact ⟨⟨Nat.le_refl _, Nat.le_refl _⟩, fun a1 a2 a3 L H locs lsA hH hl hS hK => va_forget (fun q hq => Nat.le_trans hn (hS.2.2 q hq)) (W.widen hrc hrs (lw_ret cx.1 cx.2.1 hr cx.2.2.2.2.2.1 hd))⟩
set_option maxRecDepth 100000 in
theorem sl_L_law : ∀ q ∈ m_L_law, LSND q.2 q.1 := List.forall_mem_cons.mpr ⟨(snd_E (f := f_new 7) (fun _ => mo_new) (q_new ⟨by decide, by decide⟩ kc_L_14 kn_X6 ki_X6 dL_law_0)).l,
  List.forall_mem_cons.mpr ⟨(snd_D mo_dup (q_dup dL_law_3)).l,
  List.forall_mem_cons.mpr ⟨((snd_CI sm_X6_init (by decide) rfl km_L_82 kt_X6_init ki_X6 kx_X6_init ⟨by decide, by decide, by decide +kernel⟩ (by decide) (by decide) dL_law_4)).l,
  List.forall_mem_cons.mpr ⟨(snd_D mo_as (q_astore_n dL_law_7 rfl)).l,
  List.forall_mem_cons.mpr ⟨(snd_D mo_ic (q_iconst dL_law_8 (by decide))).l,
  List.forall_mem_cons.mpr ⟨(snd_D mo_is (q_istore_n dL_law_9 rfl)).l,
  List.forall_mem_cons.mpr ⟨(snd_D mo_il (q_iload_n dL_law_10 rfl)).l,
  List.forall_mem_cons.mpr ⟨(snd_D mo_ic (q_bipush dL_law_11 (by decide))).l,
  List.forall_mem_cons.mpr ⟨((q_ic_ge dL_law_13 (by decide))).l,
  List.forall_mem_cons.mpr ⟨(snd_D mo_al (q_aload_n dL_law_16 rfl)).l,
  List.forall_mem_cons.mpr ⟨(snd_D mo_ic (q_iconst dL_law_17 (by decide))).l,
  List.forall_mem_cons.mpr ⟨(snd_D mo_il (q_iload_n dL_law_18 rfl)).l,
  List.forall_mem_cons.mpr ⟨(snd_D mo_b2 (q_imul dL_law_19)).l,
  List.forall_mem_cons.mpr ⟨((snd_CS sm_L_cell km_L_83 ks_L_cell ki_L kx_L_cell ⟨by decide, by decide, by decide +kernel⟩ (by decide) (by decide) dL_law_20)).l,
  List.forall_mem_cons.mpr ⟨(snd_D mo_is (q_istore_n dL_law_23 rfl)).l,
  List.forall_mem_cons.mpr ⟨(snd_D mo_al (q_aload_n dL_law_24 rfl)).l,
  List.forall_mem_cons.mpr ⟨(snd_D mo_ic (q_iconst dL_law_25 (by decide))).l,
  List.forall_mem_cons.mpr ⟨(snd_D mo_il (q_iload_n dL_law_26 rfl)).l,
  List.forall_mem_cons.mpr ⟨(snd_D mo_b2 (q_imul dL_law_27)).l,
  List.forall_mem_cons.mpr ⟨(snd_D mo_ic (q_iconst dL_law_28 (by decide))).l,
  List.forall_mem_cons.mpr ⟨(snd_D mo_b2 (q_iadd dL_law_29)).l,
  List.forall_mem_cons.mpr ⟨((snd_CS sm_L_cell km_L_83 ks_L_cell ki_L kx_L_cell ⟨by decide, by decide, by decide +kernel⟩ (by decide) (by decide) dL_law_30)).l,
  List.forall_mem_cons.mpr ⟨(snd_D mo_is (q_istore dL_law_33)).l,
  List.forall_mem_cons.mpr ⟨(snd_D mo_al (q_aload_n dL_law_35 rfl)).l,
  List.forall_mem_cons.mpr ⟨((snd_CS sm_L_digest km_L_87 ks_L_digest ki_L kx_L_digest ⟨by decide, by decide, by decide +kernel⟩ (by decide) (by decide) dL_law_36)).l,
  List.forall_mem_cons.mpr ⟨(snd_D mo_ls (q_lstore dL_law_39)).l,
  List.forall_mem_cons.mpr ⟨(snd_D mo_al (q_aload_n dL_law_41 rfl)).l,
  List.forall_mem_cons.mpr ⟨(snd_D mo_ic (q_bipush dL_law_42 (by decide))).l,
  List.forall_mem_cons.mpr ⟨((snd_CV sm_X6_count ⟨by decide, by decide⟩ rfl km_L_13 kt_X6_count kv_X6_count rfl ki_X6 kx_X6_count ⟨by decide, by decide, by decide +kernel⟩ (by decide) (by decide) dL_law_44)).l,
  List.forall_mem_cons.mpr ⟨(snd_D mo_is (q_istore dL_law_47)).l,
  List.forall_mem_cons.mpr ⟨(snd_D mo_al (q_aload_n dL_law_49 rfl)).l,
  List.forall_mem_cons.mpr ⟨(snd_D mo_il (q_iload_n dL_law_50 rfl)).l,
  List.forall_mem_cons.mpr ⟨(snd_D mo_il (q_iload dL_law_51)).l,
  List.forall_mem_cons.mpr ⟨((snd_CS sm_L_act km_L_91 ks_L_act ki_L kx_L_act ⟨by decide, by decide, by decide +kernel⟩ (by decide) (by decide) dL_law_53)).l,
  List.forall_mem_cons.mpr ⟨(snd_D mo_is (q_istore dL_law_56)).l,
  List.forall_mem_cons.mpr ⟨(snd_D mo_il (q_iload dL_law_58)).l,
  List.forall_mem_cons.mpr ⟨((q_if_ge dL_law_60 (by decide))).l,
  List.forall_mem_cons.mpr ⟨(snd_D mo_al (q_aload_n dL_law_63 rfl)).l,
  List.forall_mem_cons.mpr ⟨((snd_CS sm_L_digest km_L_87 ks_L_digest ki_L kx_L_digest ⟨by decide, by decide, by decide +kernel⟩ (by decide) (by decide) dL_law_64)).l,
  List.forall_mem_cons.mpr ⟨(snd_D mo_ll (q_lload dL_law_67)).l,
  List.forall_mem_cons.mpr ⟨(snd_D mo_lcmp (q_lcmp dL_law_69)).l,
  List.forall_mem_cons.mpr ⟨((q_if_ne dL_law_70 (by decide))).l,
  List.forall_mem_cons.mpr ⟨(snd_D mo_al (q_aload_n dL_law_73 rfl)).l,
  List.forall_mem_cons.mpr ⟨(snd_D mo_ic (q_bipush dL_law_74 (by decide))).l,
  List.forall_mem_cons.mpr ⟨((snd_CV sm_X6_count ⟨by decide, by decide⟩ rfl km_L_13 kt_X6_count kv_X6_count rfl ki_X6 kx_X6_count ⟨by decide, by decide, by decide +kernel⟩ (by decide) (by decide) dL_law_76)).l,
  List.forall_mem_cons.mpr ⟨(snd_D mo_il (q_iload dL_law_79)).l,
  List.forall_mem_cons.mpr ⟨((q_ic_eq dL_law_81 (by decide))).l,
  List.forall_mem_cons.mpr ⟨(snd_D mo_ic (q_iconst dL_law_84 (by decide))).l,
  List.forall_mem_cons.mpr ⟨(snd_D mo_il (q_iload dL_law_86)).l,
  List.forall_mem_cons.mpr ⟨((q_if_lt dL_law_88 (by decide))).l,
  List.forall_mem_cons.mpr ⟨(snd_D mo_il (q_iload_n dL_law_91 rfl)).l,
  List.forall_mem_cons.mpr ⟨(snd_D mo_ic (q_iconst dL_law_92 (by decide))).l,
  List.forall_mem_cons.mpr ⟨((snd_CS sm_L_low km_L_47 ks_L_low ki_L kx_L_low ⟨by decide, by decide, by decide +kernel⟩ (by decide) (by decide) dL_law_93)).l,
  List.forall_mem_cons.mpr ⟨((q_if_ne dL_law_96 (by decide))).l,
  List.forall_mem_cons.mpr ⟨(snd_D mo_al (q_aload_n dL_law_99 rfl)).l,
  List.forall_mem_cons.mpr ⟨((snd_CS sm_L_digest km_L_87 ks_L_digest ki_L kx_L_digest ⟨by decide, by decide, by decide +kernel⟩ (by decide) (by decide) dL_law_100)).l,
  List.forall_mem_cons.mpr ⟨(snd_D mo_ls (q_lstore dL_law_103)).l,
  List.forall_mem_cons.mpr ⟨(snd_D mo_al (q_aload_n dL_law_105 rfl)).l,
  List.forall_mem_cons.mpr ⟨((snd_CV sm_X6_undo ⟨by decide, by decide⟩ rfl km_L_95 kt_X6_undo kv_X6_undo rfl ki_X6 kx_X6_undo ⟨by decide, by decide, by decide +kernel⟩ (by decide) (by decide) dL_law_106)).l,
  List.forall_mem_cons.mpr ⟨(snd_D mo_is (q_istore dL_law_109)).l,
  List.forall_mem_cons.mpr ⟨(snd_D mo_al (q_aload_n dL_law_111 rfl)).l,
  List.forall_mem_cons.mpr ⟨((snd_CS sm_L_digest km_L_87 ks_L_digest ki_L kx_L_digest ⟨by decide, by decide, by decide +kernel⟩ (by decide) (by decide) dL_law_112)).l,
  List.forall_mem_cons.mpr ⟨(snd_D mo_ll (q_lload dL_law_115)).l,
  List.forall_mem_cons.mpr ⟨(snd_D mo_lcmp (q_lcmp dL_law_117)).l,
  List.forall_mem_cons.mpr ⟨((q_if_ne dL_law_118 (by decide))).l,
  List.forall_mem_cons.mpr ⟨(snd_D mo_il (q_iload dL_law_121)).l,
  List.forall_mem_cons.mpr ⟨(snd_D mo_il (q_iload dL_law_123)).l,
  List.forall_mem_cons.mpr ⟨(snd_D mo_ic (q_iconst dL_law_125 (by decide))).l,
  List.forall_mem_cons.mpr ⟨((q_ic_ne dL_law_126 (by decide))).l,
  List.forall_mem_cons.mpr ⟨(snd_D mo_ic (q_iconst dL_law_129 (by decide))).l,
  List.forall_mem_cons.mpr ⟨(snd_D mo_goto (q_goto dL_law_130 (by decide))).l,
  List.forall_mem_cons.mpr ⟨(snd_D mo_il (q_iload dL_law_133)).l,
  List.forall_mem_cons.mpr ⟨((q_ic_ne dL_law_135 (by decide))).l,
  List.forall_mem_cons.mpr ⟨(snd_D mo_al (q_aload_n dL_law_138 rfl)).l,
  List.forall_mem_cons.mpr ⟨(snd_D mo_il (q_iload_n dL_law_139 rfl)).l,
  List.forall_mem_cons.mpr ⟨(snd_D mo_il (q_iload dL_law_140)).l,
  List.forall_mem_cons.mpr ⟨((snd_CS sm_L_act km_L_91 ks_L_act ki_L kx_L_act ⟨by decide, by decide, by decide +kernel⟩ (by decide) (by decide) dL_law_142)).l,
  List.forall_mem_cons.mpr ⟨(snd_D mo_il (q_iload dL_law_145)).l,
  List.forall_mem_cons.mpr ⟨((q_ic_ne dL_law_147 (by decide))).l,
  List.forall_mem_cons.mpr ⟨(snd_D mo_al (q_aload_n dL_law_150 rfl)).l,
  List.forall_mem_cons.mpr ⟨((snd_CS sm_L_digest km_L_87 ks_L_digest ki_L kx_L_digest ⟨by decide, by decide, by decide +kernel⟩ (by decide) (by decide) dL_law_151)).l,
  List.forall_mem_cons.mpr ⟨(snd_D mo_ll (q_lload dL_law_154)).l,
  List.forall_mem_cons.mpr ⟨(snd_D mo_lcmp (q_lcmp dL_law_156)).l,
  List.forall_mem_cons.mpr ⟨((q_if_eq dL_law_157 (by decide))).l,
  List.forall_mem_cons.mpr ⟨(snd_D mo_ic (q_iconst dL_law_160 (by decide))).l,
  List.forall_mem_cons.mpr ⟨(snd_D mo_al (q_aload_n dL_law_162 rfl)).l,
  List.forall_mem_cons.mpr ⟨((snd_CS sm_L_sums km_L_98 ks_L_sums ki_L kx_L_sums ⟨by decide, by decide, by decide +kernel⟩ (by decide) (by decide) dL_law_163)).l,
  List.forall_mem_cons.mpr ⟨((q_if_ne dL_law_166 (by decide))).l,
  List.forall_mem_cons.mpr ⟨(snd_D mo_ic (q_iconst dL_law_169 (by decide))).l,
  List.forall_mem_cons.mpr ⟨(snd_D mo_inc (q_inc dL_law_171 (by decide))).l,
  List.forall_mem_cons.mpr ⟨(snd_D mo_goto (q_goto dL_law_174 (by decide))).l,
  List.forall_mem_cons.mpr ⟨(snd_D mo_ic (q_iconst dL_law_177 (by decide))).l,
  List.forall_mem_cons.mpr ⟨l_ret dL_law_178,
  fun _ h => absurd h List.not_mem_nil⟩⟩⟩⟩⟩⟩⟩⟩⟩⟩⟩⟩⟩⟩⟩⟩⟩⟩⟩⟩⟩⟩⟩⟩⟩⟩⟩⟩⟩⟩⟩⟩⟩⟩⟩⟩⟩⟩⟩⟩⟩⟩⟩⟩⟩⟩⟩⟩⟩⟩⟩⟩⟩⟩⟩⟩⟩⟩⟩⟩⟩⟩⟩⟩⟩⟩⟩⟩⟩⟩⟩⟩⟩⟩⟩⟩⟩⟩⟩⟩⟩⟩⟩⟩⟩⟩⟩⟩⟩⟩⟩⟩⟩
theorem law_sound {p : Program} {l : Launch} {e : Env} {s : State} {m : MethodId} {b : Nat} {below : List Frame} {meth : Method} {c : Code} {D : va_G} {cA : Nat → ClassId} {n0 : Nat} {g0 : mG} {L0 : Nat → Nat} {ge : mG} (cx : CX p l e room_1 s m #[Value.ref b] below meth c D cA n0 g0 L0 R_law code 12 ("law", 10)) (hr : meth.sig.returnType = ret) (hn : s.heap.size ≤ n0) (hc : gC ge - gC g0 ≤ 685115) (hs : gS ge - gS g0 ≤ 7046903) {pc : Nat} {ls st : List Value} {g : mG} (h : WP m_L_law (Qx (some (.int 1)) ge) pc ls st g) : MP p l e room_1 s m #[Value.ref b] below meth c D cA n0 g0 L0 12 ge (lw_Z below #[Value.ref b] s) pc ls st g :=
  h _ fun pc ls st g ht => lk_all (p := fun pc t => LSND t pc) l_bad m_L_law sl_L_law pc p l e s m b below meth c D cA n0 g0 L0 ge cx hr hn hc hs ls st g ht
