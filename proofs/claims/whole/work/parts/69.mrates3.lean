section MRATES3
variable {l : Launch} {d n : Nat} {ws : xW} {S : St} {bw bs : Int}
def mix (s s' : RS) (g : Nat) : RS := (fun k => if k < g then s'.1 k else s.1 k, fun k => if k < g then s'.2.1 k else s.2.1 k, fun k => if k < g then s'.2.2 k else s.2.2 k)
theorem mix_ne {s s' : RS} {k g : Nat} (h : k ≠ g) : (mix s s' (g + 1)).1 k = (mix s s' g).1 k ∧ (mix s s' (g + 1)).2.1 k = (mix s s' g).2.1 k ∧ (mix s s' (g + 1)).2.2 k = (mix s s' g).2.2 k := by
  unfold mix
  by_cases h1 : k < g
  · simp only [if_pos h1, if_pos (show k < g + 1 by omega)]
    exact ⟨trivial, trivial, trivial⟩
  · simp only [if_neg h1, if_neg (show ¬ k < g + 1 by omega)]
    exact ⟨trivial, trivial, trivial⟩
theorem mix_new {s s' : RS} {g : Nat} : (mix s s' (g + 1)).1 g = s'.1 g ∧ (mix s s' (g + 1)).2.1 g = s'.2.1 g ∧ (mix s s' (g + 1)).2.2 g = s'.2.2 g := by
  unfold mix
  simp only [if_pos (show g < g + 1 by omega)]
  exact ⟨trivial, trivial, trivial⟩
theorem mix_old {s s' : RS} {k g : Nat} (h : ¬ k < g) : (mix s s' g).1 k = s.1 k ∧ (mix s s' g).2.1 k = s.2.1 k ∧ (mix s s' g).2.2 k = s.2.2 k := by
  unfold mix
  simp only [if_neg h]
  exact ⟨trivial, trivial, trivial⟩
theorem mix_done {s s' : RS} {k g : Nat} (h : k < g) : (mix s s' g).1 k = s'.1 k ∧ (mix s s' g).2.1 k = s'.2.1 k ∧ (mix s s' g).2.2 k = s'.2.2 k := by
  unfold mix
  simp only [if_pos h]
  exact ⟨trivial, trivial, trivial⟩
theorem MRt.congr {s s' : RS} (h : MRt ws S s) (he : ∀ k, k < S.ng → s'.2.1 k = s.2.1 k ∧ s'.2.2 k = s.2.2 k) : MRt ws S s' := by
  obtain ⟨fa, fb, fn, hx, hh⟩ := h
  refine ⟨fa, fb, fn, hx, fun g hg => ?_⟩
  rw [(he g hg).1, (he g hg).2]
  exact hh g hg
theorem mkm.congr {s s' : RS} {m : Nat} (h : mkm S s m) (he : ∀ k, k < S.ng → s'.1 k = s.1 k) : mkm S s' m := by
  refine ⟨h.1, fun g hg => ?_⟩
  rw [h.2 g hg]
  by_cases hk : g < S.ng
  · rw [he g hk]
  · rw [decide_eq_false hk]; rfl
theorem v_close (hM : ModR ws S (S.2 2) bw bs) (hw : WF S) (hI : MInv ws S) {s : RS} (hG : GI S s) {q : Nat × Nat} (hq : tg S s S.na = some q) {X Y : Nat} (hX : X * 360 = q.2 * Y) (hY : 0 < Y) (hY2 : Y ≤ 54) (hX2 : X ≤ 360000) (hd : 1 ≤ d) {Q : xP} (K : ∀ (m1 : Nat) (ws1 : xW), MRt ws1 S (clA S s q.1 q.2) → mkm S (clA S s q.1 q.2) m1 → (∀ p, p ≠ 139 → p ≠ 140 → p ≠ 141 → ws1 p = ws p) → ∀ L0 : xL, (∀ x ∈ [(0, Value.ref 121), (1, .int (I m1))], x ∈ L0) → xX l tX10_findRates d 0 0 Q 0 0 384 L0 [] n ws1) : ∀ j g : Nat, g + j = S.ng → ∀ (m1 : Nat) (ws1 : xW), MRt ws1 S (mix s (clA S s q.1 q.2) g) → mkm S (mix s (clA S s q.1 q.2) g) m1 → (∀ p, p ≠ 139 → p ≠ 140 → p ≠ 141 → ws1 p = ws p) → ∀ L0 : xL, (∀ x ∈ [(0, Value.ref 121), (1, .int (I m1)), (2, .int (I q.1)), (3, .long (J X)), (5, .long (J Y)), (7, .long (J (Nat.gcd X Y : Nat))), (9, .int (I g))], x ∈ L0) → xX l tX10_findRates d 0 0 Q 0 0 308 L0 [] n ws1 := by
  have hb : S.ng ≤ 6 := hw.2.2.1
  have hba : S.na ≤ 24 := hw.2.1
  obtain ⟨D, t, g1, g2, g3, g4, g5⟩ := id hG
  obtain ⟨q1, q2, q3, q4⟩ := tg_some _ _ hq
  obtain ⟨u1, u2⟩ := fr_uniq hY hX
  have hgp : 0 < Nat.gcd X Y := Nat.gcd_pos_of_pos_right _ hY
  have hgl : Nat.gcd X Y ≤ Y := Nat.le_of_dvd hY (Nat.gcd_dvd_right _ _)
  generalize Nat.gcd X Y = gc at u1 u2 hgp hgl
  have z0 : (J (gc : Int) = 0) = False := by
    rw [J_0, J_eq (by omega) (by omega) (by omega) (by omega)]
    exact eq_false (by omega)
  have z1 : J (X : Int) / J (gc : Int) = J (frA q.2 : Nat) := by rw [J_div (by omega) (by omega) (by omega), u1]
  have z2 : J (Y : Int) / J (gc : Int) = J (frB q.2 : Nat) := by rw [J_div (by omega) (by omega) (by omega), u2]
  have sc1 : ∀ g, (clA S s q.1 q.2).1 g = (s.1 g && !(us S g q.1)) := fun _ => rfl
  have sc2 : ∀ g, (clA S s q.1 q.2).2.1 g = if (s.1 g && us S g q.1) = true then q.2 else s.2.1 g := fun _ => rfl
  have sc3 : ∀ g, (clA S s q.1 q.2).2.2 g = if (s.1 g && us S g q.1) = true then (q.1 : Int) else s.2.2 g := fun _ => rfl
  generalize clA S s q.1 q.2 = s' at K sc1 sc2 sc3
  intro j
  induction j with
  | zero =>
    intro g hg m1 ws1 hR hm hq1 L0 hL0
    refine xX.loc _ hL0 ?_
    have eg : g = S.ng := by omega
    subst eg
    have mm := (hM.keep (ws' := ws1) (fun p a b => hq1 p (by omega) (by omega) (by omega))).1
    refine xL_ok (t := tX10_findRates) rfl (ops := oX10_findRates_308) (by decide +kernel) (T := []) (by decide +kernel) 0 ?_
    simp (disch := omega) only [oX10_findRates_308, rX10_findRates, x_iconst, x_bipush, x_sipush, x_lconst, x_iload, x_lload, x_aload, x_istore, x_lstore, x_astore, x_iinc, x_iadd, x_isub, x_imul, x_iand, x_ior, x_ixor, x_ishl, x_ishr, x_ineg, x_ladd, x_lsub, x_lmul, x_ldiv, x_lrem, x_lcmp, x_i2l, x_l2i, x_dup, x_dup_x1, x_dup2, x_if_eq, x_if_ne, x_if_lt, x_if_ge, x_if_gt, x_if_le, x_ic_eq, x_ic_ne, x_ic_lt, x_ic_ge, x_ic_gt, x_ic_le, x_goto, x_ireturn, x_lreturn, x_return, x_getfield, x_putfield, x_iaload, x_baload, x_laload, x_aaload, x_iastore, x_bastore, x_lastore, x_aastore, x_arraylength, x_newarray, x_anewarray, x_new, x_iload_0, x_iload_1, x_iload_2, x_iload_3, x_lload_0, x_lload_1, x_lload_2, x_lload_3, x_aload_0, x_aload_1, x_aload_2, x_aload_3, x_istore_0, x_istore_1, x_istore_2, x_istore_3, x_lstore_0, x_lstore_1, x_lstore_2, x_lstore_3, x_astore_0, x_astore_1, x_astore_2, x_astore_3, q_bipush_m3, q_bipush_m2, q_bipush_6, q_bipush_7, q_bipush_9, q_bipush_10, q_bipush_24, q_bipush_30, q_bipush_48, q_bipush_100, q_sipush_300, q_sipush_1000, q_sipush_24001, q_l0, q_l1, xtc_0_0, xtc_0_1, xtc_0_2, xtc_0_3, xtc_0_4, xtc_0_5, xtc_1_0, xtc_1_1, xtc_1_2, xtc_2_0, xtc_2_1, xtc_3_0, xtc_4_0, xtc_4_1, xtc_4_2, xtc_4_3, xtc_4_4, xtc_4_5, xtc_4_6, xtc_4_7, xtc_4_8, xtc_4_9, xtc_4_10, xtc_4_11, xtc_4_12, xtc_5_0, xtc_5_1, xtc_5_2, xtc_5_3, xtc_5_4, xtc_5_5, xtc_5_6, xtc_6_0, xtc_6_1, xtc_6_2, xtc_7_0, xtc_7_1, xtc_8_0, xtc_8_1, xtc_8_2, xtc_8_3, xtc_9_0, xtc_9_1, xtc_9_2, xtc_9_3, xtc_9_4, xtc_9_5, xtc_9_6, xtc_9_7, xtc_9_8, xtc_9_9, xtc_10_0, xtc_10_1, xtc_10_2, xtc_10_3, xtc_10_4, xtc_10_5, xtc_10_6, xtc_10_7, xtc_10_8, xtc_10_9, xtc_10_10, xtc_10_11, xtc_10_12, xtc_10_13, xtc_10_14, xtc_10_15, xtc_10_16, xtc_10_17, xtc_10_18, xtc_10_19, xtc_10_20, xtc_10_21, xtc_10_22, xtc_10_23, xtc_10_24, xtc_10_25, eq_self, reduceIte, Nat.reduceEqDiff, Nat.reduceAdd, Nat.reduceSub, Nat.zero_ne_one, Nat.one_ne_zero, Nat.succ_ne_zero, Nat.reduceLeDiff, reduceCtorEq, and_true, true_and, and_false, false_and, true_implies, false_implies, implies_true, not_true_eq_false, not_false_eq_true, xN_0, xN_s, xlook_c, xlook_n, xb_nil, xb_cons, xlen, xl_cons, xst_def, xst2_def, xdl_nil, xdl_int, xdl_ref, xdl_long, xrv_some, xfit_int, xfit_long, xfit_ref, cat_int, cat_ref, cat_long, xret_int, xret_bool, or_true, true_or, Option.some.injEq, Value.int.injEq, Value.ref.injEq, Value.long.injEq, List.getElem?_cons_zero, List.getElem?_cons_succ, List.set_cons_zero, List.set_cons_succ, List.length_cons, List.length_nil, xup_xup, Classical.not_not, Nat.reduceLT, Nat.zero_lt_succ, xup_self, xup_ne, ne_eq, ra_len, ro_len, ra_get, ro_get, ra_set, ro_set, I_add, I_sub, I_lt, I_le, I_eq, I_in, I_b0, I_b01, b_eq0, b_eq1, Int.toNat_natCast, mm]
    refine ⟨fun _ => ?_, fun h => absurd h (by omega)⟩
    refine K m1 ws1 (hR.congr (fun k hk => ?_)) (hm.congr (fun k hk => ?_)) hq1 _ (by simp)
    · obtain ⟨-, e2, e3⟩ := mix_done (s := s) (s' := s') hk
      exact ⟨e2.symm, e3.symm⟩
    · exact (mix_done (s := s) (s' := s') hk).1.symm
  | succ j ih =>
    intro g hg m1 ws1 hR hm hq1 L0 hL0
    refine xX.loc _ hL0 ?_
    have hgg : g < S.ng := by omega
    have hM1 := hM.keep (ws' := ws1) (fun p a b => hq1 p (by omega) (by omega) (by omega))
    have hI1 := hI.keep (ws' := ws1) (fun p a b => hq1 p (by omega) (by omega) (by omega))
    have mm := hM1.1
    obtain ⟨o1, o2, o3⟩ := mix_old (s := s) (s' := s') (show ¬ g < g by omega)
    obtain ⟨w1, w2, w3⟩ := mix_new (s := s) (s' := s') (g := g)
    have hnx := ih (g + 1) (by omega)
    have e1 : (I (m1 : Int) >>> (I (g : Int) &&& 31)) &&& I 1 = I (if m1.testBit g = true then 1 else 0) := by
      have := I_bitI (s := m1) (v := (g : Int)) (by have := hm.1; omega) (by omega) (by omega)
      rw [Int.toNat_natCast] at this
      exact this
    rw [hm.2 g (by omega), decide_eq_true hgg, Bool.true_and, o1] at e1
    have same : s'.1 g = s.1 g → s'.2.1 g = s.2.1 g → s'.2.2 g = s.2.2 g → ∀ L0 : xL, (∀ x ∈ [(0, Value.ref 121), (1, .int (I m1)), (2, .int (I q.1)), (3, .long (J X)), (5, .long (J Y)), (7, .long (J gc)), (9, .int (I ((g + 1 : Nat) : Int)))], x ∈ L0) → xX l tX10_findRates d 0 0 Q 0 0 308 L0 [] n ws1 := by
      intro y1 y2 y3
      refine hnx m1 ws1 (hR.congr (fun k hk => ?_)) (hm.congr (fun k hk => ?_)) hq1
      · by_cases e : k = g
        · subst e; rw [w2, w3, o2, o3]; exact ⟨y2, y3⟩
        · exact (mix_ne e).2
      · by_cases e : k = g
        · subst e; rw [w1, o1]; exact y1
        · exact (mix_ne e).1
    by_cases ho : s.1 g = true
    · rw [ho] at e1
      have e2 := e1.trans (show I (if true = true then 1 else 0) = I 1 from rfl)
      clear e1
      have hpos := g5 g hgg ho
      have hx : (WS S g)[0]? = some (WS S g)[0] := List.getElem?_eq_getElem hpos
      generalize (WS S g)[0] = x at hx
      have hha := v_hasArc (l := l) (d := 0) (n := n) hM1 hw hI1 hgg hx (a := q.1) (by omega)
      have hus := us_some (i := q.1) hx
      refine xL_ok (t := tX10_findRates) rfl (ops := oX10_findRates_308) (by decide +kernel) (T := []) (by decide +kernel) 0 ?_
      simp (disch := omega) only [oX10_findRates_308, rX10_findRates, x_iconst, x_bipush, x_sipush, x_lconst, x_iload, x_lload, x_aload, x_istore, x_lstore, x_astore, x_iinc, x_iadd, x_isub, x_imul, x_iand, x_ior, x_ixor, x_ishl, x_ishr, x_ineg, x_ladd, x_lsub, x_lmul, x_ldiv, x_lrem, x_lcmp, x_i2l, x_l2i, x_dup, x_dup_x1, x_dup2, x_if_eq, x_if_ne, x_if_lt, x_if_ge, x_if_gt, x_if_le, x_ic_eq, x_ic_ne, x_ic_lt, x_ic_ge, x_ic_gt, x_ic_le, x_goto, x_ireturn, x_lreturn, x_return, x_getfield, x_putfield, x_iaload, x_baload, x_laload, x_aaload, x_iastore, x_bastore, x_lastore, x_aastore, x_arraylength, x_newarray, x_anewarray, x_new, x_iload_0, x_iload_1, x_iload_2, x_iload_3, x_lload_0, x_lload_1, x_lload_2, x_lload_3, x_aload_0, x_aload_1, x_aload_2, x_aload_3, x_istore_0, x_istore_1, x_istore_2, x_istore_3, x_lstore_0, x_lstore_1, x_lstore_2, x_lstore_3, x_astore_0, x_astore_1, x_astore_2, x_astore_3, q_bipush_m3, q_bipush_m2, q_bipush_6, q_bipush_7, q_bipush_9, q_bipush_10, q_bipush_24, q_bipush_30, q_bipush_48, q_bipush_100, q_sipush_300, q_sipush_1000, q_sipush_24001, q_l0, q_l1, xtc_0_0, xtc_0_1, xtc_0_2, xtc_0_3, xtc_0_4, xtc_0_5, xtc_1_0, xtc_1_1, xtc_1_2, xtc_2_0, xtc_2_1, xtc_3_0, xtc_4_0, xtc_4_1, xtc_4_2, xtc_4_3, xtc_4_4, xtc_4_5, xtc_4_6, xtc_4_7, xtc_4_8, xtc_4_9, xtc_4_10, xtc_4_11, xtc_4_12, xtc_5_0, xtc_5_1, xtc_5_2, xtc_5_3, xtc_5_4, xtc_5_5, xtc_5_6, xtc_6_0, xtc_6_1, xtc_6_2, xtc_7_0, xtc_7_1, xtc_8_0, xtc_8_1, xtc_8_2, xtc_8_3, xtc_9_0, xtc_9_1, xtc_9_2, xtc_9_3, xtc_9_4, xtc_9_5, xtc_9_6, xtc_9_7, xtc_9_8, xtc_9_9, xtc_10_0, xtc_10_1, xtc_10_2, xtc_10_3, xtc_10_4, xtc_10_5, xtc_10_6, xtc_10_7, xtc_10_8, xtc_10_9, xtc_10_10, xtc_10_11, xtc_10_12, xtc_10_13, xtc_10_14, xtc_10_15, xtc_10_16, xtc_10_17, xtc_10_18, xtc_10_19, xtc_10_20, xtc_10_21, xtc_10_22, xtc_10_23, xtc_10_24, xtc_10_25, eq_self, reduceIte, Nat.reduceEqDiff, Nat.reduceAdd, Nat.reduceSub, Nat.zero_ne_one, Nat.one_ne_zero, Nat.succ_ne_zero, Nat.reduceLeDiff, reduceCtorEq, and_true, true_and, and_false, false_and, true_implies, false_implies, implies_true, not_true_eq_false, not_false_eq_true, xN_0, xN_s, xlook_c, xlook_n, xb_nil, xb_cons, xlen, xl_cons, xst_def, xst2_def, xdl_nil, xdl_int, xdl_ref, xdl_long, xrv_some, xfit_int, xfit_long, xfit_ref, cat_int, cat_ref, cat_long, xret_int, xret_bool, or_true, true_or, Option.some.injEq, Value.int.injEq, Value.ref.injEq, Value.long.injEq, List.getElem?_cons_zero, List.getElem?_cons_succ, List.set_cons_zero, List.set_cons_succ, List.length_cons, List.length_nil, xup_xup, Classical.not_not, Nat.reduceLT, Nat.zero_lt_succ, xup_self, xup_ne, ne_eq, ra_len, ro_len, ra_get, ro_get, ra_set, ro_set, I_add, I_sub, I_lt, I_le, I_eq, I_in, I_b0, I_b01, b_eq0, b_eq1, Int.toNat_natCast, mm, e2]
      refine ⟨fun h => absurd h (by omega), fun _ => ?_⟩
      refine cX10_findRates_332 mm (dc := 0) (cc := 0) (cs := 0) (by omega) (by omega) (by omega) (Nat.le_of_ble_eq_true rfl) (hha) (pureQ ?_)
      simp only [Option.toList_some, Option.toList_none, List.cons_append, List.nil_append, Nat.sub_zero, Nat.reduceSub, Nat.sub_self]
      by_cases hmm : q.1 ∈ x.2
      · rw [decide_eq_true hmm] at hus
        rw [if_pos hmm]
        obtain ⟨fa, fb, fn, ⟨r1, r2, r3⟩, hr⟩ := hR
        have hv : vp_in (I (g : Int)) 6 := by rw [I_in (by omega) (by omega)]; omega
        have ic := I_clr m1 hm.1 g (by omega)
        have sa : (rj 6 fa).set (I (g : Int)).toNatClampNeg (J (frA q.2 : Nat)) = rj 6 (fu fa g (frA q.2 : Nat)) := by rw [rj_set (by omega) (by omega), Int.toNat_natCast]
        have sb : (rj 6 fb).set (I (g : Int)).toNatClampNeg (J (frB q.2 : Nat)) = rj 6 (fu fb g (frB q.2 : Nat)) := by rw [rj_set (by omega) (by omega), Int.toNat_natCast]
        have sn : (ra 6 fn).set (I (g : Int)).toNatClampNeg (I (q.1 : Nat)) = ra 6 (fu fn g (q.1 : Nat)) := by rw [ra_set (by omega) (by omega), Int.toNat_natCast]
        refine xN_ok (t := tX10_findRates) rfl (T := [(335, oX10_findRates_335), (378, oX10_findRates_378)]) (by decide +kernel) 2 _ _ _ _ _ _ _ ?_
        simp only [oX10_findRates_335, oX10_findRates_378, rX10_findRates, x_iconst, x_bipush, x_sipush, x_lconst, x_iload, x_lload, x_aload, x_istore, x_lstore, x_astore, x_iinc, x_iadd, x_isub, x_imul, x_iand, x_ior, x_ixor, x_ishl, x_ishr, x_ineg, x_ladd, x_lsub, x_lmul, x_ldiv, x_lrem, x_lcmp, x_i2l, x_l2i, x_dup, x_dup_x1, x_dup2, x_if_eq, x_if_ne, x_if_lt, x_if_ge, x_if_gt, x_if_le, x_ic_eq, x_ic_ne, x_ic_lt, x_ic_ge, x_ic_gt, x_ic_le, x_goto, x_ireturn, x_lreturn, x_return, x_getfield, x_putfield, x_iaload, x_baload, x_laload, x_aaload, x_iastore, x_bastore, x_lastore, x_aastore, x_arraylength, x_newarray, x_anewarray, x_new, x_iload_0, x_iload_1, x_iload_2, x_iload_3, x_lload_0, x_lload_1, x_lload_2, x_lload_3, x_aload_0, x_aload_1, x_aload_2, x_aload_3, x_istore_0, x_istore_1, x_istore_2, x_istore_3, x_lstore_0, x_lstore_1, x_lstore_2, x_lstore_3, x_astore_0, x_astore_1, x_astore_2, x_astore_3, q_bipush_m3, q_bipush_m2, q_bipush_6, q_bipush_7, q_bipush_9, q_bipush_10, q_bipush_24, q_bipush_30, q_bipush_48, q_bipush_100, q_sipush_300, q_sipush_1000, q_sipush_24001, q_l0, q_l1, xtc_0_0, xtc_0_1, xtc_0_2, xtc_0_3, xtc_0_4, xtc_0_5, xtc_1_0, xtc_1_1, xtc_1_2, xtc_2_0, xtc_2_1, xtc_3_0, xtc_4_0, xtc_4_1, xtc_4_2, xtc_4_3, xtc_4_4, xtc_4_5, xtc_4_6, xtc_4_7, xtc_4_8, xtc_4_9, xtc_4_10, xtc_4_11, xtc_4_12, xtc_5_0, xtc_5_1, xtc_5_2, xtc_5_3, xtc_5_4, xtc_5_5, xtc_5_6, xtc_6_0, xtc_6_1, xtc_6_2, xtc_7_0, xtc_7_1, xtc_8_0, xtc_8_1, xtc_8_2, xtc_8_3, xtc_9_0, xtc_9_1, xtc_9_2, xtc_9_3, xtc_9_4, xtc_9_5, xtc_9_6, xtc_9_7, xtc_9_8, xtc_9_9, xtc_10_0, xtc_10_1, xtc_10_2, xtc_10_3, xtc_10_4, xtc_10_5, xtc_10_6, xtc_10_7, xtc_10_8, xtc_10_9, xtc_10_10, xtc_10_11, xtc_10_12, xtc_10_13, xtc_10_14, xtc_10_15, xtc_10_16, xtc_10_17, xtc_10_18, xtc_10_19, xtc_10_20, xtc_10_21, xtc_10_22, xtc_10_23, xtc_10_24, xtc_10_25, eq_self, reduceIte, Nat.reduceEqDiff, Nat.reduceAdd, Nat.reduceSub, Nat.zero_ne_one, Nat.one_ne_zero, Nat.succ_ne_zero, Nat.reduceLeDiff, reduceCtorEq, and_true, true_and, and_false, false_and, true_implies, false_implies, implies_true, not_true_eq_false, not_false_eq_true, xN_0, xN_s, xlook_c, xlook_n, xb_nil, xb_cons, xlen, xl_cons, xst_def, xst2_def, xdl_nil, xdl_int, xdl_ref, xdl_long, xrv_some, xfit_int, xfit_long, xfit_ref, cat_int, cat_ref, cat_long, xret_int, xret_bool, or_true, true_or, Option.some.injEq, Value.int.injEq, Value.ref.injEq, Value.long.injEq, List.getElem?_cons_zero, List.getElem?_cons_succ, List.set_cons_zero, List.set_cons_succ, List.length_cons, List.length_nil, xup_xup, Classical.not_not, Nat.reduceLT, Nat.zero_lt_succ, mm, r1, r2, r3, i10, z0, z1, z2, ic, sa, sb, sn, rj_len, ra_len, I_add]
        refine ⟨hv, hv, hv, ?_⟩
        refine hnx _ _ ⟨fu fa g (frA q.2 : Nat), fu fb g (frB q.2 : Nat), fu fn g (q.1 : Nat), ⟨(xup_ne _ _ (by omega)).trans ((xup_ne _ _ (by omega)).trans (xup_self _ _ _)), (xup_ne _ _ (by omega)).trans (xup_self _ _ _), xup_self _ _ _⟩, fun k hk => ?_⟩ ⟨clr_lt hm.1, fun k hk => ?_⟩ (fun p p1 p2 p3 => (xup_ne _ _ p3).trans ((xup_ne _ _ p2).trans ((xup_ne _ _ p1).trans (hq1 p p1 p2 p3)))) _ (by simp)
        · by_cases e : k = g
          · subst e
            rw [w2, w3, sc2, sc3, ho, hus, fu_s, fu_s, fu_s]
            exact ⟨rfl, rfl, rfl⟩
          · obtain ⟨-, y2, y3⟩ := mix_ne (s := s) (s' := s') e
            rw [y2, y3, fu_n _ _ e, fu_n _ _ e, fu_n _ _ e]
            exact hr k hk
        · rw [clr_bit m1 hm.1 g (by omega) k hk, hm.2 k hk]
          by_cases e : k = g
          · subst e
            rw [w1, sc1, ho, hus]
            simp
          · rw [(mix_ne (s := s) (s' := s') e).1]
            simp [e]
      · rw [decide_eq_false hmm] at hus
        rw [if_neg hmm]
        refine xN_ok (t := tX10_findRates) rfl (T := [(335, oX10_findRates_335), (378, oX10_findRates_378)]) (by decide +kernel) 2 _ _ _ _ _ _ _ ?_
        simp only [oX10_findRates_335, oX10_findRates_378, rX10_findRates, x_iconst, x_bipush, x_sipush, x_lconst, x_iload, x_lload, x_aload, x_istore, x_lstore, x_astore, x_iinc, x_iadd, x_isub, x_imul, x_iand, x_ior, x_ixor, x_ishl, x_ishr, x_ineg, x_ladd, x_lsub, x_lmul, x_ldiv, x_lrem, x_lcmp, x_i2l, x_l2i, x_dup, x_dup_x1, x_dup2, x_if_eq, x_if_ne, x_if_lt, x_if_ge, x_if_gt, x_if_le, x_ic_eq, x_ic_ne, x_ic_lt, x_ic_ge, x_ic_gt, x_ic_le, x_goto, x_ireturn, x_lreturn, x_return, x_getfield, x_putfield, x_iaload, x_baload, x_laload, x_aaload, x_iastore, x_bastore, x_lastore, x_aastore, x_arraylength, x_newarray, x_anewarray, x_new, x_iload_0, x_iload_1, x_iload_2, x_iload_3, x_lload_0, x_lload_1, x_lload_2, x_lload_3, x_aload_0, x_aload_1, x_aload_2, x_aload_3, x_istore_0, x_istore_1, x_istore_2, x_istore_3, x_lstore_0, x_lstore_1, x_lstore_2, x_lstore_3, x_astore_0, x_astore_1, x_astore_2, x_astore_3, q_bipush_m3, q_bipush_m2, q_bipush_6, q_bipush_7, q_bipush_9, q_bipush_10, q_bipush_24, q_bipush_30, q_bipush_48, q_bipush_100, q_sipush_300, q_sipush_1000, q_sipush_24001, q_l0, q_l1, xtc_0_0, xtc_0_1, xtc_0_2, xtc_0_3, xtc_0_4, xtc_0_5, xtc_1_0, xtc_1_1, xtc_1_2, xtc_2_0, xtc_2_1, xtc_3_0, xtc_4_0, xtc_4_1, xtc_4_2, xtc_4_3, xtc_4_4, xtc_4_5, xtc_4_6, xtc_4_7, xtc_4_8, xtc_4_9, xtc_4_10, xtc_4_11, xtc_4_12, xtc_5_0, xtc_5_1, xtc_5_2, xtc_5_3, xtc_5_4, xtc_5_5, xtc_5_6, xtc_6_0, xtc_6_1, xtc_6_2, xtc_7_0, xtc_7_1, xtc_8_0, xtc_8_1, xtc_8_2, xtc_8_3, xtc_9_0, xtc_9_1, xtc_9_2, xtc_9_3, xtc_9_4, xtc_9_5, xtc_9_6, xtc_9_7, xtc_9_8, xtc_9_9, xtc_10_0, xtc_10_1, xtc_10_2, xtc_10_3, xtc_10_4, xtc_10_5, xtc_10_6, xtc_10_7, xtc_10_8, xtc_10_9, xtc_10_10, xtc_10_11, xtc_10_12, xtc_10_13, xtc_10_14, xtc_10_15, xtc_10_16, xtc_10_17, xtc_10_18, xtc_10_19, xtc_10_20, xtc_10_21, xtc_10_22, xtc_10_23, xtc_10_24, xtc_10_25, eq_self, reduceIte, Nat.reduceEqDiff, Nat.reduceAdd, Nat.reduceSub, Nat.zero_ne_one, Nat.one_ne_zero, Nat.succ_ne_zero, Nat.reduceLeDiff, reduceCtorEq, and_true, true_and, and_false, false_and, true_implies, false_implies, implies_true, not_true_eq_false, not_false_eq_true, xN_0, xN_s, xlook_c, xlook_n, xb_nil, xb_cons, xlen, xl_cons, xst_def, xst2_def, xdl_nil, xdl_int, xdl_ref, xdl_long, xrv_some, xfit_int, xfit_long, xfit_ref, cat_int, cat_ref, cat_long, xret_int, xret_bool, or_true, true_or, Option.some.injEq, Value.int.injEq, Value.ref.injEq, Value.long.injEq, List.getElem?_cons_zero, List.getElem?_cons_succ, List.set_cons_zero, List.set_cons_succ, List.length_cons, List.length_nil, xup_xup, Classical.not_not, Nat.reduceLT, Nat.zero_lt_succ, I_add]
        exact same (by rw [sc1, hus]; simp) (by rw [sc2, hus]; simp) (by rw [sc3, hus]; simp) _ (by simp)
    · have hof := Bool.eq_false_iff.mpr ho
      rw [hof] at e1
      have e2 := e1.trans (show I (if false = true then 1 else 0) = I 0 from rfl)
      clear e1
      refine xL_ok (t := tX10_findRates) rfl (ops := oX10_findRates_308) (by decide +kernel) (T := [(378, oX10_findRates_378)]) (by decide +kernel) 1 ?_
      simp (disch := omega) only [oX10_findRates_378, oX10_findRates_308, rX10_findRates, x_iconst, x_bipush, x_sipush, x_lconst, x_iload, x_lload, x_aload, x_istore, x_lstore, x_astore, x_iinc, x_iadd, x_isub, x_imul, x_iand, x_ior, x_ixor, x_ishl, x_ishr, x_ineg, x_ladd, x_lsub, x_lmul, x_ldiv, x_lrem, x_lcmp, x_i2l, x_l2i, x_dup, x_dup_x1, x_dup2, x_if_eq, x_if_ne, x_if_lt, x_if_ge, x_if_gt, x_if_le, x_ic_eq, x_ic_ne, x_ic_lt, x_ic_ge, x_ic_gt, x_ic_le, x_goto, x_ireturn, x_lreturn, x_return, x_getfield, x_putfield, x_iaload, x_baload, x_laload, x_aaload, x_iastore, x_bastore, x_lastore, x_aastore, x_arraylength, x_newarray, x_anewarray, x_new, x_iload_0, x_iload_1, x_iload_2, x_iload_3, x_lload_0, x_lload_1, x_lload_2, x_lload_3, x_aload_0, x_aload_1, x_aload_2, x_aload_3, x_istore_0, x_istore_1, x_istore_2, x_istore_3, x_lstore_0, x_lstore_1, x_lstore_2, x_lstore_3, x_astore_0, x_astore_1, x_astore_2, x_astore_3, q_bipush_m3, q_bipush_m2, q_bipush_6, q_bipush_7, q_bipush_9, q_bipush_10, q_bipush_24, q_bipush_30, q_bipush_48, q_bipush_100, q_sipush_300, q_sipush_1000, q_sipush_24001, q_l0, q_l1, xtc_0_0, xtc_0_1, xtc_0_2, xtc_0_3, xtc_0_4, xtc_0_5, xtc_1_0, xtc_1_1, xtc_1_2, xtc_2_0, xtc_2_1, xtc_3_0, xtc_4_0, xtc_4_1, xtc_4_2, xtc_4_3, xtc_4_4, xtc_4_5, xtc_4_6, xtc_4_7, xtc_4_8, xtc_4_9, xtc_4_10, xtc_4_11, xtc_4_12, xtc_5_0, xtc_5_1, xtc_5_2, xtc_5_3, xtc_5_4, xtc_5_5, xtc_5_6, xtc_6_0, xtc_6_1, xtc_6_2, xtc_7_0, xtc_7_1, xtc_8_0, xtc_8_1, xtc_8_2, xtc_8_3, xtc_9_0, xtc_9_1, xtc_9_2, xtc_9_3, xtc_9_4, xtc_9_5, xtc_9_6, xtc_9_7, xtc_9_8, xtc_9_9, xtc_10_0, xtc_10_1, xtc_10_2, xtc_10_3, xtc_10_4, xtc_10_5, xtc_10_6, xtc_10_7, xtc_10_8, xtc_10_9, xtc_10_10, xtc_10_11, xtc_10_12, xtc_10_13, xtc_10_14, xtc_10_15, xtc_10_16, xtc_10_17, xtc_10_18, xtc_10_19, xtc_10_20, xtc_10_21, xtc_10_22, xtc_10_23, xtc_10_24, xtc_10_25, eq_self, reduceIte, Nat.reduceEqDiff, Nat.reduceAdd, Nat.reduceSub, Nat.zero_ne_one, Nat.one_ne_zero, Nat.succ_ne_zero, Nat.reduceLeDiff, reduceCtorEq, and_true, true_and, and_false, false_and, true_implies, false_implies, implies_true, not_true_eq_false, not_false_eq_true, xN_0, xN_s, xlook_c, xlook_n, xb_nil, xb_cons, xlen, xl_cons, xst_def, xst2_def, xdl_nil, xdl_int, xdl_ref, xdl_long, xrv_some, xfit_int, xfit_long, xfit_ref, cat_int, cat_ref, cat_long, xret_int, xret_bool, or_true, true_or, Option.some.injEq, Value.int.injEq, Value.ref.injEq, Value.long.injEq, List.getElem?_cons_zero, List.getElem?_cons_succ, List.set_cons_zero, List.set_cons_succ, List.length_cons, List.length_nil, xup_xup, Classical.not_not, Nat.reduceLT, Nat.zero_lt_succ, xup_self, xup_ne, ne_eq, ra_len, ro_len, ra_get, ro_get, ra_set, ro_set, I_add, I_sub, I_lt, I_le, I_eq, I_in, I_b0, I_b01, b_eq0, b_eq1, Int.toNat_natCast, mm, e2, i01]
      refine ⟨fun h => absurd h (by omega), fun _ => ?_⟩
      exact same (by rw [sc1, hof]; simp) (by rw [sc2, hof]; simp) (by rw [sc3, hof]; simp) _ (by simp)
theorem v_findRates (hM : ModR ws S (S.2 2) bw bs) (hw : WF S) (hI : MInv ws S) (hX : ∃ fa fb fn, MRx ws fa fb fn) (hd : 1 ≤ d) : xM l tX10_findRates d 0 0 [.ref 121] n ws (fun r n' ws' => r = none ∧ n' = n ∧ MRt ws' S (RT S) ∧ ∀ q, q ≠ 139 → q ≠ 140 → q ≠ 141 → ws' q = ws q) := by
  generalize hQ : (fun (r : Option Value) (n' : Nat) (ws' : xW) => r = none ∧ n' = n ∧ MRt ws' S (RT S) ∧ ∀ q, q ≠ 139 → q ≠ 140 → q ≠ 141 → ws' q = ws q) = Q
  have hb : S.ng ≤ 6 := hw.2.2.1
  have hba : S.na ≤ 24 := hw.2.1
  have stop : ∀ (s : RS) (m : Nat) (ws1 : xW), cn s.1 S.ng = 0 → MRt ws1 S s → mkm S s m → s = RT S → (∀ q, q ≠ 139 → q ≠ 140 → q ≠ 141 → ws1 q = ws q) → ∀ L0 : xL, (∀ x ∈ [(0, Value.ref 121), (1, .int (I m))], x ∈ L0) → xX l tX10_findRates d 0 0 Q 0 0 58 L0 [] n ws1 := by
    intro s m ws1 hc hR hm hs hq1 L0 hL0
    refine xX.loc _ hL0 ?_
    have m0 : m = 0 := by
      refine bits0 m hm.1 (fun h hh => ?_)
      rw [hm.2 h hh]
      by_cases hg : h < S.ng
      · cases hso : s.1 h with
        | false => simp
        | true => have := cn_pos (o := s.1) S.ng h hg hso; omega
      · simp [hg]
    have hz : (I (m : Int) = I 0) = True := by rw [m0]; decide
    refine xL_ok (t := tX10_findRates) rfl (ops := oX10_findRates_58) (by decide +kernel) (T := [(387, oX10_findRates_387)]) (by decide +kernel) 1 ?_
    simp only [oX10_findRates_387, oX10_findRates_58, rX10_findRates, x_iconst, x_bipush, x_sipush, x_lconst, x_iload, x_lload, x_aload, x_istore, x_lstore, x_astore, x_iinc, x_iadd, x_isub, x_imul, x_iand, x_ior, x_ixor, x_ishl, x_ishr, x_ineg, x_ladd, x_lsub, x_lmul, x_ldiv, x_lrem, x_lcmp, x_i2l, x_l2i, x_dup, x_dup_x1, x_dup2, x_if_eq, x_if_ne, x_if_lt, x_if_ge, x_if_gt, x_if_le, x_ic_eq, x_ic_ne, x_ic_lt, x_ic_ge, x_ic_gt, x_ic_le, x_goto, x_ireturn, x_lreturn, x_return, x_getfield, x_putfield, x_iaload, x_baload, x_laload, x_aaload, x_iastore, x_bastore, x_lastore, x_aastore, x_arraylength, x_newarray, x_anewarray, x_new, x_iload_0, x_iload_1, x_iload_2, x_iload_3, x_lload_0, x_lload_1, x_lload_2, x_lload_3, x_aload_0, x_aload_1, x_aload_2, x_aload_3, x_istore_0, x_istore_1, x_istore_2, x_istore_3, x_lstore_0, x_lstore_1, x_lstore_2, x_lstore_3, x_astore_0, x_astore_1, x_astore_2, x_astore_3, q_bipush_m3, q_bipush_m2, q_bipush_6, q_bipush_7, q_bipush_9, q_bipush_10, q_bipush_24, q_bipush_30, q_bipush_48, q_bipush_100, q_sipush_300, q_sipush_1000, q_sipush_24001, q_l0, q_l1, xtc_0_0, xtc_0_1, xtc_0_2, xtc_0_3, xtc_0_4, xtc_0_5, xtc_1_0, xtc_1_1, xtc_1_2, xtc_2_0, xtc_2_1, xtc_3_0, xtc_4_0, xtc_4_1, xtc_4_2, xtc_4_3, xtc_4_4, xtc_4_5, xtc_4_6, xtc_4_7, xtc_4_8, xtc_4_9, xtc_4_10, xtc_4_11, xtc_4_12, xtc_5_0, xtc_5_1, xtc_5_2, xtc_5_3, xtc_5_4, xtc_5_5, xtc_5_6, xtc_6_0, xtc_6_1, xtc_6_2, xtc_7_0, xtc_7_1, xtc_8_0, xtc_8_1, xtc_8_2, xtc_8_3, xtc_9_0, xtc_9_1, xtc_9_2, xtc_9_3, xtc_9_4, xtc_9_5, xtc_9_6, xtc_9_7, xtc_9_8, xtc_9_9, xtc_10_0, xtc_10_1, xtc_10_2, xtc_10_3, xtc_10_4, xtc_10_5, xtc_10_6, xtc_10_7, xtc_10_8, xtc_10_9, xtc_10_10, xtc_10_11, xtc_10_12, xtc_10_13, xtc_10_14, xtc_10_15, xtc_10_16, xtc_10_17, xtc_10_18, xtc_10_19, xtc_10_20, xtc_10_21, xtc_10_22, xtc_10_23, xtc_10_24, xtc_10_25, eq_self, reduceIte, Nat.reduceEqDiff, Nat.reduceAdd, Nat.reduceSub, Nat.zero_ne_one, Nat.one_ne_zero, Nat.succ_ne_zero, Nat.reduceLeDiff, reduceCtorEq, and_true, true_and, and_false, false_and, true_implies, false_implies, implies_true, not_true_eq_false, not_false_eq_true, xN_0, xN_s, xlook_c, xlook_n, xb_nil, xb_cons, xlen, xl_cons, xst_def, xst2_def, xdl_nil, xdl_int, xdl_ref, xdl_long, xrv_some, xfit_int, xfit_long, xfit_ref, cat_int, cat_ref, cat_long, xret_int, xret_bool, or_true, true_or, Option.some.injEq, Value.int.injEq, Value.ref.injEq, Value.long.injEq, List.getElem?_cons_zero, List.getElem?_cons_succ, List.set_cons_zero, List.set_cons_succ, List.length_cons, List.length_nil, xup_xup, Classical.not_not, Nat.reduceLT, Nat.zero_lt_succ, hz]
    rw [← hQ]
    rw [hs] at hR
    exact ⟨rfl, rfl, hR, hq1⟩
  have main : ∀ (k : Nat) (s : RS) (m : Nat) (ws1 : xW), cn s.1 S.ng ≤ k → GI S s → MRt ws1 S s → mkm S s m → itn S k s = RT S → (∀ q, q ≠ 139 → q ≠ 140 → q ≠ 141 → ws1 q = ws q) → ∀ L0 : xL, (∀ x ∈ [(0, Value.ref 121), (1, .int (I m))], x ∈ L0) → xX l tX10_findRates d 0 0 Q 0 0 58 L0 [] n ws1 := by
    intro k
    induction k with
    | zero =>
      intro s m ws1 hc hG hR hm hi hq1
      exact stop s m ws1 (by omega) hR hm hi hq1
    | succ k ih =>
      intro s m ws1 hc hG hR hm hi hq1 L0 hL0
      by_cases hz : cn s.1 S.ng = 0
      · exact stop s m ws1 hz hR hm (by rw [itn_id (tg_shut hz)] at hi; exact hi) hq1 L0 hL0
      · refine xX.loc _ hL0 ?_
        obtain ⟨q, hq⟩ := tg_open hw hG (by omega)
        have hM1 := hM.keep (ws' := ws1) (fun p a b => hq1 p (by omega) (by omega) (by omega))
        have hI1 := hI.keep (ws' := ws1) (fun p a b => hq1 p (by omega) (by omega) (by omega))
        have hmz : (I (m : Int) = I 0) = False := by
          have := hm.1
          rw [I_eq (by omega) (by omega) (by omega) (by omega)]
          refine eq_false (fun h => ?_)
          have h0 : m = 0 := by omega
          obtain ⟨g, hg, hog⟩ := cn_ex S.ng (o := s.1) (by omega)
          have := hm.2 g (by omega)
          rw [h0, decide_eq_true hg, hog] at this
          simp at this
        rw [itn_some hq] at hi
        refine xL_ok (t := tX10_findRates) rfl (ops := oX10_findRates_58) (by decide +kernel) (T := []) (by decide +kernel) 0 ?_
        simp only [oX10_findRates_58, rX10_findRates, x_iconst, x_bipush, x_sipush, x_lconst, x_iload, x_lload, x_aload, x_istore, x_lstore, x_astore, x_iinc, x_iadd, x_isub, x_imul, x_iand, x_ior, x_ixor, x_ishl, x_ishr, x_ineg, x_ladd, x_lsub, x_lmul, x_ldiv, x_lrem, x_lcmp, x_i2l, x_l2i, x_dup, x_dup_x1, x_dup2, x_if_eq, x_if_ne, x_if_lt, x_if_ge, x_if_gt, x_if_le, x_ic_eq, x_ic_ne, x_ic_lt, x_ic_ge, x_ic_gt, x_ic_le, x_goto, x_ireturn, x_lreturn, x_return, x_getfield, x_putfield, x_iaload, x_baload, x_laload, x_aaload, x_iastore, x_bastore, x_lastore, x_aastore, x_arraylength, x_newarray, x_anewarray, x_new, x_iload_0, x_iload_1, x_iload_2, x_iload_3, x_lload_0, x_lload_1, x_lload_2, x_lload_3, x_aload_0, x_aload_1, x_aload_2, x_aload_3, x_istore_0, x_istore_1, x_istore_2, x_istore_3, x_lstore_0, x_lstore_1, x_lstore_2, x_lstore_3, x_astore_0, x_astore_1, x_astore_2, x_astore_3, q_bipush_m3, q_bipush_m2, q_bipush_6, q_bipush_7, q_bipush_9, q_bipush_10, q_bipush_24, q_bipush_30, q_bipush_48, q_bipush_100, q_sipush_300, q_sipush_1000, q_sipush_24001, q_l0, q_l1, xtc_0_0, xtc_0_1, xtc_0_2, xtc_0_3, xtc_0_4, xtc_0_5, xtc_1_0, xtc_1_1, xtc_1_2, xtc_2_0, xtc_2_1, xtc_3_0, xtc_4_0, xtc_4_1, xtc_4_2, xtc_4_3, xtc_4_4, xtc_4_5, xtc_4_6, xtc_4_7, xtc_4_8, xtc_4_9, xtc_4_10, xtc_4_11, xtc_4_12, xtc_5_0, xtc_5_1, xtc_5_2, xtc_5_3, xtc_5_4, xtc_5_5, xtc_5_6, xtc_6_0, xtc_6_1, xtc_6_2, xtc_7_0, xtc_7_1, xtc_8_0, xtc_8_1, xtc_8_2, xtc_8_3, xtc_9_0, xtc_9_1, xtc_9_2, xtc_9_3, xtc_9_4, xtc_9_5, xtc_9_6, xtc_9_7, xtc_9_8, xtc_9_9, xtc_10_0, xtc_10_1, xtc_10_2, xtc_10_3, xtc_10_4, xtc_10_5, xtc_10_6, xtc_10_7, xtc_10_8, xtc_10_9, xtc_10_10, xtc_10_11, xtc_10_12, xtc_10_13, xtc_10_14, xtc_10_15, xtc_10_16, xtc_10_17, xtc_10_18, xtc_10_19, xtc_10_20, xtc_10_21, xtc_10_22, xtc_10_23, xtc_10_24, xtc_10_25, eq_self, reduceIte, Nat.reduceEqDiff, Nat.reduceAdd, Nat.reduceSub, Nat.zero_ne_one, Nat.one_ne_zero, Nat.succ_ne_zero, Nat.reduceLeDiff, reduceCtorEq, and_true, true_and, and_false, false_and, true_implies, false_implies, implies_true, not_true_eq_false, not_false_eq_true, xN_0, xN_s, xlook_c, xlook_n, xb_nil, xb_cons, xlen, xl_cons, xst_def, xst2_def, xdl_nil, xdl_int, xdl_ref, xdl_long, xrv_some, xfit_int, xfit_long, xfit_ref, cat_int, cat_ref, cat_long, xret_int, xret_bool, or_true, true_or, Option.some.injEq, Value.int.injEq, Value.ref.injEq, Value.long.injEq, List.getElem?_cons_zero, List.getElem?_cons_succ, List.set_cons_zero, List.set_cons_succ, List.length_cons, List.length_nil, xup_xup, Classical.not_not, Nat.reduceLT, Nat.zero_lt_succ, hmz, J_0, J_1]
        refine v_arcs hM1 hw hI1 hR hG hm hd (fun bst X Y hB L0 hL0 => ?_) S.na 0 (by omega) (-1) 0 1 ⟨rfl, rfl, rfl⟩ _ (by simp)
        refine xX.loc _ hL0 ?_
        unfold BA at hB
        rw [hq] at hB
        obtain ⟨rfl, b1, b2, b3, b4⟩ := hB
        refine xN_ok (t := tX10_findRates) rfl (T := [(297, oX10_findRates_297)]) (by decide +kernel) 1 _ _ _ _ _ _ _ ?_
        simp only [oX10_findRates_297, rX10_findRates, x_iconst, x_bipush, x_sipush, x_lconst, x_iload, x_lload, x_aload, x_istore, x_lstore, x_astore, x_iinc, x_iadd, x_isub, x_imul, x_iand, x_ior, x_ixor, x_ishl, x_ishr, x_ineg, x_ladd, x_lsub, x_lmul, x_ldiv, x_lrem, x_lcmp, x_i2l, x_l2i, x_dup, x_dup_x1, x_dup2, x_if_eq, x_if_ne, x_if_lt, x_if_ge, x_if_gt, x_if_le, x_ic_eq, x_ic_ne, x_ic_lt, x_ic_ge, x_ic_gt, x_ic_le, x_goto, x_ireturn, x_lreturn, x_return, x_getfield, x_putfield, x_iaload, x_baload, x_laload, x_aaload, x_iastore, x_bastore, x_lastore, x_aastore, x_arraylength, x_newarray, x_anewarray, x_new, x_iload_0, x_iload_1, x_iload_2, x_iload_3, x_lload_0, x_lload_1, x_lload_2, x_lload_3, x_aload_0, x_aload_1, x_aload_2, x_aload_3, x_istore_0, x_istore_1, x_istore_2, x_istore_3, x_lstore_0, x_lstore_1, x_lstore_2, x_lstore_3, x_astore_0, x_astore_1, x_astore_2, x_astore_3, q_bipush_m3, q_bipush_m2, q_bipush_6, q_bipush_7, q_bipush_9, q_bipush_10, q_bipush_24, q_bipush_30, q_bipush_48, q_bipush_100, q_sipush_300, q_sipush_1000, q_sipush_24001, q_l0, q_l1, xtc_0_0, xtc_0_1, xtc_0_2, xtc_0_3, xtc_0_4, xtc_0_5, xtc_1_0, xtc_1_1, xtc_1_2, xtc_2_0, xtc_2_1, xtc_3_0, xtc_4_0, xtc_4_1, xtc_4_2, xtc_4_3, xtc_4_4, xtc_4_5, xtc_4_6, xtc_4_7, xtc_4_8, xtc_4_9, xtc_4_10, xtc_4_11, xtc_4_12, xtc_5_0, xtc_5_1, xtc_5_2, xtc_5_3, xtc_5_4, xtc_5_5, xtc_5_6, xtc_6_0, xtc_6_1, xtc_6_2, xtc_7_0, xtc_7_1, xtc_8_0, xtc_8_1, xtc_8_2, xtc_8_3, xtc_9_0, xtc_9_1, xtc_9_2, xtc_9_3, xtc_9_4, xtc_9_5, xtc_9_6, xtc_9_7, xtc_9_8, xtc_9_9, xtc_10_0, xtc_10_1, xtc_10_2, xtc_10_3, xtc_10_4, xtc_10_5, xtc_10_6, xtc_10_7, xtc_10_8, xtc_10_9, xtc_10_10, xtc_10_11, xtc_10_12, xtc_10_13, xtc_10_14, xtc_10_15, xtc_10_16, xtc_10_17, xtc_10_18, xtc_10_19, xtc_10_20, xtc_10_21, xtc_10_22, xtc_10_23, xtc_10_24, xtc_10_25, eq_self, reduceIte, Nat.reduceEqDiff, Nat.reduceAdd, Nat.reduceSub, Nat.zero_ne_one, Nat.one_ne_zero, Nat.succ_ne_zero, Nat.reduceLeDiff, reduceCtorEq, and_true, true_and, and_false, false_and, true_implies, false_implies, implies_true, not_true_eq_false, not_false_eq_true, xN_0, xN_s, xlook_c, xlook_n, xb_nil, xb_cons, xlen, xl_cons, xst_def, xst2_def, xdl_nil, xdl_int, xdl_ref, xdl_long, xrv_some, xfit_int, xfit_long, xfit_ref, cat_int, cat_ref, cat_long, xret_int, xret_bool, or_true, true_or, Option.some.injEq, Value.int.injEq, Value.ref.injEq, Value.long.injEq, List.getElem?_cons_zero, List.getElem?_cons_succ, List.set_cons_zero, List.set_cons_succ, List.length_cons, List.length_nil, xup_xup, Classical.not_not, Nat.reduceLT, Nat.zero_lt_succ]
        refine cX10_findRates_300 (dc := 0) (cc := 0) (cs := 0) (by omega) (by omega) (by omega) (Nat.le_of_ble_eq_true rfl) (v_common (by omega) (by omega)) (pureQ ?_)
        simp only [Option.toList_some, Option.toList_none, List.cons_append, List.nil_append, Nat.sub_zero, Nat.reduceSub, Nat.sub_self]
        refine xN_ok (t := tX10_findRates) rfl (T := [(303, oX10_findRates_303)]) (by decide +kernel) 1 _ _ _ _ _ _ _ ?_
        simp only [oX10_findRates_303, rX10_findRates, x_iconst, x_bipush, x_sipush, x_lconst, x_iload, x_lload, x_aload, x_istore, x_lstore, x_astore, x_iinc, x_iadd, x_isub, x_imul, x_iand, x_ior, x_ixor, x_ishl, x_ishr, x_ineg, x_ladd, x_lsub, x_lmul, x_ldiv, x_lrem, x_lcmp, x_i2l, x_l2i, x_dup, x_dup_x1, x_dup2, x_if_eq, x_if_ne, x_if_lt, x_if_ge, x_if_gt, x_if_le, x_ic_eq, x_ic_ne, x_ic_lt, x_ic_ge, x_ic_gt, x_ic_le, x_goto, x_ireturn, x_lreturn, x_return, x_getfield, x_putfield, x_iaload, x_baload, x_laload, x_aaload, x_iastore, x_bastore, x_lastore, x_aastore, x_arraylength, x_newarray, x_anewarray, x_new, x_iload_0, x_iload_1, x_iload_2, x_iload_3, x_lload_0, x_lload_1, x_lload_2, x_lload_3, x_aload_0, x_aload_1, x_aload_2, x_aload_3, x_istore_0, x_istore_1, x_istore_2, x_istore_3, x_lstore_0, x_lstore_1, x_lstore_2, x_lstore_3, x_astore_0, x_astore_1, x_astore_2, x_astore_3, q_bipush_m3, q_bipush_m2, q_bipush_6, q_bipush_7, q_bipush_9, q_bipush_10, q_bipush_24, q_bipush_30, q_bipush_48, q_bipush_100, q_sipush_300, q_sipush_1000, q_sipush_24001, q_l0, q_l1, xtc_0_0, xtc_0_1, xtc_0_2, xtc_0_3, xtc_0_4, xtc_0_5, xtc_1_0, xtc_1_1, xtc_1_2, xtc_2_0, xtc_2_1, xtc_3_0, xtc_4_0, xtc_4_1, xtc_4_2, xtc_4_3, xtc_4_4, xtc_4_5, xtc_4_6, xtc_4_7, xtc_4_8, xtc_4_9, xtc_4_10, xtc_4_11, xtc_4_12, xtc_5_0, xtc_5_1, xtc_5_2, xtc_5_3, xtc_5_4, xtc_5_5, xtc_5_6, xtc_6_0, xtc_6_1, xtc_6_2, xtc_7_0, xtc_7_1, xtc_8_0, xtc_8_1, xtc_8_2, xtc_8_3, xtc_9_0, xtc_9_1, xtc_9_2, xtc_9_3, xtc_9_4, xtc_9_5, xtc_9_6, xtc_9_7, xtc_9_8, xtc_9_9, xtc_10_0, xtc_10_1, xtc_10_2, xtc_10_3, xtc_10_4, xtc_10_5, xtc_10_6, xtc_10_7, xtc_10_8, xtc_10_9, xtc_10_10, xtc_10_11, xtc_10_12, xtc_10_13, xtc_10_14, xtc_10_15, xtc_10_16, xtc_10_17, xtc_10_18, xtc_10_19, xtc_10_20, xtc_10_21, xtc_10_22, xtc_10_23, xtc_10_24, xtc_10_25, eq_self, reduceIte, Nat.reduceEqDiff, Nat.reduceAdd, Nat.reduceSub, Nat.zero_ne_one, Nat.one_ne_zero, Nat.succ_ne_zero, Nat.reduceLeDiff, reduceCtorEq, and_true, true_and, and_false, false_and, true_implies, false_implies, implies_true, not_true_eq_false, not_false_eq_true, xN_0, xN_s, xlook_c, xlook_n, xb_nil, xb_cons, xlen, xl_cons, xst_def, xst2_def, xdl_nil, xdl_int, xdl_ref, xdl_long, xrv_some, xfit_int, xfit_long, xfit_ref, cat_int, cat_ref, cat_long, xret_int, xret_bool, or_true, true_or, Option.some.injEq, Value.int.injEq, Value.ref.injEq, Value.long.injEq, List.getElem?_cons_zero, List.getElem?_cons_succ, List.set_cons_zero, List.set_cons_succ, List.length_cons, List.length_nil, xup_xup, Classical.not_not, Nat.reduceLT, Nat.zero_lt_succ]
        refine v_close hM1 hw hI1 hG hq b1 b2 b3 b4 hd (fun m2 ws2 hR2 hm2 hq2 L0 hL0 => ?_) S.ng 0 (by omega) m ws1 (hR.congr (fun k hk => (mix_old (by omega)).2)) (hm.congr (fun k hk => (mix_old (by omega)).1)) (fun _ _ _ _ => rfl) _ (by simp)
        refine xX.loc _ hL0 ?_
        refine xN_ok (t := tX10_findRates) rfl (T := [(384, oX10_findRates_384)]) (by decide +kernel) 1 _ _ _ _ _ _ _ ?_
        simp only [oX10_findRates_384, rX10_findRates, x_iconst, x_bipush, x_sipush, x_lconst, x_iload, x_lload, x_aload, x_istore, x_lstore, x_astore, x_iinc, x_iadd, x_isub, x_imul, x_iand, x_ior, x_ixor, x_ishl, x_ishr, x_ineg, x_ladd, x_lsub, x_lmul, x_ldiv, x_lrem, x_lcmp, x_i2l, x_l2i, x_dup, x_dup_x1, x_dup2, x_if_eq, x_if_ne, x_if_lt, x_if_ge, x_if_gt, x_if_le, x_ic_eq, x_ic_ne, x_ic_lt, x_ic_ge, x_ic_gt, x_ic_le, x_goto, x_ireturn, x_lreturn, x_return, x_getfield, x_putfield, x_iaload, x_baload, x_laload, x_aaload, x_iastore, x_bastore, x_lastore, x_aastore, x_arraylength, x_newarray, x_anewarray, x_new, x_iload_0, x_iload_1, x_iload_2, x_iload_3, x_lload_0, x_lload_1, x_lload_2, x_lload_3, x_aload_0, x_aload_1, x_aload_2, x_aload_3, x_istore_0, x_istore_1, x_istore_2, x_istore_3, x_lstore_0, x_lstore_1, x_lstore_2, x_lstore_3, x_astore_0, x_astore_1, x_astore_2, x_astore_3, q_bipush_m3, q_bipush_m2, q_bipush_6, q_bipush_7, q_bipush_9, q_bipush_10, q_bipush_24, q_bipush_30, q_bipush_48, q_bipush_100, q_sipush_300, q_sipush_1000, q_sipush_24001, q_l0, q_l1, xtc_0_0, xtc_0_1, xtc_0_2, xtc_0_3, xtc_0_4, xtc_0_5, xtc_1_0, xtc_1_1, xtc_1_2, xtc_2_0, xtc_2_1, xtc_3_0, xtc_4_0, xtc_4_1, xtc_4_2, xtc_4_3, xtc_4_4, xtc_4_5, xtc_4_6, xtc_4_7, xtc_4_8, xtc_4_9, xtc_4_10, xtc_4_11, xtc_4_12, xtc_5_0, xtc_5_1, xtc_5_2, xtc_5_3, xtc_5_4, xtc_5_5, xtc_5_6, xtc_6_0, xtc_6_1, xtc_6_2, xtc_7_0, xtc_7_1, xtc_8_0, xtc_8_1, xtc_8_2, xtc_8_3, xtc_9_0, xtc_9_1, xtc_9_2, xtc_9_3, xtc_9_4, xtc_9_5, xtc_9_6, xtc_9_7, xtc_9_8, xtc_9_9, xtc_10_0, xtc_10_1, xtc_10_2, xtc_10_3, xtc_10_4, xtc_10_5, xtc_10_6, xtc_10_7, xtc_10_8, xtc_10_9, xtc_10_10, xtc_10_11, xtc_10_12, xtc_10_13, xtc_10_14, xtc_10_15, xtc_10_16, xtc_10_17, xtc_10_18, xtc_10_19, xtc_10_20, xtc_10_21, xtc_10_22, xtc_10_23, xtc_10_24, xtc_10_25, eq_self, reduceIte, Nat.reduceEqDiff, Nat.reduceAdd, Nat.reduceSub, Nat.zero_ne_one, Nat.one_ne_zero, Nat.succ_ne_zero, Nat.reduceLeDiff, reduceCtorEq, and_true, true_and, and_false, false_and, true_implies, false_implies, implies_true, not_true_eq_false, not_false_eq_true, xN_0, xN_s, xlook_c, xlook_n, xb_nil, xb_cons, xlen, xl_cons, xst_def, xst2_def, xdl_nil, xdl_int, xdl_ref, xdl_long, xrv_some, xfit_int, xfit_long, xfit_ref, cat_int, cat_ref, cat_long, xret_int, xret_bool, or_true, true_or, Option.some.injEq, Value.int.injEq, Value.ref.injEq, Value.long.injEq, List.getElem?_cons_zero, List.getElem?_cons_succ, List.set_cons_zero, List.set_cons_succ, List.length_cons, List.length_nil, xup_xup, Classical.not_not, Nat.reduceLT, Nat.zero_lt_succ]
        refine ih (clA S s q.1 q.2) m2 ws2 ?_ (GI_clA hw hG hq) hR2 hm2 hi (fun p p1 p2 p3 => (hq2 p p1 p2 p3).trans (hq1 p p1 p2 p3)) _ (by simp)
        have e1 := clA_op (S := S) (s := s) (i := q.1) (t := q.2) S.ng
        have e2 : 0 < cn (fun g => s.1 g && us S g q.1) S.ng := (tg_some _ _ hq).2.1
        omega
  have hfr : frA 0 = 0 ∧ frB 0 = 1 := by decide
  have init : ∀ j g : Nat, g + j = S.ng → ∀ (m : Nat) (fa fb fn : Nat → Int) (ws1 : xW), MRx ws1 fa fb fn → (∀ h, h < g → fn h = -1 ∧ fa h = 0 ∧ fb h = 1) → m < 64 → (∀ h, h < 6 → m.testBit h = (decide (h < g) && decide (0 < (WS S h).length))) → (∀ q, q ≠ 139 → q ≠ 140 → q ≠ 141 → ws1 q = ws q) → ∀ L0 : xL, (∀ x ∈ [(0, Value.ref 121), (1, .int (I m)), (2, .int (I g))], x ∈ L0) → xX l tX10_findRates d 0 0 Q 0 0 4 L0 [] n ws1 := by
    intro j
    induction j with
    | zero =>
      intro g hg m fa fb fn ws1 hX1 hh hm hbits hq1 L0 hL0
      refine xX.loc _ hL0 ?_
      have eg : g = S.ng := by omega
      subst eg
      have mm := (hM.keep (ws' := ws1) (fun p a b => hq1 p (by omega) (by omega) (by omega))).1
      refine xL_ok (t := tX10_findRates) rfl (ops := oX10_findRates_4) (by decide +kernel) (T := []) (by decide +kernel) 0 ?_
      simp (disch := omega) only [oX10_findRates_4, rX10_findRates, x_iconst, x_bipush, x_sipush, x_lconst, x_iload, x_lload, x_aload, x_istore, x_lstore, x_astore, x_iinc, x_iadd, x_isub, x_imul, x_iand, x_ior, x_ixor, x_ishl, x_ishr, x_ineg, x_ladd, x_lsub, x_lmul, x_ldiv, x_lrem, x_lcmp, x_i2l, x_l2i, x_dup, x_dup_x1, x_dup2, x_if_eq, x_if_ne, x_if_lt, x_if_ge, x_if_gt, x_if_le, x_ic_eq, x_ic_ne, x_ic_lt, x_ic_ge, x_ic_gt, x_ic_le, x_goto, x_ireturn, x_lreturn, x_return, x_getfield, x_putfield, x_iaload, x_baload, x_laload, x_aaload, x_iastore, x_bastore, x_lastore, x_aastore, x_arraylength, x_newarray, x_anewarray, x_new, x_iload_0, x_iload_1, x_iload_2, x_iload_3, x_lload_0, x_lload_1, x_lload_2, x_lload_3, x_aload_0, x_aload_1, x_aload_2, x_aload_3, x_istore_0, x_istore_1, x_istore_2, x_istore_3, x_lstore_0, x_lstore_1, x_lstore_2, x_lstore_3, x_astore_0, x_astore_1, x_astore_2, x_astore_3, q_bipush_m3, q_bipush_m2, q_bipush_6, q_bipush_7, q_bipush_9, q_bipush_10, q_bipush_24, q_bipush_30, q_bipush_48, q_bipush_100, q_sipush_300, q_sipush_1000, q_sipush_24001, q_l0, q_l1, xtc_0_0, xtc_0_1, xtc_0_2, xtc_0_3, xtc_0_4, xtc_0_5, xtc_1_0, xtc_1_1, xtc_1_2, xtc_2_0, xtc_2_1, xtc_3_0, xtc_4_0, xtc_4_1, xtc_4_2, xtc_4_3, xtc_4_4, xtc_4_5, xtc_4_6, xtc_4_7, xtc_4_8, xtc_4_9, xtc_4_10, xtc_4_11, xtc_4_12, xtc_5_0, xtc_5_1, xtc_5_2, xtc_5_3, xtc_5_4, xtc_5_5, xtc_5_6, xtc_6_0, xtc_6_1, xtc_6_2, xtc_7_0, xtc_7_1, xtc_8_0, xtc_8_1, xtc_8_2, xtc_8_3, xtc_9_0, xtc_9_1, xtc_9_2, xtc_9_3, xtc_9_4, xtc_9_5, xtc_9_6, xtc_9_7, xtc_9_8, xtc_9_9, xtc_10_0, xtc_10_1, xtc_10_2, xtc_10_3, xtc_10_4, xtc_10_5, xtc_10_6, xtc_10_7, xtc_10_8, xtc_10_9, xtc_10_10, xtc_10_11, xtc_10_12, xtc_10_13, xtc_10_14, xtc_10_15, xtc_10_16, xtc_10_17, xtc_10_18, xtc_10_19, xtc_10_20, xtc_10_21, xtc_10_22, xtc_10_23, xtc_10_24, xtc_10_25, eq_self, reduceIte, Nat.reduceEqDiff, Nat.reduceAdd, Nat.reduceSub, Nat.zero_ne_one, Nat.one_ne_zero, Nat.succ_ne_zero, Nat.reduceLeDiff, reduceCtorEq, and_true, true_and, and_false, false_and, true_implies, false_implies, implies_true, not_true_eq_false, not_false_eq_true, xN_0, xN_s, xlook_c, xlook_n, xb_nil, xb_cons, xlen, xl_cons, xst_def, xst2_def, xdl_nil, xdl_int, xdl_ref, xdl_long, xrv_some, xfit_int, xfit_long, xfit_ref, cat_int, cat_ref, cat_long, xret_int, xret_bool, or_true, true_or, Option.some.injEq, Value.int.injEq, Value.ref.injEq, Value.long.injEq, List.getElem?_cons_zero, List.getElem?_cons_succ, List.set_cons_zero, List.set_cons_succ, List.length_cons, List.length_nil, xup_xup, Classical.not_not, Nat.reduceLT, Nat.zero_lt_succ, xup_self, xup_ne, ne_eq, ra_len, ro_len, ra_get, ro_get, ra_set, ro_set, I_add, I_sub, I_lt, I_le, I_eq, I_in, I_b0, I_b01, b_eq0, b_eq1, Int.toNat_natCast, mm]
      refine ⟨fun _ => ?_, fun h => absurd h (by omega)⟩
      refine main S.ng (RS0 S) m ws1 (cn_le _) (GI_0 hw) ⟨fa, fb, fn, hX1, fun g hg => ?_⟩ ⟨hm, fun g hg => hbits g hg⟩ rfl hq1 _ (by simp)
      obtain ⟨y1, y2, y3⟩ := hh g hg
      rw [y1, y2, y3]
      show -1 = (-1 : Int) ∧ (0 : Int) = (frA 0 : Nat) ∧ (1 : Int) = (frB 0 : Nat)
      rw [hfr.1, hfr.2]
      exact ⟨rfl, rfl, rfl⟩
    | succ j ih =>
      intro g hg m fa fb fn ws1 hX1 hh hm hbits hq1 L0 hL0
      refine xX.loc _ hL0 ?_
      have hgg : g < S.ng := by omega
      have mm := (hM.keep (ws' := ws1) (fun p a b => hq1 p (by omega) (by omega) (by omega))).1
      obtain ⟨F, ⟨v1, v2, v3, v4, v5⟩, hD⟩ := hI.keep (ws' := ws1) (fun p a b => hq1 p (by omega) (by omega) (by omega))
      obtain ⟨dd1, dd2, -⟩ := hD g hgg
      obtain ⟨r1, r2, r3⟩ := id hX1
      have hn0 : (I (S.ng : Int) ≤ I (g : Int)) = False := by rw [I_le (by omega) (by omega) (by omega) (by omega)]; exact eq_false (by omega)
      have hv : vp_in (I (g : Int)) 6 := by rw [I_in (by omega) (by omega)]; omega
      have sa : (rj 6 fa).set (I (g : Int)).toNatClampNeg (J 0) = rj 6 (fu fa g 0) := by rw [rj_set (by omega) (by omega), Int.toNat_natCast]
      have sb : (rj 6 fb).set (I (g : Int)).toNatClampNeg (J 1) = rj 6 (fu fb g 1) := by rw [rj_set (by omega) (by omega), Int.toNat_natCast]
      have sn : (ra 6 fn).set (I (g : Int)).toNatClampNeg (I (-1)) = ra 6 (fu fn g (-1)) := by rw [ra_set (by omega) (by omega), Int.toNat_natCast]
      have gm : ∀ x, (ra 6 (F 0)).getD (I (g : Int)).toNatClampNeg x = I ((WS S g).length : Nat) := fun x => by rw [ra_get (by omega) (by omega) (by omega), Int.toNat_natCast, dd1]
      have hX2 : MRx (xup (xup (xup ws1 141 (0, .inl (ra 6 (fu fn g (-1))))) 139 (2, .inr (.inl (rj 6 (fu fa g 0))))) 140 (2, .inr (.inl (rj 6 (fu fb g 1))))) (fu fa g 0) (fu fb g 1) (fu fn g (-1)) := ⟨(xup_ne _ _ (by omega)).trans (xup_self _ _ _), xup_self _ _ _, (xup_ne _ _ (by omega)).trans ((xup_ne _ _ (by omega)).trans (xup_self _ _ _))⟩
      have hh2 : ∀ h, h < g + 1 → fu fn g (-1) h = -1 ∧ fu fa g 0 h = 0 ∧ fu fb g 1 h = 1 := by
        intro h hlt
        by_cases e : h = g
        · subst e; rw [fu_s, fu_s, fu_s]; exact ⟨rfl, rfl, rfl⟩
        · rw [fu_n _ _ e, fu_n _ _ e, fu_n _ _ e]; exact hh h (by omega)
      have hq2 : ∀ q, q ≠ 139 → q ≠ 140 → q ≠ 141 → (xup (xup (xup ws1 141 (0, .inl (ra 6 (fu fn g (-1))))) 139 (2, .inr (.inl (rj 6 (fu fa g 0))))) 140 (2, .inr (.inl (rj 6 (fu fb g 1))))) q = ws q := fun p p1 p2 p3 => (xup_ne _ _ p2).trans ((xup_ne _ _ p1).trans ((xup_ne _ _ p3).trans (hq1 p p1 p2 p3)))
      by_cases hpos : 0 < (WS S g).length
      · have hl : (I ((WS S g).length : Nat) ≤ I 0) = False := by rw [I_le (by omega) (by omega) (by omega) (by omega)]; exact eq_false (by omega)
        have eo : I (m : Int) ||| (I 1 <<< (I (g : Int) &&& 31)) = I (m ||| 2 ^ g : Nat) := by
          have := I_or2 (s := m) (v := (g : Int)) (by omega) (by omega)
          rw [Int.toNat_natCast] at this
          exact this
        refine xL_ok (t := tX10_findRates) rfl (ops := oX10_findRates_4) (by decide +kernel) (T := [(51, oX10_findRates_51)]) (by decide +kernel) 1 ?_
        simp only [oX10_findRates_51, oX10_findRates_4, rX10_findRates, x_iconst, x_bipush, x_sipush, x_lconst, x_iload, x_lload, x_aload, x_istore, x_lstore, x_astore, x_iinc, x_iadd, x_isub, x_imul, x_iand, x_ior, x_ixor, x_ishl, x_ishr, x_ineg, x_ladd, x_lsub, x_lmul, x_ldiv, x_lrem, x_lcmp, x_i2l, x_l2i, x_dup, x_dup_x1, x_dup2, x_if_eq, x_if_ne, x_if_lt, x_if_ge, x_if_gt, x_if_le, x_ic_eq, x_ic_ne, x_ic_lt, x_ic_ge, x_ic_gt, x_ic_le, x_goto, x_ireturn, x_lreturn, x_return, x_getfield, x_putfield, x_iaload, x_baload, x_laload, x_aaload, x_iastore, x_bastore, x_lastore, x_aastore, x_arraylength, x_newarray, x_anewarray, x_new, x_iload_0, x_iload_1, x_iload_2, x_iload_3, x_lload_0, x_lload_1, x_lload_2, x_lload_3, x_aload_0, x_aload_1, x_aload_2, x_aload_3, x_istore_0, x_istore_1, x_istore_2, x_istore_3, x_lstore_0, x_lstore_1, x_lstore_2, x_lstore_3, x_astore_0, x_astore_1, x_astore_2, x_astore_3, q_bipush_m3, q_bipush_m2, q_bipush_6, q_bipush_7, q_bipush_9, q_bipush_10, q_bipush_24, q_bipush_30, q_bipush_48, q_bipush_100, q_sipush_300, q_sipush_1000, q_sipush_24001, q_l0, q_l1, xtc_0_0, xtc_0_1, xtc_0_2, xtc_0_3, xtc_0_4, xtc_0_5, xtc_1_0, xtc_1_1, xtc_1_2, xtc_2_0, xtc_2_1, xtc_3_0, xtc_4_0, xtc_4_1, xtc_4_2, xtc_4_3, xtc_4_4, xtc_4_5, xtc_4_6, xtc_4_7, xtc_4_8, xtc_4_9, xtc_4_10, xtc_4_11, xtc_4_12, xtc_5_0, xtc_5_1, xtc_5_2, xtc_5_3, xtc_5_4, xtc_5_5, xtc_5_6, xtc_6_0, xtc_6_1, xtc_6_2, xtc_7_0, xtc_7_1, xtc_8_0, xtc_8_1, xtc_8_2, xtc_8_3, xtc_9_0, xtc_9_1, xtc_9_2, xtc_9_3, xtc_9_4, xtc_9_5, xtc_9_6, xtc_9_7, xtc_9_8, xtc_9_9, xtc_10_0, xtc_10_1, xtc_10_2, xtc_10_3, xtc_10_4, xtc_10_5, xtc_10_6, xtc_10_7, xtc_10_8, xtc_10_9, xtc_10_10, xtc_10_11, xtc_10_12, xtc_10_13, xtc_10_14, xtc_10_15, xtc_10_16, xtc_10_17, xtc_10_18, xtc_10_19, xtc_10_20, xtc_10_21, xtc_10_22, xtc_10_23, xtc_10_24, xtc_10_25, eq_self, reduceIte, Nat.reduceEqDiff, Nat.reduceAdd, Nat.reduceSub, Nat.zero_ne_one, Nat.one_ne_zero, Nat.succ_ne_zero, Nat.reduceLeDiff, reduceCtorEq, and_true, true_and, and_false, false_and, true_implies, false_implies, implies_true, not_true_eq_false, not_false_eq_true, xN_0, xN_s, xlook_c, xlook_n, xb_nil, xb_cons, xlen, xl_cons, xst_def, xst2_def, xdl_nil, xdl_int, xdl_ref, xdl_long, xrv_some, xfit_int, xfit_long, xfit_ref, cat_int, cat_ref, cat_long, xret_int, xret_bool, or_true, true_or, Option.some.injEq, Value.int.injEq, Value.ref.injEq, Value.long.injEq, List.getElem?_cons_zero, List.getElem?_cons_succ, List.set_cons_zero, List.set_cons_succ, List.length_cons, List.length_nil, xup_xup, Classical.not_not, Nat.reduceLT, Nat.zero_lt_succ, mm, v1, r1, r2, r3, hn0, ra_len, rj_len, J_0, J_1, sa, sb, sn, gm, hl, eo, I_add]
        refine ⟨hv, hv, hv, hv, ?_⟩
        refine ih (g + 1) (by omega) (m ||| 2 ^ g) _ _ _ _ hX2 hh2 (Nat.or_lt_two_pow (n := 6) hm (Nat.pow_lt_pow_right (by decide) (show g < 6 by omega))) (fun h h6 => ?_) hq2 _ (by simp)
        rw [or_bit, hbits h h6]
        by_cases e : h = g
        · subst e; simp [hpos]
        · by_cases e2 : h < g
          · simp [e, e2, show h < g + 1 by omega]
          · simp [e, e2, show ¬ h < g + 1 by omega]
      · have hl : (I ((WS S g).length : Nat) ≤ I 0) = True := by rw [I_le (by omega) (by omega) (by omega) (by omega)]; exact eq_true (by omega)
        refine xL_ok (t := tX10_findRates) rfl (ops := oX10_findRates_4) (by decide +kernel) (T := [(50, oX10_findRates_50), (51, oX10_findRates_51)]) (by decide +kernel) 2 ?_
        simp only [oX10_findRates_50, oX10_findRates_51, oX10_findRates_4, rX10_findRates, x_iconst, x_bipush, x_sipush, x_lconst, x_iload, x_lload, x_aload, x_istore, x_lstore, x_astore, x_iinc, x_iadd, x_isub, x_imul, x_iand, x_ior, x_ixor, x_ishl, x_ishr, x_ineg, x_ladd, x_lsub, x_lmul, x_ldiv, x_lrem, x_lcmp, x_i2l, x_l2i, x_dup, x_dup_x1, x_dup2, x_if_eq, x_if_ne, x_if_lt, x_if_ge, x_if_gt, x_if_le, x_ic_eq, x_ic_ne, x_ic_lt, x_ic_ge, x_ic_gt, x_ic_le, x_goto, x_ireturn, x_lreturn, x_return, x_getfield, x_putfield, x_iaload, x_baload, x_laload, x_aaload, x_iastore, x_bastore, x_lastore, x_aastore, x_arraylength, x_newarray, x_anewarray, x_new, x_iload_0, x_iload_1, x_iload_2, x_iload_3, x_lload_0, x_lload_1, x_lload_2, x_lload_3, x_aload_0, x_aload_1, x_aload_2, x_aload_3, x_istore_0, x_istore_1, x_istore_2, x_istore_3, x_lstore_0, x_lstore_1, x_lstore_2, x_lstore_3, x_astore_0, x_astore_1, x_astore_2, x_astore_3, q_bipush_m3, q_bipush_m2, q_bipush_6, q_bipush_7, q_bipush_9, q_bipush_10, q_bipush_24, q_bipush_30, q_bipush_48, q_bipush_100, q_sipush_300, q_sipush_1000, q_sipush_24001, q_l0, q_l1, xtc_0_0, xtc_0_1, xtc_0_2, xtc_0_3, xtc_0_4, xtc_0_5, xtc_1_0, xtc_1_1, xtc_1_2, xtc_2_0, xtc_2_1, xtc_3_0, xtc_4_0, xtc_4_1, xtc_4_2, xtc_4_3, xtc_4_4, xtc_4_5, xtc_4_6, xtc_4_7, xtc_4_8, xtc_4_9, xtc_4_10, xtc_4_11, xtc_4_12, xtc_5_0, xtc_5_1, xtc_5_2, xtc_5_3, xtc_5_4, xtc_5_5, xtc_5_6, xtc_6_0, xtc_6_1, xtc_6_2, xtc_7_0, xtc_7_1, xtc_8_0, xtc_8_1, xtc_8_2, xtc_8_3, xtc_9_0, xtc_9_1, xtc_9_2, xtc_9_3, xtc_9_4, xtc_9_5, xtc_9_6, xtc_9_7, xtc_9_8, xtc_9_9, xtc_10_0, xtc_10_1, xtc_10_2, xtc_10_3, xtc_10_4, xtc_10_5, xtc_10_6, xtc_10_7, xtc_10_8, xtc_10_9, xtc_10_10, xtc_10_11, xtc_10_12, xtc_10_13, xtc_10_14, xtc_10_15, xtc_10_16, xtc_10_17, xtc_10_18, xtc_10_19, xtc_10_20, xtc_10_21, xtc_10_22, xtc_10_23, xtc_10_24, xtc_10_25, eq_self, reduceIte, Nat.reduceEqDiff, Nat.reduceAdd, Nat.reduceSub, Nat.zero_ne_one, Nat.one_ne_zero, Nat.succ_ne_zero, Nat.reduceLeDiff, reduceCtorEq, and_true, true_and, and_false, false_and, true_implies, false_implies, implies_true, not_true_eq_false, not_false_eq_true, xN_0, xN_s, xlook_c, xlook_n, xb_nil, xb_cons, xlen, xl_cons, xst_def, xst2_def, xdl_nil, xdl_int, xdl_ref, xdl_long, xrv_some, xfit_int, xfit_long, xfit_ref, cat_int, cat_ref, cat_long, xret_int, xret_bool, or_true, true_or, Option.some.injEq, Value.int.injEq, Value.ref.injEq, Value.long.injEq, List.getElem?_cons_zero, List.getElem?_cons_succ, List.set_cons_zero, List.set_cons_succ, List.length_cons, List.length_nil, xup_xup, Classical.not_not, Nat.reduceLT, Nat.zero_lt_succ, mm, v1, r1, r2, r3, hn0, ra_len, rj_len, J_0, J_1, sa, sb, sn, gm, hl, I_add]
        refine ⟨hv, hv, hv, hv, ?_⟩
        refine ih (g + 1) (by omega) m _ _ _ _ hX2 hh2 hm (fun h h6 => ?_) hq2 _ (by simp)
        rw [hbits h h6]
        by_cases e : h = g
        · subst e; simp [hpos]
        · by_cases e2 : h < g
          · simp [e2, show h < g + 1 by omega]
          · simp [e2, show ¬ h < g + 1 by omega]
  obtain ⟨fa, fb, fn, hX⟩ := hX
  refine xM.of (by decide) (Nat.le_of_ble_eq_true rfl) ?_
  simp only [lv_args, cat_int, cat_ref, cat_long, reduceIte, Nat.reduceEqDiff, Nat.reduceAdd, Nat.one_ne_zero, Nat.reduceLeDiff]
  refine xN_ok (t := tX10_findRates) rfl (T := [(0, oX10_findRates_0)]) (by decide +kernel) 1 _ _ _ _ _ _ _ ?_
  simp only [oX10_findRates_0, rX10_findRates, x_iconst, x_bipush, x_sipush, x_lconst, x_iload, x_lload, x_aload, x_istore, x_lstore, x_astore, x_iinc, x_iadd, x_isub, x_imul, x_iand, x_ior, x_ixor, x_ishl, x_ishr, x_ineg, x_ladd, x_lsub, x_lmul, x_ldiv, x_lrem, x_lcmp, x_i2l, x_l2i, x_dup, x_dup_x1, x_dup2, x_if_eq, x_if_ne, x_if_lt, x_if_ge, x_if_gt, x_if_le, x_ic_eq, x_ic_ne, x_ic_lt, x_ic_ge, x_ic_gt, x_ic_le, x_goto, x_ireturn, x_lreturn, x_return, x_getfield, x_putfield, x_iaload, x_baload, x_laload, x_aaload, x_iastore, x_bastore, x_lastore, x_aastore, x_arraylength, x_newarray, x_anewarray, x_new, x_iload_0, x_iload_1, x_iload_2, x_iload_3, x_lload_0, x_lload_1, x_lload_2, x_lload_3, x_aload_0, x_aload_1, x_aload_2, x_aload_3, x_istore_0, x_istore_1, x_istore_2, x_istore_3, x_lstore_0, x_lstore_1, x_lstore_2, x_lstore_3, x_astore_0, x_astore_1, x_astore_2, x_astore_3, q_bipush_m3, q_bipush_m2, q_bipush_6, q_bipush_7, q_bipush_9, q_bipush_10, q_bipush_24, q_bipush_30, q_bipush_48, q_bipush_100, q_sipush_300, q_sipush_1000, q_sipush_24001, q_l0, q_l1, xtc_0_0, xtc_0_1, xtc_0_2, xtc_0_3, xtc_0_4, xtc_0_5, xtc_1_0, xtc_1_1, xtc_1_2, xtc_2_0, xtc_2_1, xtc_3_0, xtc_4_0, xtc_4_1, xtc_4_2, xtc_4_3, xtc_4_4, xtc_4_5, xtc_4_6, xtc_4_7, xtc_4_8, xtc_4_9, xtc_4_10, xtc_4_11, xtc_4_12, xtc_5_0, xtc_5_1, xtc_5_2, xtc_5_3, xtc_5_4, xtc_5_5, xtc_5_6, xtc_6_0, xtc_6_1, xtc_6_2, xtc_7_0, xtc_7_1, xtc_8_0, xtc_8_1, xtc_8_2, xtc_8_3, xtc_9_0, xtc_9_1, xtc_9_2, xtc_9_3, xtc_9_4, xtc_9_5, xtc_9_6, xtc_9_7, xtc_9_8, xtc_9_9, xtc_10_0, xtc_10_1, xtc_10_2, xtc_10_3, xtc_10_4, xtc_10_5, xtc_10_6, xtc_10_7, xtc_10_8, xtc_10_9, xtc_10_10, xtc_10_11, xtc_10_12, xtc_10_13, xtc_10_14, xtc_10_15, xtc_10_16, xtc_10_17, xtc_10_18, xtc_10_19, xtc_10_20, xtc_10_21, xtc_10_22, xtc_10_23, xtc_10_24, xtc_10_25, eq_self, reduceIte, Nat.reduceEqDiff, Nat.reduceAdd, Nat.reduceSub, Nat.zero_ne_one, Nat.one_ne_zero, Nat.succ_ne_zero, Nat.reduceLeDiff, reduceCtorEq, and_true, true_and, and_false, false_and, true_implies, false_implies, implies_true, not_true_eq_false, not_false_eq_true, xN_0, xN_s, xlook_c, xlook_n, xb_nil, xb_cons, xlen, xl_cons, xst_def, xst2_def, xdl_nil, xdl_int, xdl_ref, xdl_long, xrv_some, xfit_int, xfit_long, xfit_ref, cat_int, cat_ref, cat_long, xret_int, xret_bool, or_true, true_or, Option.some.injEq, Value.int.injEq, Value.ref.injEq, Value.long.injEq, List.getElem?_cons_zero, List.getElem?_cons_succ, List.set_cons_zero, List.set_cons_succ, List.length_cons, List.length_nil, xup_xup, Classical.not_not, Nat.reduceLT, Nat.zero_lt_succ]
  exact init S.ng 0 (by omega) 0 fa fb fn ws hX (fun h hh => absurd hh (by omega)) (by omega) (fun h hh => by simp) (fun _ _ _ _ => rfl) _ (by simp)
end MRATES3
