section MRATES2
variable {l : Launch} {d n : Nat} {ws : xW} {S : St} {bw bs : Int}
theorem fr_360 (c : Nat) : frA (360 * c) = c ∧ frB (360 * c) = 1 := by
  have h : Nat.gcd (360 * c) 360 = 360 := Nat.gcd_eq_right ⟨c, rfl⟩
  unfold frA frB
  rw [h]
  exact ⟨Nat.mul_div_cancel_left _ (by omega), by decide⟩
theorem or_bit {m v : Nat} (u : Nat) : (m ||| 2 ^ v).testBit u = (m.testBit u || decide (u = v)) := by
  rw [Nat.testBit_or]
  by_cases h : u = v
  · subst h; rw [Nat.testBit_two_pow_self]; simp
  · rw [Nat.testBit_two_pow_of_ne (Ne.symm h)]; simp [h]
/-- the tightest so far, as the reference keeps it -/
def BA (S : St) (s : RS) (i : Nat) (bst : Int) (X Y : Nat) : Prop := match tg S s i with
  | none => bst = -1 ∧ X = 0 ∧ Y = 1
  | some q => bst = (q.1 : Nat) ∧ X * 360 = q.2 * Y ∧ 0 < Y ∧ Y ≤ 54 ∧ X ≤ 360000
theorem BA_s0 {s : RS} {i : Nat} {bst : Int} {X Y : Nat} (h : BA S s i bst X Y) (hu : usn S s.1 i = 0) : BA S s (i + 1) bst X Y := by
  unfold BA tg
  rw [if_neg (show ¬ 0 < usn S s.1 i by omega)]
  exact h
theorem v_arcs (hM : ModR ws S (S.2 2) bw bs) (hw : WF S) (hI : MInv ws S) {s : RS} (hR : MRt ws S s) (hG : GI S s) {m : Nat} (hm : mkm S s m) (hd : 1 ≤ d) {Q : xP} (K : ∀ (bst : Int) (X Y : Nat), BA S s S.na bst X Y → ∀ L0 : xL, (∀ q ∈ [(0, Value.ref 121), (1, .int (I m)), (2, .int (I bst)), (3, .long (J X)), (5, .long (J Y))], q ∈ L0) → xX l tX10_findRates d 0 0 Q 0 0 297 L0 [] n ws) : ∀ j i : Nat, i + j = S.na → ∀ (bst : Int) (X Y : Nat), BA S s i bst X Y → ∀ L0 : xL, (∀ q ∈ [(0, Value.ref 121), (1, .int (I m)), (2, .int (I bst)), (3, .long (J X)), (5, .long (J Y)), (7, .int (I i))], q ∈ L0) → xX l tX10_findRates d 0 0 Q 0 0 72 L0 [] n ws := by
  have hb : S.ng ≤ 6 := hw.2.2.1
  have hba : S.na ≤ 24 := hw.2.1
  obtain ⟨D, t, g1, g2, g3, g4, g5⟩ := id hG
  obtain ⟨d1, d2, d3⟩ := okD_dvd g1
  have hM0 := hM
  obtain ⟨m1, m2, m3, m4, m5, m6, m7, m8, m9⟩ := hM
  intro j
  induction j with
  | zero =>
    intro i hi bst X Y hB L0 hL0
    refine xX.loc _ hL0 ?_
    have ei : i = S.na := by omega
    subst ei
    have hz : (I (S.na : Int) ≤ I (S.na : Int)) = True := by rw [I_le (by omega) (by omega) (by omega) (by omega)]; exact eq_true (by omega)
    refine xL_ok (t := tX10_findRates) rfl (ops := oX10_findRates_72) (by decide +kernel) (T := []) (by decide +kernel) 0 ?_
    simp only [oX10_findRates_72, rX10_findRates, x_iconst, x_bipush, x_sipush, x_lconst, x_iload, x_lload, x_aload, x_istore, x_lstore, x_astore, x_iinc, x_iadd, x_isub, x_imul, x_iand, x_ior, x_ixor, x_ishl, x_ishr, x_ineg, x_ladd, x_lsub, x_lmul, x_ldiv, x_lrem, x_lcmp, x_i2l, x_l2i, x_dup, x_dup_x1, x_dup2, x_if_eq, x_if_ne, x_if_lt, x_if_ge, x_if_gt, x_if_le, x_ic_eq, x_ic_ne, x_ic_lt, x_ic_ge, x_ic_gt, x_ic_le, x_goto, x_ireturn, x_lreturn, x_return, x_getfield, x_putfield, x_iaload, x_baload, x_laload, x_aaload, x_iastore, x_bastore, x_lastore, x_aastore, x_arraylength, x_newarray, x_anewarray, x_new, x_iload_0, x_iload_1, x_iload_2, x_iload_3, x_lload_0, x_lload_1, x_lload_2, x_lload_3, x_aload_0, x_aload_1, x_aload_2, x_aload_3, x_istore_0, x_istore_1, x_istore_2, x_istore_3, x_lstore_0, x_lstore_1, x_lstore_2, x_lstore_3, x_astore_0, x_astore_1, x_astore_2, x_astore_3, q_bipush_m3, q_bipush_m2, q_bipush_6, q_bipush_7, q_bipush_9, q_bipush_10, q_bipush_24, q_bipush_30, q_bipush_48, q_bipush_100, q_sipush_300, q_sipush_1000, q_sipush_24001, q_l0, q_l1, xtc_0_0, xtc_0_1, xtc_0_2, xtc_0_3, xtc_0_4, xtc_0_5, xtc_1_0, xtc_1_1, xtc_1_2, xtc_2_0, xtc_2_1, xtc_3_0, xtc_4_0, xtc_4_1, xtc_4_2, xtc_4_3, xtc_4_4, xtc_4_5, xtc_4_6, xtc_4_7, xtc_4_8, xtc_4_9, xtc_4_10, xtc_4_11, xtc_4_12, xtc_5_0, xtc_5_1, xtc_5_2, xtc_5_3, xtc_5_4, xtc_5_5, xtc_5_6, xtc_6_0, xtc_6_1, xtc_6_2, xtc_7_0, xtc_7_1, xtc_8_0, xtc_8_1, xtc_8_2, xtc_8_3, xtc_9_0, xtc_9_1, xtc_9_2, xtc_9_3, xtc_9_4, xtc_9_5, xtc_9_6, xtc_9_7, xtc_9_8, xtc_9_9, xtc_10_0, xtc_10_1, xtc_10_2, xtc_10_3, xtc_10_4, xtc_10_5, xtc_10_6, xtc_10_7, xtc_10_8, xtc_10_9, xtc_10_10, xtc_10_11, xtc_10_12, xtc_10_13, xtc_10_14, xtc_10_15, xtc_10_16, xtc_10_17, xtc_10_18, xtc_10_19, xtc_10_20, xtc_10_21, xtc_10_22, xtc_10_23, xtc_10_24, xtc_10_25, eq_self, reduceIte, Nat.reduceEqDiff, Nat.reduceAdd, Nat.reduceSub, Nat.zero_ne_one, Nat.one_ne_zero, Nat.succ_ne_zero, Nat.reduceLeDiff, reduceCtorEq, and_true, true_and, and_false, false_and, true_implies, false_implies, implies_true, not_true_eq_false, not_false_eq_true, xN_0, xN_s, xlook_c, xlook_n, xb_nil, xb_cons, xlen, xl_cons, xst_def, xst2_def, xdl_nil, xdl_int, xdl_ref, xdl_long, xrv_some, xfit_int, xfit_long, xfit_ref, cat_int, cat_ref, cat_long, xret_int, xret_bool, or_true, true_or, Option.some.injEq, Value.int.injEq, Value.ref.injEq, Value.long.injEq, List.getElem?_cons_zero, List.getElem?_cons_succ, List.set_cons_zero, List.set_cons_succ, List.length_cons, List.length_nil, xup_xup, Classical.not_not, Nat.reduceLT, Nat.zero_lt_succ, m1, hz]
    exact K bst X Y hB _ (by simp)
  | succ j ih =>
    intro i hi bst X Y hB L0 hL0
    refine xX.loc _ hL0 ?_
    have hii : i < S.na := by omega
    have hnx := ih (i + 1) (by omega)
    have hcap := hw.2.2.2.1 i hii
    have hle : clo S s i S.ng ≤ cp S i := by have := g3 i hii; omega
    have hcp : cp S i = 360 * (S.2 2 i).toNat := rfl
    have hrs : rsd S s i = cp S i - clo S s i S.ng := rfl
    have hb9 : frB (rsd S s i) ≤ 9 := by
      have := Nat.le_of_dvd d2 (frB_dvd (clo_part g2 (i := i) (Nat.le_refl _) hle))
      rw [← hrs] at this
      omega
    have hbp := frB_pos (rsd S s i)
    have hal := frA_le (rsd S s i)
    have hae := fr_eq (rsd S s i)
    have hun : usn S s.1 i ≤ S.ng := cn_le _
    have hK : ∀ L0 : xL, (∀ q ∈ [(0, Value.ref 121), (1, .int (I m)), (2, .int (I bst)), (3, .long (J X)), (5, .long (J Y)), (7, .int (I i)), (8, .long (J (frA (rsd S s i) : Nat))), (10, .long (J (frB (rsd S s i) : Nat))), (12, .int (I (usn S s.1 i : Nat)))], q ∈ L0) → xX l tX10_findRates d 0 0 Q 0 0 250 L0 [] n ws := by
      intro L0 hL0
      refine xX.loc _ hL0 ?_
      by_cases hu : usn S s.1 i = 0
      · have hBn := BA_s0 hB hu
        have eu : (I ((usn S s.1 i : Nat) : Int)).toInt64 = J (usn S s.1 i : Nat) := J_I (by omega) (by omega)
        have hl : (I ((usn S s.1 i : Nat) : Int) ≤ I 0) = True := by rw [hu]; decide
        refine xN_ok (t := tX10_findRates) rfl (T := [(250, oX10_findRates_250), (291, oX10_findRates_291)]) (by decide +kernel) 2 _ _ _ _ _ _ _ ?_
        simp only [oX10_findRates_250, oX10_findRates_291, rX10_findRates, x_iconst, x_bipush, x_sipush, x_lconst, x_iload, x_lload, x_aload, x_istore, x_lstore, x_astore, x_iinc, x_iadd, x_isub, x_imul, x_iand, x_ior, x_ixor, x_ishl, x_ishr, x_ineg, x_ladd, x_lsub, x_lmul, x_ldiv, x_lrem, x_lcmp, x_i2l, x_l2i, x_dup, x_dup_x1, x_dup2, x_if_eq, x_if_ne, x_if_lt, x_if_ge, x_if_gt, x_if_le, x_ic_eq, x_ic_ne, x_ic_lt, x_ic_ge, x_ic_gt, x_ic_le, x_goto, x_ireturn, x_lreturn, x_return, x_getfield, x_putfield, x_iaload, x_baload, x_laload, x_aaload, x_iastore, x_bastore, x_lastore, x_aastore, x_arraylength, x_newarray, x_anewarray, x_new, x_iload_0, x_iload_1, x_iload_2, x_iload_3, x_lload_0, x_lload_1, x_lload_2, x_lload_3, x_aload_0, x_aload_1, x_aload_2, x_aload_3, x_istore_0, x_istore_1, x_istore_2, x_istore_3, x_lstore_0, x_lstore_1, x_lstore_2, x_lstore_3, x_astore_0, x_astore_1, x_astore_2, x_astore_3, q_bipush_m3, q_bipush_m2, q_bipush_6, q_bipush_7, q_bipush_9, q_bipush_10, q_bipush_24, q_bipush_30, q_bipush_48, q_bipush_100, q_sipush_300, q_sipush_1000, q_sipush_24001, q_l0, q_l1, xtc_0_0, xtc_0_1, xtc_0_2, xtc_0_3, xtc_0_4, xtc_0_5, xtc_1_0, xtc_1_1, xtc_1_2, xtc_2_0, xtc_2_1, xtc_3_0, xtc_4_0, xtc_4_1, xtc_4_2, xtc_4_3, xtc_4_4, xtc_4_5, xtc_4_6, xtc_4_7, xtc_4_8, xtc_4_9, xtc_4_10, xtc_4_11, xtc_4_12, xtc_5_0, xtc_5_1, xtc_5_2, xtc_5_3, xtc_5_4, xtc_5_5, xtc_5_6, xtc_6_0, xtc_6_1, xtc_6_2, xtc_7_0, xtc_7_1, xtc_8_0, xtc_8_1, xtc_8_2, xtc_8_3, xtc_9_0, xtc_9_1, xtc_9_2, xtc_9_3, xtc_9_4, xtc_9_5, xtc_9_6, xtc_9_7, xtc_9_8, xtc_9_9, xtc_10_0, xtc_10_1, xtc_10_2, xtc_10_3, xtc_10_4, xtc_10_5, xtc_10_6, xtc_10_7, xtc_10_8, xtc_10_9, xtc_10_10, xtc_10_11, xtc_10_12, xtc_10_13, xtc_10_14, xtc_10_15, xtc_10_16, xtc_10_17, xtc_10_18, xtc_10_19, xtc_10_20, xtc_10_21, xtc_10_22, xtc_10_23, xtc_10_24, xtc_10_25, eq_self, reduceIte, Nat.reduceEqDiff, Nat.reduceAdd, Nat.reduceSub, Nat.zero_ne_one, Nat.one_ne_zero, Nat.succ_ne_zero, Nat.reduceLeDiff, reduceCtorEq, and_true, true_and, and_false, false_and, true_implies, false_implies, implies_true, not_true_eq_false, not_false_eq_true, xN_0, xN_s, xlook_c, xlook_n, xb_nil, xb_cons, xlen, xl_cons, xst_def, xst2_def, xdl_nil, xdl_int, xdl_ref, xdl_long, xrv_some, xfit_int, xfit_long, xfit_ref, cat_int, cat_ref, cat_long, xret_int, xret_bool, or_true, true_or, Option.some.injEq, Value.int.injEq, Value.ref.injEq, Value.long.injEq, List.getElem?_cons_zero, List.getElem?_cons_succ, List.set_cons_zero, List.set_cons_succ, List.length_cons, List.length_nil, xup_xup, Classical.not_not, Nat.reduceLT, Nat.zero_lt_succ, eu, J_mul, hl, I_add]
        exact hnx _ _ _ hBn _ (by simp)
      · obtain ⟨z1, z2, z3, z4, z5⟩ := shr_ok hw g1 g2 g3 hii (by omega)
        have hpu : 0 < usn S s.1 i := by omega
        have hBn : (tg S s i = none → BA S s (i + 1) i (frA (rsd S s i)) (frB (rsd S s i) * usn S s.1 i)) ∧ (∀ q, tg S s i = some q → shr S s i < q.2 → BA S s (i + 1) i (frA (rsd S s i)) (frB (rsd S s i) * usn S s.1 i)) ∧ (∀ q, tg S s i = some q → ¬ shr S s i < q.2 → BA S s (i + 1) bst X Y) := by
          have hv : frA (rsd S s i) * 360 = shr S s i * (frB (rsd S s i) * usn S s.1 i) ∧ 0 < frB (rsd S s i) * usn S s.1 i ∧ frB (rsd S s i) * usn S s.1 i ≤ 54 ∧ frA (rsd S s i) ≤ 360000 := by
            refine ⟨?_, Nat.mul_pos hbp hpu, Nat.mul_le_mul hb9 (show usn S s.1 i ≤ 6 by omega), by omega⟩
            rw [hae, ← z1, Nat.mul_comm (usn S s.1 i), Nat.mul_assoc, Nat.mul_comm (usn S s.1 i)]
          refine ⟨fun hn => ?_, fun q hq hlt => ?_, fun q hq hlt => ?_⟩
          · unfold BA tg
            rw [if_pos hpu, hn]
            exact ⟨rfl, hv⟩
          · unfold BA tg
            rw [if_pos hpu, hq]
            simp only [if_pos hlt]
            exact ⟨trivial, hv⟩
          · unfold BA tg
            unfold BA at hB
            rw [hq] at hB
            rw [if_pos hpu, hq]
            simp only [if_neg hlt]
            exact hB
        obtain ⟨b1, b2, b3⟩ := hBn
        have hcmp : ∀ q, tg S s i = some q → 0 < Y → X * 360 = q.2 * Y → ((frA (rsd S s i) * Y < X * (frB (rsd S s i) * usn S s.1 i)) ↔ shr S s i < q.2) := by
          intro q hq hY hXY
          refine fr_lt2 ?_ hXY (Nat.mul_pos hbp hpu) hY
          rw [hae, ← z1, Nat.mul_comm (usn S s.1 i), Nat.mul_assoc, Nat.mul_comm (usn S s.1 i)]
        have hZ54 : frB (rsd S s i) * usn S s.1 i ≤ 54 := Nat.mul_le_mul hb9 (show usn S s.1 i ≤ 6 by omega)
        have eb : ((frB (rsd S s i) : Nat) : Int) * ((usn S s.1 i : Nat) : Int) = ((frB (rsd S s i) * usn S s.1 i : Nat) : Int) := rfl
        generalize frB (rsd S s i) * usn S s.1 i = Z at b1 b2 hcmp eb hZ54
        generalize shr S s i = sh at b2 b3 hcmp
        have hA6 : frA (rsd S s i) ≤ 360000 := by omega
        generalize frA (rsd S s i) = A at b1 b2 hcmp hA6
        generalize frB (rsd S s i) = B at eb
        generalize usn S s.1 i = U at hun eb hpu
        have eu : (I (U : Int)).toInt64 = J (U : Int) := J_I (by omega) (by omega)
        have hl : (I (U : Int) ≤ I 0) = False := by rw [I_le (by omega) (by omega) (by omega) (by omega)]; exact eq_false (by omega)
        unfold BA at hB
        cases hq : tg S s i with
        | none =>
          rw [hq] at hB
          obtain ⟨rfl, -, -⟩ := hB
          refine xN_ok (t := tX10_findRates) rfl (T := [(250, oX10_findRates_250), (281, oX10_findRates_281), (291, oX10_findRates_291)]) (by decide +kernel) 3 _ _ _ _ _ _ _ ?_
          simp only [oX10_findRates_250, oX10_findRates_281, oX10_findRates_291, rX10_findRates, x_iconst, x_bipush, x_sipush, x_lconst, x_iload, x_lload, x_aload, x_istore, x_lstore, x_astore, x_iinc, x_iadd, x_isub, x_imul, x_iand, x_ior, x_ixor, x_ishl, x_ishr, x_ineg, x_ladd, x_lsub, x_lmul, x_ldiv, x_lrem, x_lcmp, x_i2l, x_l2i, x_dup, x_dup_x1, x_dup2, x_if_eq, x_if_ne, x_if_lt, x_if_ge, x_if_gt, x_if_le, x_ic_eq, x_ic_ne, x_ic_lt, x_ic_ge, x_ic_gt, x_ic_le, x_goto, x_ireturn, x_lreturn, x_return, x_getfield, x_putfield, x_iaload, x_baload, x_laload, x_aaload, x_iastore, x_bastore, x_lastore, x_aastore, x_arraylength, x_newarray, x_anewarray, x_new, x_iload_0, x_iload_1, x_iload_2, x_iload_3, x_lload_0, x_lload_1, x_lload_2, x_lload_3, x_aload_0, x_aload_1, x_aload_2, x_aload_3, x_istore_0, x_istore_1, x_istore_2, x_istore_3, x_lstore_0, x_lstore_1, x_lstore_2, x_lstore_3, x_astore_0, x_astore_1, x_astore_2, x_astore_3, q_bipush_m3, q_bipush_m2, q_bipush_6, q_bipush_7, q_bipush_9, q_bipush_10, q_bipush_24, q_bipush_30, q_bipush_48, q_bipush_100, q_sipush_300, q_sipush_1000, q_sipush_24001, q_l0, q_l1, xtc_0_0, xtc_0_1, xtc_0_2, xtc_0_3, xtc_0_4, xtc_0_5, xtc_1_0, xtc_1_1, xtc_1_2, xtc_2_0, xtc_2_1, xtc_3_0, xtc_4_0, xtc_4_1, xtc_4_2, xtc_4_3, xtc_4_4, xtc_4_5, xtc_4_6, xtc_4_7, xtc_4_8, xtc_4_9, xtc_4_10, xtc_4_11, xtc_4_12, xtc_5_0, xtc_5_1, xtc_5_2, xtc_5_3, xtc_5_4, xtc_5_5, xtc_5_6, xtc_6_0, xtc_6_1, xtc_6_2, xtc_7_0, xtc_7_1, xtc_8_0, xtc_8_1, xtc_8_2, xtc_8_3, xtc_9_0, xtc_9_1, xtc_9_2, xtc_9_3, xtc_9_4, xtc_9_5, xtc_9_6, xtc_9_7, xtc_9_8, xtc_9_9, xtc_10_0, xtc_10_1, xtc_10_2, xtc_10_3, xtc_10_4, xtc_10_5, xtc_10_6, xtc_10_7, xtc_10_8, xtc_10_9, xtc_10_10, xtc_10_11, xtc_10_12, xtc_10_13, xtc_10_14, xtc_10_15, xtc_10_16, xtc_10_17, xtc_10_18, xtc_10_19, xtc_10_20, xtc_10_21, xtc_10_22, xtc_10_23, xtc_10_24, xtc_10_25, eq_self, reduceIte, Nat.reduceEqDiff, Nat.reduceAdd, Nat.reduceSub, Nat.zero_ne_one, Nat.one_ne_zero, Nat.succ_ne_zero, Nat.reduceLeDiff, reduceCtorEq, and_true, true_and, and_false, false_and, true_implies, false_implies, implies_true, not_true_eq_false, not_false_eq_true, xN_0, xN_s, xlook_c, xlook_n, xb_nil, xb_cons, xlen, xl_cons, xst_def, xst2_def, xdl_nil, xdl_int, xdl_ref, xdl_long, xrv_some, xfit_int, xfit_long, xfit_ref, cat_int, cat_ref, cat_long, xret_int, xret_bool, or_true, true_or, Option.some.injEq, Value.int.injEq, Value.ref.injEq, Value.long.injEq, List.getElem?_cons_zero, List.getElem?_cons_succ, List.set_cons_zero, List.set_cons_succ, List.length_cons, List.length_nil, xup_xup, Classical.not_not, Nat.reduceLT, Nat.zero_lt_succ, eu, J_mul, eb, hl, I_add]
          exact hnx _ _ _ (b1 hq) _ (by simp)
        | some q =>
          rw [hq] at hB
          obtain ⟨rfl, h1, h2, h3, h4⟩ := hB
          obtain ⟨q1, -⟩ := tg_some _ _ hq
          have hne : (I ((q.1 : Nat) : Int) = I (-1)) = False := by rw [I_eq (by omega) (by omega) (by omega) (by omega)]; exact eq_false (by omega)
          have hc := hcmp q hq h2 h1
          have e5 : (A : Int) * (Y : Int) = ((A * Y : Nat) : Int) := rfl
          have e6 : (X : Int) * (Z : Int) = ((X * Z : Nat) : Int) := rfl
          have e7 : A * Y ≤ 360000 * 54 := Nat.mul_le_mul hA6 h3
          have e8 : X * Z ≤ 360000 * 54 := Nat.mul_le_mul h4 hZ54
          generalize A * Y = p at hc e5 e7
          generalize X * Z = r at hc e6 e8
          by_cases hlt : sh < q.2
          · have hcc : (I 0 ≤ lg_cmp (J (p : Int)) (J (r : Int))) = False := by rw [c_ge (by omega) (by omega) (by omega) (by omega)]; exact eq_false (by have := hc.mpr hlt; omega)
            refine xN_ok (t := tX10_findRates) rfl (T := [(250, oX10_findRates_250), (281, oX10_findRates_281), (291, oX10_findRates_291)]) (by decide +kernel) 3 _ _ _ _ _ _ _ ?_
            simp only [oX10_findRates_250, oX10_findRates_281, oX10_findRates_291, rX10_findRates, x_iconst, x_bipush, x_sipush, x_lconst, x_iload, x_lload, x_aload, x_istore, x_lstore, x_astore, x_iinc, x_iadd, x_isub, x_imul, x_iand, x_ior, x_ixor, x_ishl, x_ishr, x_ineg, x_ladd, x_lsub, x_lmul, x_ldiv, x_lrem, x_lcmp, x_i2l, x_l2i, x_dup, x_dup_x1, x_dup2, x_if_eq, x_if_ne, x_if_lt, x_if_ge, x_if_gt, x_if_le, x_ic_eq, x_ic_ne, x_ic_lt, x_ic_ge, x_ic_gt, x_ic_le, x_goto, x_ireturn, x_lreturn, x_return, x_getfield, x_putfield, x_iaload, x_baload, x_laload, x_aaload, x_iastore, x_bastore, x_lastore, x_aastore, x_arraylength, x_newarray, x_anewarray, x_new, x_iload_0, x_iload_1, x_iload_2, x_iload_3, x_lload_0, x_lload_1, x_lload_2, x_lload_3, x_aload_0, x_aload_1, x_aload_2, x_aload_3, x_istore_0, x_istore_1, x_istore_2, x_istore_3, x_lstore_0, x_lstore_1, x_lstore_2, x_lstore_3, x_astore_0, x_astore_1, x_astore_2, x_astore_3, q_bipush_m3, q_bipush_m2, q_bipush_6, q_bipush_7, q_bipush_9, q_bipush_10, q_bipush_24, q_bipush_30, q_bipush_48, q_bipush_100, q_sipush_300, q_sipush_1000, q_sipush_24001, q_l0, q_l1, xtc_0_0, xtc_0_1, xtc_0_2, xtc_0_3, xtc_0_4, xtc_0_5, xtc_1_0, xtc_1_1, xtc_1_2, xtc_2_0, xtc_2_1, xtc_3_0, xtc_4_0, xtc_4_1, xtc_4_2, xtc_4_3, xtc_4_4, xtc_4_5, xtc_4_6, xtc_4_7, xtc_4_8, xtc_4_9, xtc_4_10, xtc_4_11, xtc_4_12, xtc_5_0, xtc_5_1, xtc_5_2, xtc_5_3, xtc_5_4, xtc_5_5, xtc_5_6, xtc_6_0, xtc_6_1, xtc_6_2, xtc_7_0, xtc_7_1, xtc_8_0, xtc_8_1, xtc_8_2, xtc_8_3, xtc_9_0, xtc_9_1, xtc_9_2, xtc_9_3, xtc_9_4, xtc_9_5, xtc_9_6, xtc_9_7, xtc_9_8, xtc_9_9, xtc_10_0, xtc_10_1, xtc_10_2, xtc_10_3, xtc_10_4, xtc_10_5, xtc_10_6, xtc_10_7, xtc_10_8, xtc_10_9, xtc_10_10, xtc_10_11, xtc_10_12, xtc_10_13, xtc_10_14, xtc_10_15, xtc_10_16, xtc_10_17, xtc_10_18, xtc_10_19, xtc_10_20, xtc_10_21, xtc_10_22, xtc_10_23, xtc_10_24, xtc_10_25, eq_self, reduceIte, Nat.reduceEqDiff, Nat.reduceAdd, Nat.reduceSub, Nat.zero_ne_one, Nat.one_ne_zero, Nat.succ_ne_zero, Nat.reduceLeDiff, reduceCtorEq, and_true, true_and, and_false, false_and, true_implies, false_implies, implies_true, not_true_eq_false, not_false_eq_true, xN_0, xN_s, xlook_c, xlook_n, xb_nil, xb_cons, xlen, xl_cons, xst_def, xst2_def, xdl_nil, xdl_int, xdl_ref, xdl_long, xrv_some, xfit_int, xfit_long, xfit_ref, cat_int, cat_ref, cat_long, xret_int, xret_bool, or_true, true_or, Option.some.injEq, Value.int.injEq, Value.ref.injEq, Value.long.injEq, List.getElem?_cons_zero, List.getElem?_cons_succ, List.set_cons_zero, List.set_cons_succ, List.length_cons, List.length_nil, xup_xup, Classical.not_not, Nat.reduceLT, Nat.zero_lt_succ, eu, J_mul, eb, hl, I_add, hne, e5, e6, hcc]
            exact hnx _ _ _ (b2 q hq hlt) _ (by simp)
          · have hcc : (I 0 ≤ lg_cmp (J (p : Int)) (J (r : Int))) = True := by rw [c_ge (by omega) (by omega) (by omega) (by omega)]; exact eq_true (by have := fun h => hlt (hc.mp h); omega)
            refine xN_ok (t := tX10_findRates) rfl (T := [(250, oX10_findRates_250), (291, oX10_findRates_291)]) (by decide +kernel) 2 _ _ _ _ _ _ _ ?_
            simp only [oX10_findRates_250, oX10_findRates_291, rX10_findRates, x_iconst, x_bipush, x_sipush, x_lconst, x_iload, x_lload, x_aload, x_istore, x_lstore, x_astore, x_iinc, x_iadd, x_isub, x_imul, x_iand, x_ior, x_ixor, x_ishl, x_ishr, x_ineg, x_ladd, x_lsub, x_lmul, x_ldiv, x_lrem, x_lcmp, x_i2l, x_l2i, x_dup, x_dup_x1, x_dup2, x_if_eq, x_if_ne, x_if_lt, x_if_ge, x_if_gt, x_if_le, x_ic_eq, x_ic_ne, x_ic_lt, x_ic_ge, x_ic_gt, x_ic_le, x_goto, x_ireturn, x_lreturn, x_return, x_getfield, x_putfield, x_iaload, x_baload, x_laload, x_aaload, x_iastore, x_bastore, x_lastore, x_aastore, x_arraylength, x_newarray, x_anewarray, x_new, x_iload_0, x_iload_1, x_iload_2, x_iload_3, x_lload_0, x_lload_1, x_lload_2, x_lload_3, x_aload_0, x_aload_1, x_aload_2, x_aload_3, x_istore_0, x_istore_1, x_istore_2, x_istore_3, x_lstore_0, x_lstore_1, x_lstore_2, x_lstore_3, x_astore_0, x_astore_1, x_astore_2, x_astore_3, q_bipush_m3, q_bipush_m2, q_bipush_6, q_bipush_7, q_bipush_9, q_bipush_10, q_bipush_24, q_bipush_30, q_bipush_48, q_bipush_100, q_sipush_300, q_sipush_1000, q_sipush_24001, q_l0, q_l1, xtc_0_0, xtc_0_1, xtc_0_2, xtc_0_3, xtc_0_4, xtc_0_5, xtc_1_0, xtc_1_1, xtc_1_2, xtc_2_0, xtc_2_1, xtc_3_0, xtc_4_0, xtc_4_1, xtc_4_2, xtc_4_3, xtc_4_4, xtc_4_5, xtc_4_6, xtc_4_7, xtc_4_8, xtc_4_9, xtc_4_10, xtc_4_11, xtc_4_12, xtc_5_0, xtc_5_1, xtc_5_2, xtc_5_3, xtc_5_4, xtc_5_5, xtc_5_6, xtc_6_0, xtc_6_1, xtc_6_2, xtc_7_0, xtc_7_1, xtc_8_0, xtc_8_1, xtc_8_2, xtc_8_3, xtc_9_0, xtc_9_1, xtc_9_2, xtc_9_3, xtc_9_4, xtc_9_5, xtc_9_6, xtc_9_7, xtc_9_8, xtc_9_9, xtc_10_0, xtc_10_1, xtc_10_2, xtc_10_3, xtc_10_4, xtc_10_5, xtc_10_6, xtc_10_7, xtc_10_8, xtc_10_9, xtc_10_10, xtc_10_11, xtc_10_12, xtc_10_13, xtc_10_14, xtc_10_15, xtc_10_16, xtc_10_17, xtc_10_18, xtc_10_19, xtc_10_20, xtc_10_21, xtc_10_22, xtc_10_23, xtc_10_24, xtc_10_25, eq_self, reduceIte, Nat.reduceEqDiff, Nat.reduceAdd, Nat.reduceSub, Nat.zero_ne_one, Nat.one_ne_zero, Nat.succ_ne_zero, Nat.reduceLeDiff, reduceCtorEq, and_true, true_and, and_false, false_and, true_implies, false_implies, implies_true, not_true_eq_false, not_false_eq_true, xN_0, xN_s, xlook_c, xlook_n, xb_nil, xb_cons, xlen, xl_cons, xst_def, xst2_def, xdl_nil, xdl_int, xdl_ref, xdl_long, xrv_some, xfit_int, xfit_long, xfit_ref, cat_int, cat_ref, cat_long, xret_int, xret_bool, or_true, true_or, Option.some.injEq, Value.int.injEq, Value.ref.injEq, Value.long.injEq, List.getElem?_cons_zero, List.getElem?_cons_succ, List.set_cons_zero, List.set_cons_succ, List.length_cons, List.length_nil, xup_xup, Classical.not_not, Nat.reduceLT, Nat.zero_lt_succ, eu, J_mul, eb, hl, I_add, hne, e5, e6, hcc]
            exact hnx _ _ _ (b3 q hq hlt) _ (by simp)
    have ear := v_arc1 (l := l) (d := d) (n := n) hM0 hw hI hR hG hm hd (Q := Q) (bst := bst) (X := X) (Y := Y) hii hK S.ng 0 (by omega)
    have hn0 : (I (S.na : Int) ≤ I (i : Int)) = False := by rw [I_le (by omega) (by omega) (by omega) (by omega)]; exact eq_false (by omega)
    have hv : vp_in (I (i : Int)) 24 := by rw [I_in (by omega) (by omega)]; omega
    have ga : ∀ x, (ra 24 (S.2 2)).getD (I (i : Int)).toNatClampNeg x = I (S.2 2 i) := fun x => by rw [ra_get (by omega) (by omega) (by omega), Int.toNat_natCast]
    have gl : (I (S.2 2 i)).toInt64 = J ((cp S i / 360 : Nat) : Int) := by
      rw [J_I (by omega) (by omega)]
      congr 1
      omega
    obtain ⟨f1, f2⟩ := fr_360 (S.2 2 i).toNat
    have ec : frA (cp S i - clo S s i 0) = cp S i / 360 ∧ frB (cp S i - clo S s i 0) = 1 := by
      rw [show clo S s i 0 = 0 from rfl, Nat.sub_zero, hcp, f1, f2]
      exact ⟨by omega, rfl⟩
    rw [ec.1, ec.2] at ear
    refine xL_ok (t := tX10_findRates) rfl (ops := oX10_findRates_72) (by decide +kernel) (T := []) (by decide +kernel) 0 ?_
    simp only [oX10_findRates_72, rX10_findRates, x_iconst, x_bipush, x_sipush, x_lconst, x_iload, x_lload, x_aload, x_istore, x_lstore, x_astore, x_iinc, x_iadd, x_isub, x_imul, x_iand, x_ior, x_ixor, x_ishl, x_ishr, x_ineg, x_ladd, x_lsub, x_lmul, x_ldiv, x_lrem, x_lcmp, x_i2l, x_l2i, x_dup, x_dup_x1, x_dup2, x_if_eq, x_if_ne, x_if_lt, x_if_ge, x_if_gt, x_if_le, x_ic_eq, x_ic_ne, x_ic_lt, x_ic_ge, x_ic_gt, x_ic_le, x_goto, x_ireturn, x_lreturn, x_return, x_getfield, x_putfield, x_iaload, x_baload, x_laload, x_aaload, x_iastore, x_bastore, x_lastore, x_aastore, x_arraylength, x_newarray, x_anewarray, x_new, x_iload_0, x_iload_1, x_iload_2, x_iload_3, x_lload_0, x_lload_1, x_lload_2, x_lload_3, x_aload_0, x_aload_1, x_aload_2, x_aload_3, x_istore_0, x_istore_1, x_istore_2, x_istore_3, x_lstore_0, x_lstore_1, x_lstore_2, x_lstore_3, x_astore_0, x_astore_1, x_astore_2, x_astore_3, q_bipush_m3, q_bipush_m2, q_bipush_6, q_bipush_7, q_bipush_9, q_bipush_10, q_bipush_24, q_bipush_30, q_bipush_48, q_bipush_100, q_sipush_300, q_sipush_1000, q_sipush_24001, q_l0, q_l1, xtc_0_0, xtc_0_1, xtc_0_2, xtc_0_3, xtc_0_4, xtc_0_5, xtc_1_0, xtc_1_1, xtc_1_2, xtc_2_0, xtc_2_1, xtc_3_0, xtc_4_0, xtc_4_1, xtc_4_2, xtc_4_3, xtc_4_4, xtc_4_5, xtc_4_6, xtc_4_7, xtc_4_8, xtc_4_9, xtc_4_10, xtc_4_11, xtc_4_12, xtc_5_0, xtc_5_1, xtc_5_2, xtc_5_3, xtc_5_4, xtc_5_5, xtc_5_6, xtc_6_0, xtc_6_1, xtc_6_2, xtc_7_0, xtc_7_1, xtc_8_0, xtc_8_1, xtc_8_2, xtc_8_3, xtc_9_0, xtc_9_1, xtc_9_2, xtc_9_3, xtc_9_4, xtc_9_5, xtc_9_6, xtc_9_7, xtc_9_8, xtc_9_9, xtc_10_0, xtc_10_1, xtc_10_2, xtc_10_3, xtc_10_4, xtc_10_5, xtc_10_6, xtc_10_7, xtc_10_8, xtc_10_9, xtc_10_10, xtc_10_11, xtc_10_12, xtc_10_13, xtc_10_14, xtc_10_15, xtc_10_16, xtc_10_17, xtc_10_18, xtc_10_19, xtc_10_20, xtc_10_21, xtc_10_22, xtc_10_23, xtc_10_24, xtc_10_25, eq_self, reduceIte, Nat.reduceEqDiff, Nat.reduceAdd, Nat.reduceSub, Nat.zero_ne_one, Nat.one_ne_zero, Nat.succ_ne_zero, Nat.reduceLeDiff, reduceCtorEq, and_true, true_and, and_false, false_and, true_implies, false_implies, implies_true, not_true_eq_false, not_false_eq_true, xN_0, xN_s, xlook_c, xlook_n, xb_nil, xb_cons, xlen, xl_cons, xst_def, xst2_def, xdl_nil, xdl_int, xdl_ref, xdl_long, xrv_some, xfit_int, xfit_long, xfit_ref, cat_int, cat_ref, cat_long, xret_int, xret_bool, or_true, true_or, Option.some.injEq, Value.int.injEq, Value.ref.injEq, Value.long.injEq, List.getElem?_cons_zero, List.getElem?_cons_succ, List.set_cons_zero, List.set_cons_succ, List.length_cons, List.length_nil, xup_xup, Classical.not_not, Nat.reduceLT, Nat.zero_lt_succ, m1, m4, hn0, ra_len, ga, gl, J_0, J_1]
    refine ⟨hv, ?_⟩
    exact ear _ (by simp [cn])
end MRATES2
