/-! fractions whose value is a whole number of 360ths -/
def frA (s : Nat) : Nat := s / Nat.gcd s 360
def frB (s : Nat) : Nat := 360 / Nat.gcd s 360
theorem gpos (s : Nat) : 0 < Nat.gcd s 360 := Nat.gcd_pos_of_pos_right s (by omega)
theorem frA_mul (s : Nat) : frA s * Nat.gcd s 360 = s := Nat.div_mul_cancel (Nat.gcd_dvd_left s 360)
theorem frB_mul (s : Nat) : frB s * Nat.gcd s 360 = 360 := Nat.div_mul_cancel (Nat.gcd_dvd_right s 360)
theorem fr_eq (s : Nat) : frA s * 360 = s * frB s := by
  have h1 := frA_mul s
  have h2 := frB_mul s
  generalize Nat.gcd s 360 = g at h1 h2
  generalize frA s = a at h1
  generalize frB s = b at h2
  subst h1
  rw [← h2, ← Nat.mul_assoc, Nat.mul_assoc a g b, Nat.mul_comm g b, Nat.mul_assoc a b g]
theorem fr_cop (s : Nat) : Nat.Coprime (frA s) (frB s) := Nat.coprime_div_gcd_div_gcd (gpos s)
theorem frB_pos (s : Nat) : 0 < frB s := by
  rcases Nat.eq_zero_or_pos (frB s) with h | h
  · have := frB_mul s
    rw [h] at this
    omega
  · exact h
theorem frB_le (s : Nat) : frB s ≤ 360 := Nat.div_le_self _ _
theorem frA_le (s : Nat) : frA s ≤ s := Nat.div_le_self _ _
theorem cop_uniq {a b c e : Nat} (h1 : Nat.Coprime a b) (h2 : Nat.Coprime c e) (hb : 0 < b) (h : a * e = c * b) : a = c ∧ b = e := by
  have d1 : b ∣ e := Nat.Coprime.dvd_of_dvd_mul_left h1.symm (by rw [h]; exact Nat.dvd_mul_left b c)
  have d2 : e ∣ b := Nat.Coprime.dvd_of_dvd_mul_left h2.symm (by rw [← h]; exact Nat.dvd_mul_left e a)
  have e1 : b = e := Nat.dvd_antisymm d1 d2
  subst e1
  exact ⟨Nat.eq_of_mul_eq_mul_right hb h, rfl⟩
theorem fr_uniq {a b s : Nat} (hb : 0 < b) (h : a * 360 = s * b) : a / Nat.gcd a b = frA s ∧ b / Nat.gcd a b = frB s := by
  have hg : 0 < Nat.gcd a b := Nat.gcd_pos_of_pos_right a hb
  have m1 : a / Nat.gcd a b * Nat.gcd a b = a := Nat.div_mul_cancel (Nat.gcd_dvd_left a b)
  have m2 : b / Nat.gcd a b * Nat.gcd a b = b := Nat.div_mul_cancel (Nat.gcd_dvd_right a b)
  have hc := Nat.coprime_div_gcd_div_gcd hg
  have hf := fr_eq s
  refine cop_uniq hc (fr_cop s) ?_ ?_
  · rcases Nat.eq_zero_or_pos (b / Nat.gcd a b) with q | q
    · rw [q] at m2; omega
    · exact q
  · generalize a / Nat.gcd a b = x at m1
    generalize b / Nat.gcd a b = y at m2
    generalize Nat.gcd a b = g at hg m1 m2
    generalize frA s = u at hf
    generalize frB s = v at hf
    subst m1
    subst m2
    have k1 : x * 360 = s * y := by
      apply Nat.eq_of_mul_eq_mul_right hg
      calc x * 360 * g = x * g * 360 := by rw [Nat.mul_right_comm]
        _ = s * (y * g) := h
        _ = s * y * g := by rw [Nat.mul_assoc]
    apply Nat.eq_of_mul_eq_mul_right (show 0 < 360 by omega)
    calc x * v * 360 = x * 360 * v := Nat.mul_right_comm _ _ _
      _ = s * y * v := by rw [k1]
      _ = s * v * y := Nat.mul_right_comm _ _ _
      _ = u * 360 * y := by rw [hf]
      _ = u * y * 360 := Nat.mul_right_comm _ _ _
theorem frB_dvd {D s : Nat} (h : 360 ∣ D * s) : frB s ∣ D := by
  have h1 := frA_mul s
  have h2 := frB_mul s
  have hc := fr_cop s
  have hg := gpos s
  generalize Nat.gcd s 360 = g at h1 h2 hg
  generalize frA s = a at h1 hc
  generalize frB s = b at h2 hc ⊢
  rw [← h1, ← h2, ← Nat.mul_assoc] at h
  exact Nat.Coprime.dvd_of_dvd_mul_right hc.symm (Nat.dvd_of_mul_dvd_mul_right hg h)
theorem fr_lt (s t : Nat) : (frA s * frB t < frA t * frB s) ↔ s < t := by
  have h1 := fr_eq s
  have h2 := fr_eq t
  have p1 := frB_pos s
  have p2 := frB_pos t
  have e1 : frA s * frB t * 360 = s * (frB s * frB t) := by rw [Nat.mul_right_comm, h1, Nat.mul_assoc]
  have e2 : frA t * frB s * 360 = t * (frB s * frB t) := by rw [Nat.mul_right_comm, h2, Nat.mul_assoc, Nat.mul_comm (frB t)]
  have p3 : 0 < frB s * frB t := Nat.mul_pos p1 p2
  constructor
  · intro h
    have : s * (frB s * frB t) < t * (frB s * frB t) := by omega
    exact Nat.lt_of_mul_lt_mul_right this
  · intro h
    have : s * (frB s * frB t) < t * (frB s * frB t) := Nat.mul_lt_mul_of_pos_right h p3
    omega
theorem fr_sub {s t : Nat} (h : t ≤ s) : frA t * frB s ≤ frA s * frB t ∧ (frA s * frB t - frA t * frB s) * 360 = (s - t) * (frB s * frB t) := by
  have h1 := fr_eq s
  have h2 := fr_eq t
  have e1 : frA s * frB t * 360 = s * (frB s * frB t) := by rw [Nat.mul_right_comm, h1, Nat.mul_assoc]
  have e2 : frA t * frB s * 360 = t * (frB s * frB t) := by rw [Nat.mul_right_comm, h2, Nat.mul_assoc, Nat.mul_comm (frB t)]
  have e3 : t * (frB s * frB t) ≤ s * (frB s * frB t) := Nat.mul_le_mul_right _ h
  refine ⟨by omega, ?_⟩
  rw [Nat.sub_mul, e1, e2, Nat.sub_mul]
section FR
variable {l : Launch} {d n : Nat} {ws : xW}
def FrAt (ws : xW) (q s : Nat) : Prop := ws q = some (2, .inr (.inr (.inr [.long (J (frA s : Nat)), .long (J (frB s : Nat))])))
theorem w_set {q : Nat} {x y : Int64} (hq : ws q = some (2, .inr (.inr (.inr [.long x, .long y])))) {a b s : Nat} (ha : a < 1000000000000) (hb0 : 0 < b) (hb : b < 100) (h : a * 360 = s * b) (hd : 1 ≤ d) : xM l tX2_set d 0 0 [.ref q, .long (J a), .long (J b)] n ws (fun r n' ws' => r = none ∧ n' = n ∧ ws' = xup ws q (2, .inr (.inr (.inr [.long (J (frA s : Nat)), .long (J (frB s : Nat))])))) := by
  have hg : 0 < Nat.gcd a b := Nat.gcd_pos_of_pos_right a hb0
  have hgl : Nat.gcd a b ≤ b := Nat.le_of_dvd hb0 (Nat.gcd_dvd_right a b)
  obtain ⟨u1, u2⟩ := fr_uniq hb0 h
  refine xM.of (by decide) (Nat.le_of_ble_eq_true rfl) ?_
  simp only [lv_args, cat_int, cat_ref, cat_long, reduceIte, Nat.reduceEqDiff, Nat.reduceAdd, Nat.one_ne_zero, Nat.reduceLeDiff]
  refine xN_ok (t := tX2_set) rfl (T := [(0, oX2_set_0)]) (by decide +kernel) 1 _ _ _ _ _ _ _ ?_
  simp (disch := omega) only [oX2_set_0, rX2_set, x_iconst, x_bipush, x_sipush, x_lconst, x_iload, x_lload, x_aload, x_istore, x_lstore, x_astore, x_iinc, x_iadd, x_isub, x_imul, x_iand, x_ior, x_ixor, x_ishl, x_ishr, x_ineg, x_ladd, x_lsub, x_lmul, x_ldiv, x_lrem, x_lcmp, x_i2l, x_l2i, x_dup, x_dup_x1, x_dup2, x_if_eq, x_if_ne, x_if_lt, x_if_ge, x_if_gt, x_if_le, x_ic_eq, x_ic_ne, x_ic_lt, x_ic_ge, x_ic_gt, x_ic_le, x_goto, x_ireturn, x_lreturn, x_return, x_getfield, x_putfield, x_iaload, x_baload, x_laload, x_aaload, x_iastore, x_bastore, x_lastore, x_aastore, x_arraylength, x_newarray, x_anewarray, x_new, x_iload_0, x_iload_1, x_iload_2, x_iload_3, x_lload_0, x_lload_1, x_lload_2, x_lload_3, x_aload_0, x_aload_1, x_aload_2, x_aload_3, x_istore_0, x_istore_1, x_istore_2, x_istore_3, x_lstore_0, x_lstore_1, x_lstore_2, x_lstore_3, x_astore_0, x_astore_1, x_astore_2, x_astore_3, q_bipush_m3, q_bipush_m2, q_bipush_6, q_bipush_7, q_bipush_9, q_bipush_10, q_bipush_24, q_bipush_30, q_bipush_48, q_bipush_100, q_sipush_300, q_sipush_1000, q_sipush_24001, q_l0, q_l1, xtc_0_0, xtc_0_1, xtc_0_2, xtc_0_3, xtc_0_4, xtc_0_5, xtc_1_0, xtc_1_1, xtc_1_2, xtc_2_0, xtc_2_1, xtc_3_0, xtc_4_0, xtc_4_1, xtc_4_2, xtc_4_3, xtc_4_4, xtc_4_5, xtc_4_6, xtc_4_7, xtc_4_8, xtc_4_9, xtc_4_10, xtc_4_11, xtc_4_12, xtc_5_0, xtc_5_1, xtc_5_2, xtc_5_3, xtc_5_4, xtc_5_5, xtc_5_6, xtc_6_0, xtc_6_1, xtc_6_2, xtc_7_0, xtc_7_1, xtc_8_0, xtc_8_1, xtc_8_2, xtc_8_3, xtc_9_0, xtc_9_1, xtc_9_2, xtc_9_3, xtc_9_4, xtc_9_5, xtc_9_6, xtc_9_7, xtc_9_8, xtc_9_9, xtc_10_0, xtc_10_1, xtc_10_2, xtc_10_3, xtc_10_4, xtc_10_5, xtc_10_6, xtc_10_7, xtc_10_8, xtc_10_9, xtc_10_10, xtc_10_11, xtc_10_12, xtc_10_13, xtc_10_14, xtc_10_15, xtc_10_16, xtc_10_17, xtc_10_18, xtc_10_19, xtc_10_20, xtc_10_21, xtc_10_22, xtc_10_23, xtc_10_24, xtc_10_25, eq_self, reduceIte, Nat.reduceEqDiff, Nat.reduceAdd, Nat.reduceSub, Nat.zero_ne_one, Nat.one_ne_zero, Nat.succ_ne_zero, Nat.reduceLeDiff, reduceCtorEq, and_true, true_and, and_false, false_and, true_implies, false_implies, implies_true, not_true_eq_false, not_false_eq_true, xN_0, xN_s, xlook_c, xlook_n, xb_nil, xb_cons, xlen, xl_cons, xst_def, xst2_def, xdl_nil, xdl_int, xdl_ref, xdl_long, xrv_some, xfit_int, xfit_long, xfit_ref, cat_int, cat_ref, cat_long, xret_int, xret_bool, or_true, true_or, Option.some.injEq, Value.int.injEq, Value.ref.injEq, Value.long.injEq, List.getElem?_cons_zero, List.getElem?_cons_succ, List.set_cons_zero, List.set_cons_succ, List.length_cons, List.length_nil, xup_xup, Classical.not_not, Nat.reduceLT, Nat.zero_lt_succ, xup_self, xup_ne, ne_eq, ra_len, ro_len, ra_get, ro_get, ra_set, ro_set, I_add, I_sub, I_lt, I_le, I_eq, I_in, I_b0, I_b01, b_eq0, b_eq1, Int.toNat_natCast]
  refine cX2_set_2 (dc := 0) (cc := 0) (cs := 0) (by omega) (by omega) (by omega) (Nat.le_of_ble_eq_true rfl) (w_commonFactor ha hb) (pureQ ?_)
  simp only [Option.toList_some, Option.toList_none, List.cons_append, List.nil_append, Nat.sub_zero, Nat.reduceSub, Nat.sub_self]
  generalize Nat.gcd a b = g at hg hgl u1 u2
  refine xN_ok (t := tX2_set) rfl (T := [(5, oX2_set_5), (30, oX2_set_30)]) (by decide +kernel) 2 _ _ _ _ _ _ _ ?_
  simp (disch := omega) only [oX2_set_5, oX2_set_30, rX2_set, x_iconst, x_bipush, x_sipush, x_lconst, x_iload, x_lload, x_aload, x_istore, x_lstore, x_astore, x_iinc, x_iadd, x_isub, x_imul, x_iand, x_ior, x_ixor, x_ishl, x_ishr, x_ineg, x_ladd, x_lsub, x_lmul, x_ldiv, x_lrem, x_lcmp, x_i2l, x_l2i, x_dup, x_dup_x1, x_dup2, x_if_eq, x_if_ne, x_if_lt, x_if_ge, x_if_gt, x_if_le, x_ic_eq, x_ic_ne, x_ic_lt, x_ic_ge, x_ic_gt, x_ic_le, x_goto, x_ireturn, x_lreturn, x_return, x_getfield, x_putfield, x_iaload, x_baload, x_laload, x_aaload, x_iastore, x_bastore, x_lastore, x_aastore, x_arraylength, x_newarray, x_anewarray, x_new, x_iload_0, x_iload_1, x_iload_2, x_iload_3, x_lload_0, x_lload_1, x_lload_2, x_lload_3, x_aload_0, x_aload_1, x_aload_2, x_aload_3, x_istore_0, x_istore_1, x_istore_2, x_istore_3, x_lstore_0, x_lstore_1, x_lstore_2, x_lstore_3, x_astore_0, x_astore_1, x_astore_2, x_astore_3, q_bipush_m3, q_bipush_m2, q_bipush_6, q_bipush_7, q_bipush_9, q_bipush_10, q_bipush_24, q_bipush_30, q_bipush_48, q_bipush_100, q_sipush_300, q_sipush_1000, q_sipush_24001, q_l0, q_l1, xtc_0_0, xtc_0_1, xtc_0_2, xtc_0_3, xtc_0_4, xtc_0_5, xtc_1_0, xtc_1_1, xtc_1_2, xtc_2_0, xtc_2_1, xtc_3_0, xtc_4_0, xtc_4_1, xtc_4_2, xtc_4_3, xtc_4_4, xtc_4_5, xtc_4_6, xtc_4_7, xtc_4_8, xtc_4_9, xtc_4_10, xtc_4_11, xtc_4_12, xtc_5_0, xtc_5_1, xtc_5_2, xtc_5_3, xtc_5_4, xtc_5_5, xtc_5_6, xtc_6_0, xtc_6_1, xtc_6_2, xtc_7_0, xtc_7_1, xtc_8_0, xtc_8_1, xtc_8_2, xtc_8_3, xtc_9_0, xtc_9_1, xtc_9_2, xtc_9_3, xtc_9_4, xtc_9_5, xtc_9_6, xtc_9_7, xtc_9_8, xtc_9_9, xtc_10_0, xtc_10_1, xtc_10_2, xtc_10_3, xtc_10_4, xtc_10_5, xtc_10_6, xtc_10_7, xtc_10_8, xtc_10_9, xtc_10_10, xtc_10_11, xtc_10_12, xtc_10_13, xtc_10_14, xtc_10_15, xtc_10_16, xtc_10_17, xtc_10_18, xtc_10_19, xtc_10_20, xtc_10_21, xtc_10_22, xtc_10_23, xtc_10_24, xtc_10_25, eq_self, reduceIte, Nat.reduceEqDiff, Nat.reduceAdd, Nat.reduceSub, Nat.zero_ne_one, Nat.one_ne_zero, Nat.succ_ne_zero, Nat.reduceLeDiff, reduceCtorEq, and_true, true_and, and_false, false_and, true_implies, false_implies, implies_true, not_true_eq_false, not_false_eq_true, xN_0, xN_s, xlook_c, xlook_n, xb_nil, xb_cons, xlen, xl_cons, xst_def, xst2_def, xdl_nil, xdl_int, xdl_ref, xdl_long, xrv_some, xfit_int, xfit_long, xfit_ref, cat_int, cat_ref, cat_long, xret_int, xret_bool, or_true, true_or, Option.some.injEq, Value.int.injEq, Value.ref.injEq, Value.long.injEq, List.getElem?_cons_zero, List.getElem?_cons_succ, List.set_cons_zero, List.set_cons_succ, List.length_cons, List.length_nil, xup_xup, Classical.not_not, Nat.reduceLT, Nat.zero_lt_succ, xup_self, xup_ne, ne_eq, ra_len, ro_len, ra_get, ro_get, ra_set, ro_set, I_add, I_sub, I_lt, I_le, I_eq, I_in, I_b0, I_b01, b_eq0, b_eq1, Int.toNat_natCast, J_0, c_le, hq, J_eq, J_div, u1, u2]
  exact ⟨fun h => absurd h (by omega), fun _ => by omega⟩
end FR
