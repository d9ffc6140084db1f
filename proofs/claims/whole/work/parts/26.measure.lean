section MEAS
variable {l : Launch} {d n : Nat} {ws : xW} {S : St} {ver wv : Int}
/-- one arc looked at; the first k arcs; whether one of them changed something -/
def rlx (S : St) (f : Nat → Int) (i : Nat) : Nat → Int := if S.2 3 i + f (S.2 1 i).toNat < f (S.2 0 i).toNat then fu f (S.2 0 i).toNat (S.2 3 i + f (S.2 1 i).toNat) else f
def rl (S : St) (f : Nat → Int) : Nat → Nat → Int
  | 0 => f
  | k + 1 => rlx S (rl S f k) k
def ch (S : St) (f : Nat → Int) : Nat → Bool
  | 0 => false
  | k + 1 => ch S f k || decide (S.2 3 k + rl S f k (S.2 1 k).toNat < rl S f k (S.2 0 k).toNat)
def fbd (f : Nat → Int) : Prop := ∀ v, v < 10 → 0 ≤ f v ∧ f v ≤ 1000
theorem rlx_le (f : Nat → Int) (i v : Nat) : rlx S f i v ≤ f v := by
  unfold rlx
  split
  · by_cases e : v = (S.2 0 i).toNat
    · subst e; rw [fu_s]; omega
    · rw [fu_n _ _ e]; exact Int.le_refl _
  · exact Int.le_refl _
theorem rl_le (f : Nat → Int) (v : Nat) : ∀ {k m : Nat}, k ≤ m → rl S f m v ≤ rl S f k v := by
  intro k m h
  induction m with
  | zero => have : k = 0 := by omega
            subst this; exact Int.le_refl _
  | succ m ih =>
    by_cases e : k = m + 1
    · subst e; exact Int.le_refl _
    · have h1 := ih (by omega)
      have h2 : rl S f (m + 1) v ≤ rl S f m v := rlx_le _ _ _
      omega
theorem rlx_bd (hw : WF S) {f : Nat → Int} (hf : fbd f) {i : Nat} (hi : i < S.na) : fbd (rlx S f i) := by
  intro v hv
  obtain ⟨q1, q2, q3, q4, q5, q6, q7, q8, q9⟩ := hw.2.2.2.1 i hi
  have hn := hw.1
  unfold rlx
  split
  · by_cases e : v = (S.2 0 i).toNat
    · subst e
      rw [fu_s]
      have h1 := hf (S.2 1 i).toNat (by omega)
      have h2 := hf (S.2 0 i).toNat (by omega)
      omega
    · rw [fu_n _ _ e]; exact hf v hv
  · exact hf v hv
theorem rl_bd (hw : WF S) {f : Nat → Int} (hf : fbd f) : ∀ k, k ≤ S.na → fbd (rl S f k)
  | 0, _ => hf
  | k + 1, h => rlx_bd hw (rl_bd hw hf k (by omega)) (by omega)
theorem LB_round {go : Int} {m : Nat} {f : Nat → Int} (h : LB S go m f) : LB S go (m + 1) (rl S f S.na) := by
  intro v p hp hl
  have hle : rl S f S.na v.toNat ≤ f v.toNat := rl_le f v.toNat (Nat.zero_le _)
  cases p with
  | nil => have := h v [] hp (by simp); omega
  | cons i p =>
    obtain ⟨h1, h2, h3⟩ := hp
    have h4 := h _ p h3 (by simp at hl; omega)
    have h5 : rl S f (i + 1) (S.2 0 i).toNat ≤ S.2 3 i + rl S f i (S.2 1 i).toNat := by
      show rlx S (rl S f i) i _ ≤ _
      unfold rlx
      split
      · rw [fu_s]; exact Int.le_refl _
      · omega
    have h6 : rl S f S.na (S.2 0 i).toNat ≤ rl S f (i + 1) (S.2 0 i).toNat := rl_le f _ (by omega)
    have h7 : rl S f i (S.2 1 i).toNat ≤ f (S.2 1 i).toNat := rl_le f _ (Nat.zero_le _)
    rw [← h2]
    simp only [pcost, List.map_cons, List.sum_cons] at h4 ⊢
    omega
theorem ch_false {f : Nat → Int} : ∀ {k : Nat}, ch S f k = false → rl S f k = f ∧ ∀ i, i < k → ¬ S.2 3 i + f (S.2 1 i).toNat < f (S.2 0 i).toNat
  | 0, _ => ⟨rfl, fun i hi => absurd hi (by omega)⟩
  | k + 1, h => by
    unfold ch at h
    simp only [Bool.or_eq_false_iff, decide_eq_false_iff_not] at h
    obtain ⟨h1, h2⟩ := ch_false h.1
    rw [h1] at h
    refine ⟨?_, fun i hi => ?_⟩
    · show rlx S (rl S f k) k = f
      rw [h1]
      unfold rlx
      rw [if_neg h.2]
    · by_cases e : i = k
      · subst e; exact h.2
      · exact h2 i (by omega)
theorem LB_still {go : Int} {f : Nat → Int} (h0 : LB S go 0 f) (h : ∀ i, i < S.na → ¬ S.2 3 i + f (S.2 1 i).toNat < f (S.2 0 i).toNat) : ∀ m, LB S go m f := by
  intro m v p hp hl
  induction p generalizing v with
  | nil => exact h0 v [] hp (by simp)
  | cons i p ih =>
    obtain ⟨h1, h2, h3⟩ := hp
    have h4 := ih _ h3 (by have : (i :: p).length = p.length + 1 := rfl
                           omega)
    have h5 := h i h1
    rw [← h2]
    simp only [pcost, List.map_cons, List.sum_cons] at h4 ⊢
    omega
theorem LB_le {go : Int} {m k : Nat} {f : Nat → Int} (h : LB S go m f) (hk : k ≤ m) : LB S go k f := fun v p hp hl => h v p hp (by omega)
theorem w_measure (hN : NetAt ws S ver wv) (hw : WF S) {go tv : Int} {ft fl : Nat → Int} (hT : TabAt ws tv ft fl) (h1 : 0 ≤ go) (h2 : go < S.nn) : xM l tX8_measure d 0 0 [.ref 10, .ref 1, .int (I go)] n ws (fun r n' ws' => r = none ∧ n' = n ∧ ∃ f, LB S go 9 f ∧ fbd f ∧ ws' = xup ws 13 (0, .inl (ra 10 f))) := by
  generalize hQ : (fun (r : Option Value) (n' : Nat) (ws' : xW) => r = none ∧ n' = n ∧ ∃ f, LB S go 9 f ∧ fbd f ∧ ws' = xup ws 13 (0, .inl (ra 10 f))) = Q
  obtain ⟨n1, n2, n3, n4, n5, n6, n7, n8, n9⟩ := hN
  obtain ⟨t1, t2, t3, t4⟩ := hT
  have hb : S.na ≤ 24 := hw.2.1
  have hn := hw.1
  have inner : ∀ (r : Nat) (f : Nat → Int), fbd f → (r < 10) → xX l tX8_measure d 0 0 Q 0 0 37 [(0, .ref 10), (1, .ref 1), (3, .int (I (if ch S f S.na = true then 1 else 0))), (4, .int (I (r + 1 : Nat)))] [] n (xup ws 13 (0, .inl (ra 10 (rl S f S.na)))) → ∀ j i : Nat, i + j = S.na → xX l tX8_measure d 0 0 Q 0 0 53 [(0, .ref 10), (1, .ref 1), (3, .int (I (if ch S f i = true then 1 else 0))), (4, .int (I r)), (5, .int (I i))] [] n (xup ws 13 (0, .inl (ra 10 (rl S f i)))) := by
    intro r f hf hr hk j
    induction j with
    | zero =>
      intro i hi
      have e : i = S.na := by omega
      subst e
      refine xL_ok (t := tX8_measure) rfl (ops := oX8_measure_53) (by decide +kernel) (T := [(0, oX8_measure_0), (2, oX8_measure_2), (22, oX8_measure_22), (25, oX8_measure_25), (32, oX8_measure_32), (117, oX8_measure_117), (123, oX8_measure_123), (129, oX8_measure_129)]) (by decide +kernel) 1 ?_
      simp (disch := omega) only [oX8_measure_0, oX8_measure_2, oX8_measure_22, oX8_measure_25, oX8_measure_32, oX8_measure_117, oX8_measure_123, oX8_measure_129, oX8_measure_53, rX8_measure, x_iconst, x_bipush, x_sipush, x_lconst, x_iload, x_lload, x_aload, x_istore, x_lstore, x_astore, x_iinc, x_iadd, x_isub, x_imul, x_iand, x_ior, x_ixor, x_ishl, x_ishr, x_ineg, x_ladd, x_lsub, x_lmul, x_ldiv, x_lrem, x_lcmp, x_i2l, x_l2i, x_dup, x_dup_x1, x_dup2, x_if_eq, x_if_ne, x_if_lt, x_if_ge, x_if_gt, x_if_le, x_ic_eq, x_ic_ne, x_ic_lt, x_ic_ge, x_ic_gt, x_ic_le, x_goto, x_ireturn, x_lreturn, x_return, x_getfield, x_putfield, x_iaload, x_baload, x_laload, x_aaload, x_iastore, x_bastore, x_lastore, x_aastore, x_arraylength, x_newarray, x_anewarray, x_new, x_iload_0, x_iload_1, x_iload_2, x_iload_3, x_lload_0, x_lload_1, x_lload_2, x_lload_3, x_aload_0, x_aload_1, x_aload_2, x_aload_3, x_istore_0, x_istore_1, x_istore_2, x_istore_3, x_lstore_0, x_lstore_1, x_lstore_2, x_lstore_3, x_astore_0, x_astore_1, x_astore_2, x_astore_3, q_bipush_m3, q_bipush_m2, q_bipush_6, q_bipush_7, q_bipush_9, q_bipush_10, q_bipush_24, q_bipush_30, q_bipush_48, q_bipush_100, q_sipush_300, q_sipush_1000, q_sipush_24001, q_l0, q_l1, xtc_0_0, xtc_0_1, xtc_0_2, xtc_0_3, xtc_0_4, xtc_0_5, xtc_1_0, xtc_1_1, xtc_1_2, xtc_2_0, xtc_2_1, xtc_3_0, xtc_4_0, xtc_4_1, xtc_4_2, xtc_4_3, xtc_4_4, xtc_4_5, xtc_4_6, xtc_4_7, xtc_4_8, xtc_4_9, xtc_4_10, xtc_4_11, xtc_4_12, xtc_5_0, xtc_5_1, xtc_5_2, xtc_5_3, xtc_5_4, xtc_5_5, xtc_5_6, xtc_6_0, xtc_6_1, xtc_6_2, xtc_7_0, xtc_7_1, xtc_8_0, xtc_8_1, xtc_8_2, xtc_8_3, xtc_9_0, xtc_9_1, xtc_9_2, xtc_9_3, xtc_9_4, xtc_9_5, xtc_9_6, xtc_9_7, xtc_9_8, xtc_9_9, xtc_10_0, xtc_10_1, xtc_10_2, xtc_10_3, xtc_10_4, xtc_10_5, xtc_10_6, xtc_10_7, xtc_10_8, xtc_10_9, xtc_10_10, xtc_10_11, xtc_10_12, xtc_10_13, xtc_10_14, xtc_10_15, xtc_10_16, xtc_10_17, xtc_10_18, xtc_10_19, xtc_10_20, xtc_10_21, xtc_10_22, xtc_10_23, xtc_10_24, xtc_10_25, eq_self, reduceIte, Nat.reduceEqDiff, Nat.reduceAdd, Nat.reduceSub, Nat.zero_ne_one, Nat.one_ne_zero, Nat.succ_ne_zero, Nat.reduceLeDiff, reduceCtorEq, and_true, true_and, and_false, false_and, true_implies, false_implies, implies_true, not_true_eq_false, not_false_eq_true, xN_0, xN_s, xlook_c, xlook_n, xb_nil, xb_cons, xlen, xl_cons, xst_def, xst2_def, xdl_nil, xdl_int, xdl_ref, xdl_long, xrv_some, xfit_int, xfit_long, xfit_ref, cat_int, cat_ref, cat_long, xret_int, xret_bool, or_true, true_or, Option.some.injEq, Value.int.injEq, Value.ref.injEq, Value.long.injEq, List.getElem?_cons_zero, List.getElem?_cons_succ, List.set_cons_zero, List.set_cons_succ, List.length_cons, List.length_nil, xup_xup, Classical.not_not, Nat.reduceLT, Nat.zero_lt_succ, xup_self, xup_ne, ne_eq, ra_len, ro_len, ra_get, ro_get, ra_set, ro_set, I_add, I_sub, I_lt, I_le, I_eq, I_in, I_b0, I_b01, b_eq0, b_eq1, Int.toNat_natCast, n1]
      exact ⟨fun _ => xX.loc _ (by simp) hk, fun h => absurd h (by omega)⟩
    | succ j ih =>
      intro i hi
      obtain ⟨q1, q2, q3, q4, q5, q6, q7, q8, q9⟩ := hw.2.2.2.1 i (by omega)
      have hbi := rl_bd hw hf i (by omega)
      have b1 := hbi (S.2 1 i).toNat (by omega)
      have b2 := hbi (S.2 0 i).toNat (by omega)
      have hnx := ih (i + 1) (by omega)
      refine xL_ok (t := tX8_measure) rfl (ops := oX8_measure_53) (by decide +kernel) (T := [(0, oX8_measure_0), (2, oX8_measure_2), (22, oX8_measure_22), (25, oX8_measure_25), (32, oX8_measure_32), (37, oX8_measure_37), (117, oX8_measure_117), (123, oX8_measure_123), (129, oX8_measure_129)]) (by decide +kernel) 1 ?_
      simp (disch := omega) only [oX8_measure_0, oX8_measure_2, oX8_measure_22, oX8_measure_25, oX8_measure_32, oX8_measure_37, oX8_measure_117, oX8_measure_123, oX8_measure_129, oX8_measure_53, rX8_measure, x_iconst, x_bipush, x_sipush, x_lconst, x_iload, x_lload, x_aload, x_istore, x_lstore, x_astore, x_iinc, x_iadd, x_isub, x_imul, x_iand, x_ior, x_ixor, x_ishl, x_ishr, x_ineg, x_ladd, x_lsub, x_lmul, x_ldiv, x_lrem, x_lcmp, x_i2l, x_l2i, x_dup, x_dup_x1, x_dup2, x_if_eq, x_if_ne, x_if_lt, x_if_ge, x_if_gt, x_if_le, x_ic_eq, x_ic_ne, x_ic_lt, x_ic_ge, x_ic_gt, x_ic_le, x_goto, x_ireturn, x_lreturn, x_return, x_getfield, x_putfield, x_iaload, x_baload, x_laload, x_aaload, x_iastore, x_bastore, x_lastore, x_aastore, x_arraylength, x_newarray, x_anewarray, x_new, x_iload_0, x_iload_1, x_iload_2, x_iload_3, x_lload_0, x_lload_1, x_lload_2, x_lload_3, x_aload_0, x_aload_1, x_aload_2, x_aload_3, x_istore_0, x_istore_1, x_istore_2, x_istore_3, x_lstore_0, x_lstore_1, x_lstore_2, x_lstore_3, x_astore_0, x_astore_1, x_astore_2, x_astore_3, q_bipush_m3, q_bipush_m2, q_bipush_6, q_bipush_7, q_bipush_9, q_bipush_10, q_bipush_24, q_bipush_30, q_bipush_48, q_bipush_100, q_sipush_300, q_sipush_1000, q_sipush_24001, q_l0, q_l1, xtc_0_0, xtc_0_1, xtc_0_2, xtc_0_3, xtc_0_4, xtc_0_5, xtc_1_0, xtc_1_1, xtc_1_2, xtc_2_0, xtc_2_1, xtc_3_0, xtc_4_0, xtc_4_1, xtc_4_2, xtc_4_3, xtc_4_4, xtc_4_5, xtc_4_6, xtc_4_7, xtc_4_8, xtc_4_9, xtc_4_10, xtc_4_11, xtc_4_12, xtc_5_0, xtc_5_1, xtc_5_2, xtc_5_3, xtc_5_4, xtc_5_5, xtc_5_6, xtc_6_0, xtc_6_1, xtc_6_2, xtc_7_0, xtc_7_1, xtc_8_0, xtc_8_1, xtc_8_2, xtc_8_3, xtc_9_0, xtc_9_1, xtc_9_2, xtc_9_3, xtc_9_4, xtc_9_5, xtc_9_6, xtc_9_7, xtc_9_8, xtc_9_9, xtc_10_0, xtc_10_1, xtc_10_2, xtc_10_3, xtc_10_4, xtc_10_5, xtc_10_6, xtc_10_7, xtc_10_8, xtc_10_9, xtc_10_10, xtc_10_11, xtc_10_12, xtc_10_13, xtc_10_14, xtc_10_15, xtc_10_16, xtc_10_17, xtc_10_18, xtc_10_19, xtc_10_20, xtc_10_21, xtc_10_22, xtc_10_23, xtc_10_24, xtc_10_25, eq_self, reduceIte, Nat.reduceEqDiff, Nat.reduceAdd, Nat.reduceSub, Nat.zero_ne_one, Nat.one_ne_zero, Nat.succ_ne_zero, Nat.reduceLeDiff, reduceCtorEq, and_true, true_and, and_false, false_and, true_implies, false_implies, implies_true, not_true_eq_false, not_false_eq_true, xN_0, xN_s, xlook_c, xlook_n, xb_nil, xb_cons, xlen, xl_cons, xst_def, xst2_def, xdl_nil, xdl_int, xdl_ref, xdl_long, xrv_some, xfit_int, xfit_long, xfit_ref, cat_int, cat_ref, cat_long, xret_int, xret_bool, or_true, true_or, Option.some.injEq, Value.int.injEq, Value.ref.injEq, Value.long.injEq, List.getElem?_cons_zero, List.getElem?_cons_succ, List.set_cons_zero, List.set_cons_succ, List.length_cons, List.length_nil, xup_xup, Classical.not_not, Nat.reduceLT, Nat.zero_lt_succ, xup_self, xup_ne, ne_eq, ra_len, ro_len, ra_get, ro_get, ra_set, ro_set, I_add, I_sub, I_lt, I_le, I_eq, I_in, I_b0, I_b01, b_eq0, b_eq1, Int.toNat_natCast, n1, n2, n3, n5, t1]
      refine ⟨fun h => absurd h (by omega), fun _ => ⟨by omega, by omega, by omega, by omega, by omega, fun h => ?_, fun h => ⟨by omega, by omega, ?_⟩⟩⟩
      · have e1 : rl S f (i + 1) = rl S f i := by show rlx S (rl S f i) i = _; unfold rlx; rw [if_neg (by omega)]
        have e2 : ch S f (i + 1) = ch S f i := by show (ch S f i || decide _) = _; rw [decide_eq_false (by omega), Bool.or_false]
        rw [e1, e2] at hnx
        exact xX.loc _ (by simp) hnx
      · have e1 : rl S f (i + 1) = fu (rl S f i) (S.2 0 i).toNat (S.2 3 i + rl S f i (S.2 1 i).toNat) := by show rlx S (rl S f i) i = _; unfold rlx; rw [if_pos (by omega)]
        have e2 : ch S f (i + 1) = true := by show (ch S f i || decide _) = _; rw [decide_eq_true (by omega), Bool.or_true]
        rw [e1, e2] at hnx
        exact xX.loc _ (by simp) hnx
  have outer : ∀ j r : Nat, r + j = 10 → ∀ (f : Nat → Int) (c : Bool), fbd f → LB S go r f → (c = false → ∀ m, LB S go m f) → xX l tX8_measure d 0 0 Q 0 0 37 [(0, .ref 10), (1, .ref 1), (3, .int (I (if c = true then 1 else 0))), (4, .int (I r))] [] n (xup ws 13 (0, .inl (ra 10 f))) := by
    intro j
    induction j with
    | zero =>
      intro r hr f c hf hLB hc
      refine xL_ok (t := tX8_measure) rfl (ops := oX8_measure_37) (by decide +kernel) (T := [(0, oX8_measure_0), (2, oX8_measure_2), (22, oX8_measure_22), (25, oX8_measure_25), (32, oX8_measure_32), (53, oX8_measure_53), (117, oX8_measure_117), (123, oX8_measure_123), (129, oX8_measure_129)]) (by decide +kernel) 1 ?_
      simp (disch := omega) only [oX8_measure_0, oX8_measure_2, oX8_measure_22, oX8_measure_25, oX8_measure_32, oX8_measure_53, oX8_measure_117, oX8_measure_123, oX8_measure_129, oX8_measure_37, rX8_measure, x_iconst, x_bipush, x_sipush, x_lconst, x_iload, x_lload, x_aload, x_istore, x_lstore, x_astore, x_iinc, x_iadd, x_isub, x_imul, x_iand, x_ior, x_ixor, x_ishl, x_ishr, x_ineg, x_ladd, x_lsub, x_lmul, x_ldiv, x_lrem, x_lcmp, x_i2l, x_l2i, x_dup, x_dup_x1, x_dup2, x_if_eq, x_if_ne, x_if_lt, x_if_ge, x_if_gt, x_if_le, x_ic_eq, x_ic_ne, x_ic_lt, x_ic_ge, x_ic_gt, x_ic_le, x_goto, x_ireturn, x_lreturn, x_return, x_getfield, x_putfield, x_iaload, x_baload, x_laload, x_aaload, x_iastore, x_bastore, x_lastore, x_aastore, x_arraylength, x_newarray, x_anewarray, x_new, x_iload_0, x_iload_1, x_iload_2, x_iload_3, x_lload_0, x_lload_1, x_lload_2, x_lload_3, x_aload_0, x_aload_1, x_aload_2, x_aload_3, x_istore_0, x_istore_1, x_istore_2, x_istore_3, x_lstore_0, x_lstore_1, x_lstore_2, x_lstore_3, x_astore_0, x_astore_1, x_astore_2, x_astore_3, q_bipush_m3, q_bipush_m2, q_bipush_6, q_bipush_7, q_bipush_9, q_bipush_10, q_bipush_24, q_bipush_30, q_bipush_48, q_bipush_100, q_sipush_300, q_sipush_1000, q_sipush_24001, q_l0, q_l1, xtc_0_0, xtc_0_1, xtc_0_2, xtc_0_3, xtc_0_4, xtc_0_5, xtc_1_0, xtc_1_1, xtc_1_2, xtc_2_0, xtc_2_1, xtc_3_0, xtc_4_0, xtc_4_1, xtc_4_2, xtc_4_3, xtc_4_4, xtc_4_5, xtc_4_6, xtc_4_7, xtc_4_8, xtc_4_9, xtc_4_10, xtc_4_11, xtc_4_12, xtc_5_0, xtc_5_1, xtc_5_2, xtc_5_3, xtc_5_4, xtc_5_5, xtc_5_6, xtc_6_0, xtc_6_1, xtc_6_2, xtc_7_0, xtc_7_1, xtc_8_0, xtc_8_1, xtc_8_2, xtc_8_3, xtc_9_0, xtc_9_1, xtc_9_2, xtc_9_3, xtc_9_4, xtc_9_5, xtc_9_6, xtc_9_7, xtc_9_8, xtc_9_9, xtc_10_0, xtc_10_1, xtc_10_2, xtc_10_3, xtc_10_4, xtc_10_5, xtc_10_6, xtc_10_7, xtc_10_8, xtc_10_9, xtc_10_10, xtc_10_11, xtc_10_12, xtc_10_13, xtc_10_14, xtc_10_15, xtc_10_16, xtc_10_17, xtc_10_18, xtc_10_19, xtc_10_20, xtc_10_21, xtc_10_22, xtc_10_23, xtc_10_24, xtc_10_25, eq_self, reduceIte, Nat.reduceEqDiff, Nat.reduceAdd, Nat.reduceSub, Nat.zero_ne_one, Nat.one_ne_zero, Nat.succ_ne_zero, Nat.reduceLeDiff, reduceCtorEq, and_true, true_and, and_false, false_and, true_implies, false_implies, implies_true, not_true_eq_false, not_false_eq_true, xN_0, xN_s, xlook_c, xlook_n, xb_nil, xb_cons, xlen, xl_cons, xst_def, xst2_def, xdl_nil, xdl_int, xdl_ref, xdl_long, xrv_some, xfit_int, xfit_long, xfit_ref, cat_int, cat_ref, cat_long, xret_int, xret_bool, or_true, true_or, Option.some.injEq, Value.int.injEq, Value.ref.injEq, Value.long.injEq, List.getElem?_cons_zero, List.getElem?_cons_succ, List.set_cons_zero, List.set_cons_succ, List.length_cons, List.length_nil, xup_xup, Classical.not_not, Nat.reduceLT, Nat.zero_lt_succ, xup_self, xup_ne, ne_eq, ra_len, ro_len, ra_get, ro_get, ra_set, ro_set, I_add, I_sub, I_lt, I_le, I_eq, I_in, I_b0, I_b01, b_eq0, b_eq1, Int.toNat_natCast]
      refine ⟨fun _ => ?_, fun h => absurd h (by omega)⟩
      rw [← hQ]
      exact ⟨rfl, rfl, f, LB_le hLB (by omega), hf, rfl⟩
    | succ j ih =>
      intro r hr f c hf hLB hc
      refine xL_ok (t := tX8_measure) rfl (ops := oX8_measure_37) (by decide +kernel) (T := [(0, oX8_measure_0), (2, oX8_measure_2), (22, oX8_measure_22), (25, oX8_measure_25), (32, oX8_measure_32), (117, oX8_measure_117), (123, oX8_measure_123), (129, oX8_measure_129)]) (by decide +kernel) 1 ?_
      simp (disch := omega) only [oX8_measure_0, oX8_measure_2, oX8_measure_22, oX8_measure_25, oX8_measure_32, oX8_measure_117, oX8_measure_123, oX8_measure_129, oX8_measure_37, rX8_measure, x_iconst, x_bipush, x_sipush, x_lconst, x_iload, x_lload, x_aload, x_istore, x_lstore, x_astore, x_iinc, x_iadd, x_isub, x_imul, x_iand, x_ior, x_ixor, x_ishl, x_ishr, x_ineg, x_ladd, x_lsub, x_lmul, x_ldiv, x_lrem, x_lcmp, x_i2l, x_l2i, x_dup, x_dup_x1, x_dup2, x_if_eq, x_if_ne, x_if_lt, x_if_ge, x_if_gt, x_if_le, x_ic_eq, x_ic_ne, x_ic_lt, x_ic_ge, x_ic_gt, x_ic_le, x_goto, x_ireturn, x_lreturn, x_return, x_getfield, x_putfield, x_iaload, x_baload, x_laload, x_aaload, x_iastore, x_bastore, x_lastore, x_aastore, x_arraylength, x_newarray, x_anewarray, x_new, x_iload_0, x_iload_1, x_iload_2, x_iload_3, x_lload_0, x_lload_1, x_lload_2, x_lload_3, x_aload_0, x_aload_1, x_aload_2, x_aload_3, x_istore_0, x_istore_1, x_istore_2, x_istore_3, x_lstore_0, x_lstore_1, x_lstore_2, x_lstore_3, x_astore_0, x_astore_1, x_astore_2, x_astore_3, q_bipush_m3, q_bipush_m2, q_bipush_6, q_bipush_7, q_bipush_9, q_bipush_10, q_bipush_24, q_bipush_30, q_bipush_48, q_bipush_100, q_sipush_300, q_sipush_1000, q_sipush_24001, q_l0, q_l1, xtc_0_0, xtc_0_1, xtc_0_2, xtc_0_3, xtc_0_4, xtc_0_5, xtc_1_0, xtc_1_1, xtc_1_2, xtc_2_0, xtc_2_1, xtc_3_0, xtc_4_0, xtc_4_1, xtc_4_2, xtc_4_3, xtc_4_4, xtc_4_5, xtc_4_6, xtc_4_7, xtc_4_8, xtc_4_9, xtc_4_10, xtc_4_11, xtc_4_12, xtc_5_0, xtc_5_1, xtc_5_2, xtc_5_3, xtc_5_4, xtc_5_5, xtc_5_6, xtc_6_0, xtc_6_1, xtc_6_2, xtc_7_0, xtc_7_1, xtc_8_0, xtc_8_1, xtc_8_2, xtc_8_3, xtc_9_0, xtc_9_1, xtc_9_2, xtc_9_3, xtc_9_4, xtc_9_5, xtc_9_6, xtc_9_7, xtc_9_8, xtc_9_9, xtc_10_0, xtc_10_1, xtc_10_2, xtc_10_3, xtc_10_4, xtc_10_5, xtc_10_6, xtc_10_7, xtc_10_8, xtc_10_9, xtc_10_10, xtc_10_11, xtc_10_12, xtc_10_13, xtc_10_14, xtc_10_15, xtc_10_16, xtc_10_17, xtc_10_18, xtc_10_19, xtc_10_20, xtc_10_21, xtc_10_22, xtc_10_23, xtc_10_24, xtc_10_25, eq_self, reduceIte, Nat.reduceEqDiff, Nat.reduceAdd, Nat.reduceSub, Nat.zero_ne_one, Nat.one_ne_zero, Nat.succ_ne_zero, Nat.reduceLeDiff, reduceCtorEq, and_true, true_and, and_false, false_and, true_implies, false_implies, implies_true, not_true_eq_false, not_false_eq_true, xN_0, xN_s, xlook_c, xlook_n, xb_nil, xb_cons, xlen, xl_cons, xst_def, xst2_def, xdl_nil, xdl_int, xdl_ref, xdl_long, xrv_some, xfit_int, xfit_long, xfit_ref, cat_int, cat_ref, cat_long, xret_int, xret_bool, or_true, true_or, Option.some.injEq, Value.int.injEq, Value.ref.injEq, Value.long.injEq, List.getElem?_cons_zero, List.getElem?_cons_succ, List.set_cons_zero, List.set_cons_succ, List.length_cons, List.length_nil, xup_xup, Classical.not_not, Nat.reduceLT, Nat.zero_lt_succ, xup_self, xup_ne, ne_eq, ra_len, ro_len, ra_get, ro_get, ra_set, ro_set, I_add, I_sub, I_lt, I_le, I_eq, I_in, I_b0, I_b01, b_eq0, b_eq1, Int.toNat_natCast]
      refine ⟨fun h => absurd h (by omega), fun _ => ⟨fun h => ?_, fun h => ?_⟩⟩
      · rw [← hQ]
        exact ⟨rfl, rfl, f, hc (by simpa using h) 9, hf, rfl⟩
      · refine xX.loc _ (by simp [ch]) (inner r f hf (by omega) ?_ S.na 0 (by omega))
        exact ih (r + 1) (by omega) _ _ (rl_bd hw hf S.na (Nat.le_refl _)) (LB_round hLB) (fun hcf => by
          obtain ⟨e1, e2⟩ := ch_false hcf
          rw [e1]
          exact LB_still (LB_le hLB (by omega)) e2)
  have first : ∀ j i : Nat, i + j = 10 → ∀ f : Nat → Int, (∀ v, v < i → f v = if (v : Int) = go then 0 else 1000) → xX l tX8_measure d 0 0 Q 0 0 2 [(0, .ref 10), (1, .ref 1), (2, .int (I go)), (3, .int (I i))] [] n (xup ws 13 (0, .inl (ra 10 f))) := by
    intro j
    induction j with
    | zero =>
      intro i hi f hf
      have hi2 : i = 10 := by omega
      subst hi2
      refine xL_ok (t := tX8_measure) rfl (ops := oX8_measure_2) (by decide +kernel) (T := [(0, oX8_measure_0), (22, oX8_measure_22), (25, oX8_measure_25), (32, oX8_measure_32), (53, oX8_measure_53), (117, oX8_measure_117), (123, oX8_measure_123), (129, oX8_measure_129)]) (by decide +kernel) 1 ?_
      simp (disch := omega) only [oX8_measure_0, oX8_measure_22, oX8_measure_25, oX8_measure_32, oX8_measure_53, oX8_measure_117, oX8_measure_123, oX8_measure_129, oX8_measure_2, rX8_measure, x_iconst, x_bipush, x_sipush, x_lconst, x_iload, x_lload, x_aload, x_istore, x_lstore, x_astore, x_iinc, x_iadd, x_isub, x_imul, x_iand, x_ior, x_ixor, x_ishl, x_ishr, x_ineg, x_ladd, x_lsub, x_lmul, x_ldiv, x_lrem, x_lcmp, x_i2l, x_l2i, x_dup, x_dup_x1, x_dup2, x_if_eq, x_if_ne, x_if_lt, x_if_ge, x_if_gt, x_if_le, x_ic_eq, x_ic_ne, x_ic_lt, x_ic_ge, x_ic_gt, x_ic_le, x_goto, x_ireturn, x_lreturn, x_return, x_getfield, x_putfield, x_iaload, x_baload, x_laload, x_aaload, x_iastore, x_bastore, x_lastore, x_aastore, x_arraylength, x_newarray, x_anewarray, x_new, x_iload_0, x_iload_1, x_iload_2, x_iload_3, x_lload_0, x_lload_1, x_lload_2, x_lload_3, x_aload_0, x_aload_1, x_aload_2, x_aload_3, x_istore_0, x_istore_1, x_istore_2, x_istore_3, x_lstore_0, x_lstore_1, x_lstore_2, x_lstore_3, x_astore_0, x_astore_1, x_astore_2, x_astore_3, q_bipush_m3, q_bipush_m2, q_bipush_6, q_bipush_7, q_bipush_9, q_bipush_10, q_bipush_24, q_bipush_30, q_bipush_48, q_bipush_100, q_sipush_300, q_sipush_1000, q_sipush_24001, q_l0, q_l1, xtc_0_0, xtc_0_1, xtc_0_2, xtc_0_3, xtc_0_4, xtc_0_5, xtc_1_0, xtc_1_1, xtc_1_2, xtc_2_0, xtc_2_1, xtc_3_0, xtc_4_0, xtc_4_1, xtc_4_2, xtc_4_3, xtc_4_4, xtc_4_5, xtc_4_6, xtc_4_7, xtc_4_8, xtc_4_9, xtc_4_10, xtc_4_11, xtc_4_12, xtc_5_0, xtc_5_1, xtc_5_2, xtc_5_3, xtc_5_4, xtc_5_5, xtc_5_6, xtc_6_0, xtc_6_1, xtc_6_2, xtc_7_0, xtc_7_1, xtc_8_0, xtc_8_1, xtc_8_2, xtc_8_3, xtc_9_0, xtc_9_1, xtc_9_2, xtc_9_3, xtc_9_4, xtc_9_5, xtc_9_6, xtc_9_7, xtc_9_8, xtc_9_9, xtc_10_0, xtc_10_1, xtc_10_2, xtc_10_3, xtc_10_4, xtc_10_5, xtc_10_6, xtc_10_7, xtc_10_8, xtc_10_9, xtc_10_10, xtc_10_11, xtc_10_12, xtc_10_13, xtc_10_14, xtc_10_15, xtc_10_16, xtc_10_17, xtc_10_18, xtc_10_19, xtc_10_20, xtc_10_21, xtc_10_22, xtc_10_23, xtc_10_24, xtc_10_25, eq_self, reduceIte, Nat.reduceEqDiff, Nat.reduceAdd, Nat.reduceSub, Nat.zero_ne_one, Nat.one_ne_zero, Nat.succ_ne_zero, Nat.reduceLeDiff, reduceCtorEq, and_true, true_and, and_false, false_and, true_implies, false_implies, implies_true, not_true_eq_false, not_false_eq_true, xN_0, xN_s, xlook_c, xlook_n, xb_nil, xb_cons, xlen, xl_cons, xst_def, xst2_def, xdl_nil, xdl_int, xdl_ref, xdl_long, xrv_some, xfit_int, xfit_long, xfit_ref, cat_int, cat_ref, cat_long, xret_int, xret_bool, or_true, true_or, Option.some.injEq, Value.int.injEq, Value.ref.injEq, Value.long.injEq, List.getElem?_cons_zero, List.getElem?_cons_succ, List.set_cons_zero, List.set_cons_succ, List.length_cons, List.length_nil, xup_xup, Classical.not_not, Nat.reduceLT, Nat.zero_lt_succ, xup_self, xup_ne, ne_eq, ra_len, ro_len, ra_get, ro_get, ra_set, ro_set, I_add, I_sub, I_lt, I_le, I_eq, I_in, I_b0, I_b01, b_eq0, b_eq1, Int.toNat_natCast]
      refine ⟨fun _ => ?_, fun h => absurd h (by omega)⟩
      refine xX.loc _ (by simp) (outer 10 0 (by omega) f true ?_ ?_ (fun h => by cases h))
      · intro v hv; rw [hf v hv]; split <;> omega
      · intro v p hp hl
        have hp0 : p = [] := List.eq_nil_of_length_eq_zero (by omega)
        subst hp0
        have hv : v = go := hp
        rw [hv, hf go.toNat (by omega), if_pos (by omega)]
        simp [pcost]
    | succ j ih =>
      intro i hi f hf
      have key : ∀ x : Int, (x = if (i : Int) = go then 0 else 1000) → ∀ v, v < i + 1 → fu f i x v = if (v : Int) = go then 0 else 1000 := by
        intro x hx v hv
        by_cases e : v = i
        · subst e; rw [fu_s, hx]
        · rw [fu_n _ _ e]; exact hf v (by omega)
      refine xL_ok (t := tX8_measure) rfl (ops := oX8_measure_2) (by decide +kernel) (T := [(0, oX8_measure_0), (22, oX8_measure_22), (25, oX8_measure_25), (37, oX8_measure_37), (53, oX8_measure_53), (117, oX8_measure_117), (123, oX8_measure_123), (129, oX8_measure_129)]) (by decide +kernel) 2 ?_
      simp (disch := omega) only [oX8_measure_0, oX8_measure_22, oX8_measure_25, oX8_measure_37, oX8_measure_53, oX8_measure_117, oX8_measure_123, oX8_measure_129, oX8_measure_2, rX8_measure, x_iconst, x_bipush, x_sipush, x_lconst, x_iload, x_lload, x_aload, x_istore, x_lstore, x_astore, x_iinc, x_iadd, x_isub, x_imul, x_iand, x_ior, x_ixor, x_ishl, x_ishr, x_ineg, x_ladd, x_lsub, x_lmul, x_ldiv, x_lrem, x_lcmp, x_i2l, x_l2i, x_dup, x_dup_x1, x_dup2, x_if_eq, x_if_ne, x_if_lt, x_if_ge, x_if_gt, x_if_le, x_ic_eq, x_ic_ne, x_ic_lt, x_ic_ge, x_ic_gt, x_ic_le, x_goto, x_ireturn, x_lreturn, x_return, x_getfield, x_putfield, x_iaload, x_baload, x_laload, x_aaload, x_iastore, x_bastore, x_lastore, x_aastore, x_arraylength, x_newarray, x_anewarray, x_new, x_iload_0, x_iload_1, x_iload_2, x_iload_3, x_lload_0, x_lload_1, x_lload_2, x_lload_3, x_aload_0, x_aload_1, x_aload_2, x_aload_3, x_istore_0, x_istore_1, x_istore_2, x_istore_3, x_lstore_0, x_lstore_1, x_lstore_2, x_lstore_3, x_astore_0, x_astore_1, x_astore_2, x_astore_3, q_bipush_m3, q_bipush_m2, q_bipush_6, q_bipush_7, q_bipush_9, q_bipush_10, q_bipush_24, q_bipush_30, q_bipush_48, q_bipush_100, q_sipush_300, q_sipush_1000, q_sipush_24001, q_l0, q_l1, xtc_0_0, xtc_0_1, xtc_0_2, xtc_0_3, xtc_0_4, xtc_0_5, xtc_1_0, xtc_1_1, xtc_1_2, xtc_2_0, xtc_2_1, xtc_3_0, xtc_4_0, xtc_4_1, xtc_4_2, xtc_4_3, xtc_4_4, xtc_4_5, xtc_4_6, xtc_4_7, xtc_4_8, xtc_4_9, xtc_4_10, xtc_4_11, xtc_4_12, xtc_5_0, xtc_5_1, xtc_5_2, xtc_5_3, xtc_5_4, xtc_5_5, xtc_5_6, xtc_6_0, xtc_6_1, xtc_6_2, xtc_7_0, xtc_7_1, xtc_8_0, xtc_8_1, xtc_8_2, xtc_8_3, xtc_9_0, xtc_9_1, xtc_9_2, xtc_9_3, xtc_9_4, xtc_9_5, xtc_9_6, xtc_9_7, xtc_9_8, xtc_9_9, xtc_10_0, xtc_10_1, xtc_10_2, xtc_10_3, xtc_10_4, xtc_10_5, xtc_10_6, xtc_10_7, xtc_10_8, xtc_10_9, xtc_10_10, xtc_10_11, xtc_10_12, xtc_10_13, xtc_10_14, xtc_10_15, xtc_10_16, xtc_10_17, xtc_10_18, xtc_10_19, xtc_10_20, xtc_10_21, xtc_10_22, xtc_10_23, xtc_10_24, xtc_10_25, eq_self, reduceIte, Nat.reduceEqDiff, Nat.reduceAdd, Nat.reduceSub, Nat.zero_ne_one, Nat.one_ne_zero, Nat.succ_ne_zero, Nat.reduceLeDiff, reduceCtorEq, and_true, true_and, and_false, false_and, true_implies, false_implies, implies_true, not_true_eq_false, not_false_eq_true, xN_0, xN_s, xlook_c, xlook_n, xb_nil, xb_cons, xlen, xl_cons, xst_def, xst2_def, xdl_nil, xdl_int, xdl_ref, xdl_long, xrv_some, xfit_int, xfit_long, xfit_ref, cat_int, cat_ref, cat_long, xret_int, xret_bool, or_true, true_or, Option.some.injEq, Value.int.injEq, Value.ref.injEq, Value.long.injEq, List.getElem?_cons_zero, List.getElem?_cons_succ, List.set_cons_zero, List.set_cons_succ, List.length_cons, List.length_nil, xup_xup, Classical.not_not, Nat.reduceLT, Nat.zero_lt_succ, xup_self, xup_ne, ne_eq, ra_len, ro_len, ra_get, ro_get, ra_set, ro_set, I_add, I_sub, I_lt, I_le, I_eq, I_in, I_b0, I_b01, b_eq0, b_eq1, Int.toNat_natCast, t1]
      refine ⟨fun h => absurd h (by omega), fun _ => ⟨fun h => ⟨by omega, ?_⟩, fun h => ⟨by omega, ?_⟩⟩⟩
      · exact xX.loc _ (by simp) (ih (i + 1) (by omega) _ (key 1000 (by rw [if_neg h])))
      · exact xX.loc _ (by simp) (ih (i + 1) (by omega) _ (key 0 (by rw [if_pos h])))
  refine xM.of (by decide) (Nat.le_of_ble_eq_true rfl) ?_
  simp only [lv_args, cat_int, cat_ref, cat_long, reduceIte, Nat.reduceEqDiff, Nat.reduceAdd, Nat.one_ne_zero, Nat.reduceLeDiff]
  refine xN_ok (t := tX8_measure) rfl (T := AX8_measure) aX8_measure 1 _ _ _ _ _ _ _ ?_
  simp (disch := omega) only [AX8_measure, oX8_measure_0, oX8_measure_2, oX8_measure_22, oX8_measure_25, oX8_measure_32, oX8_measure_37, oX8_measure_53, oX8_measure_117, oX8_measure_123, oX8_measure_129, rX8_measure, x_iconst, x_bipush, x_sipush, x_lconst, x_iload, x_lload, x_aload, x_istore, x_lstore, x_astore, x_iinc, x_iadd, x_isub, x_imul, x_iand, x_ior, x_ixor, x_ishl, x_ishr, x_ineg, x_ladd, x_lsub, x_lmul, x_ldiv, x_lrem, x_lcmp, x_i2l, x_l2i, x_dup, x_dup_x1, x_dup2, x_if_eq, x_if_ne, x_if_lt, x_if_ge, x_if_gt, x_if_le, x_ic_eq, x_ic_ne, x_ic_lt, x_ic_ge, x_ic_gt, x_ic_le, x_goto, x_ireturn, x_lreturn, x_return, x_getfield, x_putfield, x_iaload, x_baload, x_laload, x_aaload, x_iastore, x_bastore, x_lastore, x_aastore, x_arraylength, x_newarray, x_anewarray, x_new, x_iload_0, x_iload_1, x_iload_2, x_iload_3, x_lload_0, x_lload_1, x_lload_2, x_lload_3, x_aload_0, x_aload_1, x_aload_2, x_aload_3, x_istore_0, x_istore_1, x_istore_2, x_istore_3, x_lstore_0, x_lstore_1, x_lstore_2, x_lstore_3, x_astore_0, x_astore_1, x_astore_2, x_astore_3, q_bipush_m3, q_bipush_m2, q_bipush_6, q_bipush_7, q_bipush_9, q_bipush_10, q_bipush_24, q_bipush_30, q_bipush_48, q_bipush_100, q_sipush_300, q_sipush_1000, q_sipush_24001, q_l0, q_l1, xtc_0_0, xtc_0_1, xtc_0_2, xtc_0_3, xtc_0_4, xtc_0_5, xtc_1_0, xtc_1_1, xtc_1_2, xtc_2_0, xtc_2_1, xtc_3_0, xtc_4_0, xtc_4_1, xtc_4_2, xtc_4_3, xtc_4_4, xtc_4_5, xtc_4_6, xtc_4_7, xtc_4_8, xtc_4_9, xtc_4_10, xtc_4_11, xtc_4_12, xtc_5_0, xtc_5_1, xtc_5_2, xtc_5_3, xtc_5_4, xtc_5_5, xtc_5_6, xtc_6_0, xtc_6_1, xtc_6_2, xtc_7_0, xtc_7_1, xtc_8_0, xtc_8_1, xtc_8_2, xtc_8_3, xtc_9_0, xtc_9_1, xtc_9_2, xtc_9_3, xtc_9_4, xtc_9_5, xtc_9_6, xtc_9_7, xtc_9_8, xtc_9_9, xtc_10_0, xtc_10_1, xtc_10_2, xtc_10_3, xtc_10_4, xtc_10_5, xtc_10_6, xtc_10_7, xtc_10_8, xtc_10_9, xtc_10_10, xtc_10_11, xtc_10_12, xtc_10_13, xtc_10_14, xtc_10_15, xtc_10_16, xtc_10_17, xtc_10_18, xtc_10_19, xtc_10_20, xtc_10_21, xtc_10_22, xtc_10_23, xtc_10_24, xtc_10_25, eq_self, reduceIte, Nat.reduceEqDiff, Nat.reduceAdd, Nat.reduceSub, Nat.zero_ne_one, Nat.one_ne_zero, Nat.succ_ne_zero, Nat.reduceLeDiff, reduceCtorEq, and_true, true_and, and_false, false_and, true_implies, false_implies, implies_true, not_true_eq_false, not_false_eq_true, xN_0, xN_s, xlook_c, xlook_n, xb_nil, xb_cons, xlen, xl_cons, xst_def, xst2_def, xdl_nil, xdl_int, xdl_ref, xdl_long, xrv_some, xfit_int, xfit_long, xfit_ref, cat_int, cat_ref, cat_long, xret_int, xret_bool, or_true, true_or, Option.some.injEq, Value.int.injEq, Value.ref.injEq, Value.long.injEq, List.getElem?_cons_zero, List.getElem?_cons_succ, List.set_cons_zero, List.set_cons_succ, List.length_cons, List.length_nil, xup_xup, Classical.not_not, Nat.reduceLT, Nat.zero_lt_succ, xup_self, xup_ne, ne_eq, ra_len, ro_len, ra_get, ro_get, ra_set, ro_set, I_add, I_sub, I_lt, I_le, I_eq, I_in, I_b0, I_b01, b_eq0, b_eq1, Int.toNat_natCast]
  have := first 10 0 (by omega) fl (fun v hv => absurd hv (by omega))
  rw [xup_id t4] at this
  exact xX.loc _ (by simp) this
end MEAS
