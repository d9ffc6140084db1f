section GOON
variable {l : Launch} {S : St} {bw bs : Int}
theorem sm_one {f f' : Nat → Int} {x : Nat} (h : ∀ y, y ≠ x → f' y = f y) (hx : f' x = f x - 1) : ∀ k, sm f' k = sm f k - (if x < k then 1 else 0)
  | 0 => by simp [sm]
  | k + 1 => by
    have ih := sm_one h hx k
    show sm f' k + f' k = sm f k + f k - _
    by_cases e : k = x
    · subst e
      rw [ih, hx, if_neg (by omega), if_pos (by omega)]
      omega
    · rw [ih, h k e]
      by_cases e2 : x < k
      · rw [if_pos e2, if_pos (by omega)]; omega
      · rw [if_neg e2, if_neg (by omega)]; omega
theorem sm_ge {f : Nat → Int} (h : ∀ y, 0 ≤ f y) {x : Nat} : ∀ {k : Nat}, x < k → f x ≤ sm f k
  | 0, hk => absurd hk (by omega)
  | k + 1, hk => by
    have h0 : 0 ≤ sm f k := by
      clear hk
      induction k with
      | zero => exact Int.le_refl _
      | succ k ih => have := h k; show 0 ≤ sm f k + f k; omega
    show f x ≤ sm f k + f k
    by_cases e : x = k
    · subst e; omega
    · have := sm_ge h (x := x) (k := k) (by omega)
      have := h k
      omega
/-- how many of the ten are not in the set -/
def uns (s : Nat) : Int := sm (fun y => if s.testBit y = true then 0 else 1) 10
theorem uns_pos {s x : Nat} (hx : x < 10) (h : s.testBit x = false) : 1 ≤ uns s := by
  have h1 : ∀ y, 0 ≤ (fun y => if s.testBit y = true then (0 : Int) else 1) y := by
    intro y
    show 0 ≤ (if s.testBit y = true then (0 : Int) else 1)
    split <;> omega
  have := sm_ge h1 hx
  simp only [h] at this
  exact this
theorem uns_or {s x : Nat} (hx : x < 10) (h : s.testBit x = false) : uns (s ||| 2 ^ x) = uns s - 1 := by
  have h1 : ∀ y, y ≠ x → (fun y => if (s ||| 2 ^ x).testBit y = true then (0 : Int) else 1) y = (fun y => if s.testBit y = true then (0 : Int) else 1) y := by
    intro y hy
    have : (s ||| 2 ^ x).testBit y = s.testBit y := by rw [Nat.testBit_or, Nat.testBit_two_pow_of_ne (Ne.symm hy), Bool.or_false]
    simp only [this]
  have h2 : (fun y => if (s ||| 2 ^ x).testBit y = true then (0 : Int) else 1) x = (fun y => if s.testBit y = true then (0 : Int) else 1) x - 1 := by
    have : (s ||| 2 ^ x).testBit x = true := by rw [Nat.testBit_or, Nat.testBit_two_pow_self, Bool.or_true]
    simp [this, h]
  have := sm_one h1 h2 10
  unfold uns
  rw [this, if_pos hx]
def okL (L : List Wy) : Prop := ∀ x ∈ L, ∀ (i a : Nat), x.2[i]? = some a → a < 24
theorem isW_lt (hw : WF S) {go : Int} : ∀ (p : List Nat) (v : Int), isW S go v p → ∀ (i a : Nat), p[i]? = some a → a < 24
  | [], _, _, i, a, h => by simp at h
  | b :: p, v, hp, i, a, h => by
    have hb := hw.2.1
    cases i with
    | zero => simp at h; subst h; have := hp.1; omega
    | succ i => exact isW_lt hw p _ hp.2.2 i a (by simpa using h)
theorem wys_ok (hw : WF S) {go v : Int} {k seen : Nat} {cost : Int} {pre : List Nat} (hpre : ∀ (i a : Nat), pre[i]? = some a → a < 24) : okL (wys S go k v seen cost pre) := by
  intro x hx i a ha
  obtain ⟨p, hp, rfl⟩ := List.mem_map.mp hx
  have h1 := (pth_isW k v seen p hp).1
  simp only at ha
  by_cases hi : i < pre.length
  · rw [List.getElem?_append_left hi] at ha; exact hpre i a ha
  · rw [List.getElem?_append_right (by omega)] at ha; exact isW_lt hw p v h1 _ a ha
theorem fold_ok {xs L : List Wy} (h1 : okL L) (h2 : okL xs) : okL (xs.foldl ins5 L) := fun x hx => (fold_mem xs hx).elim (h1 x) (h2 x)
theorem pre_ok {pre : List Nat} (h : ∀ (i a : Nat), pre[i]? = some a → a < 24) {b : Nat} (hb : b < 24) : ∀ (i a : Nat), (pre ++ [b])[i]? = some a → a < 24 := by
  intro i a ha
  by_cases hi : i < pre.length
  · rw [List.getElem?_append_left hi] at ha; exact h i a ha
  · rw [List.getElem?_append_right (by omega)] at ha
    have h1 := (List.getElem?_eq_some_iff.mp ha).1
    simp at h1
    rw [show i - pre.length = 0 by omega] at ha
    simp at ha
    omega
theorem wyi_ok (hw : WF S) {go v : Int} {k seen : Nat} {cost : Int} {pre : List Nat} (hpre : ∀ (i a : Nat), pre[i]? = some a → a < 24) {i : Nat} (hi : i ≤ S.na) : okL (wyi S go k v seen cost pre i) := by
  intro x hx
  have hb := hw.2.1
  obtain ⟨i0, hi0, hy⟩ := List.mem_flatMap.mp hx
  have := List.mem_range.mp hi0
  split at hy
  · exact wys_ok hw (pre_ok hpre (by omega)) x hy
  · simp at hy
theorem wys_wyi {go v : Int} (hv : v ≠ go) {k seen : Nat} (hu : uns seen ≤ k) {cost : Int} {pre : List Nat} (hw : WF S) : wys S go k v seen cost pre = wyi S go (k - 1) v seen cost pre S.na := by
  cases k with
  | succ k => exact wys_s hv
  | zero =>
    rw [wys_0 hv]
    have : ∀ i, i ≤ S.na → wyi S go 0 v seen cost pre i = [] := by
      intro i
      induction i with
      | zero => intro _; rfl
      | succ i ih =>
        intro hi
        obtain ⟨q1, q2, q3, q4, -⟩ := hw.2.2.2.1 i (by omega)
        have hn := hw.1
        rw [wyi_s, ih (by omega), if_neg, List.append_nil]
        intro h
        have := uns_pos (x := (S.2 1 i).toNat) (by omega) h.2
        omega
    exact (this S.na (Nat.le_refl _)).symm
def GQ (ws : xW) (g steps : Nat) (F : Nat → Nat → Int) (L' : List Wy) (ws' : xW) : Prop := ∃ F', MWx ws' F' ∧ MWd g L' F' ∧ (∀ j, j < steps → F' 4 j = F 4 j) ∧ MO g F F' ∧ ∀ q, q < 131 ∨ 135 < q → ws' q = ws q
theorem v_goOn (hw : WF S) {g : Nat} (hg : g < S.ng) : ∀ (k d n : Nat) (ws : xW) (F : Nat → Nat → Int) (L : List Wy) (v cost : Int) (seen steps : Nat) (pre : List Nat), steps + k = 9 → k + 2 ≤ d → uns seen ≤ k → ModAt ws S bw bs → MWx ws F → MWd g L F → srt L → okL L → 0 ≤ v → v < S.nn → seen < 1024 → pre.length = steps → (∀ (i a : Nat), pre[i]? = some a → F 4 i = a) → (∀ (i a : Nat), pre[i]? = some a → a < 24) → (∀ x ∈ L, lexb x.2 pre) → 0 ≤ cost → cost ≤ 100 * steps → xM l tX10_goOn d 0 0 [.ref 121, .int (I g), .int (I v), .int (I seen), .int (I steps), .int (I cost)] n ws (fun r n' ws' => r = none ∧ n' = n ∧ GQ ws g steps F ((wys S (S.2 5 g) k v seen cost pre).foldl ins5 L) ws') := by
  have hb : S.ng ≤ 6 := hw.2.2.1
  have hba : S.na ≤ 24 := hw.2.1
  have hn := hw.1
  obtain ⟨p1, p2, p3, p4, p5, p6, p7, -, -⟩ := hw.2.2.2.2 g hg
  intro k
  induction k using Nat.strongRecOn with
  | _ k IH =>
  intro d n ws F L v cost seen steps pre hk hd hu hM hX hD hsr hok h1 h2 hs hl hpre hpa hlex h0 h9
  have hM0 := hM
  obtain ⟨m1, m2, m3, m4, m5, m6, m7, m8, m9⟩ := hM
  by_cases e : v = S.2 5 g
  · subst e
    refine xM.of (by decide) (Nat.le_of_ble_eq_true rfl) ?_
    simp only [lv_args, cat_int, cat_ref, cat_long, reduceIte, Nat.reduceEqDiff, Nat.reduceAdd, Nat.one_ne_zero, Nat.reduceLeDiff]
    refine xN_ok (t := tX10_goOn) rfl (T := [(0, oX10_goOn_0)]) (by decide +kernel) 1 _ _ _ _ _ _ _ ?_
    simp (disch := omega) only [oX10_goOn_0, rX10_goOn, x_iconst, x_bipush, x_sipush, x_lconst, x_iload, x_lload, x_aload, x_istore, x_lstore, x_astore, x_iinc, x_iadd, x_isub, x_imul, x_iand, x_ior, x_ixor, x_ishl, x_ishr, x_ineg, x_ladd, x_lsub, x_lmul, x_ldiv, x_lrem, x_lcmp, x_i2l, x_l2i, x_dup, x_dup_x1, x_dup2, x_if_eq, x_if_ne, x_if_lt, x_if_ge, x_if_gt, x_if_le, x_ic_eq, x_ic_ne, x_ic_lt, x_ic_ge, x_ic_gt, x_ic_le, x_goto, x_ireturn, x_lreturn, x_return, x_getfield, x_putfield, x_iaload, x_baload, x_laload, x_aaload, x_iastore, x_bastore, x_lastore, x_aastore, x_arraylength, x_newarray, x_anewarray, x_new, x_iload_0, x_iload_1, x_iload_2, x_iload_3, x_lload_0, x_lload_1, x_lload_2, x_lload_3, x_aload_0, x_aload_1, x_aload_2, x_aload_3, x_istore_0, x_istore_1, x_istore_2, x_istore_3, x_lstore_0, x_lstore_1, x_lstore_2, x_lstore_3, x_astore_0, x_astore_1, x_astore_2, x_astore_3, q_bipush_m3, q_bipush_m2, q_bipush_6, q_bipush_7, q_bipush_9, q_bipush_10, q_bipush_24, q_bipush_30, q_bipush_48, q_bipush_100, q_sipush_300, q_sipush_1000, q_sipush_24001, q_l0, q_l1, xtc_0_0, xtc_0_1, xtc_0_2, xtc_0_3, xtc_0_4, xtc_0_5, xtc_1_0, xtc_1_1, xtc_1_2, xtc_2_0, xtc_2_1, xtc_3_0, xtc_4_0, xtc_4_1, xtc_4_2, xtc_4_3, xtc_4_4, xtc_4_5, xtc_4_6, xtc_4_7, xtc_4_8, xtc_4_9, xtc_4_10, xtc_4_11, xtc_4_12, xtc_5_0, xtc_5_1, xtc_5_2, xtc_5_3, xtc_5_4, xtc_5_5, xtc_5_6, xtc_6_0, xtc_6_1, xtc_6_2, xtc_7_0, xtc_7_1, xtc_8_0, xtc_8_1, xtc_8_2, xtc_8_3, xtc_9_0, xtc_9_1, xtc_9_2, xtc_9_3, xtc_9_4, xtc_9_5, xtc_9_6, xtc_9_7, xtc_9_8, xtc_9_9, xtc_10_0, xtc_10_1, xtc_10_2, xtc_10_3, xtc_10_4, xtc_10_5, xtc_10_6, xtc_10_7, xtc_10_8, xtc_10_9, xtc_10_10, xtc_10_11, xtc_10_12, xtc_10_13, xtc_10_14, xtc_10_15, xtc_10_16, xtc_10_17, xtc_10_18, xtc_10_19, xtc_10_20, xtc_10_21, xtc_10_22, xtc_10_23, xtc_10_24, xtc_10_25, eq_self, reduceIte, Nat.reduceEqDiff, Nat.reduceAdd, Nat.reduceSub, Nat.zero_ne_one, Nat.one_ne_zero, Nat.succ_ne_zero, Nat.reduceLeDiff, reduceCtorEq, and_true, true_and, and_false, false_and, true_implies, false_implies, implies_true, not_true_eq_false, not_false_eq_true, xN_0, xN_s, xlook_c, xlook_n, xb_nil, xb_cons, xlen, xl_cons, xst_def, xst2_def, xdl_nil, xdl_int, xdl_ref, xdl_long, xrv_some, xfit_int, xfit_long, xfit_ref, cat_int, cat_ref, cat_long, xret_int, xret_bool, or_true, true_or, Option.some.injEq, Value.int.injEq, Value.ref.injEq, Value.long.injEq, List.getElem?_cons_zero, List.getElem?_cons_succ, List.set_cons_zero, List.set_cons_succ, List.length_cons, List.length_nil, xup_xup, Classical.not_not, Nat.reduceLT, Nat.zero_lt_succ, xup_self, xup_ne, ne_eq, ra_len, ro_len, ra_get, ro_get, ra_set, ro_set, I_add, I_sub, I_lt, I_le, I_eq, I_in, I_b0, I_b01, b_eq0, b_eq1, Int.toNat_natCast, m1, m7]
    refine ⟨by omega, ?_⟩
    rw [← hl]
    refine cX10_goOn_16 m1 (dc := 1) (cc := 0) (cs := 0) (by omega) (by omega) (by omega) (Nat.le_of_ble_eq_true rfl) (v_keep (by omega) hM0 hX hD (by omega) hsr hpre (by omega) hpa hok h0 (by omega) hlex) ?_
    rintro r n1 ws1 ⟨rfl, rfl, F', a1, a2, a3, a4, a5⟩
    simp only [Option.toList_some, Option.toList_none, List.cons_append, List.nil_append, Nat.sub_zero, Nat.reduceSub, Nat.sub_self]
    refine xN_ok (t := tX10_goOn) rfl (T := [(19, oX10_goOn_19)]) (by decide +kernel) 1 _ _ _ _ _ _ _ ?_
    simp (disch := omega) only [oX10_goOn_19, rX10_goOn, x_iconst, x_bipush, x_sipush, x_lconst, x_iload, x_lload, x_aload, x_istore, x_lstore, x_astore, x_iinc, x_iadd, x_isub, x_imul, x_iand, x_ior, x_ixor, x_ishl, x_ishr, x_ineg, x_ladd, x_lsub, x_lmul, x_ldiv, x_lrem, x_lcmp, x_i2l, x_l2i, x_dup, x_dup_x1, x_dup2, x_if_eq, x_if_ne, x_if_lt, x_if_ge, x_if_gt, x_if_le, x_ic_eq, x_ic_ne, x_ic_lt, x_ic_ge, x_ic_gt, x_ic_le, x_goto, x_ireturn, x_lreturn, x_return, x_getfield, x_putfield, x_iaload, x_baload, x_laload, x_aaload, x_iastore, x_bastore, x_lastore, x_aastore, x_arraylength, x_newarray, x_anewarray, x_new, x_iload_0, x_iload_1, x_iload_2, x_iload_3, x_lload_0, x_lload_1, x_lload_2, x_lload_3, x_aload_0, x_aload_1, x_aload_2, x_aload_3, x_istore_0, x_istore_1, x_istore_2, x_istore_3, x_lstore_0, x_lstore_1, x_lstore_2, x_lstore_3, x_astore_0, x_astore_1, x_astore_2, x_astore_3, q_bipush_m3, q_bipush_m2, q_bipush_6, q_bipush_7, q_bipush_9, q_bipush_10, q_bipush_24, q_bipush_30, q_bipush_48, q_bipush_100, q_sipush_300, q_sipush_1000, q_sipush_24001, q_l0, q_l1, xtc_0_0, xtc_0_1, xtc_0_2, xtc_0_3, xtc_0_4, xtc_0_5, xtc_1_0, xtc_1_1, xtc_1_2, xtc_2_0, xtc_2_1, xtc_3_0, xtc_4_0, xtc_4_1, xtc_4_2, xtc_4_3, xtc_4_4, xtc_4_5, xtc_4_6, xtc_4_7, xtc_4_8, xtc_4_9, xtc_4_10, xtc_4_11, xtc_4_12, xtc_5_0, xtc_5_1, xtc_5_2, xtc_5_3, xtc_5_4, xtc_5_5, xtc_5_6, xtc_6_0, xtc_6_1, xtc_6_2, xtc_7_0, xtc_7_1, xtc_8_0, xtc_8_1, xtc_8_2, xtc_8_3, xtc_9_0, xtc_9_1, xtc_9_2, xtc_9_3, xtc_9_4, xtc_9_5, xtc_9_6, xtc_9_7, xtc_9_8, xtc_9_9, xtc_10_0, xtc_10_1, xtc_10_2, xtc_10_3, xtc_10_4, xtc_10_5, xtc_10_6, xtc_10_7, xtc_10_8, xtc_10_9, xtc_10_10, xtc_10_11, xtc_10_12, xtc_10_13, xtc_10_14, xtc_10_15, xtc_10_16, xtc_10_17, xtc_10_18, xtc_10_19, xtc_10_20, xtc_10_21, xtc_10_22, xtc_10_23, xtc_10_24, xtc_10_25, eq_self, reduceIte, Nat.reduceEqDiff, Nat.reduceAdd, Nat.reduceSub, Nat.zero_ne_one, Nat.one_ne_zero, Nat.succ_ne_zero, Nat.reduceLeDiff, reduceCtorEq, and_true, true_and, and_false, false_and, true_implies, false_implies, implies_true, not_true_eq_false, not_false_eq_true, xN_0, xN_s, xlook_c, xlook_n, xb_nil, xb_cons, xlen, xl_cons, xst_def, xst2_def, xdl_nil, xdl_int, xdl_ref, xdl_long, xrv_some, xfit_int, xfit_long, xfit_ref, cat_int, cat_ref, cat_long, xret_int, xret_bool, or_true, true_or, Option.some.injEq, Value.int.injEq, Value.ref.injEq, Value.long.injEq, List.getElem?_cons_zero, List.getElem?_cons_succ, List.set_cons_zero, List.set_cons_succ, List.length_cons, List.length_nil, xup_xup, Classical.not_not, Nat.reduceLT, Nat.zero_lt_succ, xup_self, xup_ne, ne_eq, ra_len, ro_len, ra_get, ro_get, ra_set, ro_set, I_add, I_sub, I_lt, I_le, I_eq, I_in, I_b0, I_b01, b_eq0, b_eq1, Int.toNat_natCast]
    rw [wys_go]
    exact ⟨F', a1, a2, fun j _ => by rw [a3], a4, a5⟩
  · rw [wys_wyi e hu hw]
    generalize hQ : (fun (r : Option Value) (n' : Nat) (ws' : xW) => r = none ∧ n' = n ∧ GQ ws g steps F ((wyi S (S.2 5 g) (k - 1) v seen cost pre S.na).foldl ins5 L) ws') = Q
    have loop : ∀ j i : Nat, i + j = S.na → ∀ (ws1 : xW), GQ ws g steps F ((wyi S (S.2 5 g) (k - 1) v seen cost pre i).foldl ins5 L) ws1 → xX l tX10_goOn d 0 0 Q 0 0 23 [(0, .ref 121), (1, .int (I g)), (2, .int (I v)), (3, .int (I seen)), (4, .int (I steps)), (5, .int (I cost)), (6, .int (I i))] [] n ws1 := by
      intro j
      induction j with
      | zero =>
        intro i hi ws1 hq
        have hi2 : i = S.na := by omega
        obtain ⟨F1, b1, b2, b3, b4, b5⟩ := id hq
        obtain ⟨k1, -⟩ := hM0.keep (ws' := ws1) (fun q a b => b5 q (by omega))
        refine xL_ok (t := tX10_goOn) rfl (ops := oX10_goOn_23) (by decide +kernel) (T := [(168, oX10_goOn_168)]) (by decide +kernel) 1 ?_
        simp (disch := omega) only [oX10_goOn_168, oX10_goOn_23, rX10_goOn, x_iconst, x_bipush, x_sipush, x_lconst, x_iload, x_lload, x_aload, x_istore, x_lstore, x_astore, x_iinc, x_iadd, x_isub, x_imul, x_iand, x_ior, x_ixor, x_ishl, x_ishr, x_ineg, x_ladd, x_lsub, x_lmul, x_ldiv, x_lrem, x_lcmp, x_i2l, x_l2i, x_dup, x_dup_x1, x_dup2, x_if_eq, x_if_ne, x_if_lt, x_if_ge, x_if_gt, x_if_le, x_ic_eq, x_ic_ne, x_ic_lt, x_ic_ge, x_ic_gt, x_ic_le, x_goto, x_ireturn, x_lreturn, x_return, x_getfield, x_putfield, x_iaload, x_baload, x_laload, x_aaload, x_iastore, x_bastore, x_lastore, x_aastore, x_arraylength, x_newarray, x_anewarray, x_new, x_iload_0, x_iload_1, x_iload_2, x_iload_3, x_lload_0, x_lload_1, x_lload_2, x_lload_3, x_aload_0, x_aload_1, x_aload_2, x_aload_3, x_istore_0, x_istore_1, x_istore_2, x_istore_3, x_lstore_0, x_lstore_1, x_lstore_2, x_lstore_3, x_astore_0, x_astore_1, x_astore_2, x_astore_3, q_bipush_m3, q_bipush_m2, q_bipush_6, q_bipush_7, q_bipush_9, q_bipush_10, q_bipush_24, q_bipush_30, q_bipush_48, q_bipush_100, q_sipush_300, q_sipush_1000, q_sipush_24001, q_l0, q_l1, xtc_0_0, xtc_0_1, xtc_0_2, xtc_0_3, xtc_0_4, xtc_0_5, xtc_1_0, xtc_1_1, xtc_1_2, xtc_2_0, xtc_2_1, xtc_3_0, xtc_4_0, xtc_4_1, xtc_4_2, xtc_4_3, xtc_4_4, xtc_4_5, xtc_4_6, xtc_4_7, xtc_4_8, xtc_4_9, xtc_4_10, xtc_4_11, xtc_4_12, xtc_5_0, xtc_5_1, xtc_5_2, xtc_5_3, xtc_5_4, xtc_5_5, xtc_5_6, xtc_6_0, xtc_6_1, xtc_6_2, xtc_7_0, xtc_7_1, xtc_8_0, xtc_8_1, xtc_8_2, xtc_8_3, xtc_9_0, xtc_9_1, xtc_9_2, xtc_9_3, xtc_9_4, xtc_9_5, xtc_9_6, xtc_9_7, xtc_9_8, xtc_9_9, xtc_10_0, xtc_10_1, xtc_10_2, xtc_10_3, xtc_10_4, xtc_10_5, xtc_10_6, xtc_10_7, xtc_10_8, xtc_10_9, xtc_10_10, xtc_10_11, xtc_10_12, xtc_10_13, xtc_10_14, xtc_10_15, xtc_10_16, xtc_10_17, xtc_10_18, xtc_10_19, xtc_10_20, xtc_10_21, xtc_10_22, xtc_10_23, xtc_10_24, xtc_10_25, eq_self, reduceIte, Nat.reduceEqDiff, Nat.reduceAdd, Nat.reduceSub, Nat.zero_ne_one, Nat.one_ne_zero, Nat.succ_ne_zero, Nat.reduceLeDiff, reduceCtorEq, and_true, true_and, and_false, false_and, true_implies, false_implies, implies_true, not_true_eq_false, not_false_eq_true, xN_0, xN_s, xlook_c, xlook_n, xb_nil, xb_cons, xlen, xl_cons, xst_def, xst2_def, xdl_nil, xdl_int, xdl_ref, xdl_long, xrv_some, xfit_int, xfit_long, xfit_ref, cat_int, cat_ref, cat_long, xret_int, xret_bool, or_true, true_or, Option.some.injEq, Value.int.injEq, Value.ref.injEq, Value.long.injEq, List.getElem?_cons_zero, List.getElem?_cons_succ, List.set_cons_zero, List.set_cons_succ, List.length_cons, List.length_nil, xup_xup, Classical.not_not, Nat.reduceLT, Nat.zero_lt_succ, xup_self, xup_ne, ne_eq, ra_len, ro_len, ra_get, ro_get, ra_set, ro_set, I_add, I_sub, I_lt, I_le, I_eq, I_in, I_b0, I_b01, b_eq0, b_eq1, Int.toNat_natCast, k1]
        refine ⟨fun _ => ?_, fun h => absurd h (by omega)⟩
        rw [← hQ]
        rw [hi2] at hq
        exact ⟨rfl, rfl, hq⟩
      | succ j ihj =>
        intro i hi ws1 hq
        have hia : i < S.na := by omega
        obtain ⟨q1, q2, q3, q4, q5, q6, q7, q8, q9⟩ := hw.2.2.2.1 i hia
        have hv9 : (S.2 1 i).toNat < 10 := by omega
        obtain ⟨F1, b1, b2, b3, b4, b5⟩ := id hq
        have hM1 := hM0.keep (ws' := ws1) (fun q a b => b5 q (by omega))
        obtain ⟨k1, k2, k3, k4, k5, k6, k7, k8, k9⟩ := id hM1
        obtain ⟨x1, x2, x3, x4, x5⟩ := id b1
        generalize hLi : (wyi S (S.2 5 g) (k - 1) v seen cost pre i).foldl ins5 L = Li at hq b2
        have hsi : srt Li := by rw [← hLi]; exact fold_srt _ hsr
        have hoki : okL Li := by rw [← hLi]; exact fold_ok hok (wyi_ok hw hpa (by omega))
        obtain ⟨d1, d2, d3⟩ := id b2
        have e1 : (I seen >>> (I (S.2 1 i) &&& 31)) &&& I 1 = I (if seen.testBit (S.2 1 i).toNat = true then 1 else 0) := I_bitI hs q3 (by omega)
        have e2 : I seen ||| (I 1 <<< (I (S.2 1 i) &&& 31)) = I (seen ||| 2 ^ (S.2 1 i).toNat : Nat) := I_or2 q3 (by omega)
        have next : (wyi S (S.2 5 g) (k - 1) v seen cost pre (i + 1)).foldl ins5 L = Li → xX l tX10_goOn d 0 0 Q 0 0 23 [(0, .ref 121), (1, .int (I g)), (2, .int (I v)), (3, .int (I seen)), (4, .int (I steps)), (5, .int (I cost)), (6, .int (I (i + 1 : Nat)))] [] n ws1 := by
          intro he
          refine ihj (i + 1) (by omega) ws1 ?_
          rw [he]; exact hq
        have hno : ¬ (S.2 0 i = v ∧ seen.testBit (S.2 1 i).toNat = false) → (wyi S (S.2 5 g) (k - 1) v seen cost pre (i + 1)).foldl ins5 L = Li := by
          intro h
          rw [wyi_s, if_neg h, List.append_nil, hLi]
        have hstep : (S.2 0 i = v ∧ seen.testBit (S.2 1 i).toNat = false) → (wyi S (S.2 5 g) (k - 1) v seen cost pre (i + 1)).foldl ins5 L = (wys S (S.2 5 g) (k - 1) (S.2 1 i) (seen ||| 2 ^ (S.2 1 i).toNat) (cost + S.2 3 i) (pre ++ [i])).foldl ins5 Li := by
          intro h
          rw [wyi_s, if_pos h, List.foldl_append, hLi]
        have ix4 : (5 * (g : Int) + 5 - 1).toNat = 5 * g + 4 := by omega
        have a0 : ¬ (S.2 0 i = v ∧ seen.testBit (S.2 1 i).toNat = false) → xX l tX10_goOn d 0 0 Q 0 0 62 [(0, .ref 121), (1, .int (I g)), (2, .int (I v)), (3, .int (I seen)), (4, .int (I steps)), (5, .int (I cost)), (6, .int (I i))] [.int (I 0)] n ws1 := by
          intro h
          have nx := next (hno h)
          refine xN_ok (t := tX10_goOn) rfl (T := [(62, oX10_goOn_62), (103, oX10_goOn_103), (104, oX10_goOn_104), (162, oX10_goOn_162)]) (by decide +kernel) 4 _ _ _ _ _ _ _ ?_
          simp (disch := omega) only [oX10_goOn_62, oX10_goOn_103, oX10_goOn_104, oX10_goOn_162, rX10_goOn, x_iconst, x_bipush, x_sipush, x_lconst, x_iload, x_lload, x_aload, x_istore, x_lstore, x_astore, x_iinc, x_iadd, x_isub, x_imul, x_iand, x_ior, x_ixor, x_ishl, x_ishr, x_ineg, x_ladd, x_lsub, x_lmul, x_ldiv, x_lrem, x_lcmp, x_i2l, x_l2i, x_dup, x_dup_x1, x_dup2, x_if_eq, x_if_ne, x_if_lt, x_if_ge, x_if_gt, x_if_le, x_ic_eq, x_ic_ne, x_ic_lt, x_ic_ge, x_ic_gt, x_ic_le, x_goto, x_ireturn, x_lreturn, x_return, x_getfield, x_putfield, x_iaload, x_baload, x_laload, x_aaload, x_iastore, x_bastore, x_lastore, x_aastore, x_arraylength, x_newarray, x_anewarray, x_new, x_iload_0, x_iload_1, x_iload_2, x_iload_3, x_lload_0, x_lload_1, x_lload_2, x_lload_3, x_aload_0, x_aload_1, x_aload_2, x_aload_3, x_istore_0, x_istore_1, x_istore_2, x_istore_3, x_lstore_0, x_lstore_1, x_lstore_2, x_lstore_3, x_astore_0, x_astore_1, x_astore_2, x_astore_3, q_bipush_m3, q_bipush_m2, q_bipush_6, q_bipush_7, q_bipush_9, q_bipush_10, q_bipush_24, q_bipush_30, q_bipush_48, q_bipush_100, q_sipush_300, q_sipush_1000, q_sipush_24001, q_l0, q_l1, xtc_0_0, xtc_0_1, xtc_0_2, xtc_0_3, xtc_0_4, xtc_0_5, xtc_1_0, xtc_1_1, xtc_1_2, xtc_2_0, xtc_2_1, xtc_3_0, xtc_4_0, xtc_4_1, xtc_4_2, xtc_4_3, xtc_4_4, xtc_4_5, xtc_4_6, xtc_4_7, xtc_4_8, xtc_4_9, xtc_4_10, xtc_4_11, xtc_4_12, xtc_5_0, xtc_5_1, xtc_5_2, xtc_5_3, xtc_5_4, xtc_5_5, xtc_5_6, xtc_6_0, xtc_6_1, xtc_6_2, xtc_7_0, xtc_7_1, xtc_8_0, xtc_8_1, xtc_8_2, xtc_8_3, xtc_9_0, xtc_9_1, xtc_9_2, xtc_9_3, xtc_9_4, xtc_9_5, xtc_9_6, xtc_9_7, xtc_9_8, xtc_9_9, xtc_10_0, xtc_10_1, xtc_10_2, xtc_10_3, xtc_10_4, xtc_10_5, xtc_10_6, xtc_10_7, xtc_10_8, xtc_10_9, xtc_10_10, xtc_10_11, xtc_10_12, xtc_10_13, xtc_10_14, xtc_10_15, xtc_10_16, xtc_10_17, xtc_10_18, xtc_10_19, xtc_10_20, xtc_10_21, xtc_10_22, xtc_10_23, xtc_10_24, xtc_10_25, eq_self, reduceIte, Nat.reduceEqDiff, Nat.reduceAdd, Nat.reduceSub, Nat.zero_ne_one, Nat.one_ne_zero, Nat.succ_ne_zero, Nat.reduceLeDiff, reduceCtorEq, and_true, true_and, and_false, false_and, true_implies, false_implies, implies_true, not_true_eq_false, not_false_eq_true, xN_0, xN_s, xlook_c, xlook_n, xb_nil, xb_cons, xlen, xl_cons, xst_def, xst2_def, xdl_nil, xdl_int, xdl_ref, xdl_long, xrv_some, xfit_int, xfit_long, xfit_ref, cat_int, cat_ref, cat_long, xret_int, xret_bool, or_true, true_or, Option.some.injEq, Value.int.injEq, Value.ref.injEq, Value.long.injEq, List.getElem?_cons_zero, List.getElem?_cons_succ, List.set_cons_zero, List.set_cons_succ, List.length_cons, List.length_nil, xup_xup, Classical.not_not, Nat.reduceLT, Nat.zero_lt_succ, xup_self, xup_ne, ne_eq, ra_len, ro_len, ra_get, ro_get, ra_set, ro_set, I_add, I_sub, I_lt, I_le, I_eq, I_in, I_b0, I_b01, b_eq0, b_eq1, Int.toNat_natCast, k1, x1, x4, k5, d1, I_mul, ix4]
          refine ⟨by omega, fun _ => xX.loc _ (by simp) nx, fun _ => ⟨by omega, by omega, fun _ => xX.loc _ (by simp) nx, fun _ => xX.loc _ (by simp) nx⟩⟩
        have rec1 : (S.2 0 i = v ∧ seen.testBit (S.2 1 i).toNat = false) → xX l tX10_goOn d 0 0 Q 0 0 159 [(0, .ref 121), (1, .int (I g)), (2, .int (I v)), (3, .int (I seen)), (4, .int (I steps)), (5, .int (I cost)), (6, .int (I i))] [.int (I (cost + S.2 3 i)), .int (I ((steps : Int) + 1)), .int (I (seen ||| 2 ^ (S.2 1 i).toNat : Nat)), .int (I (S.2 1 i)), .int (I g), .ref 121] n (xup ws1 135 (0, .inl (ra 10 (fu (F1 4) steps i)))) := by
          intro h
          have hup := uns_pos hv9 h.2
          have huo := uns_or hv9 h.2
          have hF : ∀ t, t ≠ 4 → (fun t => if t = 4 then fu (F1 4) steps i else F1 t) t = F1 t := fun t ht => by simp [ht]
          refine cX10_goOn_159 (dc := k - 1 + 2) (cc := 0) (cs := 0) (by omega) (by omega) (by omega) (Nat.le_of_ble_eq_true rfl) (IH (k - 1) (by omega) (k - 1 + 2) n _ (fun t => if t = 4 then fu (F1 4) steps i else F1 t) Li (S.2 1 i) (cost + S.2 3 i) _ (steps + 1) (pre ++ [i]) (by omega) (by omega) (by omega) (hM1.keep (fun q a b => xup_ne _ _ (by omega))) ⟨(xup_ne _ _ (by omega)).trans x1, (xup_ne _ _ (by omega)).trans x2, (xup_ne _ _ (by omega)).trans x3, (xup_ne _ _ (by omega)).trans x4, xup_self _ _ _⟩ b2 hsi hoki q3 q4 (or_lt hs hv9) (by simp [hl]) (fun j a ha => ?_) (pre_ok hpa (by omega)) (fun x hx => ?_) (by omega) (by omega)) ?_
          · show fu (F1 4) steps i j = a
            by_cases hj : j < steps
            · rw [List.getElem?_append_left (by omega)] at ha
              rw [fu_n _ _ (by omega), b3 j hj]
              exact hpre j a ha
            · rw [List.getElem?_append_right (by omega)] at ha
              have hj2 : j = steps := by
                have := (List.getElem?_eq_some_iff.mp ha).1
                simp at this
                omega
              subst hj2
              rw [hl, Nat.sub_self] at ha
              simp at ha
              rw [fu_s, ha]
          · rw [← hLi] at hx
            rcases fold_mem _ hx with h4 | h4
            · exact (hlex x h4).app _
            · exact wyi_lex h4
          · rintro r n1 ws2 ⟨rfl, rfl, F3, c1, c2, c3, c4, c5⟩
            simp only [Option.toList_some, Option.toList_none, List.cons_append, List.nil_append, Nat.sub_zero, Nat.reduceSub, Nat.sub_self]
            refine xN_ok (t := tX10_goOn) rfl (T := [(162, oX10_goOn_162)]) (by decide +kernel) 1 _ _ _ _ _ _ _ ?_
            simp (disch := omega) only [oX10_goOn_162, rX10_goOn, x_iconst, x_bipush, x_sipush, x_lconst, x_iload, x_lload, x_aload, x_istore, x_lstore, x_astore, x_iinc, x_iadd, x_isub, x_imul, x_iand, x_ior, x_ixor, x_ishl, x_ishr, x_ineg, x_ladd, x_lsub, x_lmul, x_ldiv, x_lrem, x_lcmp, x_i2l, x_l2i, x_dup, x_dup_x1, x_dup2, x_if_eq, x_if_ne, x_if_lt, x_if_ge, x_if_gt, x_if_le, x_ic_eq, x_ic_ne, x_ic_lt, x_ic_ge, x_ic_gt, x_ic_le, x_goto, x_ireturn, x_lreturn, x_return, x_getfield, x_putfield, x_iaload, x_baload, x_laload, x_aaload, x_iastore, x_bastore, x_lastore, x_aastore, x_arraylength, x_newarray, x_anewarray, x_new, x_iload_0, x_iload_1, x_iload_2, x_iload_3, x_lload_0, x_lload_1, x_lload_2, x_lload_3, x_aload_0, x_aload_1, x_aload_2, x_aload_3, x_istore_0, x_istore_1, x_istore_2, x_istore_3, x_lstore_0, x_lstore_1, x_lstore_2, x_lstore_3, x_astore_0, x_astore_1, x_astore_2, x_astore_3, q_bipush_m3, q_bipush_m2, q_bipush_6, q_bipush_7, q_bipush_9, q_bipush_10, q_bipush_24, q_bipush_30, q_bipush_48, q_bipush_100, q_sipush_300, q_sipush_1000, q_sipush_24001, q_l0, q_l1, xtc_0_0, xtc_0_1, xtc_0_2, xtc_0_3, xtc_0_4, xtc_0_5, xtc_1_0, xtc_1_1, xtc_1_2, xtc_2_0, xtc_2_1, xtc_3_0, xtc_4_0, xtc_4_1, xtc_4_2, xtc_4_3, xtc_4_4, xtc_4_5, xtc_4_6, xtc_4_7, xtc_4_8, xtc_4_9, xtc_4_10, xtc_4_11, xtc_4_12, xtc_5_0, xtc_5_1, xtc_5_2, xtc_5_3, xtc_5_4, xtc_5_5, xtc_5_6, xtc_6_0, xtc_6_1, xtc_6_2, xtc_7_0, xtc_7_1, xtc_8_0, xtc_8_1, xtc_8_2, xtc_8_3, xtc_9_0, xtc_9_1, xtc_9_2, xtc_9_3, xtc_9_4, xtc_9_5, xtc_9_6, xtc_9_7, xtc_9_8, xtc_9_9, xtc_10_0, xtc_10_1, xtc_10_2, xtc_10_3, xtc_10_4, xtc_10_5, xtc_10_6, xtc_10_7, xtc_10_8, xtc_10_9, xtc_10_10, xtc_10_11, xtc_10_12, xtc_10_13, xtc_10_14, xtc_10_15, xtc_10_16, xtc_10_17, xtc_10_18, xtc_10_19, xtc_10_20, xtc_10_21, xtc_10_22, xtc_10_23, xtc_10_24, xtc_10_25, eq_self, reduceIte, Nat.reduceEqDiff, Nat.reduceAdd, Nat.reduceSub, Nat.zero_ne_one, Nat.one_ne_zero, Nat.succ_ne_zero, Nat.reduceLeDiff, reduceCtorEq, and_true, true_and, and_false, false_and, true_implies, false_implies, implies_true, not_true_eq_false, not_false_eq_true, xN_0, xN_s, xlook_c, xlook_n, xb_nil, xb_cons, xlen, xl_cons, xst_def, xst2_def, xdl_nil, xdl_int, xdl_ref, xdl_long, xrv_some, xfit_int, xfit_long, xfit_ref, cat_int, cat_ref, cat_long, xret_int, xret_bool, or_true, true_or, Option.some.injEq, Value.int.injEq, Value.ref.injEq, Value.long.injEq, List.getElem?_cons_zero, List.getElem?_cons_succ, List.set_cons_zero, List.set_cons_succ, List.length_cons, List.length_nil, xup_xup, Classical.not_not, Nat.reduceLT, Nat.zero_lt_succ, xup_self, xup_ne, ne_eq, ra_len, ro_len, ra_get, ro_get, ra_set, ro_set, I_add, I_sub, I_lt, I_le, I_eq, I_in, I_b0, I_b01, b_eq0, b_eq1, Int.toNat_natCast]
            refine xX.loc _ (by simp) (ihj (i + 1) (by omega) ws2 ⟨F3, c1, ?_, fun j hj => ?_, ?_, fun q hq2 => ?_⟩)
            · rw [hstep h]; exact c2
            · have := c3 j (by omega)
              rw [this]
              show fu (F1 4) steps i j = F 4 j
              rw [fu_n _ _ (by omega)]
              exact b3 j hj
            · exact b4.tr c4
            · exact (c5 q hq2).trans ((xup_ne _ _ (by omega)).trans (b5 q hq2))
        have a1 : (S.2 0 i = v ∧ seen.testBit (S.2 1 i).toNat = false) → xX l tX10_goOn d 0 0 Q 0 0 62 [(0, .ref 121), (1, .int (I g)), (2, .int (I v)), (3, .int (I seen)), (4, .int (I steps)), (5, .int (I cost)), (6, .int (I i))] [.int (I 1)] n ws1 := by
          intro h
          refine xN_ok (t := tX10_goOn) rfl (T := [(62, oX10_goOn_62), (103, oX10_goOn_103), (104, oX10_goOn_104), (162, oX10_goOn_162)]) (by decide +kernel) 4 _ _ _ _ _ _ _ ?_
          simp (disch := omega) only [oX10_goOn_62, oX10_goOn_103, oX10_goOn_104, oX10_goOn_162, rX10_goOn, x_iconst, x_bipush, x_sipush, x_lconst, x_iload, x_lload, x_aload, x_istore, x_lstore, x_astore, x_iinc, x_iadd, x_isub, x_imul, x_iand, x_ior, x_ixor, x_ishl, x_ishr, x_ineg, x_ladd, x_lsub, x_lmul, x_ldiv, x_lrem, x_lcmp, x_i2l, x_l2i, x_dup, x_dup_x1, x_dup2, x_if_eq, x_if_ne, x_if_lt, x_if_ge, x_if_gt, x_if_le, x_ic_eq, x_ic_ne, x_ic_lt, x_ic_ge, x_ic_gt, x_ic_le, x_goto, x_ireturn, x_lreturn, x_return, x_getfield, x_putfield, x_iaload, x_baload, x_laload, x_aaload, x_iastore, x_bastore, x_lastore, x_aastore, x_arraylength, x_newarray, x_anewarray, x_new, x_iload_0, x_iload_1, x_iload_2, x_iload_3, x_lload_0, x_lload_1, x_lload_2, x_lload_3, x_aload_0, x_aload_1, x_aload_2, x_aload_3, x_istore_0, x_istore_1, x_istore_2, x_istore_3, x_lstore_0, x_lstore_1, x_lstore_2, x_lstore_3, x_astore_0, x_astore_1, x_astore_2, x_astore_3, q_bipush_m3, q_bipush_m2, q_bipush_6, q_bipush_7, q_bipush_9, q_bipush_10, q_bipush_24, q_bipush_30, q_bipush_48, q_bipush_100, q_sipush_300, q_sipush_1000, q_sipush_24001, q_l0, q_l1, xtc_0_0, xtc_0_1, xtc_0_2, xtc_0_3, xtc_0_4, xtc_0_5, xtc_1_0, xtc_1_1, xtc_1_2, xtc_2_0, xtc_2_1, xtc_3_0, xtc_4_0, xtc_4_1, xtc_4_2, xtc_4_3, xtc_4_4, xtc_4_5, xtc_4_6, xtc_4_7, xtc_4_8, xtc_4_9, xtc_4_10, xtc_4_11, xtc_4_12, xtc_5_0, xtc_5_1, xtc_5_2, xtc_5_3, xtc_5_4, xtc_5_5, xtc_5_6, xtc_6_0, xtc_6_1, xtc_6_2, xtc_7_0, xtc_7_1, xtc_8_0, xtc_8_1, xtc_8_2, xtc_8_3, xtc_9_0, xtc_9_1, xtc_9_2, xtc_9_3, xtc_9_4, xtc_9_5, xtc_9_6, xtc_9_7, xtc_9_8, xtc_9_9, xtc_10_0, xtc_10_1, xtc_10_2, xtc_10_3, xtc_10_4, xtc_10_5, xtc_10_6, xtc_10_7, xtc_10_8, xtc_10_9, xtc_10_10, xtc_10_11, xtc_10_12, xtc_10_13, xtc_10_14, xtc_10_15, xtc_10_16, xtc_10_17, xtc_10_18, xtc_10_19, xtc_10_20, xtc_10_21, xtc_10_22, xtc_10_23, xtc_10_24, xtc_10_25, eq_self, reduceIte, Nat.reduceEqDiff, Nat.reduceAdd, Nat.reduceSub, Nat.zero_ne_one, Nat.one_ne_zero, Nat.succ_ne_zero, Nat.reduceLeDiff, reduceCtorEq, and_true, true_and, and_false, false_and, true_implies, false_implies, implies_true, not_true_eq_false, not_false_eq_true, xN_0, xN_s, xlook_c, xlook_n, xb_nil, xb_cons, xlen, xl_cons, xst_def, xst2_def, xdl_nil, xdl_int, xdl_ref, xdl_long, xrv_some, xfit_int, xfit_long, xfit_ref, cat_int, cat_ref, cat_long, xret_int, xret_bool, or_true, true_or, Option.some.injEq, Value.int.injEq, Value.ref.injEq, Value.long.injEq, List.getElem?_cons_zero, List.getElem?_cons_succ, List.set_cons_zero, List.set_cons_succ, List.length_cons, List.length_nil, xup_xup, Classical.not_not, Nat.reduceLT, Nat.zero_lt_succ, xup_self, xup_ne, ne_eq, ra_len, ro_len, ra_get, ro_get, ra_set, ro_set, I_add, I_sub, I_lt, I_le, I_eq, I_in, I_b0, I_b01, b_eq0, b_eq1, Int.toNat_natCast, k1, k3, x1, x4, x5, k5, d1, I_mul, ix4, e2]
          have hr := rec1 h
          have go1 : (0 ≤ (steps : Int) ∧ (steps : Int) < (10 : Nat)) ∧ (0 ≤ (i : Int) ∧ (i : Int) < (24 : Nat)) := by
            have hup := uns_pos hv9 h.2
            omega
          refine ⟨by omega, fun _ => ⟨fun q => absurd q (by omega), fun _ => ⟨go1.1, go1.2, go1.2, go1.2, xX.loc _ (by simp) hr⟩⟩, fun h5 => ⟨by omega, by omega, fun _ => ⟨fun q => absurd q (by omega), fun _ => ⟨go1.1, go1.2, go1.2, go1.2, xX.loc _ (by simp) hr⟩⟩, fun hdear => ?_⟩⟩
          have hz : Li[4]? = some Li[4] := List.getElem?_eq_getElem (by omega)
          obtain ⟨z1, z2, z3, z4, z5, z6⟩ := d3 4 _ hz
          rw [z1, I_le (by omega) (by omega) (by omega) (by omega)] at hdear
          have hskip : (wyi S (S.2 5 g) (k - 1) v seen cost pre (i + 1)).foldl ins5 L = Li := by
            rw [hstep h]
            apply fold_skip (by omega)
            intro x hx y hy
            obtain ⟨p, hp, rfl⟩ := List.mem_map.mp hx
            have h7 := srt_last hsi hz (by omega) y hy
            have h8 := pcost_bd hw p _ (pth_isW _ _ _ p hp).1
            show y.1 ≤ cost + S.2 3 i + pcost S p
            omega
          have nx := next hskip
          exact ⟨fun q => absurd q (by omega), fun _ => ⟨fun _ => xX.loc _ (by simp) nx, fun q => absurd q (by omega)⟩⟩
        refine xL_ok (t := tX10_goOn) rfl (ops := oX10_goOn_23) (by decide +kernel) (T := [(61, oX10_goOn_61)]) (by decide +kernel) 1 ?_
        simp (disch := omega) only [oX10_goOn_61, oX10_goOn_23, rX10_goOn, x_iconst, x_bipush, x_sipush, x_lconst, x_iload, x_lload, x_aload, x_istore, x_lstore, x_astore, x_iinc, x_iadd, x_isub, x_imul, x_iand, x_ior, x_ixor, x_ishl, x_ishr, x_ineg, x_ladd, x_lsub, x_lmul, x_ldiv, x_lrem, x_lcmp, x_i2l, x_l2i, x_dup, x_dup_x1, x_dup2, x_if_eq, x_if_ne, x_if_lt, x_if_ge, x_if_gt, x_if_le, x_ic_eq, x_ic_ne, x_ic_lt, x_ic_ge, x_ic_gt, x_ic_le, x_goto, x_ireturn, x_lreturn, x_return, x_getfield, x_putfield, x_iaload, x_baload, x_laload, x_aaload, x_iastore, x_bastore, x_lastore, x_aastore, x_arraylength, x_newarray, x_anewarray, x_new, x_iload_0, x_iload_1, x_iload_2, x_iload_3, x_lload_0, x_lload_1, x_lload_2, x_lload_3, x_aload_0, x_aload_1, x_aload_2, x_aload_3, x_istore_0, x_istore_1, x_istore_2, x_istore_3, x_lstore_0, x_lstore_1, x_lstore_2, x_lstore_3, x_astore_0, x_astore_1, x_astore_2, x_astore_3, q_bipush_m3, q_bipush_m2, q_bipush_6, q_bipush_7, q_bipush_9, q_bipush_10, q_bipush_24, q_bipush_30, q_bipush_48, q_bipush_100, q_sipush_300, q_sipush_1000, q_sipush_24001, q_l0, q_l1, xtc_0_0, xtc_0_1, xtc_0_2, xtc_0_3, xtc_0_4, xtc_0_5, xtc_1_0, xtc_1_1, xtc_1_2, xtc_2_0, xtc_2_1, xtc_3_0, xtc_4_0, xtc_4_1, xtc_4_2, xtc_4_3, xtc_4_4, xtc_4_5, xtc_4_6, xtc_4_7, xtc_4_8, xtc_4_9, xtc_4_10, xtc_4_11, xtc_4_12, xtc_5_0, xtc_5_1, xtc_5_2, xtc_5_3, xtc_5_4, xtc_5_5, xtc_5_6, xtc_6_0, xtc_6_1, xtc_6_2, xtc_7_0, xtc_7_1, xtc_8_0, xtc_8_1, xtc_8_2, xtc_8_3, xtc_9_0, xtc_9_1, xtc_9_2, xtc_9_3, xtc_9_4, xtc_9_5, xtc_9_6, xtc_9_7, xtc_9_8, xtc_9_9, xtc_10_0, xtc_10_1, xtc_10_2, xtc_10_3, xtc_10_4, xtc_10_5, xtc_10_6, xtc_10_7, xtc_10_8, xtc_10_9, xtc_10_10, xtc_10_11, xtc_10_12, xtc_10_13, xtc_10_14, xtc_10_15, xtc_10_16, xtc_10_17, xtc_10_18, xtc_10_19, xtc_10_20, xtc_10_21, xtc_10_22, xtc_10_23, xtc_10_24, xtc_10_25, eq_self, reduceIte, Nat.reduceEqDiff, Nat.reduceAdd, Nat.reduceSub, Nat.zero_ne_one, Nat.one_ne_zero, Nat.succ_ne_zero, Nat.reduceLeDiff, reduceCtorEq, and_true, true_and, and_false, false_and, true_implies, false_implies, implies_true, not_true_eq_false, not_false_eq_true, xN_0, xN_s, xlook_c, xlook_n, xb_nil, xb_cons, xlen, xl_cons, xst_def, xst2_def, xdl_nil, xdl_int, xdl_ref, xdl_long, xrv_some, xfit_int, xfit_long, xfit_ref, cat_int, cat_ref, cat_long, xret_int, xret_bool, or_true, true_or, Option.some.injEq, Value.int.injEq, Value.ref.injEq, Value.long.injEq, List.getElem?_cons_zero, List.getElem?_cons_succ, List.set_cons_zero, List.set_cons_succ, List.length_cons, List.length_nil, xup_xup, Classical.not_not, Nat.reduceLT, Nat.zero_lt_succ, xup_self, xup_ne, ne_eq, ra_len, ro_len, ra_get, ro_get, ra_set, ro_set, I_add, I_sub, I_lt, I_le, I_eq, I_in, I_b0, I_b01, b_eq0, b_eq1, Int.toNat_natCast, k1, k2, k3, e1]
        refine ⟨fun h => absurd h (by omega), fun _ => ⟨by omega, fun h => ?_, fun h => ⟨by omega, fun h3 => ?_, fun h3 => ?_⟩⟩⟩
        · exact a0 (fun q => h q.1)
        · exact a0 (fun q => by rw [q.2] at h3; exact absurd h3 (by simp))
        · exact a1 ⟨h, by simpa using h3⟩
    refine xM.of (by decide) (Nat.le_of_ble_eq_true rfl) ?_
    simp only [lv_args, cat_int, cat_ref, cat_long, reduceIte, Nat.reduceEqDiff, Nat.reduceAdd, Nat.one_ne_zero, Nat.reduceLeDiff]
    refine xN_ok (t := tX10_goOn) rfl (T := [(0, oX10_goOn_0), (20, oX10_goOn_20)]) (by decide +kernel) 2 _ _ _ _ _ _ _ ?_
    simp (disch := omega) only [oX10_goOn_0, oX10_goOn_20, rX10_goOn, x_iconst, x_bipush, x_sipush, x_lconst, x_iload, x_lload, x_aload, x_istore, x_lstore, x_astore, x_iinc, x_iadd, x_isub, x_imul, x_iand, x_ior, x_ixor, x_ishl, x_ishr, x_ineg, x_ladd, x_lsub, x_lmul, x_ldiv, x_lrem, x_lcmp, x_i2l, x_l2i, x_dup, x_dup_x1, x_dup2, x_if_eq, x_if_ne, x_if_lt, x_if_ge, x_if_gt, x_if_le, x_ic_eq, x_ic_ne, x_ic_lt, x_ic_ge, x_ic_gt, x_ic_le, x_goto, x_ireturn, x_lreturn, x_return, x_getfield, x_putfield, x_iaload, x_baload, x_laload, x_aaload, x_iastore, x_bastore, x_lastore, x_aastore, x_arraylength, x_newarray, x_anewarray, x_new, x_iload_0, x_iload_1, x_iload_2, x_iload_3, x_lload_0, x_lload_1, x_lload_2, x_lload_3, x_aload_0, x_aload_1, x_aload_2, x_aload_3, x_istore_0, x_istore_1, x_istore_2, x_istore_3, x_lstore_0, x_lstore_1, x_lstore_2, x_lstore_3, x_astore_0, x_astore_1, x_astore_2, x_astore_3, q_bipush_m3, q_bipush_m2, q_bipush_6, q_bipush_7, q_bipush_9, q_bipush_10, q_bipush_24, q_bipush_30, q_bipush_48, q_bipush_100, q_sipush_300, q_sipush_1000, q_sipush_24001, q_l0, q_l1, xtc_0_0, xtc_0_1, xtc_0_2, xtc_0_3, xtc_0_4, xtc_0_5, xtc_1_0, xtc_1_1, xtc_1_2, xtc_2_0, xtc_2_1, xtc_3_0, xtc_4_0, xtc_4_1, xtc_4_2, xtc_4_3, xtc_4_4, xtc_4_5, xtc_4_6, xtc_4_7, xtc_4_8, xtc_4_9, xtc_4_10, xtc_4_11, xtc_4_12, xtc_5_0, xtc_5_1, xtc_5_2, xtc_5_3, xtc_5_4, xtc_5_5, xtc_5_6, xtc_6_0, xtc_6_1, xtc_6_2, xtc_7_0, xtc_7_1, xtc_8_0, xtc_8_1, xtc_8_2, xtc_8_3, xtc_9_0, xtc_9_1, xtc_9_2, xtc_9_3, xtc_9_4, xtc_9_5, xtc_9_6, xtc_9_7, xtc_9_8, xtc_9_9, xtc_10_0, xtc_10_1, xtc_10_2, xtc_10_3, xtc_10_4, xtc_10_5, xtc_10_6, xtc_10_7, xtc_10_8, xtc_10_9, xtc_10_10, xtc_10_11, xtc_10_12, xtc_10_13, xtc_10_14, xtc_10_15, xtc_10_16, xtc_10_17, xtc_10_18, xtc_10_19, xtc_10_20, xtc_10_21, xtc_10_22, xtc_10_23, xtc_10_24, xtc_10_25, eq_self, reduceIte, Nat.reduceEqDiff, Nat.reduceAdd, Nat.reduceSub, Nat.zero_ne_one, Nat.one_ne_zero, Nat.succ_ne_zero, Nat.reduceLeDiff, reduceCtorEq, and_true, true_and, and_false, false_and, true_implies, false_implies, implies_true, not_true_eq_false, not_false_eq_true, xN_0, xN_s, xlook_c, xlook_n, xb_nil, xb_cons, xlen, xl_cons, xst_def, xst2_def, xdl_nil, xdl_int, xdl_ref, xdl_long, xrv_some, xfit_int, xfit_long, xfit_ref, cat_int, cat_ref, cat_long, xret_int, xret_bool, or_true, true_or, Option.some.injEq, Value.int.injEq, Value.ref.injEq, Value.long.injEq, List.getElem?_cons_zero, List.getElem?_cons_succ, List.set_cons_zero, List.set_cons_succ, List.length_cons, List.length_nil, xup_xup, Classical.not_not, Nat.reduceLT, Nat.zero_lt_succ, xup_self, xup_ne, ne_eq, ra_len, ro_len, ra_get, ro_get, ra_set, ro_set, I_add, I_sub, I_lt, I_le, I_eq, I_in, I_b0, I_b01, b_eq0, b_eq1, Int.toNat_natCast, m1, m7]
    refine ⟨by omega, fun _ => ?_, fun h => absurd h e⟩
    exact xX.loc _ (by simp) (loop S.na 0 (by omega) ws (by rw [wyi_0]; exact ⟨F, hX, hD, fun _ _ => rfl, MO.rf g F, fun _ _ => rfl⟩))
end GOON
