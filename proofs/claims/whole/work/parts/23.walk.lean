theorem nI_or (a b : Nat) : nI a ||| nI b = nI (a ||| b) := by
  apply Int32.toBitVec_inj.1
  show BitVec.ofNat 32 a ||| BitVec.ofNat 32 b = BitVec.ofNat 32 (a ||| b)
  apply BitVec.eq_of_getLsbD_eq
  intro i hi
  simp [BitVec.getLsbD_ofNat, hi]
theorem I_or2 {s : Nat} {v : Int} (h1 : 0 ≤ v) (h2 : v < 10) : I s ||| (I 1 <<< (I v &&& 31)) = I (s ||| 2 ^ v.toNat : Nat) := by
  obtain ⟨v, rfl⟩ := Int.eq_ofNat_of_zero_le h1
  rw [I_pow v (by omega), ← I_nI, ← I_nI, nI_or, I_nI]
  rfl
theorem or_lt {s v : Nat} (h : s < 1024) (hv : v < 10) : s ||| 2 ^ v < 1024 := Nat.or_lt_two_pow (n := 10) h (Nat.pow_lt_pow_right (by decide) hv)
theorem I_bitI {s : Nat} {v : Int} (hs : s < 1024) (h1 : 0 ≤ v) (h2 : v < 10) : (I s >>> (I v &&& 31)) &&& I 1 = I (if s.testBit v.toNat = true then 1 else 0) := by
  obtain ⟨v, rfl⟩ := Int.eq_ofNat_of_zero_le h1
  exact I_bit s hs v (by omega)
section WALK
variable {l : Launch} {d n : Nat} {ws : xW} {S : St} {ver wv : Int}
/-- the table of ways: place 10, its lists 11, its trail 12, its least costs 13 -/
def TabAt (ws : xW) (tv : Int) (ft fl : Nat → Int) : Prop := ws 10 = some (8, .inr (.inr (.inr [.ref 11, .ref 12, .ref 13, .int (I tv)]))) ∧ ws 11 = some (4, .inr (.inr (.inl (ro 6 (fun g => some (14 + 12 * g)))))) ∧ ws 12 = some (0, .inl (ra 9 ft)) ∧ ws 13 = some (0, .inl (ra 10 fl))
theorem w_isWorthwhile {g : Nat} {L : List Wy} {tv : Int} {ft fl : Nat → Int} (hd : 1 ≤ d) (hT : TabAt ws tv ft fl) (hW : WLAt ws (14 + 12 * g) L) (hg : g < 6) {v c : Int} (h1 : 0 ≤ v) (h2 : v < 10) (h3 : 0 ≤ c) (h4 : c ≤ 1000) (hl : 0 ≤ fl v.toNat ∧ fl v.toNat ≤ 1000) : xM l tX8_isWorthwhile d 0 0 [.ref 10, .int (I g), .int (I v), .int (I c)] n ws (fun r n' ws' => r = some (.int (I (if fl v.toNat < 1000 ∧ (L.length < 5 ∨ (∀ z, L[4]? = some z → c + fl v.toNat < z.1)) then 1 else 0))) ∧ n' = n ∧ ws' = ws) := by
  obtain ⟨t1, t2, t3, t4⟩ := hT
  have hW0 := hW
  obtain ⟨p, ln, co, fa, ⟨c1, c2, c3, c4⟩, d1, d2, d3, d4⟩ := hW
  refine xM.of (by decide) (Nat.le_of_ble_eq_true rfl) ?_
  simp only [lv_args, cat_int, cat_ref, cat_long, reduceIte, Nat.reduceEqDiff, Nat.reduceAdd, Nat.one_ne_zero, Nat.reduceLeDiff]
  refine xN_ok (t := tX8_isWorthwhile) rfl (T := AX8_isWorthwhile) aX8_isWorthwhile 3 _ _ _ _ _ _ _ ?_
  simp (disch := omega) only [AX8_isWorthwhile, oX8_isWorthwhile_0, oX8_isWorthwhile_29, oX8_isWorthwhile_36, oX8_isWorthwhile_37, rX8_isWorthwhile, x_iconst, x_bipush, x_sipush, x_lconst, x_iload, x_lload, x_aload, x_istore, x_lstore, x_astore, x_iinc, x_iadd, x_isub, x_imul, x_iand, x_ior, x_ixor, x_ishl, x_ishr, x_ineg, x_ladd, x_lsub, x_lmul, x_ldiv, x_lrem, x_lcmp, x_i2l, x_l2i, x_dup, x_dup_x1, x_dup2, x_if_eq, x_if_ne, x_if_lt, x_if_ge, x_if_gt, x_if_le, x_ic_eq, x_ic_ne, x_ic_lt, x_ic_ge, x_ic_gt, x_ic_le, x_goto, x_ireturn, x_lreturn, x_return, x_getfield, x_putfield, x_iaload, x_baload, x_laload, x_aaload, x_iastore, x_bastore, x_lastore, x_aastore, x_arraylength, x_newarray, x_anewarray, x_new, x_iload_0, x_iload_1, x_iload_2, x_iload_3, x_lload_0, x_lload_1, x_lload_2, x_lload_3, x_aload_0, x_aload_1, x_aload_2, x_aload_3, x_istore_0, x_istore_1, x_istore_2, x_istore_3, x_lstore_0, x_lstore_1, x_lstore_2, x_lstore_3, x_astore_0, x_astore_1, x_astore_2, x_astore_3, q_bipush_m3, q_bipush_m2, q_bipush_6, q_bipush_7, q_bipush_9, q_bipush_10, q_bipush_24, q_bipush_30, q_bipush_48, q_bipush_100, q_sipush_300, q_sipush_1000, q_sipush_24001, q_l0, q_l1, xtc_0_0, xtc_0_1, xtc_0_2, xtc_0_3, xtc_0_4, xtc_0_5, xtc_1_0, xtc_1_1, xtc_1_2, xtc_2_0, xtc_2_1, xtc_3_0, xtc_4_0, xtc_4_1, xtc_4_2, xtc_4_3, xtc_4_4, xtc_4_5, xtc_4_6, xtc_4_7, xtc_4_8, xtc_4_9, xtc_4_10, xtc_4_11, xtc_4_12, xtc_5_0, xtc_5_1, xtc_5_2, xtc_5_3, xtc_5_4, xtc_5_5, xtc_5_6, xtc_6_0, xtc_6_1, xtc_6_2, xtc_7_0, xtc_7_1, xtc_8_0, xtc_8_1, xtc_8_2, xtc_8_3, xtc_9_0, xtc_9_1, xtc_9_2, xtc_9_3, xtc_9_4, xtc_9_5, xtc_9_6, xtc_9_7, xtc_9_8, xtc_9_9, xtc_10_0, xtc_10_1, xtc_10_2, xtc_10_3, xtc_10_4, xtc_10_5, xtc_10_6, xtc_10_7, xtc_10_8, xtc_10_9, xtc_10_10, xtc_10_11, xtc_10_12, xtc_10_13, xtc_10_14, xtc_10_15, xtc_10_16, xtc_10_17, xtc_10_18, xtc_10_19, xtc_10_20, xtc_10_21, xtc_10_22, xtc_10_23, xtc_10_24, xtc_10_25, eq_self, reduceIte, Nat.reduceEqDiff, Nat.reduceAdd, Nat.reduceSub, Nat.zero_ne_one, Nat.one_ne_zero, Nat.succ_ne_zero, Nat.reduceLeDiff, reduceCtorEq, and_true, true_and, and_false, false_and, true_implies, false_implies, implies_true, not_true_eq_false, not_false_eq_true, xN_0, xN_s, xlook_c, xlook_n, xb_nil, xb_cons, xlen, xl_cons, xst_def, xst2_def, xdl_nil, xdl_int, xdl_ref, xdl_long, xrv_some, xfit_int, xfit_long, xfit_ref, cat_int, cat_ref, cat_long, xret_int, xret_bool, or_true, true_or, Option.some.injEq, Value.int.injEq, Value.ref.injEq, Value.long.injEq, List.getElem?_cons_zero, List.getElem?_cons_succ, List.set_cons_zero, List.set_cons_succ, List.length_cons, List.length_nil, xup_xup, Classical.not_not, Nat.reduceLT, Nat.zero_lt_succ, xup_self, xup_ne, ne_eq, ra_len, ro_len, ra_get, ro_get, ra_set, ro_set, I_add, I_sub, I_lt, I_le, I_eq, I_in, I_b0, I_b01, b_eq0, b_eq1, Int.toNat_natCast, t1, t2, t4]
  refine ⟨by omega, fun h => ?_, fun h => ⟨by omega, by omega, ?_⟩⟩
  · rw [if_neg (by omega)]
  · refine cX8_isWorthwhile_26 c1 (dc := 0) (cc := 0) (cs := 0) (by omega) (by omega) (by omega) (Nat.le_of_ble_eq_true rfl) (w_hasPlaceFor hW0 (by omega) (by omega)) (pureQ ?_)
    simp only [Option.toList_some, Option.toList_none, List.cons_append, List.nil_append, Nat.sub_zero, Nat.reduceSub, Nat.sub_self]
    refine xN_ok (t := tX8_isWorthwhile) rfl (T := AX8_isWorthwhile) aX8_isWorthwhile 3 _ _ _ _ _ _ _ ?_
    simp (disch := omega) only [AX8_isWorthwhile, oX8_isWorthwhile_0, oX8_isWorthwhile_29, oX8_isWorthwhile_36, oX8_isWorthwhile_37, rX8_isWorthwhile, x_iconst, x_bipush, x_sipush, x_lconst, x_iload, x_lload, x_aload, x_istore, x_lstore, x_astore, x_iinc, x_iadd, x_isub, x_imul, x_iand, x_ior, x_ixor, x_ishl, x_ishr, x_ineg, x_ladd, x_lsub, x_lmul, x_ldiv, x_lrem, x_lcmp, x_i2l, x_l2i, x_dup, x_dup_x1, x_dup2, x_if_eq, x_if_ne, x_if_lt, x_if_ge, x_if_gt, x_if_le, x_ic_eq, x_ic_ne, x_ic_lt, x_ic_ge, x_ic_gt, x_ic_le, x_goto, x_ireturn, x_lreturn, x_return, x_getfield, x_putfield, x_iaload, x_baload, x_laload, x_aaload, x_iastore, x_bastore, x_lastore, x_aastore, x_arraylength, x_newarray, x_anewarray, x_new, x_iload_0, x_iload_1, x_iload_2, x_iload_3, x_lload_0, x_lload_1, x_lload_2, x_lload_3, x_aload_0, x_aload_1, x_aload_2, x_aload_3, x_istore_0, x_istore_1, x_istore_2, x_istore_3, x_lstore_0, x_lstore_1, x_lstore_2, x_lstore_3, x_astore_0, x_astore_1, x_astore_2, x_astore_3, q_bipush_m3, q_bipush_m2, q_bipush_6, q_bipush_7, q_bipush_9, q_bipush_10, q_bipush_24, q_bipush_30, q_bipush_48, q_bipush_100, q_sipush_300, q_sipush_1000, q_sipush_24001, q_l0, q_l1, xtc_0_0, xtc_0_1, xtc_0_2, xtc_0_3, xtc_0_4, xtc_0_5, xtc_1_0, xtc_1_1, xtc_1_2, xtc_2_0, xtc_2_1, xtc_3_0, xtc_4_0, xtc_4_1, xtc_4_2, xtc_4_3, xtc_4_4, xtc_4_5, xtc_4_6, xtc_4_7, xtc_4_8, xtc_4_9, xtc_4_10, xtc_4_11, xtc_4_12, xtc_5_0, xtc_5_1, xtc_5_2, xtc_5_3, xtc_5_4, xtc_5_5, xtc_5_6, xtc_6_0, xtc_6_1, xtc_6_2, xtc_7_0, xtc_7_1, xtc_8_0, xtc_8_1, xtc_8_2, xtc_8_3, xtc_9_0, xtc_9_1, xtc_9_2, xtc_9_3, xtc_9_4, xtc_9_5, xtc_9_6, xtc_9_7, xtc_9_8, xtc_9_9, xtc_10_0, xtc_10_1, xtc_10_2, xtc_10_3, xtc_10_4, xtc_10_5, xtc_10_6, xtc_10_7, xtc_10_8, xtc_10_9, xtc_10_10, xtc_10_11, xtc_10_12, xtc_10_13, xtc_10_14, xtc_10_15, xtc_10_16, xtc_10_17, xtc_10_18, xtc_10_19, xtc_10_20, xtc_10_21, xtc_10_22, xtc_10_23, xtc_10_24, xtc_10_25, eq_self, reduceIte, Nat.reduceEqDiff, Nat.reduceAdd, Nat.reduceSub, Nat.zero_ne_one, Nat.one_ne_zero, Nat.succ_ne_zero, Nat.reduceLeDiff, reduceCtorEq, and_true, true_and, and_false, false_and, true_implies, false_implies, implies_true, not_true_eq_false, not_false_eq_true, xN_0, xN_s, xlook_c, xlook_n, xb_nil, xb_cons, xlen, xl_cons, xst_def, xst2_def, xdl_nil, xdl_int, xdl_ref, xdl_long, xrv_some, xfit_int, xfit_long, xfit_ref, cat_int, cat_ref, cat_long, xret_int, xret_bool, or_true, true_or, Option.some.injEq, Value.int.injEq, Value.ref.injEq, Value.long.injEq, List.getElem?_cons_zero, List.getElem?_cons_succ, List.set_cons_zero, List.set_cons_succ, List.length_cons, List.length_nil, xup_xup, Classical.not_not, Nat.reduceLT, Nat.zero_lt_succ, xup_self, xup_ne, ne_eq, ra_len, ro_len, ra_get, ro_get, ra_set, ro_set, I_add, I_sub, I_lt, I_le, I_eq, I_in, I_b0, I_b01, b_eq0, b_eq1, Int.toNat_natCast]
    refine ⟨fun h5 => ?_, fun h5 => ?_⟩
    · rw [if_neg (fun q => h5 q.2)]
    · rw [if_pos ⟨by omega, h5⟩]
/-- an arc that isn't worth while brings no way that counts -/
theorem wys_skip (hw : WF S) {go : Int} {fl : Nat → Int} (hLB : LB S go 9 fl) {k : Nat} (hk : k ≤ 9) {v cost : Int} {seen : Nat} {pre : List Nat} {L : List Wy} (hs : srt L) (hL : L.length ≤ 5) (h : ¬ (fl v.toNat < 1000 ∧ (L.length < 5 ∨ (∀ z, L[4]? = some z → cost + fl v.toNat < z.1)))) : (wys S go k v seen cost pre).foldl ins5 L = L := by
  have hp : ∀ p ∈ pth S go k v seen, fl v.toNat ≤ pcost S p ∧ pcost S p ≤ 900 := by
    intro p hp
    obtain ⟨h1, h2⟩ := pth_isW k v seen p hp
    have h3 := pcost_bd hw p v h1
    exact ⟨hLB v p h1 (by omega), by omega⟩
  by_cases h1 : fl v.toNat < 1000
  · have h2 : ¬ (L.length < 5 ∨ (∀ z, L[4]? = some z → cost + fl v.toNat < z.1)) := fun q => h ⟨h1, q⟩
    have h5 : L.length = 5 := by
      have : ¬ L.length < 5 := fun q => h2 (Or.inl q)
      omega
    have hz : L[4]? = some L[4] := List.getElem?_eq_getElem (by omega)
    have hle : L[4].1 ≤ cost + fl v.toNat := by
      by_cases h6 : L[4].1 ≤ cost + fl v.toNat
      · exact h6
      · exact absurd (Or.inr (fun z hz' => by rw [hz] at hz'; cases hz'; omega)) h2
    apply fold_skip h5
    intro x hx y hy
    obtain ⟨p, hp1, rfl⟩ := List.mem_map.mp hx
    have h7 := srt_last hs hz (by omega) y hy
    have h8 := (hp p hp1).1
    show y.1 ≤ cost + pcost S p
    omega
  · have he : pth S go k v seen = [] := by
      cases hq : pth S go k v seen with
      | nil => rfl
      | cons p r =>
        have := hp p (by rw [hq]; exact List.mem_cons_self)
        omega
    unfold wys
    rw [he]
    rfl
/-- what stands around a walk -/
def WK (ws : xW) (S : St) (ver wv tv : Int) (ft fl : Nat → Int) (g : Nat) (L : List Wy) : Prop := NetAt ws S ver wv ∧ TabAt ws tv ft fl ∧ WLAt ws (14 + 12 * g) L ∧ srt L
def WQ (ws : xW) (steps g : Nat) (ft : Nat → Int) (L' : List Wy) (ws' : xW) : Prop := ∃ ft' : Nat → Int, ws' 12 = some (0, .inl (ra 9 ft')) ∧ (∀ j, j < steps → ft' j = ft j) ∧ WLAt ws' (14 + 12 * g) L' ∧ ∀ q, q ≠ 12 → (q < 14 + 12 * g ∨ 26 + 12 * g ≤ q) → ws' q = ws q
theorem WK.next {ws ws' : xW} {tv : Int} {ft fl : Nat → Int} {g steps : Nat} {L L' : List Wy} (h : WK ws S ver wv tv ft fl g L) (hq : WQ ws steps g ft L' ws') (hs : srt L') : ∃ ft', WK ws' S ver wv tv ft' fl g L' ∧ ∀ j, j < steps → ft' j = ft j := by
  obtain ⟨hN, ⟨t1, t2, t3, t4⟩, hW, hs0⟩ := h
  obtain ⟨ft', q1, q2, q3, q4⟩ := hq
  exact ⟨ft', ⟨hN.keep (fun q h1 h2 => q4 q (by omega) (by omega)), ⟨(q4 10 (by omega) (by omega)).trans t1, (q4 11 (by omega) (by omega)).trans t2, q1, (q4 13 (by omega) (by omega)).trans t4⟩, q3, hs⟩, q2⟩
theorem WQ.trans {ws ws1 ws2 : xW} {g steps : Nat} {ft ft1 : Nat → Int} {L1 L2 : List Wy} (h1 : WQ ws steps g ft L1 ws1) (h2 : WQ ws1 steps g ft1 L2 ws2) (he : ∀ j, j < steps → ft1 j = ft j) : WQ ws steps g ft L2 ws2 := by
  obtain ⟨f1, p1, p2, p3, p4⟩ := h1
  obtain ⟨f2, r1, r2, r3, r4⟩ := h2
  exact ⟨f2, r1, fun j hj => (r2 j hj).trans (he j hj), r3, fun q hq hq2 => (r4 q hq hq2).trans (p4 q hq hq2)⟩
end WALK
