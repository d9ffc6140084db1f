section LAW2
variable {p : Program} {l : Launch} {e : Env} {s : State} {m : MethodId} {below : List Frame} {meth : Method} {c : Code} {b L : Nat} {xs : Nat → Int32} {G : va_G} {tc : Nat → ClassId}
theorem h_0 : decode code 0 = .ok (.new 7, 3) := by decide +kernel
theorem h_3 : decode code 3 = .ok (.dup, 1) := by decide +kernel
theorem h_4 : decode code 4 = .ok (.invokespecial 9, 3) := by decide +kernel
theorem h_7 : decode code 7 = .ok (.astore_n 1, 1) := by decide +kernel
theorem h_8 : decode code 8 = .ok (.new 10, 3) := by decide +kernel
theorem h_11 : decode code 11 = .ok (.dup, 1) := by decide +kernel
theorem h_12 : decode code 12 = .ok (.invokespecial 12, 3) := by decide +kernel
theorem h_15 : decode code 15 = .ok (.astore_n 2, 1) := by decide +kernel
theorem h_16 : decode code 16 = .ok (.iconst 0, 1) := by decide +kernel
theorem h_17 : decode code 17 = .ok (.istore_n 3, 1) := by decide +kernel
theorem h_18 : decode code 18 = .ok (.iload_n 3, 1) := by decide +kernel
theorem h_19 : decode code 19 = .ok (.aload_n 0, 1) := by decide +kernel
theorem h_20 : decode code 20 = .ok (.arraylength, 1) := by decide +kernel
theorem h_21 : decode code 21 = .ok (.iconst 5, 1) := by decide +kernel
theorem h_22 : decode code 22 = .ok (.isub, 1) := by decide +kernel
theorem h_23 : decode code 23 = .ok (.if_icmp .gt 708, 3) := by decide +kernel
theorem h_26 : decode code 26 = .ok (.aload_n 0, 1) := by decide +kernel
theorem h_27 : decode code 27 = .ok (.iload_n 3, 1) := by decide +kernel
theorem h_28 : decode code 28 = .ok (.iaload, 1) := by decide +kernel
theorem h_29 : decode code 29 = .ok (.bipush 31, 2) := by decide +kernel
theorem h_31 : decode code 31 = .ok (.iand, 1) := by decide +kernel
theorem h_32 : decode code 32 = .ok (.tableswitch 693 0 20 #[100, 113, 166, 199, 232, 285, 318, 351, 374, 417, 430, 443, 466, 489, 522, 555, 578, 611, 634, 657, 670], 100) := by decide +kernel
theorem h_725 : decode code 725 = .ok (.iinc 3 5, 3) := by decide +kernel
theorem h_728 : decode code 728 = .ok (.goto (-710), 3) := by decide +kernel
theorem h_731 : decode code 731 = .ok (.iconst 1, 1) := by decide +kernel
theorem h_732 : decode code 732 = .ok (.ireturn, 1) := by decide +kernel
theorem dc_0 : DC 132 0 13 17 585 := ⟨by decide +kernel, fun j hj => absurd hj (Nat.not_lt_zero j), by decide +kernel, by decide +kernel, fun j hj => absurd hj (Nat.not_lt_zero j), by decide +kernel, by decide +kernel, by decide⟩
theorem d5_146 : D5 146 1 := ⟨by decide +kernel, by decide +kernel, by decide +kernel, by decide +kernel, by decide +kernel⟩
theorem d5_151 : D5 151 2 := ⟨by decide +kernel, by decide +kernel, by decide +kernel, by decide +kernel, by decide +kernel⟩
theorem d5_156 : D5 156 3 := ⟨by decide +kernel, by decide +kernel, by decide +kernel, by decide +kernel, by decide +kernel⟩
theorem d5_161 : D5 161 4 := ⟨by decide +kernel, by decide +kernel, by decide +kernel, by decide +kernel, by decide +kernel⟩
theorem d5_170 : D5 170 1 := ⟨by decide +kernel, by decide +kernel, by decide +kernel, by decide +kernel, by decide +kernel⟩
theorem d5_175 : D5 175 2 := ⟨by decide +kernel, by decide +kernel, by decide +kernel, by decide +kernel, by decide +kernel⟩
theorem d5_180 : D5 180 3 := ⟨by decide +kernel, by decide +kernel, by decide +kernel, by decide +kernel, by decide +kernel⟩
theorem d5_185 : D5 185 4 := ⟨by decide +kernel, by decide +kernel, by decide +kernel, by decide +kernel, by decide +kernel⟩
theorem dc_1 : DC 145 4 18 22 532 := ⟨by decide +kernel, fun j hj => match j, hj with | 0, _ => d5_146 | 1, _ => d5_151 | 2, _ => d5_156 | 3, _ => d5_161 | n + 4, h => absurd h (by omega), by decide +kernel, by decide +kernel, fun j hj => match j, hj with | 0, _ => d5_170 | 1, _ => d5_175 | 2, _ => d5_180 | 3, _ => d5_185 | n + 4, h => absurd h (by omega), by decide +kernel, by decide +kernel, by decide⟩
theorem d5_199 : D5 199 1 := ⟨by decide +kernel, by decide +kernel, by decide +kernel, by decide +kernel, by decide +kernel⟩
theorem d5_204 : D5 204 2 := ⟨by decide +kernel, by decide +kernel, by decide +kernel, by decide +kernel, by decide +kernel⟩
theorem d5_213 : D5 213 1 := ⟨by decide +kernel, by decide +kernel, by decide +kernel, by decide +kernel, by decide +kernel⟩
theorem d5_218 : D5 218 2 := ⟨by decide +kernel, by decide +kernel, by decide +kernel, by decide +kernel, by decide +kernel⟩
theorem dc_2 : DC 198 2 23 27 499 := ⟨by decide +kernel, fun j hj => match j, hj with | 0, _ => d5_199 | 1, _ => d5_204 | n + 2, h => absurd h (by omega), by decide +kernel, by decide +kernel, fun j hj => match j, hj with | 0, _ => d5_213 | 1, _ => d5_218 | n + 2, h => absurd h (by omega), by decide +kernel, by decide +kernel, by decide⟩
theorem d5_232 : D5 232 1 := ⟨by decide +kernel, by decide +kernel, by decide +kernel, by decide +kernel, by decide +kernel⟩
theorem d5_237 : D5 237 2 := ⟨by decide +kernel, by decide +kernel, by decide +kernel, by decide +kernel, by decide +kernel⟩
theorem d5_246 : D5 246 1 := ⟨by decide +kernel, by decide +kernel, by decide +kernel, by decide +kernel, by decide +kernel⟩
theorem d5_251 : D5 251 2 := ⟨by decide +kernel, by decide +kernel, by decide +kernel, by decide +kernel, by decide +kernel⟩
theorem dc_3 : DC 231 2 28 31 466 := ⟨by decide +kernel, fun j hj => match j, hj with | 0, _ => d5_232 | 1, _ => d5_237 | n + 2, h => absurd h (by omega), by decide +kernel, by decide +kernel, fun j hj => match j, hj with | 0, _ => d5_246 | 1, _ => d5_251 | n + 2, h => absurd h (by omega), by decide +kernel, by decide +kernel, by decide⟩
theorem d5_265 : D5 265 1 := ⟨by decide +kernel, by decide +kernel, by decide +kernel, by decide +kernel, by decide +kernel⟩
theorem d5_270 : D5 270 2 := ⟨by decide +kernel, by decide +kernel, by decide +kernel, by decide +kernel, by decide +kernel⟩
theorem d5_275 : D5 275 3 := ⟨by decide +kernel, by decide +kernel, by decide +kernel, by decide +kernel, by decide +kernel⟩
theorem d5_280 : D5 280 4 := ⟨by decide +kernel, by decide +kernel, by decide +kernel, by decide +kernel, by decide +kernel⟩
theorem d5_289 : D5 289 1 := ⟨by decide +kernel, by decide +kernel, by decide +kernel, by decide +kernel, by decide +kernel⟩
theorem d5_294 : D5 294 2 := ⟨by decide +kernel, by decide +kernel, by decide +kernel, by decide +kernel, by decide +kernel⟩
theorem d5_299 : D5 299 3 := ⟨by decide +kernel, by decide +kernel, by decide +kernel, by decide +kernel, by decide +kernel⟩
theorem d5_304 : D5 304 4 := ⟨by decide +kernel, by decide +kernel, by decide +kernel, by decide +kernel, by decide +kernel⟩
theorem dc_4 : DC 264 4 32 35 413 := ⟨by decide +kernel, fun j hj => match j, hj with | 0, _ => d5_265 | 1, _ => d5_270 | 2, _ => d5_275 | 3, _ => d5_280 | n + 4, h => absurd h (by omega), by decide +kernel, by decide +kernel, fun j hj => match j, hj with | 0, _ => d5_289 | 1, _ => d5_294 | 2, _ => d5_299 | 3, _ => d5_304 | n + 4, h => absurd h (by omega), by decide +kernel, by decide +kernel, by decide⟩
theorem d5_318 : D5 318 1 := ⟨by decide +kernel, by decide +kernel, by decide +kernel, by decide +kernel, by decide +kernel⟩
theorem d5_323 : D5 323 2 := ⟨by decide +kernel, by decide +kernel, by decide +kernel, by decide +kernel, by decide +kernel⟩
theorem d5_332 : D5 332 1 := ⟨by decide +kernel, by decide +kernel, by decide +kernel, by decide +kernel, by decide +kernel⟩
theorem d5_337 : D5 337 2 := ⟨by decide +kernel, by decide +kernel, by decide +kernel, by decide +kernel, by decide +kernel⟩
theorem dc_5 : DC 317 2 36 39 380 := ⟨by decide +kernel, fun j hj => match j, hj with | 0, _ => d5_318 | 1, _ => d5_323 | n + 2, h => absurd h (by omega), by decide +kernel, by decide +kernel, fun j hj => match j, hj with | 0, _ => d5_332 | 1, _ => d5_337 | n + 2, h => absurd h (by omega), by decide +kernel, by decide +kernel, by decide⟩
theorem d5_351 : D5 351 1 := ⟨by decide +kernel, by decide +kernel, by decide +kernel, by decide +kernel, by decide +kernel⟩
theorem d5_356 : D5 356 2 := ⟨by decide +kernel, by decide +kernel, by decide +kernel, by decide +kernel, by decide +kernel⟩
theorem d5_365 : D5 365 1 := ⟨by decide +kernel, by decide +kernel, by decide +kernel, by decide +kernel, by decide +kernel⟩
theorem d5_370 : D5 370 2 := ⟨by decide +kernel, by decide +kernel, by decide +kernel, by decide +kernel, by decide +kernel⟩
theorem dc_6 : DC 350 2 40 43 347 := ⟨by decide +kernel, fun j hj => match j, hj with | 0, _ => d5_351 | 1, _ => d5_356 | n + 2, h => absurd h (by omega), by decide +kernel, by decide +kernel, fun j hj => match j, hj with | 0, _ => d5_365 | 1, _ => d5_370 | n + 2, h => absurd h (by omega), by decide +kernel, by decide +kernel, by decide⟩
theorem d5_384 : D5 384 1 := ⟨by decide +kernel, by decide +kernel, by decide +kernel, by decide +kernel, by decide +kernel⟩
theorem d5_393 : D5 393 1 := ⟨by decide +kernel, by decide +kernel, by decide +kernel, by decide +kernel, by decide +kernel⟩
theorem dc_7 : DC 383 1 44 48 324 := ⟨by decide +kernel, fun j hj => match j, hj with | 0, _ => d5_384 | n + 1, h => absurd h (by omega), by decide +kernel, by decide +kernel, fun j hj => match j, hj with | 0, _ => d5_393 | n + 1, h => absurd h (by omega), by decide +kernel, by decide +kernel, by decide⟩
theorem d5_407 : D5 407 1 := ⟨by decide +kernel, by decide +kernel, by decide +kernel, by decide +kernel, by decide +kernel⟩
theorem d5_412 : D5 412 2 := ⟨by decide +kernel, by decide +kernel, by decide +kernel, by decide +kernel, by decide +kernel⟩
theorem d5_417 : D5 417 3 := ⟨by decide +kernel, by decide +kernel, by decide +kernel, by decide +kernel, by decide +kernel⟩
theorem d5_426 : D5 426 1 := ⟨by decide +kernel, by decide +kernel, by decide +kernel, by decide +kernel, by decide +kernel⟩
theorem d5_431 : D5 431 2 := ⟨by decide +kernel, by decide +kernel, by decide +kernel, by decide +kernel, by decide +kernel⟩
theorem d5_436 : D5 436 3 := ⟨by decide +kernel, by decide +kernel, by decide +kernel, by decide +kernel, by decide +kernel⟩
theorem dc_8 : DC 406 3 49 53 281 := ⟨by decide +kernel, fun j hj => match j, hj with | 0, _ => d5_407 | 1, _ => d5_412 | 2, _ => d5_417 | n + 3, h => absurd h (by omega), by decide +kernel, by decide +kernel, fun j hj => match j, hj with | 0, _ => d5_426 | 1, _ => d5_431 | 2, _ => d5_436 | n + 3, h => absurd h (by omega), by decide +kernel, by decide +kernel, by decide⟩
theorem dc_9 : DC 449 0 54 57 268 := ⟨by decide +kernel, fun j hj => absurd hj (Nat.not_lt_zero j), by decide +kernel, by decide +kernel, fun j hj => absurd hj (Nat.not_lt_zero j), by decide +kernel, by decide +kernel, by decide⟩
theorem dc_10 : DC 462 0 58 61 255 := ⟨by decide +kernel, fun j hj => absurd hj (Nat.not_lt_zero j), by decide +kernel, by decide +kernel, fun j hj => absurd hj (Nat.not_lt_zero j), by decide +kernel, by decide +kernel, by decide⟩
theorem d5_476 : D5 476 1 := ⟨by decide +kernel, by decide +kernel, by decide +kernel, by decide +kernel, by decide +kernel⟩
theorem d5_485 : D5 485 1 := ⟨by decide +kernel, by decide +kernel, by decide +kernel, by decide +kernel, by decide +kernel⟩
theorem dc_11 : DC 475 1 62 65 232 := ⟨by decide +kernel, fun j hj => match j, hj with | 0, _ => d5_476 | n + 1, h => absurd h (by omega), by decide +kernel, by decide +kernel, fun j hj => match j, hj with | 0, _ => d5_485 | n + 1, h => absurd h (by omega), by decide +kernel, by decide +kernel, by decide⟩
theorem d5_499 : D5 499 1 := ⟨by decide +kernel, by decide +kernel, by decide +kernel, by decide +kernel, by decide +kernel⟩
theorem d5_508 : D5 508 1 := ⟨by decide +kernel, by decide +kernel, by decide +kernel, by decide +kernel, by decide +kernel⟩
theorem dc_12 : DC 498 1 66 69 209 := ⟨by decide +kernel, fun j hj => match j, hj with | 0, _ => d5_499 | n + 1, h => absurd h (by omega), by decide +kernel, by decide +kernel, fun j hj => match j, hj with | 0, _ => d5_508 | n + 1, h => absurd h (by omega), by decide +kernel, by decide +kernel, by decide⟩
theorem d5_522 : D5 522 1 := ⟨by decide +kernel, by decide +kernel, by decide +kernel, by decide +kernel, by decide +kernel⟩
theorem d5_527 : D5 527 2 := ⟨by decide +kernel, by decide +kernel, by decide +kernel, by decide +kernel, by decide +kernel⟩
theorem d5_536 : D5 536 1 := ⟨by decide +kernel, by decide +kernel, by decide +kernel, by decide +kernel, by decide +kernel⟩
theorem d5_541 : D5 541 2 := ⟨by decide +kernel, by decide +kernel, by decide +kernel, by decide +kernel, by decide +kernel⟩
theorem dc_13 : DC 521 2 70 73 176 := ⟨by decide +kernel, fun j hj => match j, hj with | 0, _ => d5_522 | 1, _ => d5_527 | n + 2, h => absurd h (by omega), by decide +kernel, by decide +kernel, fun j hj => match j, hj with | 0, _ => d5_536 | 1, _ => d5_541 | n + 2, h => absurd h (by omega), by decide +kernel, by decide +kernel, by decide⟩
theorem d5_555 : D5 555 1 := ⟨by decide +kernel, by decide +kernel, by decide +kernel, by decide +kernel, by decide +kernel⟩
theorem d5_560 : D5 560 2 := ⟨by decide +kernel, by decide +kernel, by decide +kernel, by decide +kernel, by decide +kernel⟩
theorem d5_569 : D5 569 1 := ⟨by decide +kernel, by decide +kernel, by decide +kernel, by decide +kernel, by decide +kernel⟩
theorem d5_574 : D5 574 2 := ⟨by decide +kernel, by decide +kernel, by decide +kernel, by decide +kernel, by decide +kernel⟩
theorem dc_14 : DC 554 2 74 77 143 := ⟨by decide +kernel, fun j hj => match j, hj with | 0, _ => d5_555 | 1, _ => d5_560 | n + 2, h => absurd h (by omega), by decide +kernel, by decide +kernel, fun j hj => match j, hj with | 0, _ => d5_569 | 1, _ => d5_574 | n + 2, h => absurd h (by omega), by decide +kernel, by decide +kernel, by decide⟩
theorem d5_588 : D5 588 1 := ⟨by decide +kernel, by decide +kernel, by decide +kernel, by decide +kernel, by decide +kernel⟩
theorem d5_597 : D5 597 1 := ⟨by decide +kernel, by decide +kernel, by decide +kernel, by decide +kernel, by decide +kernel⟩
theorem dc_15 : DC 587 1 78 81 120 := ⟨by decide +kernel, fun j hj => match j, hj with | 0, _ => d5_588 | n + 1, h => absurd h (by omega), by decide +kernel, by decide +kernel, fun j hj => match j, hj with | 0, _ => d5_597 | n + 1, h => absurd h (by omega), by decide +kernel, by decide +kernel, by decide⟩
theorem d5_611 : D5 611 1 := ⟨by decide +kernel, by decide +kernel, by decide +kernel, by decide +kernel, by decide +kernel⟩
theorem d5_616 : D5 616 2 := ⟨by decide +kernel, by decide +kernel, by decide +kernel, by decide +kernel, by decide +kernel⟩
theorem d5_625 : D5 625 1 := ⟨by decide +kernel, by decide +kernel, by decide +kernel, by decide +kernel, by decide +kernel⟩
theorem d5_630 : D5 630 2 := ⟨by decide +kernel, by decide +kernel, by decide +kernel, by decide +kernel, by decide +kernel⟩
theorem dc_16 : DC 610 2 82 85 87 := ⟨by decide +kernel, fun j hj => match j, hj with | 0, _ => d5_611 | 1, _ => d5_616 | n + 2, h => absurd h (by omega), by decide +kernel, by decide +kernel, fun j hj => match j, hj with | 0, _ => d5_625 | 1, _ => d5_630 | n + 2, h => absurd h (by omega), by decide +kernel, by decide +kernel, by decide⟩
theorem d5_644 : D5 644 1 := ⟨by decide +kernel, by decide +kernel, by decide +kernel, by decide +kernel, by decide +kernel⟩
theorem d5_653 : D5 653 1 := ⟨by decide +kernel, by decide +kernel, by decide +kernel, by decide +kernel, by decide +kernel⟩
theorem dc_17 : DC 643 1 86 89 64 := ⟨by decide +kernel, fun j hj => match j, hj with | 0, _ => d5_644 | n + 1, h => absurd h (by omega), by decide +kernel, by decide +kernel, fun j hj => match j, hj with | 0, _ => d5_653 | n + 1, h => absurd h (by omega), by decide +kernel, by decide +kernel, by decide⟩
theorem d5_667 : D5 667 1 := ⟨by decide +kernel, by decide +kernel, by decide +kernel, by decide +kernel, by decide +kernel⟩
theorem d5_676 : D5 676 1 := ⟨by decide +kernel, by decide +kernel, by decide +kernel, by decide +kernel, by decide +kernel⟩
theorem dc_18 : DC 666 1 90 93 41 := ⟨by decide +kernel, fun j hj => match j, hj with | 0, _ => d5_667 | n + 1, h => absurd h (by omega), by decide +kernel, by decide +kernel, fun j hj => match j, hj with | 0, _ => d5_676 | n + 1, h => absurd h (by omega), by decide +kernel, by decide +kernel, by decide⟩
theorem dc_19 : DC 689 0 94 97 28 := ⟨by decide +kernel, fun j hj => absurd hj (Nat.not_lt_zero j), by decide +kernel, by decide +kernel, fun j hj => absurd hj (Nat.not_lt_zero j), by decide +kernel, by decide +kernel, by decide⟩
theorem d5_703 : D5 703 1 := ⟨by decide +kernel, by decide +kernel, by decide +kernel, by decide +kernel, by decide +kernel⟩
theorem d5_712 : D5 712 1 := ⟨by decide +kernel, by decide +kernel, by decide +kernel, by decide +kernel, by decide +kernel⟩
theorem dc_20 : DC 702 1 98 101 5 := ⟨by decide +kernel, fun j hj => match j, hj with | 0, _ => d5_703 | n + 1, h => absurd h (by omega), by decide +kernel, by decide +kernel, fun j hj => match j, hj with | 0, _ => d5_712 | n + 1, h => absurd h (by omega), by decide +kernel, by decide +kernel, by decide⟩
/-- the law's loop -/
theorem y_loop {cells slots : Nat} (C0 : lw_At p s m meth c b L xs) (hK : xK G tc s) (hL : L ≤ 320) (hc1 : cells ≤ 600000) (hc2 : slots ≤ 7302250) : ∀ (j t : Nat) (ws : xW), L < 5 * (t + j) + 5 → 5 * t ≤ L + 5 → LI ws t → yW p l e s m below meth c b G tc (yL b s.heap.size (5 * t)) cells slots 18 [] 142 ws := by
  obtain ⟨hx, hb, hr, hml, hown, hts, hX, hbl, hlocks, hgv⟩ := id C0
  have hbA : ¬ (fun q : Nat => s.heap.size ≤ q) b := Nat.not_le.mpr hbl
  intro j
  induction j with
  | zero =>
    intro t ws h1 h2 hI H locs ls hR hS hl
    refine lv_iload_n hx hb h_18 rfl (lv_at hl 3 rfl) ?_
    refine lv_aload_n hx hb h_19 rfl (lv_at hl 0 rfl) ?_
    refine va_slen hx hb hX hbl hbA hS h_20 ?_
    refine lv_iconst (v := I 5) hx hb h_21 rfl ?_
    refine lv_isub hx hb h_22 ?_
    rw [show Int32.ofNat L = I (L : Int) from I_nI L, I_sub]
    refine lv_icmp_gt (tgt := 731) hx hb h_23 (by decide) (fun hc => ?_) (fun hc => ?_)
    · refine lv_iconst (v := 1) hx hb h_731 rfl ?_
      refine va_forget (fun q hq => hS.2.2 q hq) ?_
      refine W.widen (k := 600000) (n := 7302250) hc1 hc2 ?_
      exact lw_ret hx hb hr hlocks h_732
    · exact absurd (by rw [I_lt (by omega) (by omega) (by omega) (by omega)]; omega) hc
  | succ j ih =>
    intro t ws h1 h2 hI H locs ls hR hS hl
    refine lv_iload_n hx hb h_18 rfl (lv_at hl 3 rfl) ?_
    refine lv_aload_n hx hb h_19 rfl (lv_at hl 0 rfl) ?_
    refine va_slen hx hb hX hbl hbA hS h_20 ?_
    refine lv_iconst (v := I 5) hx hb h_21 rfl ?_
    refine lv_isub hx hb h_22 ?_
    rw [show Int32.ofNat L = I (L : Int) from I_nI L, I_sub]
    refine lv_icmp_gt (tgt := 731) hx hb h_23 (by decide) (fun hc => ?_) (fun hc => ?_)
    · refine lv_iconst (v := 1) hx hb h_731 rfl ?_
      refine va_forget (fun q hq => hS.2.2 q hq) ?_
      refine W.widen (k := 600000) (n := 7302250) hc1 hc2 ?_
      exact lw_ret hx hb hr hlocks h_732
    · rw [I_lt (by omega) (by omega) (by omega) (by omega)] at hc
      have hlt : 5 * t + 4 < L := by omega
      have nxt : ∀ ws2, LI ws2 (t + 1) → yW p l e s m below meth c b G tc (yL b s.heap.size (5 * t)) cells slots 725 [] 142 ws2 := by
        intro ws2 hI2 H locs ls hR hS hl
        refine lv_iinc (v := I ((5 * (t + 1) : Nat) : Int)) (lv' := [(3, .int (I ((5 * (t + 1) : Nat) : Int))), (0, .ref b), (1, .ref (s.heap.size + 0)), (2, .ref (s.heap.size + 121))]) hx hb h_725 hl (k := 3) rfl ?_ (by decide) rfl (fun ls hl => ?_)
        · show I ((5 * t : Nat) : Int) + I 5 = _
          rw [I_add]
          congr 1
        · refine lv_goto (tgt := 18) hx hb h_728 (by decide) ?_
          exact ih (t + 1) ws2 (by omega) (by omega) hI2 H locs ls hR hS (lv_sub hl [1, 2, 3, 0] rfl)
      refine lv_aload_n hx hb h_26 rfl (lv_at hl 0 rfl) ?_
      refine lv_iload_n hx hb h_27 rfl (lv_at hl 3 rfl) ?_
      have hv : vp_in (I ((5 * t : Nat) : Int)) L := by rw [I_in (by omega) (by omega)]; omega
      refine va_sld hx hb hX hbl hbA hS hv h_28 ?_
      refine lv_bipush (v := I 31) hx hb h_29 (by decide) ?_
      refine lv_iand hx hb h_31 ?_
      generalize xs (I ((5 * t : Nat) : Int)).toNatClampNeg &&& I 31 = x
      by_cases hout : x.toInt < 0 ∨ 20 < x.toInt
      · refine lv_tableOut (tgt := 725) hx hb h_32 hout (by decide) ?_
        refine nxt ws ?_ H locs ls hR hS hl
        obtain ⟨S, ver, wv, fA, fM, hw, hC, hKC, hM, hok, hfm, hfz, hv, hwv⟩ := hI
        exact ⟨S, ver, wv, fA, fM, hw, hC, hKC, hM, hok, hfm, hfz, by omega, by omega⟩
      · have hcase : x.toInt = 0 ∨ x.toInt = 1 ∨ x.toInt = 2 ∨ x.toInt = 3 ∨ x.toInt = 4 ∨ x.toInt = 5 ∨ x.toInt = 6 ∨ x.toInt = 7 ∨ x.toInt = 8 ∨ x.toInt = 9 ∨ x.toInt = 10 ∨ x.toInt = 11 ∨ x.toInt = 12 ∨ x.toInt = 13 ∨ x.toInt = 14 ∨ x.toInt = 15 ∨ x.toInt = 16 ∨ x.toInt = 17 ∨ x.toInt = 18 ∨ x.toInt = 19 ∨ x.toInt = 20 := by omega
        rcases hcase with hcc | hcc | hcc | hcc | hcc | hcc | hcc | hcc | hcc | hcc | hcc | hcc | hcc | hcc | hcc | hcc | hcc | hcc | hcc | hcc | hcc
        · refine lv_tableIn (tgt := 132) (off := 100) hx hb h_32 (by omega) (by omega) (by rw [hcc]; rfl) (by decide) ?_
          exact y_case C0 hK hL (k := 0) (by omega) dc_0 mX9_node mX10_node k11_13 k11_17 rfl rfl hc1 hc2 hI (op_node hI (by omega)) nxt H locs ls hR hS hl
        · refine lv_tableIn (tgt := 145) (off := 113) hx hb h_32 (by omega) (by omega) (by rw [hcc]; rfl) (by decide) ?_
          exact y_case C0 hK hL (k := 4) (by omega) dc_1 mX9_arc mX10_arc k11_18 k11_22 rfl rfl hc1 hc2 hI (by
            have hop := op_arc (l := l) hI (by omega) (a := (xs (5 * t + 1)).toInt) (b := (xs (5 * t + 2)).toInt) (c := (xs (5 * t + 3)).toInt) (k := (xs (5 * t + 4)).toInt) (I_bd _).1 (I_bd _).2 (I_bd _).1 (I_bd _).2 (I_bd _).1 (I_bd _).2 (I_bd _).1 (I_bd _).2
            simp only [← I_of] at hop
            exact hop) nxt H locs ls hR hS hl
        · refine lv_tableIn (tgt := 198) (off := 166) hx hb h_32 (by omega) (by omega) (by rw [hcc]; rfl) (by decide) ?_
          exact y_case C0 hK hL (k := 2) (by omega) dc_2 mX9_capacity mX10_capacity k11_23 k11_27 rfl rfl hc1 hc2 hI (by
            have hop := op_capacity (l := l) hI (by omega) (a := (xs (5 * t + 1)).toInt) (b := (xs (5 * t + 2)).toInt) (I_bd _).1 (I_bd _).2 (I_bd _).1 (I_bd _).2
            simp only [← I_of] at hop
            exact hop) nxt H locs ls hR hS hl
        · refine lv_tableIn (tgt := 231) (off := 199) hx hb h_32 (by omega) (by omega) (by rw [hcc]; rfl) (by decide) ?_
          exact y_case C0 hK hL (k := 2) (by omega) dc_3 mX9_cost mX10_cost k11_28 k11_31 rfl rfl hc1 hc2 hI (by
            have hop := op_cost (l := l) hI (by omega) (a := (xs (5 * t + 1)).toInt) (b := (xs (5 * t + 2)).toInt) (I_bd _).1 (I_bd _).2 (I_bd _).1 (I_bd _).2
            simp only [← I_of] at hop
            exact hop) nxt H locs ls hR hS hl
        · refine lv_tableIn (tgt := 264) (off := 232) hx hb h_32 (by omega) (by omega) (by rw [hcc]; rfl) (by decide) ?_
          exact y_case C0 hK hL (k := 4) (by omega) dc_4 mX9_good mX10_good k11_32 k11_35 rfl rfl hc1 hc2 hI (by
            have hop := op_good (l := l) hI (by omega) (a := (xs (5 * t + 1)).toInt) (b := (xs (5 * t + 2)).toInt) (c := (xs (5 * t + 3)).toInt) (k := (xs (5 * t + 4)).toInt) (I_bd _).1 (I_bd _).2 (I_bd _).1 (I_bd _).2 (I_bd _).1 (I_bd _).2 (I_bd _).1 (I_bd _).2
            simp only [← I_of] at hop
            exact hop) nxt H locs ls hR hS hl
        · refine lv_tableIn (tgt := 317) (off := 285) hx hb h_32 (by omega) (by omega) (by rw [hcc]; rfl) (by decide) ?_
          exact y_case C0 hK hL (k := 2) (by omega) dc_5 mX9_demand mX10_demand k11_36 k11_39 rfl rfl hc1 hc2 hI (by
            have hop := op_demand (l := l) hI (by omega) (a := (xs (5 * t + 1)).toInt) (b := (xs (5 * t + 2)).toInt) (I_bd _).1 (I_bd _).2 (I_bd _).1 (I_bd _).2
            simp only [← I_of] at hop
            exact hop) nxt H locs ls hR hS hl
        · refine lv_tableIn (tgt := 350) (off := 318) hx hb h_32 (by omega) (by omega) (by rw [hcc]; rfl) (by decide) ?_
          exact y_case C0 hK hL (k := 2) (by omega) dc_6 mX9_worth mX10_worth k11_40 k11_43 rfl rfl hc1 hc2 hI (by
            have hop := op_worth (l := l) hI (by omega) (a := (xs (5 * t + 1)).toInt) (b := (xs (5 * t + 2)).toInt) (I_bd _).1 (I_bd _).2 (I_bd _).1 (I_bd _).2
            simp only [← I_of] at hop
            exact hop) nxt H locs ls hR hS hl
        · refine lv_tableIn (tgt := 383) (off := 351) hx hb h_32 (by omega) (by omega) (by rw [hcc]; rfl) (by decide) ?_
          exact y_case C0 hK hL (k := 1) (by omega) dc_7 mX9_ways mX10_ways k11_44 k11_48 rfl rfl hc1 hc2 hI (by
            have hop := op_ways (l := l) hI (by omega) (a := (xs (5 * t + 1)).toInt) (I_bd _).1 (I_bd _).2
            simp only [← I_of] at hop
            exact hop) nxt H locs ls hR hS hl
        · refine lv_tableIn (tgt := 406) (off := 374) hx hb h_32 (by omega) (by omega) (by rw [hcc]; rfl) (by decide) ?_
          exact y_case C0 hK hL (k := 3) (by omega) dc_8 mX9_way mX10_way k11_49 k11_53 rfl rfl hc1 hc2 hI (by
            have hop := op_way (l := l) hI (by omega) (a := (xs (5 * t + 1)).toInt) (b := (xs (5 * t + 2)).toInt) (c := (xs (5 * t + 3)).toInt) (I_bd _).1 (I_bd _).2 (I_bd _).1 (I_bd _).2 (I_bd _).1 (I_bd _).2
            simp only [← I_of] at hop
            exact hop) nxt H locs ls hR hS hl
        · refine lv_tableIn (tgt := 449) (off := 417) hx hb h_32 (by omega) (by omega) (by rw [hcc]; rfl) (by decide) ?_
          exact y_case C0 hK hL (k := 0) (by omega) dc_9 mX9_best mX10_best k11_54 k11_57 rfl rfl hc1 hc2 hI (op_best hI (by omega)) nxt H locs ls hR hS hl
        · refine lv_tableIn (tgt := 462) (off := 430) hx hb h_32 (by omega) (by omega) (by rw [hcc]; rfl) (by decide) ?_
          exact y_case C0 hK hL (k := 0) (by omega) dc_10 mX9_spent mX10_spent k11_58 k11_61 rfl rfl hc1 hc2 hI (op_spent hI (by omega)) nxt H locs ls hR hS hl
        · refine lv_tableIn (tgt := 475) (off := 443) hx hb h_32 (by omega) (by omega) (by rw [hcc]; rfl) (by decide) ?_
          exact y_case C0 hK hL (k := 1) (by omega) dc_11 mX9_plan mX10_plan k11_62 k11_65 rfl rfl hc1 hc2 hI (by
            have hop := op_plan (l := l) hI (by omega) (a := (xs (5 * t + 1)).toInt) (I_bd _).1 (I_bd _).2
            simp only [← I_of] at hop
            exact hop) nxt H locs ls hR hS hl
        · refine lv_tableIn (tgt := 498) (off := 466) hx hb h_32 (by omega) (by omega) (by rw [hcc]; rfl) (by decide) ?_
          exact y_case C0 hK hL (k := 1) (by omega) dc_12 mX9_load mX10_load_ k11_66 k11_69 rfl rfl hc1 hc2 hI (by
            have hop := op_load (l := l) hI (by omega) (a := (xs (5 * t + 1)).toInt) (I_bd _).1 (I_bd _).2
            simp only [← I_of] at hop
            exact hop) nxt H locs ls hR hS hl
        · refine lv_tableIn (tgt := 521) (off := 489) hx hb h_32 (by omega) (by omega) (by rw [hcc]; rfl) (by decide) ?_
          exact y_case C0 hK hL (k := 2) (by omega) dc_13 mX9_price mX10_price k11_70 k11_73 rfl rfl hc1 hc2 hI (by
            have hop := op_price (l := l) hI (by omega) (a := (xs (5 * t + 1)).toInt) (b := (xs (5 * t + 2)).toInt) (I_bd _).1 (I_bd _).2 (I_bd _).1 (I_bd _).2
            simp only [← I_of] at hop
            exact hop) nxt H locs ls hR hS hl
        · refine lv_tableIn (tgt := 554) (off := 522) hx hb h_32 (by omega) (by omega) (by rw [hcc]; rfl) (by decide) ?_
          exact y_case C0 hK hL (k := 2) (by omega) dc_14 mX9_attempt mX10_attempt k11_74 k11_77 rfl rfl hc1 hc2 hI (by
            have hop := op_attempt (l := l) hI (by omega) (a := (xs (5 * t + 1)).toInt) (b := (xs (5 * t + 2)).toInt) (I_bd _).1 (I_bd _).2 (I_bd _).1 (I_bd _).2
            simp only [← I_of] at hop
            exact hop) nxt H locs ls hR hS hl
        · refine lv_tableIn (tgt := 587) (off := 555) hx hb h_32 (by omega) (by omega) (by rw [hcc]; rfl) (by decide) ?_
          exact y_case C0 hK hL (k := 1) (by omega) dc_15 mX9_attempted mX10_attempted k11_78 k11_81 rfl rfl hc1 hc2 hI (by
            have hop := op_attempted (l := l) hI (by omega) (a := (xs (5 * t + 1)).toInt) (I_bd _).1 (I_bd _).2
            simp only [← I_of] at hop
            exact hop) nxt H locs ls hR hS hl
        · refine lv_tableIn (tgt := 610) (off := 578) hx hb h_32 (by omega) (by omega) (by rw [hcc]; rfl) (by decide) ?_
          exact y_case C0 hK hL (k := 2) (by omega) dc_16 mX9_rate mX10_rate k11_82 k11_85 rfl rfl hc1 hc2 hI (by
            have hop := op_rate (l := l) hI (by omega) (a := (xs (5 * t + 1)).toInt) (b := (xs (5 * t + 2)).toInt) (I_bd _).1 (I_bd _).2 (I_bd _).1 (I_bd _).2
            simp only [← I_of] at hop
            exact hop) nxt H locs ls hR hS hl
        · refine lv_tableIn (tgt := 643) (off := 611) hx hb h_32 (by omega) (by omega) (by rw [hcc]; rfl) (by decide) ?_
          exact y_case C0 hK hL (k := 1) (by omega) dc_17 mX9_bottleneck mX10_bottleneck k11_86 k11_89 rfl rfl hc1 hc2 hI (by
            have hop := op_bottleneck (l := l) hI (by omega) (a := (xs (5 * t + 1)).toInt) (I_bd _).1 (I_bd _).2
            simp only [← I_of] at hop
            exact hop) nxt H locs ls hR hS hl
        · refine lv_tableIn (tgt := 666) (off := 634) hx hb h_32 (by omega) (by omega) (by rw [hcc]; rfl) (by decide) ?_
          exact y_case C0 hK hL (k := 1) (by omega) dc_18 mX9_more mX10_more k11_90 k11_93 rfl rfl hc1 hc2 hI (by
            have hop := op_more (l := l) hI (by omega) (a := (xs (5 * t + 1)).toInt) (I_bd _).1 (I_bd _).2
            simp only [← I_of] at hop
            exact hop) nxt H locs ls hR hS hl
        · refine lv_tableIn (tgt := 689) (off := 657) hx hb h_32 (by omega) (by omega) (by rw [hcc]; rfl) (by decide) ?_
          exact y_case C0 hK hL (k := 0) (by omega) dc_19 mX9_cut mX10_cut k11_94 k11_97 rfl rfl hc1 hc2 hI (op_cut hI (by omega)) nxt H locs ls hR hS hl
        · refine lv_tableIn (tgt := 702) (off := 670) hx hb h_32 (by omega) (by omega) (by rw [hcc]; rfl) (by decide) ?_
          exact y_case C0 hK hL (k := 1) (by omega) dc_20 mX9_count mX10_count k11_98 k11_101 rfl rfl hc1 hc2 hI (by
            have hop := op_count (l := l) hI (by omega) (a := (xs (5 * t + 1)).toInt) (I_bd _).1 (I_bd _).2
            simp only [← I_of] at hop
            exact hop) nxt H locs ls hR hS hl
/-- the classes, array classes and nest links that the tables tell of -/
theorem y_known (C0 : lw_At p s m meth c b L xs) : ∃ (G : va_G) (tc : Nat → ClassId), xK G tc s := by
  obtain ⟨hx, hb, hr, hml, hown, hts, hX, hbl, hlocks, hgv⟩ := id C0
  have htx := y_tb C0
  have hcl : ∀ k : Nat, ∃ q : ClassId × (Nat → Nat), ∀ r : vw_C, vwCl[k]? = some r → u_Kn s r.1 r.2.1 r.2.2 q.1 q.2 := by
    intro k
    by_cases hk : k < 11
    · obtain ⟨C, T, N, ty, h1, h2, -, -, -, -, -, h3, -⟩ := xcls k hk
      obtain ⟨cC, iS, h4⟩ := u_known (n := N) htx h2 (htx _ h3)
      refine ⟨(cC, iS), fun r hr => ?_⟩
      cases h1.symm.trans hr
      exact h4
    · refine ⟨(default, fun _ => 0), fun r hr => ?_⟩
      have := (List.getElem?_eq_some_iff.mp hr).1
      have h11 : vwCl.length = 11 := rfl
      omega
  obtain ⟨c0, k0, m0, a1, a2, a3⟩ := Cond.arrayClass_spec (htx _ xac_int)
  obtain ⟨c1, k1, m1, b1, b2, b3⟩ := Cond.arrayClass_spec (htx _ xac_boolean)
  obtain ⟨c2, k2, m2, d1, d2, d3⟩ := Cond.arrayClass_spec (htx _ xac_long)
  have o6 := hts (.arrayOver (.object RX6)) (by decide +kernel)
  have o7 := hts (.arrayOver (.object RX7)) (by decide +kernel)
  have o2 := hts (.arrayOver (.object RX2)) (by decide +kernel)
  obtain ⟨m3, c3, k3, e1, e2, e3, e4, e5⟩ := Cond.arrayOver_spec o6
  obtain ⟨m4, c4, k4, f1, f2, f3, f4, f5⟩ := Cond.arrayOver_spec o7
  obtain ⟨m5, c5, k5, g1, g2, g3, g4, g5⟩ := Cond.arrayOver_spec o2
  refine ⟨(fun k => (Classical.choose (hcl k)).1, fun k => (Classical.choose (hcl k)).2), fun k => match k with | 0 => c0 | 1 => c1 | 2 => c2 | 3 => c3 | 4 => c4 | _ => c5, ⟨fun k r hr => Classical.choose_spec (hcl k) r hr, fun k q hq => ?_⟩, fun C hC => ?_, fun q hq => ?_⟩
  · match k, hq with
    | 0, hq => cases hq; exact ⟨fun n z => ⟨fun k h => (by cases h), k0, a2, m0, a3⟩, a1⟩
    | 1, hq => cases hq; exact ⟨fun n z => ⟨fun k h => (by cases h), k1, b2, m1, b3⟩, b1⟩
    | 2, hq => cases hq; exact ⟨fun n z => ⟨fun k h => (by cases h), k2, d2, m2, d3⟩, d1⟩
    | 3, hq => cases hq; exact ⟨fun n z => ⟨fun k h => (by cases h), k3, e3, m3, e4⟩, ⟨k3, m3, e3, e4, e1, e5⟩⟩
    | 4, hq => cases hq; exact ⟨fun n z => ⟨fun k h => (by cases h), k4, f3, m4, f4⟩, ⟨k4, m4, f3, f4, f1, f5⟩⟩
    | 5, hq => cases hq; exact ⟨fun n z => ⟨fun k h => (by cases h), k5, g3, m5, g4⟩, ⟨k5, m5, g3, g4, g1, g5⟩⟩
    | k + 6, hq => cases hq
  · rcases List.mem_cons.mp hC with rfl | hC
    · exact va_AO.of o6
    · rcases List.mem_cons.mp hC with rfl | hC
      · exact va_AO.of o7
      · rcases List.mem_cons.mp hC with rfl | hC
        · exact va_AO.of o2
        · cases hC
  · have hin : ∀ q ∈ xnest, Cond.methodLinkNest q.1 q.2.1 q.2.2.1 q.2.2.2 ∈ lw_tbl := by decide +kernel
    exact va_Nw.of rfl (hts _ (hin q hq))
/-- a new object -/
theorem y_new {idx a pc n cells slots : Nat} {st : List Value} {ws : xW} {lv : List (Nat × Value)} (C0 : lw_At p s m meth c b L xs) (hK : xK G tc s) (hq : (11, idx, a) ∈ xnwt) (hdec : decode code pc = .ok (.new idx, 3)) (hc1 : cells + 1 ≤ 600000) (hc2 : slots + (xdf a).length ≤ 7302250)
    (kk : yW p l e s m below meth c b G tc lv (cells + 1) (slots + (xdf a).length) (pc + 3) (.ref (s.heap.size + n) :: st) (n + 1) (xup ws n (a, .inr (.inr (.inr (xdf a)))))) : yW p l e s m below meth c b G tc lv cells slots pc st n ws := by
  obtain ⟨hx, hb, hr, hml, hown, hts0, hX, hbl, hlocks, hgv⟩ := id C0
  have hts := y_tb C0
  obtain ⟨ha, hlink⟩ := xnwt_ok _ hq
  try dsimp only at ha hlink
  obtain ⟨C, T, N, ty, hc, hin, hty, hnm2, hlen, hk0, hC0, hins, hini, hdcl⟩ := xcls _ ha
  have hKn := hK.1.1 _ _ hc
  have hxl : (xdf a).length = N := by rw [← hlen]; simp [xdf]
  rw [hxl] at hc2 kk
  intro H locs ls hR hS hl
  refine W.newcK hx hb hown (by rw [hC0]; exact hts _ hlink) (hts _ hins) (hts _ hini) rfl hdec hc1 hc2 hKn.2.1 rfl fun H1 kC hkC e1 z1 o1 => ?_
  have hbo := u_born ty hts hin hKn hkC e1 hty
  have := kk H1 locs ls (hR.push z1 o1 ⟨_, hc, hxl, hbo.to (fun k hk => by
      have hxt : (xdf a).getD k .null = match xtc a k with | 0 => Value.int 0 | 1 => Value.long 0 | _ => Value.null := by
        have hk2 : k < (xtcs.getD a []).length := by rw [hlen]; exact hk
        unfold xdf xtc
        rw [List.getD_eq_getElem?_getD, List.getElem?_map, List.getD_eq_getElem?_getD (l := xtcs.getD a []), List.getElem?_eq_getElem hk2]
        rfl
      show defaultValue (ty k) = xv s.heap.size ((xdf a).getD k .null)
      rw [hxt]
      rcases hk0 k hk with ⟨e1, e2⟩ | ⟨e1, e2⟩ | ⟨e1, e2⟩
      · rw [e1, e2]; rfl
      · rw [e1, e2]; rfl
      · rw [e1]; rcases e2 with ⟨D, e2⟩ | ⟨D, e2⟩ <;> rw [e2] <;> rfl)⟩) ⟨Nat.le_trans hS.1 (by omega), fun q h1 h2 => (o1 q (Nat.lt_of_lt_of_le h1 hS.1)).trans (hS.2.1 q h1 h2), hS.2.2⟩ hl
  rw [show H.size = s.heap.size + n from hR.1]
  exact this
/-- a constructor's call out of the law -/
theorem y_callI {y : xT} {idx pc n q cells slots cc cs : Nat} {rest : List Value} {ws : xW} {Q' : xP} {lv : List (Nat × Value)} (C0 : lw_At p s m meth c b L xs) (hK : xK G tc s) (hy : xMo y 0) (hyn : y.2.1.name = "<init>") (hyr : y.2.2.2.2 = none) (hl : xCI 11 idx y) (hdec : decode code pc = .ok (.invokespecial idx, 3)) (hrest : (rest.map fun v => v.category).sum ≤ 8) (hc1 : cells + cc ≤ 600000) (hc2 : slots + cs ≤ 7302250)
    (hM : xM l y 30 cc cs [.ref q] n ws Q') (kk : ∀ r n' ws', Q' r n' ws' → yW p l e s m below meth c b G tc lv (cells + cc) (slots + cs) (pc + 3) ((r.map (xv s.heap.size)).toList ++ rest) n' ws') : yW p l e s m below meth c b G tc lv cells slots pc (.ref (s.heap.size + q) :: rest) n ws := by
  obtain ⟨hx, hb, hr, hml, hown, hts0, hX, hbl, hlocks, hgv⟩ := id C0
  have hts := y_tb C0
  intro H locs ls hR hS hl2
  obtain ⟨hcode, hini, hmh, hpar, hmx, hpl, hyc⟩ := hy
  have hcode0 := hcode
  rw [hyr] at hcode
  have cw : CallB room_1 s #[Value.ref b] R_law idx y.2.1 y.2.2.1 y.2.2.2.1 none (xws y) (xrm 30 cc cs) cc cs 0 ∧ y.2.1.name = "<init>" ∧ (Cond.instanceMethod y.2.1).before #[Value.ref b] s = true := ⟨callB_of (ws' := xTB) 0 hts (xgood hcode0) (by unfold xws; rw [hyr]) rfl rfl (hts _ hini) (hts _ hl.1) ⟨hmh.1, hmh.2, hpar⟩ ⟨by show 30 + 1 ≤ 2048; omega, by show 8 + (y.2.2.2.1 + 11) + 48 * 30 ≤ 84000; omega⟩, hyn, hts _ hl.2⟩
  refine xcont (va_runI (As := []) (rest := rest) (b := s.heap.size + q) ⟨hx, hb, hml, hown, hts⟩ (hM G tc s.heap.size) cw ⟨xblind, fun U hU hW => ⟨rfl, by rw [hU]; exact hR, hK.warm hW⟩⟩ rfl rfl hl2.1 rfl (lv_room hrest) hdec ⟨hc1, hc2⟩) hS (fun r n' ws' H1 locs1 hq hR1 hS1 => ?_)
  exact kk r n' ws' hq H1 locs1 ls hR1 hS1 hl2
theorem LI_0 {u u' : xW} {fA fM : Nat → Int} (hC : PC u S0 0 0) (hK : KC u S0 0 fA) (hA : ∀ k, k < 6 → fA k = -1) (hM : KM u' S0 fM) (hq : ∀ q, q < 121 → u' q = u q) : LI u' 0 := by
  have hw : WF S0 := ⟨Nat.zero_le _, Nat.zero_le _, Nat.zero_le _, fun i hi => absurd hi (Nat.not_lt_zero i), fun i hi => absurd hi (Nat.not_lt_zero i)⟩
  exact ⟨S0, 0, 0, fA, fM, hw, hC.keep (fun q hh => hq q (by omega)), hK.keep hw (fun q _ _ _ h => hq q h), hM, fun i hi => by rw [hA i hi]; omega, fun g hg => absurd hg (Nat.not_lt_zero g), fun g _ hg => hA g hg, Int.le_refl _, Int.le_refl _⟩
end LAW2
/-- from the entry, for every script of at most 320 ints, the law comes to its end with true -/
theorem whole_start {p : Program} {e : Env} {s : State} {m : MethodId} {below : List Frame} {meth : Method} {c : Code} (l : Launch) {b L : Nat} {xs : Nat → Int32} (hL : L ≤ 320) (C0 : lw_At p s m meth c b L xs) : W p l e room_1 s m #[Value.ref b] below meth c s.heap [] 0 0 (lw_Z below #[Value.ref b] s) (entryFrame m ([Value.ref b] : List Value).toArray 4) := by
  obtain ⟨hx, hb, hr, hml, hown, hts, hX, hbl, hlocks, hgv⟩ := id C0
  obtain ⟨G, tc, hK⟩ := y_known C0
  have hl := lv_entry ([.ref b]) (n := 4) (Nat.le_of_ble_eq_true rfl)
  rw [lg_entry_eq]
  generalize (lg_sl ([.ref b]) ++ List.replicate (4 - (lg_sl ([.ref b])).length) Slot.unset).toArray = ls at hl ⊢
  have hl : lv_has ls 4 [(0, .ref b)] := hl
  have st : yW p l e s m below meth c b G tc [(0, .ref b)] 0 0 0 [] 0 (fun _ => none) := by
    refine y_new (a := 9) C0 hK (by decide) h_0 (by omega) (by rw [xd_9]; decide) ?_
    intro H locs ls hR hS hl
    refine lv_dup hx hb h_3 rfl ?_
    refine y_callI (cc := 120) (cs := 881) (q := 0) C0 hK mX9_init rfl rfl k11_9 h_4 (Nat.le_of_ble_eq_true rfl) (by omega) (by rw [xd_9]; decide) (w_X9 (xup_self _ _ _) (by omega)) ?_ H locs ls hR hS hl
    rintro r n1 ws1 ⟨rfl, rfl, hC1, fA, hK1, hA1⟩
    intro H locs ls hR hS hl
    refine lv_astore_n (lv' := [(1, .ref (s.heap.size + 0)), (0, .ref b)]) hx hb h_7 rfl hl (by decide) rfl (fun ls hl => ?_)
    refine y_new (a := 10) C0 hK (by decide) h_8 (by omega) (by rw [xd_9, xd_10]; decide) ?_ H locs ls hR hS hl
    intro H locs ls hR hS hl
    refine lv_dup hx hb h_11 rfl ?_
    refine y_callI (cc := 20) (cs := 556) (q := 121) C0 hK mX10_init rfl rfl k11_12 h_12 (Nat.le_of_ble_eq_true rfl) (by omega) (by rw [xd_9, xd_10]; decide) (w_X10 (xup_self _ _ _) (by omega)) ?_ H locs ls hR hS hl
    rintro r n2 ws2 ⟨rfl, rfl, ⟨fM, hM2⟩, hq2⟩
    intro H locs ls hR hS hl
    refine lv_astore_n (lv' := [(2, .ref (s.heap.size + 121)), (1, .ref (s.heap.size + 0)), (0, .ref b)]) hx hb h_15 rfl hl (by decide) rfl (fun ls hl => ?_)
    refine lv_iconst (v := I 0) hx hb h_16 rfl ?_
    refine lv_istore_n (lv' := [(3, .int (I 0)), (2, .ref (s.heap.size + 121)), (1, .ref (s.heap.size + 0)), (0, .ref b)]) hx hb h_17 rfl hl (by decide) rfl (fun ls hl => ?_)
    have hI : LI ws2 0 := LI_0 hC1 hK1 hA1 hM2 (fun q hq => (hq2 q hq).trans (xup_ne _ _ (by omega)))
    exact y_loop C0 hK hL (by omega) (by rw [xd_9, xd_10]; decide) L 0 ws2 (by omega) (by omega) hI H locs ls hR hS (lv_sub hl [3, 2, 1, 0] rfl)
  exact st s.heap [] ls ⟨rfl, fun p c h => by cases h⟩ va_S.rf hl
