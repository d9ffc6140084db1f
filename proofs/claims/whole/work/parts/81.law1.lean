section LAW
variable {p : Program} {l : Launch} {e : Env} {s : State} {m : MethodId} {below : List Frame} {meth : Method} {c : Code} {b L : Nat} {xs : Nat → Int32} {G : va_G} {tc : Nat → ClassId}
/-- a point of the law's walk -/
def yW (p : Program) (l : Launch) (e : Env) (s : State) (m : MethodId) (below : List Frame) (meth : Method) (c : Code) (b : Nat) (G : va_G) (tc : Nat → ClassId) (lv : List (Nat × Value)) (cells slots pc : Nat) (st : List Value) (n : Nat) (ws : xW) : Prop :=
  ∀ (H : Heap) (locs : List Loc) (ls : Array Slot), xR G tc s.heap.size n ws H → va_S (fun q => s.heap.size ≤ q) s.heap H locs → lv_has ls 4 lv → W p l e room_1 s m #[Value.ref b] below meth c H locs cells slots (lw_Z below #[Value.ref b] s) (F0 m pc ls st)
abbrev D5 (pc j : Nat) : Prop := decode code pc = .ok (.aload_n 0, 1) ∧ decode code (pc + 1) = .ok (.iload_n 3, 1) ∧ decode code (pc + 2) = .ok (.iconst (j : Int), 1) ∧ decode code (pc + 3) = .ok (.iadd, 1) ∧ decode code (pc + 4) = .ok (.iaload, 1)
abbrev DC (pc k i1 i2 : Nat) (off : Int) : Prop := decode code pc = .ok (.aload_n 1, 1) ∧ (∀ j, j < k → D5 (pc + 1 + 5 * j) (j + 1)) ∧ decode code (pc + 1 + 5 * k) = .ok (.invokevirtual i1, 3) ∧ decode code (pc + 1 + 5 * k + 3) = .ok (.aload_n 2, 1) ∧ (∀ j, j < k → D5 (pc + 1 + 5 * k + 3 + 1 + 5 * j) (j + 1)) ∧ decode code (pc + 1 + 5 * k + 3 + 1 + 5 * k) = .ok (.invokevirtual i2, 3) ∧ decode code (pc + 1 + 5 * k + 3 + 1 + 5 * k + 3) = .ok (.if_icmp .eq off, 3) ∧ ((pc + 1 + 5 * k + 3 + 1 + 5 * k + 3 : Nat) : Int) + off = (725 : Nat)
/-- the script's ints behind place i -/
def yA (xs : Nat → Int32) (i k : Nat) : List Value := (List.range k).map fun j => Value.int (xs (i + 1 + j))
theorem yA_s (xs : Nat → Int32) (i k : Nat) : (yA xs i (k + 1)).reverse = .int (xs (i + 1 + k)) :: (yA xs i k).reverse := by
  unfold yA
  rw [List.range_succ, List.map_append, List.reverse_append]
  rfl
def yL (b z i : Nat) : List (Nat × Value) := [(0, .ref b), (1, .ref (z + 0)), (2, .ref (z + 121)), (3, .int (I i))]
theorem y_elem {i j pc n cells slots : Nat} {st : List Value} {ws : xW} (C0 : lw_At p s m meth c b L xs) (hL : L ≤ 320) (hi : i + j < L) (D : D5 pc j) (k : yW p l e s m below meth c b G tc (yL b s.heap.size i) cells slots (pc + 5) (.int (xs (i + j)) :: st) n ws) : yW p l e s m below meth c b G tc (yL b s.heap.size i) cells slots pc st n ws := by
  obtain ⟨hx, hb, hr, hml, hown, hts, hX, hbl, hlocks, hgv⟩ := id C0
  obtain ⟨d0, d1, d2, d3, d4⟩ := D
  have hbA : ¬ (fun q : Nat => s.heap.size ≤ q) b := Nat.not_le.mpr hbl
  intro H locs ls hR hS hl
  refine lv_aload_n hx hb d0 rfl (lv_at hl 0 rfl) ?_
  refine lv_iload_n hx hb d1 rfl (lv_at hl 3 rfl) ?_
  refine lv_iconst (v := I j) hx hb d2 rfl ?_
  refine lv_iadd hx hb d3 ?_
  rw [I_add, show (i : Int) + (j : Int) = ((i + j : Nat) : Int) from rfl]
  have hv : vp_in (I ((i + j : Nat) : Int)) L := by rw [I_in (by omega) (by omega)]; omega
  refine va_sld hx hb hX hbl hbA hS hv d4 ?_
  rw [I_cl (by omega) (by omega), Int.toNat_natCast]
  exact k H locs ls hR hS hl
theorem y_args {i pc n cells slots : Nat} {st : List Value} {ws : xW} (C0 : lw_At p s m meth c b L xs) (hL : L ≤ 320) : ∀ k : Nat, i + k < L → (∀ j, j < k → D5 (pc + 5 * j) (j + 1)) → yW p l e s m below meth c b G tc (yL b s.heap.size i) cells slots (pc + 5 * k) ((yA xs i k).reverse ++ st) n ws → yW p l e s m below meth c b G tc (yL b s.heap.size i) cells slots pc st n ws
  | 0, _, _, h => h
  | k + 1, hi, D, h => by
    refine y_args C0 hL k (by omega) (fun j hj => D j (by omega)) ?_
    refine y_elem C0 hL (j := k + 1) (by omega) (D k (by omega)) ?_
    rw [yA_s, show pc + 5 * (k + 1) = pc + 5 * k + 5 by omega, show i + 1 + k = i + (k + 1) by omega] at h
    exact h
theorem yA_int (xs : Nat → Int32) (z i k : Nat) : (yA xs i k).map (xv z) = yA xs i k := by
  unfold yA
  rw [List.map_map]
  rfl
theorem yA_len (xs : Nat → Int32) (i k : Nat) : (yA xs i k).length = k := by simp [yA]
theorem y_tb (C0 : lw_At p s m meth c b L xs) : ∀ w ∈ xTB, w.before #[Value.ref b] s = true := by
  obtain ⟨hx, hb, hr, hml, hown, hts, hX, hbl, hlocks, hgv⟩ := id C0
  exact fun w hw => hts w (List.mem_filter.mp hw).1
/-- a call on an object out of the law -/
theorem y_callV {y : xT} {np idx pc n q i k cells slots : Nat} {rest vs : List Value} {ws : xW} {Q' : xP} {lv : List (Nat × Value)} (C0 : lw_At p s m meth c b L xs) (hK : xK G tc s) (hy : xMo y np) (hl : xCV 11 idx y) (hdec : decode code pc = .ok (.invokevirtual idx, 3)) (hnp : k = np) (hw : ws q = some (y.1, .inr (.inr (.inr vs)))) (hci : y.1 < 11) (hrest : (rest.map fun v => v.category).sum ≤ 8) (hc1 : cells ≤ 600000) (hc2 : slots ≤ 7302250)
    (hM : xM l y 30 0 0 (.ref q :: yA xs i k) n ws Q') (kk : ∀ r n' ws', Q' r n' ws' → yW p l e s m below meth c b G tc lv cells slots (pc + 3) ((r.map (xv s.heap.size)).toList ++ rest) n' ws') : yW p l e s m below meth c b G tc lv cells slots pc ((yA xs i k).reverse ++ .ref (s.heap.size + q) :: rest) n ws := by
  obtain ⟨hx, hb, hr, hml, hown, hts0, hX, hbl, hlocks, hgv⟩ := id C0
  have hts := y_tb C0
  intro H locs ls hR hS hl2
  obtain ⟨hcode, hini, hmh, hpar, hmx, hpl, hyc⟩ := hy
  have cw : CallW room_1 s #[Value.ref b] R_law y.2.1.cls idx y.2.1 y.2.2.1 y.2.2.2.1 y.2.2.2.2 (xws y) (xrm 30 0 0) 0 0 np := ⟨callB_of np hts (xgood hcode) rfl rfl rfl (hts _ hini) (hts _ hl.1) ⟨hmh.1, hmh.2, hpar⟩ ⟨by show 30 + 1 ≤ 2048; omega, by show 8 + (y.2.2.2.1 + 11) + 48 * 30 ≤ 84000; omega⟩, hts _ hl.2.1, hts _ hl.2.2⟩
  obtain ⟨rr, hrr, -, cellB, g1, g2, g3, -⟩ := hR.2 q _ hw
  obtain ⟨C, T, N, ty, hc, -, -, -, -, -, hC0, -⟩ := xcls _ hci
  cases hc.symm.trans hrr
  have hfc := (hK.1.1 _ _ hrr).2.1
  have hMM := hM G tc s.heap.size
  rw [List.map_cons, yA_int] at hMM
  refine xcont (va_runV (As := yA xs i k) (rest := rest) (b := s.heap.size + q) (C := y.2.1.cls) ⟨hx, hb, hml, hown, hts⟩ hMM cw ⟨xblind, ⟨cellB, g1, by rw [g3]; rfl, by rw [g2, hyc, ← hC0]; exact hfc⟩, fun U hU hW => ⟨rfl, by rw [hU]; exact hR, hK.warm hW⟩⟩ rfl ((yA_len xs i k).trans hnp) hl2.1 rfl (lv_room hrest) hdec ⟨by show cells + 0 ≤ 600000; omega, by show slots + 0 ≤ 7302250; omega⟩) hS (fun r n' ws' H1 locs1 hq hR1 hS1 => ?_)
  exact kk r n' ws' hq H1 locs1 ls hR1 hS1 hl2
/-- one case of the switch -/
theorem y_case {pc k i1 i2 i t cells slots : Nat} {off : Int} {y1 y2 : xT} {ws : xW} (C0 : lw_At p s m meth c b L xs) (hK : xK G tc s) (hL : L ≤ 320) (hi : i + k < L) (D : DC pc k i1 i2 off) (m1 : xMo y1 k) (m2 : xMo y2 k) (l1 : xCV 11 i1 y1) (l2 : xCV 11 i2 y2) (e1 : y1.1 = 9) (e2 : y2.1 = 10) (hc1 : cells ≤ 600000) (hc2 : slots ≤ 7302250) (hI : LI ws t) (hop : OP l y1 y2 (yA xs i k) ws t)
    (kk : ∀ ws2, LI ws2 (t + 1) → yW p l e s m below meth c b G tc (yL b s.heap.size i) cells slots 725 [] 142 ws2) : yW p l e s m below meth c b G tc (yL b s.heap.size i) cells slots pc [] 142 ws := by
  obtain ⟨hx, hb, hr, hml, hown, hts, hX, hbl, hlocks, hgv⟩ := id C0
  obtain ⟨d0, d1, d2, d3, d4, d5, d6, d7⟩ := D
  obtain ⟨S, ver, wv, fA, fM, hw, hC, hKC, hM, -⟩ := id hI
  obtain ⟨pv, tv, hO, -⟩ := id hC
  intro H locs ls hR hS hl
  refine lv_aload_n hx hb d0 rfl (lv_at hl 1 rfl) ?_
  refine y_args (st := [.ref (s.heap.size + 0)]) C0 hL k hi d1 ?_ H locs ls hR hS hl
  refine y_callV (np := k) (q := 0) (rest := []) C0 hK m1 l1 d2 rfl (hO.trans (by rw [e1])) (by omega) (Nat.le_of_ble_eq_true rfl) hc1 hc2 hop ?_
  rintro r n1 ws1 ⟨rfl, v, rfl, ⟨vs, hobj⟩, hM2⟩
  intro H locs ls hR hS hl
  refine lv_aload_n hx hb d3 rfl (lv_at hl 2 rfl) ?_
  refine y_args (st := [.ref (s.heap.size + 121), .int v]) C0 hL k hi d4 ?_ H locs ls hR hS hl
  refine y_callV (np := k) (q := 121) (rest := [.int v]) C0 hK m2 l2 d5 rfl (hobj.trans (by rw [e2])) (by omega) (Nat.le_of_ble_eq_true rfl) hc1 hc2 hM2 ?_
  rintro r n2 ws2 ⟨rfl, rfl, hI2⟩
  intro H locs ls hR hS hl
  refine lv_icmp_eq (tgt := 725) hx hb d6 d7 (fun _ => ?_) (fun h => absurd rfl h)
  exact kk ws2 hI2 H locs ls hR hS hl
end LAW
