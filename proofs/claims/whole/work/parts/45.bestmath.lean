section BEST
variable {S : St}
theorem cnt1 {a : Nat} : ∀ {l : List Nat}, l.Nodup → a ∈ l → l.count a = 1
  | [], _, h => absurd h (by simp)
  | b :: l, hn, h => by
    obtain ⟨h1, h2⟩ := List.nodup_cons.mp hn
    by_cases e : b = a
    · subst e
      rw [List.count_cons_self, List.count_eq_zero_of_not_mem h1]
    · rw [List.count_cons_of_ne e]
      exact cnt1 h2 ((List.mem_cons.mp h).resolve_left (fun q => e q.symm))
theorem pth_head {go : Int} : ∀ (k : Nat) (v : Int) (seen : Nat) (p : List Nat), p ∈ pth S go k v seen → p.Nodup ∧ ∀ a ∈ p, seen.testBit (S.2 1 a).toNat = false
  | 0, v, seen, p, h => by
    unfold pth at h
    split at h
    · simp at h; subst h; simp
    · simp at h
  | k + 1, v, seen, p, h => by
    unfold pth at h
    split at h
    · simp at h; subst h; simp
    · obtain ⟨i, hi, hp⟩ := List.mem_flatMap.mp h
      split at hp
      · next e =>
        obtain ⟨p', hp', rfl⟩ := List.mem_map.mp hp
        obtain ⟨h1, h2⟩ := pth_head k _ _ p' hp'
        refine ⟨List.nodup_cons.mpr ⟨fun hm => ?_, h1⟩, fun a ha => ?_⟩
        · have := h2 i hm
          simp [Nat.testBit_or, Nat.testBit_two_pow_self] at this
        · rcases List.mem_cons.mp ha with rfl | ha
          · exact e.2
          · have := h2 a ha
            simp [Nat.testBit_or] at this
            exact this.1
      · simp at hp
theorem WS_nodup {g k : Nat} {x : Wy} (hx : (WS S g)[k]? = some x) : x.2.Nodup := by
  have hm : x ∈ WS S g := List.mem_of_getElem? hx
  rcases fold_mem _ hm with h | h
  · simp at h
  · obtain ⟨p, hp, rfl⟩ := List.mem_map.mp h
    simpa using (pth_head 9 _ _ p hp).1
theorem fitB_congr {ld lim lim' : Nat → Int} {arcs : List Nat} {D : Int} (h : ∀ a ∈ arcs, lim a = lim' a) : fitB ld lim arcs D = fitB ld lim' arcs D := by
  unfold fitB
  rw [Bool.eq_iff_iff, List.all_eq_true, List.all_eq_true]
  constructor
  · intro q a ha; rw [← h a ha]; exact q a ha
  · intro q a ha; rw [h a ha]; exact q a ha
theorem WS_arcs (hw : WF S) {g k : Nat} {x : Wy} (hx : (WS S g)[k]? = some x) : ∀ a ∈ x.2, a < S.na := by
  intro a ha
  obtain ⟨i, hi⟩ := List.getElem?_of_mem ha
  exact (WS_cost hw hx).2.2.2 i a hi
theorem LV_congr (hw : WF S) {lim lim' : Nat → Int} (h : ∀ a, a < S.na → lim a = lim' a) : ∀ (j g : Nat) (ld : Nat → Int) (w c : Int) (ch : List Int), LV S lim j g ld w c ch = LV S lim' j g ld w c ch
  | 0, g, ld, w, c, ch => rfl
  | j + 1, g, ld, w, c, ch => by
    unfold LV
    rw [LV_congr hw h j]
    congr 1
    congr 1
    funext k
    cases hx : (WS S g)[k]? with
    | none => rfl
    | some x =>
      simp only
      rw [fitB_congr (fun a ha => h a (WS_arcs hw hx a ha)), LV_congr hw h j]
theorem fitB_mono {ld lim lim' : Nat → Int} {arcs : List Nat} {D : Int} (h : ∀ a, lim a ≤ lim' a) (hf : fitB ld lim arcs D = true) : fitB ld lim' arcs D = true := by
  unfold fitB at hf ⊢
  rw [List.all_eq_true] at hf ⊢
  intro a ha
  have := of_decide_eq_true (hf a ha)
  exact decide_eq_true (by have := h a; omega)
theorem LV_mono {lim lim' : Nat → Int} (h : ∀ a, lim a ≤ lim' a) : ∀ (j g : Nat) (ld : Nat → Int) (w c : Int) (ch : List Int) (x : Pl), x ∈ LV S lim j g ld w c ch → x ∈ LV S lim' j g ld w c ch
  | 0, g, ld, w, c, ch, x, hx => hx
  | j + 1, g, ld, w, c, ch, x, hx => by
    unfold LV at hx ⊢
    rcases List.mem_append.mp hx with h1 | h1
    · refine List.mem_append.mpr (Or.inl ?_)
      obtain ⟨k, hk, hy⟩ := List.mem_flatMap.mp h1
      refine List.mem_flatMap.mpr ⟨k, hk, ?_⟩
      cases hz : (WS S g)[k]? with
      | none => rw [hz] at hy; exact hy
      | some z =>
        rw [hz] at hy
        simp only at hy ⊢
        split at hy
        · next hf => rw [if_pos (fitB_mono h hf)]; exact LV_mono h j _ _ _ _ _ x hy
        · simp at hy
    · exact List.mem_append.mpr (Or.inr (LV_mono h j _ _ _ _ _ x h1))
/-- what a plan lays upon the arcs: the first g goods -/
def wof (S : St) (pl : Nat → Int) (g : Nat) : Option Wy := if 0 ≤ pl g then (WS S g)[(pl g).toNat]? else none
def lds (S : St) (pl : Nat → Int) : Nat → (Nat → Int)
  | 0 => fun _ => 0
  | g + 1 => match wof S pl g with
    | some x => adW (lds S pl g) x.2 (S.2 6 g)
    | none => lds S pl g
theorem lds_congr {pl pl' : Nat → Int} : ∀ (g : Nat), (∀ i, i < g → pl i = pl' i) → lds S pl g = lds S pl' g
  | 0, _ => rfl
  | g + 1, h => by
    unfold lds wof
    rw [lds_congr g (fun i hi => h i (by omega)), h g (by omega)]
def pf (l : List Int) : Nat → Int := fun i => l[i]?.getD (-1)
theorem pf_snoc {l : List Int} {v : Int} {g : Nat} (hl : l.length = g) : pf (l ++ [v]) g = v ∧ ∀ i, i < g → pf (l ++ [v]) i = pf l i := by
  refine ⟨?_, fun i hi => ?_⟩
  · unfold pf
    rw [List.getElem?_append_right (by omega), hl, Nat.sub_self]
    rfl
  · unfold pf
    rw [List.getElem?_append_left (by omega)]
theorem lds_snoc {ch : List Int} {v : Int} {g : Nat} (hl : ch.length = g) : lds S (pf (ch ++ [v])) (g + 1) = match (if 0 ≤ v then (WS S g)[v.toNat]? else none) with
    | some x => adW (lds S (pf ch) g) x.2 (S.2 6 g)
    | none => lds S (pf ch) g := by
  obtain ⟨h1, h2⟩ := pf_snoc (v := v) hl
  rw [lds, wof, h1, lds_congr g h2]
def okpl (S : St) (l : List Int) : Prop := ∀ i, i < l.length → -1 ≤ pf l i ∧ pf l i < (WS S i).length
theorem okpl_snoc {l : List Int} {v : Int} (h : okpl S l) (h1 : -1 ≤ v) (h2 : v < (WS S l.length).length) : okpl S (l ++ [v]) := by
  intro i hi
  obtain ⟨q1, q2⟩ := pf_snoc (v := v) (l := l) rfl
  simp at hi
  by_cases e : i = l.length
  · subst e; rw [q1]; exact ⟨h1, h2⟩
  · rw [q2 i (by omega)]; exact h i (by omega)
theorem LV_pl (hw : WF S) {lim : Nat → Int} : ∀ (j g : Nat) (ld : Nat → Int) (w c : Int) (ch : List Int), g + j = S.ng → ch.length = g → okpl S ch → lds S (pf ch) g = ld → (∀ a, a < S.na → ld a ≤ lim a) → 0 ≤ w → ∀ x ∈ LV S lim j g ld w c ch, x.2.2.length = S.ng ∧ okpl S x.2.2 ∧ (∀ a, a < S.na → lds S (pf x.2.2) S.ng a ≤ lim a) ∧ 0 ≤ x.1
  | 0, g, ld, w, c, ch, hg, hl, hok, hld, hle, h0, x, hx => by
    simp only [LV, List.mem_singleton] at hx
    subst hx
    have e : g = S.ng := by omega
    subst e
    refine ⟨hl, hok, fun a ha => ?_, h0⟩
    show lds S (pf ch) S.ng a ≤ lim a
    rw [hld]
    exact hle a ha
  | j + 1, g, ld, w, c, ch, hg, hl, hok, hld, hle, h0, x, hx => by
    obtain ⟨-, -, -, -, -, q6, q7, q8, q9⟩ := hw.2.2.2.2 g (by omega)
    rcases List.mem_append.mp hx with h | h
    · obtain ⟨k, hk, hy⟩ := List.mem_flatMap.mp h
      have hkl := List.mem_range.mp hk
      have hxk : (WS S g)[k]? = some (WS S g)[k] := List.getElem?_eq_getElem hkl
      generalize (WS S g)[k] = z at hxk
      rw [hxk] at hy
      simp only at hy
      split at hy
      · next hf =>
        refine LV_pl hw j (g + 1) _ _ _ _ (by omega) (by simp [hl]) (okpl_snoc hok (by omega) (by rw [hl]; omega)) ?_ (fun a ha => ?_) (by omega) x hy
        · rw [lds_snoc hl, if_pos (by omega), Int.toNat_natCast, hxk, hld]
        · unfold adW
          have hnd := WS_nodup hxk
          by_cases hm : a ∈ z.2
          · rw [cnt1 hnd hm]
            unfold fitB at hf
            rw [List.all_eq_true] at hf
            have := of_decide_eq_true (hf a hm)
            simp
            omega
          · rw [List.count_eq_zero_of_not_mem hm]
            have := hle a ha
            simp
            omega
      · simp at hy
    · refine LV_pl hw j (g + 1) _ _ _ _ (by omega) (by simp [hl]) (okpl_snoc hok (by omega) (by omega)) ?_ hle h0 x h
      rw [lds_snoc hl, if_neg (by omega), hld]
/-- the best plan -/
def BPl (S : St) (lim : Nat → Int) : Pl := (LV S lim S.ng 0 (fun _ => 0) 0 0 []).foldl upd1 (-1, 0, [])
abbrev BP (S : St) : Pl := BPl S (S.2 2)
theorem LV_ne {lim : Nat → Int} : ∀ (j g : Nat) (ld : Nat → Int) (w c : Int) (ch : List Int), LV S lim j g ld w c ch ≠ []
  | 0, g, ld, w, c, ch => by simp [LV]
  | j + 1, g, ld, w, c, ch => by
    unfold LV
    intro h
    exact LV_ne j (g + 1) ld w c (ch ++ [-1]) (List.append_eq_nil_iff.mp h).2
theorem BPl_pl (hw : WF S) {lim : Nat → Int} (hlim : ∀ a, a < S.na → 0 ≤ lim a) : BPl S lim ∈ LV S lim S.ng 0 (fun _ => 0) 0 0 [] ∧ (BPl S lim).2.2.length = S.ng ∧ okpl S (BPl S lim).2.2 ∧ (∀ a, a < S.na → lds S (pf (BPl S lim).2.2) S.ng a ≤ lim a) ∧ 0 ≤ (BPl S lim).1 := by
  have hall := LV_pl hw (lim := lim) S.ng 0 (fun _ => 0) 0 0 [] (by omega) rfl (fun i hi => absurd hi (by simp)) rfl hlim (Int.le_refl _)
  have hm : BPl S lim ∈ LV S lim S.ng 0 (fun _ => 0) 0 0 [] := by
    rcases fold_in (LV S lim S.ng 0 (fun _ => 0) 0 0 []) (-1, 0, []) with h | h
    · exfalso
      obtain ⟨y, hy⟩ := List.exists_mem_of_ne_nil _ (LV_ne (S := S) (lim := lim) S.ng 0 (fun _ => 0) 0 0 [])
      have h1 := (fold_ge (LV S lim S.ng 0 (fun _ => 0) 0 0 []) (-1, 0, [])).2 y hy
      have h2 := (hall y hy).2.2.2
      rw [h] at h1
      have h3 : y.1 ≤ -1 := h1
      omega
    · exact h
  exact ⟨hm, hall _ hm⟩
/-- more room: what a search that starts from what is reached finds -/
theorem BPl_wider (hw : WF S) {lim lim' : Nat → Int} (hlim : ∀ a, a < S.na → 0 ≤ lim a) (h : ∀ a, lim a ≤ lim' a) : ((LV S lim' S.ng 0 (fun _ => 0) 0 0 []).foldl upd1 ((BPl S lim).1, 0, [])).1 = (BPl S lim').1 := by
  have hb := BPl_pl hw hlim
  have hm := LV_mono h _ _ _ _ _ _ _ hb.1
  have f1 := fold_ge (LV S lim' S.ng 0 (fun _ => 0) 0 0 []) ((BPl S lim).1, 0, [])
  have f2 := fold_ge (LV S lim' S.ng 0 (fun _ => 0) 0 0 []) (-1, 0, [])
  have g1 := fold_in (LV S lim' S.ng 0 (fun _ => 0) 0 0 []) ((BPl S lim).1, 0, [])
  have e : BPl S lim' = (LV S lim' S.ng 0 (fun _ => 0) 0 0 []).foldl upd1 (-1, 0, []) := rfl
  have g2 := BPl_pl hw (lim := lim') (fun a ha => by have := hlim a ha; have := h a; omega)
  have a1 : (BPl S lim').1 ≤ ((LV S lim' S.ng 0 (fun _ => 0) 0 0 []).foldl upd1 ((BPl S lim).1, 0, [])).1 := f1.2 _ g2.1
  have a2 : ((LV S lim' S.ng 0 (fun _ => 0) 0 0 []).foldl upd1 ((BPl S lim).1, 0, [])).1 ≤ (BPl S lim').1 := by
    rcases g1 with g | g
    · rw [g, e]
      have := f2.2 _ hm
      exact this
    · rw [e]; exact f2.2 _ g
  omega
end BEST
