/-! PLANS, in mathematics: the leaves of the search in their order; the best of a list, of like ones the first -/
abbrev Pl : Type := Int × Int × List Int
def btr (w c : Int) (b : Pl) : Prop := b.1 < w ∨ (w = b.1 ∧ c < b.2.1)
def upd1 (b x : Pl) : Pl := if b.1 < x.1 ∨ (x.1 = b.1 ∧ x.2.1 < b.2.1) then x else b
theorem upd1_no {b x : Pl} (h : ¬ btr x.1 x.2.1 b) : upd1 b x = b := by
  unfold upd1
  exact if_neg h
theorem fold_no {b : Pl} : ∀ (xs : List Pl), (∀ x ∈ xs, ¬ btr x.1 x.2.1 b) → xs.foldl upd1 b = b
  | [], _ => rfl
  | x :: xs, h => by
    rw [List.foldl_cons, upd1_no (h x List.mem_cons_self)]
    exact fold_no xs (fun y hy => h y (List.mem_cons_of_mem _ hy))
theorem upd1_ge (b x : Pl) : b.1 ≤ (upd1 b x).1 ∧ x.1 ≤ (upd1 b x).1 := by
  unfold upd1; split <;> omega
theorem fold_ge : ∀ (xs : List Pl) (b : Pl), b.1 ≤ (xs.foldl upd1 b).1 ∧ ∀ x ∈ xs, x.1 ≤ (xs.foldl upd1 b).1
  | [], b => ⟨Int.le_refl _, fun x hx => by simp at hx⟩
  | x :: xs, b => by
    obtain ⟨h1, h2⟩ := fold_ge xs (upd1 b x)
    have h3 := upd1_ge b x
    rw [List.foldl_cons]
    refine ⟨by omega, fun y hy => ?_⟩
    rcases List.mem_cons.mp hy with rfl | hy
    · omega
    · exact h2 y hy
theorem fold_in : ∀ (xs : List Pl) (b : Pl), xs.foldl upd1 b = b ∨ xs.foldl upd1 b ∈ xs
  | [], b => Or.inl rfl
  | x :: xs, b => by
    rw [List.foldl_cons]
    rcases fold_in xs (upd1 b x) with h | h
    · rw [h]
      unfold upd1
      split
      · exact Or.inr List.mem_cons_self
      · exact Or.inl rfl
    · exact Or.inr (List.mem_cons_of_mem _ h)
section LV
variable {S : St}
def adW (ld : Nat → Int) (arcs : List Nat) (D : Int) : Nat → Int := fun x => ld x + D * (arcs.count x)
theorem adW_back (ld : Nat → Int) (arcs : List Nat) (D : Int) : adW (adW ld arcs D) arcs (-D) = ld := by
  funext x
  unfold adW
  rw [Int.neg_mul]
  omega
theorem adW_nil (ld : Nat → Int) (D : Int) : adW ld [] D = ld := by funext x; simp [adW]
theorem adW_snoc (ld : Nat → Int) (arcs : List Nat) (D : Int) (a : Nat) : adW ld (arcs ++ [a]) D = fu (adW ld arcs D) a (adW ld arcs D a + D) := by
  funext x
  unfold adW fu
  by_cases e : x = a
  · subst e; simp [Int.mul_add]; omega
  · have : ¬ a = x := fun q => e q.symm
    simp [e, List.count_append, List.count_cons, this]
theorem adW_bd {ld : Nat → Int} {arcs : List Nat} {D B : Int} (h : ∀ x, 0 ≤ ld x ∧ ld x ≤ B) (hD : 0 ≤ D ∧ D ≤ 1000) (ha : arcs.length ≤ 9) : ∀ x, 0 ≤ adW ld arcs D x ∧ adW ld arcs D x ≤ B + 9000 := by
  intro x
  have hc : (arcs.count x : Int) ≤ 9 := by have := List.count_le_length (a := x) (l := arcs); omega
  have hc0 : 0 ≤ (arcs.count x : Int) := by omega
  have h1 := h x
  unfold adW
  have h2 : 0 ≤ D * (arcs.count x : Int) := Int.mul_nonneg hD.1 hc0
  have h3 : D * (arcs.count x : Int) ≤ 1000 * 9 := Int.mul_le_mul hD.2 hc hc0 (by omega)
  omega
def fitB (ld lim : Nat → Int) (arcs : List Nat) (D : Int) : Bool := arcs.all fun a => decide (ld a + D ≤ lim a)
/-- the leaves: j goods are left, from g on -/
def LV (S : St) (lim : Nat → Int) : Nat → Nat → (Nat → Int) → Int → Int → List Int → List Pl
  | 0, _, _, w, c, ch => [(w, c, ch)]
  | j + 1, g, ld, w, c, ch => (((List.range (WS S g).length).flatMap fun k => match (WS S g)[k]? with
      | some x => if fitB ld lim x.2 (S.2 6 g) = true then LV S lim j (g + 1) (adW ld x.2 (S.2 6 g)) (w + S.2 7 g) (c + S.2 6 g * x.1) (ch ++ [(k : Int)]) else []
      | none => []) ++ LV S lim j (g + 1) ld w c (ch ++ [-1]))
/-- the leaves below the first k ways -/
def LVi (S : St) (lim : Nat → Int) (j g : Nat) (ld : Nat → Int) (w c : Int) (ch : List Int) (k : Nat) : List Pl := (List.range k).flatMap fun k => match (WS S g)[k]? with
      | some x => if fitB ld lim x.2 (S.2 6 g) = true then LV S lim j (g + 1) (adW ld x.2 (S.2 6 g)) (w + S.2 7 g) (c + S.2 6 g * x.1) (ch ++ [(k : Int)]) else []
      | none => []
theorem LVi_0 {lim : Nat → Int} {j g : Nat} {ld : Nat → Int} {w c : Int} {ch : List Int} : LVi S lim j g ld w c ch 0 = [] := rfl
theorem LVi_s {lim : Nat → Int} {j g : Nat} {ld : Nat → Int} {w c : Int} {ch : List Int} {k : Nat} {x : Wy} (hx : (WS S g)[k]? = some x) : LVi S lim j g ld w c ch (k + 1) = LVi S lim j g ld w c ch k ++ (if fitB ld lim x.2 (S.2 6 g) = true then LV S lim j (g + 1) (adW ld x.2 (S.2 6 g)) (w + S.2 7 g) (c + S.2 6 g * x.1) (ch ++ [(k : Int)]) else []) := by
  unfold LVi
  rw [List.range_succ, List.flatMap_append]
  simp [hx]
theorem LV_s {lim : Nat → Int} {j g : Nat} {ld : Nat → Int} {w c : Int} {ch : List Int} : LV S lim (j + 1) g ld w c ch = LVi S lim j g ld w c ch (WS S g).length ++ LV S lim j (g + 1) ld w c (ch ++ [-1]) := rfl
/-- the worth that the goods from g on could still bring -/
def hop (S : St) (g : Nat) : Nat → Int
  | 0 => 0
  | j + 1 => hop S (g + 1) j + (if 0 < (WS S g).length then S.2 7 g else 0)
theorem WS_cost (hw : WF S) {g k : Nat} {x : Wy} (hx : (WS S g)[k]? = some x) : 0 ≤ x.1 ∧ x.1 ≤ 900 ∧ x.2.length ≤ 9 ∧ (∀ (i a : Nat), x.2[i]? = some a → a < S.na) := by
  have hm : x ∈ WS S g := List.mem_of_getElem? hx
  rcases fold_mem _ hm with h | h
  · simp at h
  · obtain ⟨p, hp, rfl⟩ := List.mem_map.mp h
    obtain ⟨h1, h2⟩ := pth_isW 9 _ _ p hp
    have h3 := pcost_bd hw p _ h1
    have h4 : ∀ (p : List Nat) (v : Int), isW S (S.2 5 g) v p → ∀ (i a : Nat), p[i]? = some a → a < S.na := by
      intro p
      induction p with
      | nil => intro v _ i a h; simp at h
      | cons b p ih =>
        intro v hp i a h
        cases i with
        | zero => simp at h; subst h; exact hp.1
        | succ i => exact ih _ hp.2.2 i a (by simpa using h)
    refine ⟨?_, ?_, ?_, ?_⟩
    · show 0 ≤ 0 + pcost S p; omega
    · show 0 + pcost S p ≤ 900; omega
    · simpa using h2
    · intro i a ha; exact h4 p _ h1 i a (by simpa using ha)
theorem LV_bd (hw : WF S) {lim : Nat → Int} : ∀ (j g : Nat) (ld : Nat → Int) (w c : Int) (ch : List Int), g + j = S.ng → ∀ x ∈ LV S lim j g ld w c ch, x.1 ≤ w + hop S g j ∧ c ≤ x.2.1
  | 0, g, ld, w, c, ch, _, x, hx => by
    simp only [LV, List.mem_singleton] at hx
    subst hx
    exact ⟨by simp [hop], Int.le_refl _⟩
  | j + 1, g, ld, w, c, ch, hg, x, hx => by
    obtain ⟨-, -, -, -, -, q6, q7, q8, q9⟩ := hw.2.2.2.2 g (by omega)
    have hh : hop S g (j + 1) = hop S (g + 1) j + (if 0 < (WS S g).length then S.2 7 g else 0) := rfl
    rcases List.mem_append.mp hx with h | h
    · obtain ⟨k, hk, hy⟩ := List.mem_flatMap.mp h
      have hkl := List.mem_range.mp hk
      have hxk : (WS S g)[k]? = some (WS S g)[k] := List.getElem?_eq_getElem hkl
      rw [hxk] at hy
      simp only at hy
      split at hy
      · have hc := WS_cost hw hxk
        have ih := LV_bd hw j (g + 1) _ _ _ _ (by omega) x hy
        have hm : 0 ≤ S.2 6 g * (WS S g)[k].1 := Int.mul_nonneg (by omega) hc.1
        rw [if_pos (by omega)] at hh
        omega
      · simp at hy
    · have ih := LV_bd hw j (g + 1) _ _ _ _ (by omega) x h
      have : 0 ≤ (if 0 < (WS S g).length then S.2 7 g else 0) := by split <;> omega
      omega
/-- a search that can't bring a better one changes nothing -/
theorem LV_cut (hw : WF S) {lim : Nat → Int} {j g : Nat} {ld : Nat → Int} {w c : Int} {ch : List Int} (hg : g + j = S.ng) {b : Pl} (h : ¬ btr (w + hop S g j) c b) : (LV S lim j g ld w c ch).foldl upd1 b = b := by
  apply fold_no
  intro x hx hb
  obtain ⟨h1, h2⟩ := LV_bd hw j g ld w c ch hg x hx
  apply h
  unfold btr at hb ⊢
  omega
end LV
