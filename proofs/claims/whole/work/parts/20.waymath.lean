/-! WAYS, in mathematics: (cost, arcs); the first five of a list, by cost, of like cost the earlier first -/
abbrev Wy : Type := Int × List Nat
def insS : List Wy → Wy → List Wy
  | [], x => [x]
  | y :: l, x => if y.1 ≤ x.1 then y :: insS l x else x :: y :: l
def ins5 (l : List Wy) (x : Wy) : List Wy := (insS l x).take 5
def srt (l : List Wy) : Prop := l.Pairwise (fun a b => a.1 ≤ b.1)
theorem insS_mem {l : List Wy} {x z : Wy} : z ∈ insS l x ↔ z = x ∨ z ∈ l := by
  induction l with
  | nil => simp [insS]
  | cons y l ih =>
    unfold insS
    split
    · rw [List.mem_cons, ih, List.mem_cons]
      constructor
      · rintro (h | h | h) <;> simp [h]
      · rintro (h | h | h) <;> simp [h]
    · simp [List.mem_cons]
theorem insS_srt {l : List Wy} {x : Wy} (h : srt l) : srt (insS l x) := by
  induction l with
  | nil => simp [insS, srt]
  | cons y l ih =>
    have h' := List.pairwise_cons.mp h
    unfold insS
    split
    · next hle =>
      refine List.pairwise_cons.mpr ⟨fun z hz => ?_, ih h'.2⟩
      rcases insS_mem.mp hz with rfl | hz
      · exact hle
      · exact h'.1 z hz
    · next hle =>
      refine List.pairwise_cons.mpr ⟨fun z hz => ?_, h⟩
      rcases List.mem_cons.mp hz with rfl | hz
      · omega
      · have := h'.1 z hz; omega
theorem ins5_srt {l : List Wy} {x : Wy} (h : srt l) : srt (ins5 l x) := List.Pairwise.sublist (List.take_sublist 5 _) (insS_srt h)
theorem insS_len {l : List Wy} {x : Wy} : (insS l x).length = l.length + 1 := by
  induction l with
  | nil => rfl
  | cons y l ih => unfold insS; split <;> simp [ih]
theorem ins5_len {l : List Wy} {x : Wy} : (ins5 l x).length = min 5 (l.length + 1) := by unfold ins5; rw [List.length_take, insS_len]
theorem insS_end {l : List Wy} {x : Wy} (h : ∀ y ∈ l, y.1 ≤ x.1) : insS l x = l ++ [x] := by
  induction l with
  | nil => rfl
  | cons y l ih =>
    unfold insS
    rw [if_pos (h y List.mem_cons_self), ih (fun z hz => h z (List.mem_cons_of_mem _ hz))]
    rfl
theorem ins5_skip {l : List Wy} {x : Wy} (hl : l.length = 5) (h : ∀ y ∈ l, y.1 ≤ x.1) : ins5 l x = l := by
  unfold ins5
  rw [insS_end h, List.take_append_of_le_length (by omega), List.take_of_length_le (by omega)]
theorem fold_skip {l : List Wy} (hl : l.length = 5) : ∀ (xs : List Wy), (∀ x ∈ xs, ∀ y ∈ l, y.1 ≤ x.1) → xs.foldl ins5 l = l
  | [], _ => rfl
  | x :: xs, h => by
    rw [List.foldl_cons, ins5_skip hl (h x List.mem_cons_self)]
    exact fold_skip hl xs (fun z hz => h z (List.mem_cons_of_mem _ hz))
theorem fold_srt : ∀ (xs : List Wy) {l : List Wy}, srt l → srt (xs.foldl ins5 l)
  | [], _, h => h
  | x :: xs, _, h => fold_srt xs (ins5_srt h)
theorem fold_len : ∀ (xs : List Wy) {l : List Wy}, l.length ≤ 5 → (xs.foldl ins5 l).length ≤ 5
  | [], _, h => h
  | x :: xs, _, h => fold_len xs (by rw [ins5_len]; omega)
/-- the last of a sorted list is the dearest -/
theorem srt_last {l : List Wy} (h : srt l) {k : Nat} {z : Wy} (hk : l[k]? = some z) (hl : k + 1 = l.length) : ∀ y ∈ l, y.1 ≤ z.1 := by
  intro y hy
  obtain ⟨j, hj⟩ := List.getElem?_of_mem hy
  have hjl := (List.getElem?_eq_some_iff.mp hj).1
  by_cases e : j = k
  · subst e; rw [hj] at hk; cases hk; exact Int.le_refl _
  · obtain ⟨h1, h2⟩ := List.getElem?_eq_some_iff.mp hj
    obtain ⟨h3, h4⟩ := List.getElem?_eq_some_iff.mp hk
    have := List.pairwise_iff_getElem.mp h j k h1 h3 (by omega)
    rw [h2, h4] at this
    exact this
section PTH
variable {S : St}
def pcost (S : St) (p : List Nat) : Int := (p.map (S.2 3)).sum
/-- the rows of arcs from a node to the end that come to no node of the set and to none twice, in order; k arcs at most -/
def pth (S : St) (go : Int) : Nat → Int → Nat → List (List Nat)
  | 0, v, _ => if v = go then [[]] else []
  | k + 1, v, seen => if v = go then [[]] else (List.range S.na).flatMap fun i => if S.2 0 i = v ∧ seen.testBit (S.2 1 i).toNat = false then (pth S go k (S.2 1 i) (seen ||| 2 ^ (S.2 1 i).toNat)).map (fun p => i :: p) else []
def isW (S : St) (go : Int) : Int → List Nat → Prop
  | v, [] => v = go
  | v, i :: p => i < S.na ∧ S.2 0 i = v ∧ isW S go (S.2 1 i) p
theorem pth_isW {go : Int} : ∀ (k : Nat) (v : Int) (seen : Nat) (p : List Nat), p ∈ pth S go k v seen → isW S go v p ∧ p.length ≤ k
  | 0, v, seen, p, h => by
    unfold pth at h
    split at h
    · next e => simp at h; subst h; exact ⟨e, Nat.le_refl _⟩
    · simp at h
  | k + 1, v, seen, p, h => by
    unfold pth at h
    split at h
    · next e => simp at h; subst h; exact ⟨e, Nat.zero_le _⟩
    · obtain ⟨i, hi, hp⟩ := List.mem_flatMap.mp h
      split at hp
      · next e =>
        obtain ⟨p', hp', rfl⟩ := List.mem_map.mp hp
        obtain ⟨h1, h2⟩ := pth_isW k _ _ p' hp'
        exact ⟨⟨List.mem_range.mp hi, e.1, h1⟩, by simp; omega⟩
      · simp at hp
/-- what a way found from here adds -/
def wys (S : St) (go : Int) (k : Nat) (v : Int) (seen : Nat) (cost : Int) (pre : List Nat) : List Wy := (pth S go k v seen).map fun p => (cost + pcost S p, pre ++ p)
theorem wys_go {go : Int} {k seen : Nat} {cost : Int} {pre : List Nat} : wys S go k go seen cost pre = [(cost, pre)] := by
  unfold wys
  cases k <;> simp [pth, pcost]
theorem wys_0 {go v : Int} (h : v ≠ go) {seen : Nat} {cost : Int} {pre : List Nat} : wys S go 0 v seen cost pre = [] := by simp [wys, pth, h]
/-- the arcs from a node on, i of them looked at -/
def wyi (S : St) (go : Int) (k : Nat) (v : Int) (seen : Nat) (cost : Int) (pre : List Nat) (i : Nat) : List Wy := (List.range i).flatMap fun i => if S.2 0 i = v ∧ seen.testBit (S.2 1 i).toNat = false then wys S go k (S.2 1 i) (seen ||| 2 ^ (S.2 1 i).toNat) (cost + S.2 3 i) (pre ++ [i]) else []
theorem wyi_0 {go v : Int} {k seen : Nat} {cost : Int} {pre : List Nat} : wyi S go k v seen cost pre 0 = [] := rfl
theorem wyi_s {go v : Int} {k seen : Nat} {cost : Int} {pre : List Nat} {i : Nat} : wyi S go k v seen cost pre (i + 1) = wyi S go k v seen cost pre i ++ (if S.2 0 i = v ∧ seen.testBit (S.2 1 i).toNat = false then wys S go k (S.2 1 i) (seen ||| 2 ^ (S.2 1 i).toNat) (cost + S.2 3 i) (pre ++ [i]) else []) := by
  unfold wyi
  rw [List.range_succ, List.flatMap_append]
  simp
theorem wys_s {go v : Int} (h : v ≠ go) {k seen : Nat} {cost : Int} {pre : List Nat} : wys S go (k + 1) v seen cost pre = wyi S go k v seen cost pre S.na := by
  unfold wys wyi
  rw [show pth S go (k + 1) v seen = (List.range S.na).flatMap fun i => if S.2 0 i = v ∧ seen.testBit (S.2 1 i).toNat = false then (pth S go k (S.2 1 i) (seen ||| 2 ^ (S.2 1 i).toNat)).map (fun p => i :: p) else [] from by
    show (if v = go then [[]] else _) = _
    rw [if_neg h]]
  rw [List.map_flatMap]
  congr 1
  funext i
  split
  · rw [List.map_map]
    apply List.map_congr_left
    intro p hp
    simp only [Function.comp, pcost, List.map_cons, List.sum_cons, wys]
    rw [List.append_assoc]
    simp
    omega
  · rfl
/-- a number for each node that is below the cost of each way of at most m arcs to the end -/
def LB (S : St) (go : Int) (m : Nat) (f : Nat → Int) : Prop := ∀ (v : Int) (p : List Nat), isW S go v p → p.length ≤ m → f v.toNat ≤ pcost S p
theorem pcost_bd (hw : WF S) {go : Int} : ∀ (p : List Nat) (v : Int), isW S go v p → 0 ≤ pcost S p ∧ pcost S p ≤ 100 * p.length
  | [], _, _ => by simp [pcost]
  | i :: p, v, h => by
    obtain ⟨h1, h2, h3⟩ := h
    have := pcost_bd hw p _ h3
    obtain ⟨-, -, -, -, -, -, -, q1, q2⟩ := hw.2.2.2.1 i h1
    simp only [pcost, List.map_cons, List.sum_cons, List.length_cons] at this ⊢
    omega
end PTH
