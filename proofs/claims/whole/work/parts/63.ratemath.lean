/-! RATES in mathematics: 360ths; open goods, rates, necks -/
abbrev RS : Type := (Nat → Bool) × (Nat → Nat) × (Nat → Int)
section RATE
variable {S : St}
def us (S : St) (g i : Nat) : Bool := match (WS S g)[0]? with
  | some x => decide (i ∈ x.2)
  | none => false
def cn (p : Nat → Bool) : Nat → Nat
  | 0 => 0
  | k + 1 => cn p k + (if p k = true then 1 else 0)
def clo (S : St) (s : RS) (i : Nat) : Nat → Nat
  | 0 => 0
  | k + 1 => clo S s i k + (if (!s.1 k && us S k i) = true then s.2.1 k else 0)
def usn (S : St) (o : Nat → Bool) (i : Nat) : Nat := cn (fun g => o g && us S g i) S.ng
def cp (S : St) (i : Nat) : Nat := 360 * (S.2 2 i).toNat
def rsd (S : St) (s : RS) (i : Nat) : Nat := cp S i - clo S s i S.ng
def shr (S : St) (s : RS) (i : Nat) : Nat := rsd S s i / usn S s.1 i
def tg (S : St) (s : RS) : Nat → Option (Nat × Nat)
  | 0 => none
  | k + 1 => if 0 < usn S s.1 k then (match tg S s k with
    | none => some (k, shr S s k)
    | some q => if shr S s k < q.2 then some (k, shr S s k) else some q) else tg S s k
def clA (S : St) (s : RS) (i t : Nat) : RS := (fun g => s.1 g && !(us S g i), fun g => if (s.1 g && us S g i) = true then t else s.2.1 g, fun g => if (s.1 g && us S g i) = true then (i : Int) else s.2.2 g)
def stp (S : St) (s : RS) : RS := match tg S s S.na with
  | none => s
  | some q => clA S s q.1 q.2
def RS0 (S : St) : RS := (fun g => decide (0 < (WS S g).length), fun _ => 0, fun _ => -1)
def itn (S : St) : Nat → RS → RS
  | 0, s => s
  | k + 1, s => itn S k (stp S s)
def RT (S : St) : RS := itn S S.ng (RS0 S)
def okD (D m : Nat) : Prop := D = 1 ∨ (D = 2 ∧ 2 ≤ m) ∨ (D = 3 ∧ 3 ≤ m) ∨ (D = 4 ∧ 4 ≤ m) ∨ (D = 5 ∧ 5 ≤ m) ∨ (D = 6 ∧ 5 ≤ m) ∨ (D = 8 ∧ 6 ≤ m) ∨ (D = 9 ∧ 6 ≤ m)
theorem okD_s {D m n : Nat} (h : okD D m) (hn : 1 ≤ n) (hm : m + n ≤ 6) : okD (D * n) (m + n) := by
  unfold okD at h ⊢
  rcases h with rfl | ⟨rfl, h⟩ | ⟨rfl, h⟩ | ⟨rfl, h⟩ | ⟨rfl, h⟩ | ⟨rfl, h⟩ | ⟨rfl, h⟩ | ⟨rfl, h⟩ <;> omega
theorem okD_dvd {D m : Nat} (h : okD D m) : D ∣ 360 ∧ 0 < D ∧ D ≤ 9 := by
  unfold okD at h
  rcases h with rfl | ⟨rfl, h⟩ | ⟨rfl, h⟩ | ⟨rfl, h⟩ | ⟨rfl, h⟩ | ⟨rfl, h⟩ | ⟨rfl, h⟩ | ⟨rfl, h⟩ <;> decide
def GI (S : St) (s : RS) : Prop := ∃ D t, okD D (cn (fun g => !s.1 g) S.ng) ∧ (∀ g, g < S.ng → 360 ∣ D * s.2.1 g) ∧ (∀ i, i < S.na → usn S s.1 i * t + clo S s i S.ng ≤ cp S i) ∧ (∀ g, g < S.ng → s.2.1 g ≤ 360000) ∧ (∀ g, g < S.ng → s.1 g = true → 0 < (WS S g).length)
theorem clo_dvd {D : Nat} {s : RS} {i : Nat} : ∀ k : Nat, (∀ g, g < k → 360 ∣ D * s.2.1 g) → 360 ∣ D * clo S s i k
  | 0, _ => ⟨0, by simp [clo]⟩
  | k + 1, h => by
    have ih := clo_dvd (i := i) k (fun g hg => h g (by omega))
    unfold clo
    rw [Nat.mul_add]
    refine Nat.dvd_add ih ?_
    split
    · exact h k (by omega)
    · exact ⟨0, by simp⟩
theorem clo_mono {s : RS} {i : Nat} : ∀ j k : Nat, clo S s i k ≤ clo S s i (k + j)
  | 0, k => Nat.le_refl _
  | j + 1, k => by
    have ih := clo_mono (s := s) (i := i) j k
    show clo S s i k ≤ clo S s i (k + j) + _
    omega
theorem clo_le {s : RS} {i j k : Nat} (h : j ≤ k) : clo S s i j ≤ clo S s i k := by
  have := clo_mono (S := S) (s := s) (i := i) (k - j) j
  rw [show j + (k - j) = k by omega] at this
  exact this
theorem cn_two {o u : Nat → Bool} : ∀ k : Nat, cn (fun g => !o g) k + cn (fun g => o g && u g) k ≤ k
  | 0 => Nat.le_refl _
  | k + 1 => by
    have ih := cn_two (o := o) (u := u) k
    unfold cn
    cases o k <;> cases u k <;> simp <;> omega
theorem cn_le {o : Nat → Bool} : ∀ k : Nat, cn o k ≤ k
  | 0 => Nat.le_refl _
  | k + 1 => by
    have ih := cn_le (o := o) k
    unfold cn
    split <;> omega
theorem clo_part {s : RS} {D : Nat} (hD : ∀ g, g < S.ng → 360 ∣ D * s.2.1 g) {i k : Nat} (hk : k ≤ S.ng) (hle : clo S s i S.ng ≤ cp S i) : 360 ∣ D * (cp S i - clo S s i k) := by
  have h1 := clo_dvd (S := S) (s := s) (i := i) k (fun g hg => hD g (by omega))
  have h2 : 360 ∣ D * cp S i := by
    unfold cp
    exact ⟨D * (S.2 2 i).toNat, by rw [← Nat.mul_assoc, Nat.mul_comm D 360, Nat.mul_assoc]⟩
  rw [Nat.mul_sub]
  exact Nat.dvd_sub h2 h1
/-- a share: the division leaves no rest -/
theorem shr_ok (hw : WF S) {s : RS} {D t : Nat} (hD : okD D (cn (fun g => !s.1 g) S.ng)) (hR : ∀ g, g < S.ng → 360 ∣ D * s.2.1 g) (hi : ∀ i, i < S.na → usn S s.1 i * t + clo S s i S.ng ≤ cp S i) {i : Nat} (hia : i < S.na) (hu : 0 < usn S s.1 i) : usn S s.1 i * shr S s i = rsd S s i ∧ 360 ∣ (D * usn S s.1 i) * shr S s i ∧ t ≤ shr S s i ∧ shr S s i ≤ 360000 ∧ cn (fun g => !s.1 g) S.ng + usn S s.1 i ≤ 6 := by
  have hb := hw.2.2.1
  have hle := hi i hia
  have hcap := hw.2.2.2.1 i hia
  have hm : cn (fun g => !s.1 g) S.ng + usn S s.1 i ≤ S.ng := cn_two S.ng
  have hd1 : 360 ∣ D * rsd S s i := clo_part hR (Nat.le_refl _) (by omega)
  obtain ⟨⟨k, hk⟩, hp, -⟩ := okD_dvd (okD_s hD hu (by omega))
  obtain ⟨-, hD0, -⟩ := okD_dvd hD
  have hn : usn S s.1 i ∣ rsd S s i := by
    rw [hk, Nat.mul_assoc] at hd1
    have := Nat.dvd_of_mul_dvd_mul_left hD0 hd1
    exact Nat.dvd_trans ⟨k, rfl⟩ this
  have e1 : usn S s.1 i * shr S s i = rsd S s i := Nat.mul_div_cancel' hn
  have e2 : rsd S s i = cp S i - clo S s i S.ng := rfl
  have e3 : cp S i = 360 * (S.2 2 i).toNat := rfl
  refine ⟨e1, ?_, ?_, ?_, by omega⟩
  · rw [Nat.mul_assoc, e1]; exact hd1
  · have : usn S s.1 i * t ≤ usn S s.1 i * shr S s i := by omega
    exact Nat.le_of_mul_le_mul_left this hu
  · have : shr S s i ≤ rsd S s i := Nat.div_le_self _ _
    omega
theorem tg_none {s : RS} : ∀ k : Nat, tg S s k = none → ∀ i, i < k → usn S s.1 i = 0
  | 0, _, i, hi => absurd hi (by omega)
  | k + 1, h, i, hi => by
    unfold tg at h
    split at h
    · split at h
      · cases h
      · split at h <;> cases h
    · next hu =>
      by_cases e : i = k
      · subst e; omega
      · exact tg_none k h i (by omega)
theorem tg_some {s : RS} : ∀ (k : Nat) (q : Nat × Nat), tg S s k = some q → q.1 < k ∧ 0 < usn S s.1 q.1 ∧ q.2 = shr S s q.1 ∧ ∀ j, j < k → 0 < usn S s.1 j → q.2 ≤ shr S s j
  | 0, q, h => by cases h
  | k + 1, q, h => by
    unfold tg at h
    split at h
    · next hu =>
      split at h
      · next hn =>
        cases h
        refine ⟨by simp, hu, rfl, fun j hj hju => ?_⟩
        by_cases e : j = k
        · subst e; exact Nat.le_refl _
        · have := tg_none k hn j (by omega); omega
      · next q' hq =>
        obtain ⟨h1, h2, h3, h4⟩ := tg_some k q' hq
        split at h
        · next hlt =>
          cases h
          refine ⟨by simp, hu, rfl, fun j hj hju => ?_⟩
          by_cases e : j = k
          · subst e; exact Nat.le_refl _
          · have := h4 j (by omega) hju; show shr S s k ≤ shr S s j; omega
        · next hlt =>
          cases h
          refine ⟨by omega, h2, h3, fun j hj hju => ?_⟩
          by_cases e : j = k
          · subst e; omega
          · exact h4 j (by omega) hju
    · next hu =>
      obtain ⟨h1, h2, h3, h4⟩ := tg_some k q h
      refine ⟨by omega, h2, h3, fun j hj hju => ?_⟩
      by_cases e : j = k
      · subst e; omega
      · exact h4 j (by omega) hju
theorem clA_cn {s : RS} {i t : Nat} : ∀ k : Nat, cn (fun g => !(clA S s i t).1 g) k = cn (fun g => !s.1 g) k + cn (fun g => s.1 g && us S g i) k
  | 0 => rfl
  | k + 1 => by
    have ih := clA_cn (s := s) (i := i) (t := t) k
    unfold cn
    rw [ih]
    rcases Bool.eq_false_or_eq_true (s.1 k) with h1 | h1 <;> rcases Bool.eq_false_or_eq_true (us S k i) with h2 | h2 <;> simp [clA, h1, h2] <;> omega
theorem clA_op {s : RS} {i t : Nat} : ∀ k : Nat, cn (clA S s i t).1 k + cn (fun g => s.1 g && us S g i) k = cn s.1 k
  | 0 => rfl
  | k + 1 => by
    have ih := clA_op (s := s) (i := i) (t := t) k
    unfold cn
    rw [← ih]
    rcases Bool.eq_false_or_eq_true (s.1 k) with h1 | h1 <;> rcases Bool.eq_false_or_eq_true (us S k i) with h2 | h2 <;> simp [clA, h1, h2] <;> omega
theorem clA_ld {s : RS} {i t j : Nat} : ∀ k : Nat, cn (fun g => (clA S s i t).1 g && us S g j) k * t + clo S (clA S s i t) j k = cn (fun g => s.1 g && us S g j) k * t + clo S s j k
  | 0 => rfl
  | k + 1 => by
    have ih := clA_ld (s := s) (i := i) (t := t) (j := j) k
    unfold cn clo
    generalize hA : cn (fun g => (clA S s i t).1 g && us S g j) k = A at ih ⊢
    generalize hB : clo S (clA S s i t) j k = B at ih ⊢
    generalize hC : cn (fun g => s.1 g && us S g j) k = C at ih ⊢
    generalize hE : clo S s j k = E at ih ⊢
    rcases Bool.eq_false_or_eq_true (s.1 k) with h1 | h1 <;> rcases Bool.eq_false_or_eq_true (us S k i) with h2 | h2 <;> rcases Bool.eq_false_or_eq_true (us S k j) with h3 | h3 <;> simp [clA, h1, h2, h3, Nat.add_mul] <;> omega
theorem GI_clA (hw : WF S) {s : RS} (h : GI S s) {q : Nat × Nat} (hq : tg S s S.na = some q) : GI S (clA S s q.1 q.2) := by
  obtain ⟨D, t, h1, h2, h3, h4, h5⟩ := h
  obtain ⟨q1, q2, q3, q4⟩ := tg_some _ _ hq
  obtain ⟨a1, a2, a3, a4, a5⟩ := shr_ok hw h1 h2 h3 q1 q2
  rw [← q3] at a1 a2 a3 a4
  refine ⟨D * usn S s.1 q.1, q.2, ?_, fun g hg => ?_, fun i hi => ?_, fun g hg => ?_, fun g hg ho => ?_⟩
  · rw [clA_cn]
    exact okD_s h1 q2 a5
  · show 360 ∣ D * usn S s.1 q.1 * (if (s.1 g && us S g q.1) = true then q.2 else s.2.1 g)
    split
    · exact a2
    · rw [Nat.mul_right_comm]
      exact Nat.dvd_trans (h2 g hg) ⟨_, rfl⟩
  · have e := clA_ld (S := S) (s := s) (i := q.1) (t := q.2) (j := i) S.ng
    show cn (fun g => (clA S s q.1 q.2).1 g && us S g i) S.ng * q.2 + clo S (clA S s q.1 q.2) i S.ng ≤ cp S i
    rw [e]
    show usn S s.1 i * q.2 + clo S s i S.ng ≤ cp S i
    have h3i := h3 i hi
    rcases Nat.eq_zero_or_pos (usn S s.1 i) with hu | hu
    · rw [hu] at h3i ⊢
      simp at h3i ⊢
      exact h3i
    · obtain ⟨b1, -, -, -, -⟩ := shr_ok hw h1 h2 h3 hi hu
      have hle : usn S s.1 i * q.2 ≤ usn S s.1 i * shr S s i := Nat.mul_le_mul_left _ (q4 i hi hu)
      have e2 : rsd S s i = cp S i - clo S s i S.ng := rfl
      omega
  · show (if (s.1 g && us S g q.1) = true then q.2 else s.2.1 g) ≤ 360000
    split
    · exact a4
    · exact h4 g hg
  · refine h5 g hg ?_
    have : (s.1 g && !(us S g q.1)) = true := ho
    simp at this
    exact this.1
theorem GI_0 (hw : WF S) : GI S (RS0 S) := by
  refine ⟨1, 0, Or.inl rfl, fun g hg => ⟨0, rfl⟩, fun i hi => ?_, fun g hg => Nat.zero_le _, fun g hg ho => of_decide_eq_true ho⟩
  have : ∀ k, clo S (RS0 S) i k = 0 := by
    intro k
    induction k with
    | zero => rfl
    | succ k ih =>
      unfold clo
      rw [ih]
      split <;> rfl
  rw [this]
  omega
theorem way0_ne (hw : WF S) {g : Nat} (hg : g < S.ng) (h : 0 < (WS S g).length) : ∃ x a, (WS S g)[0]? = some x ∧ a ∈ x.2 ∧ a < S.na := by
  have hx : (WS S g)[0]? = some (WS S g)[0] := List.getElem?_eq_getElem h
  generalize (WS S g)[0] = x at hx
  have har := WS_arcs hw hx
  have hm : x ∈ WS S g := List.mem_of_getElem? hx
  have hne : x.2 ≠ [] := by
    rcases fold_mem _ hm with h | h
    · simp at h
    · obtain ⟨p, hp, rfl⟩ := List.mem_map.mp h
      obtain ⟨h1, h2⟩ := pth_isW 9 _ _ p hp
      intro hpe
      have hpe' : p = [] := by simpa using hpe
      subst hpe'
      have := (hw.2.2.2.2 g hg).2.2.2.2.1
      exact this h1
  obtain ⟨a, ha⟩ := List.exists_mem_of_ne_nil _ hne
  exact ⟨x, a, hx, ha, har a ha⟩
theorem cn_pos {o : Nat → Bool} : ∀ (k g : Nat), g < k → o g = true → 0 < cn o k
  | 0, g, h, _ => absurd h (by omega)
  | k + 1, g, h, ho => by
    unfold cn
    by_cases e : g = k
    · subst e; rw [if_pos ho]; omega
    · have := cn_pos (o := o) k g (by omega) ho; omega
theorem cn_ex {o : Nat → Bool} : ∀ (k : Nat), 0 < cn o k → ∃ g, g < k ∧ o g = true
  | 0, h => absurd h (by simp [cn])
  | k + 1, h => by
    by_cases e : o k = true
    · exact ⟨k, by omega, e⟩
    · unfold cn at h
      rw [if_neg e] at h
      obtain ⟨g, h1, h2⟩ := cn_ex k h
      exact ⟨g, by omega, h2⟩
theorem tg_open (hw : WF S) {s : RS} (h : GI S s) (ho : 0 < cn s.1 S.ng) : ∃ q, tg S s S.na = some q := by
  obtain ⟨g, hg, hog⟩ := cn_ex _ ho
  obtain ⟨D, t, h1, h2, h3, h4, h5⟩ := h
  obtain ⟨x, a, hx, ha, han⟩ := way0_ne hw hg (h5 g hg hog)
  cases hq : tg S s S.na with
  | some q => exact ⟨q, rfl⟩
  | none =>
    have := tg_none _ hq a han
    have hp : 0 < usn S s.1 a := cn_pos _ g hg (by rw [hog]; unfold us; rw [hx]; simp [ha])
    omega
theorem tg_shut {s : RS} (ho : cn s.1 S.ng = 0) : tg S s S.na = none := by
  cases hq : tg S s S.na with
  | none => rfl
  | some q =>
    obtain ⟨-, q2, -⟩ := tg_some _ _ hq
    obtain ⟨g, hg, hog⟩ := cn_ex _ q2
    simp at hog
    have := cn_pos (o := s.1) S.ng g hg hog.1
    omega
theorem itn_id {s : RS} (h : tg S s S.na = none) : ∀ k, itn S k s = s
  | 0 => rfl
  | k + 1 => by
    show itn S k (stp S s) = s
    have : stp S s = s := by unfold stp; rw [h]
    rw [this]
    exact itn_id h k
theorem itn_some {s : RS} {q : Nat × Nat} (h : tg S s S.na = some q) (k : Nat) : itn S (k + 1) s = itn S k (clA S s q.1 q.2) := by
  show itn S k (stp S s) = _
  unfold stp
  rw [h]
end RATE
