/-! FLOWS in mathematics: what is left on 2 i (forward) and 2 i + 1 (back) -/
section FLOW
variable {S : St}
def st (S : St) (e : Nat) : Int := if e % 2 = 0 then S.2 0 (e / 2) else S.2 1 (e / 2)
def xe (e : Nat) : Nat := if e % 2 = 0 then e + 1 else e - 1
def en (S : St) (e : Nat) : Int := st S (xe e)
theorem en_eq (e : Nat) : en S e = if e % 2 = 0 then S.2 1 (e / 2) else S.2 0 (e / 2) := by
  unfold en st xe
  by_cases h : e % 2 = 0
  · rw [if_pos h, if_neg (show ¬ (e + 1) % 2 = 0 by omega), if_pos h, show (e + 1) / 2 = e / 2 by omega]
  · rw [if_neg h, if_pos (show (e - 1) % 2 = 0 by omega), if_neg h, show (e - 1) / 2 = e / 2 by omega]
theorem st_bd (hw : WF S) {e : Nat} (he : e < 2 * S.na) : 0 ≤ st S e ∧ st S e < S.nn := by
  have h := hw.2.2.2.1 (e / 2) (by omega)
  unfold st
  split <;> omega
theorem xe_lt {e k : Nat} (he : e < 2 * k) : xe e < 2 * k := by unfold xe; split <;> omega
theorem en_bd (hw : WF S) {e : Nat} (he : e < 2 * S.na) : 0 ≤ en S e ∧ en S e < S.nn := st_bd hw (xe_lt he)
theorem xe_ne (e : Nat) : xe e ≠ e := by unfold xe; split <;> omega
def ba (U : Nat) (v : Int) (a : Int) : Int := if U.testBit v.toNat = true then a else 0
def tm (S : St) (f : Nat → Int) (U i : Nat) : Int := (if outs U (S.2 0 i) (S.2 1 i) = true then f (2 * i) else 0) + (if outs U (S.2 1 i) (S.2 0 i) = true then f (2 * i + 1) else 0)
def rs (S : St) (f : Nat → Int) (U : Nat) : Int := sm (tm S f U) S.na
def ct (S : St) (c : Nat → Int) (U : Nat) : Int := sm (fun i => if outs U (S.2 0 i) (S.2 1 i) = true then c i else 0) S.na
def psh (f : Nat → Int) (e : Nat) (a : Int) : Nat → Int := fu (fu f e (f e - a)) (xe e) (fu f e (f e - a) (xe e) + a)
theorem psh_e (f : Nat → Int) (e : Nat) (a : Int) : psh f e a e = f e - a := by
  unfold psh
  rw [fu_n _ _ (Ne.symm (xe_ne e)), fu_s]
theorem psh_x (f : Nat → Int) (e : Nat) (a : Int) : psh f e a (xe e) = f (xe e) + a := by
  unfold psh
  rw [fu_s, fu_n _ _ (xe_ne e)]
theorem psh_n (f : Nat → Int) {e k : Nat} (a : Int) (h1 : k ≠ e) (h2 : k ≠ xe e) : psh f e a k = f k := by
  unfold psh
  rw [fu_n _ _ h2, fu_n _ _ h1]
theorem sm_1p {f f' : Nat → Int} {j : Nat} : ∀ k : Nat, j < k → (∀ i, i < k → i ≠ j → f' i = f i) → sm f' k = sm f k + (f' j - f j)
  | 0, h, _ => absurd h (by omega)
  | k + 1, h, hh => by
    unfold sm
    by_cases e : j = k
    · subst e
      have : sm f' j = sm f j := by
        clear h
        have hx : ∀ m, m ≤ j → sm f' m = sm f m := by
          intro m
          induction m with
          | zero => intro _; rfl
          | succ m ih => intro hm; unfold sm; rw [ih (by omega), hh m (by omega) (by omega)]
        exact hx j (Nat.le_refl _)
      omega
    · rw [sm_1p k (by omega) (fun i hi => hh i (by omega)), hh k (by omega) (by omega)]
      omega
theorem sm_ext {f f' : Nat → Int} : ∀ k : Nat, (∀ i, i < k → f' i = f i) → sm f' k = sm f k
  | 0, _ => rfl
  | k + 1, h => by
    unfold sm
    rw [sm_ext k (fun i hi => h i (by omega)), h k (by omega)]
/-- what pushing along an edge does to what is left out of a set -/
theorem rs_psh {f : Nat → Int} {e U : Nat} {a : Int} (he : e < 2 * S.na) : rs S (psh f e a) U + ba U (st S e) a = rs S f U + ba U (en S e) a := by
  have h1 : rs S (psh f e a) U = rs S f U + (tm S (psh f e a) U (e / 2) - tm S f U (e / 2)) := by
    unfold rs
    refine sm_1p _ (by omega) (fun i hi hne => ?_)
    unfold tm
    rw [psh_n f a (show 2 * i ≠ e by omega) (by unfold xe; split <;> omega), psh_n f a (show 2 * i + 1 ≠ e by omega) (by unfold xe; split <;> omega)]
  rw [h1, en_eq]
  unfold tm st ba outs
  have p1 := psh_e f e a
  have p2 := psh_x f e a
  unfold xe at p2
  by_cases hp : e % 2 = 0
  · rw [if_pos hp] at p2
    rw [show 2 * (e / 2) = e by omega, if_pos hp, if_pos hp, p1, p2]
    cases U.testBit (S.2 0 (e / 2)).toNat <;> cases U.testBit (S.2 1 (e / 2)).toNat <;> simp <;> omega
  · rw [if_neg hp] at p2
    rw [show 2 * (e / 2) = e - 1 by omega, show e - 1 + 1 = e by omega, if_neg hp, if_neg hp, p1, p2]
    cases U.testBit (S.2 0 (e / 2)).toNat <;> cases U.testBit (S.2 1 (e / 2)).toNat <;> simp <;> omega
/-- both ways of an arc together hold its room -/
def FB (S : St) (c f : Nat → Int) : Prop := ∀ i, i < S.na → 0 ≤ f (2 * i) ∧ 0 ≤ f (2 * i + 1) ∧ f (2 * i) + f (2 * i + 1) = c i
theorem FB.nn {c f : Nat → Int} (h : FB S c f) {e : Nat} (he : e < 2 * S.na) : 0 ≤ f e ∧ f e ≤ c (e / 2) := by
  have := h (e / 2) (by omega)
  by_cases hp : e % 2 = 0
  · rw [show 2 * (e / 2) = e by omega] at this
    omega
  · rw [show 2 * (e / 2) + 1 = e by omega] at this
    omega
theorem FB.psh {c f : Nat → Int} (h : FB S c f) {e : Nat} (he : e < 2 * S.na) {a : Int} (h1 : 0 ≤ a) (h2 : a ≤ f e) : FB S c (psh f e a) := by
  intro i hi
  have hh := h i hi
  by_cases hne : i = e / 2
  · subst hne
    have p1 := psh_e f e a
    have p2 := psh_x f e a
    unfold xe at p2
    by_cases hp : e % 2 = 0
    · rw [if_pos hp] at p2
      rw [show 2 * (e / 2) = e by omega] at hh ⊢
      rw [p1, p2]
      omega
    · rw [if_neg hp] at p2
      rw [show 2 * (e / 2) = e - 1 by omega, show e - 1 + 1 = e by omega] at hh ⊢
      rw [p1, p2]
      omega
  · rw [psh_n f a (show 2 * i ≠ e by omega) (by unfold xe; split <;> omega), psh_n f a (show 2 * i + 1 ≠ e by omega) (by unfold xe; split <;> omega)]
    exact hh
/-- a flow of sum from o to t -/
def FI (S : St) (c : Nat → Int) (o t : Int) (f : Nat → Int) (sum : Int) : Prop := FB S c f ∧ ∀ U, outs U o t = true → rs S f U + sum = ct S c U
theorem rs_nn {c f : Nat → Int} (h : FB S c f) (U : Nat) : 0 ≤ rs S f U := by
  have : ∀ k, k ≤ S.na → 0 ≤ sm (tm S f U) k := by
    intro k
    induction k with
    | zero => intro _; exact Int.le_refl _
    | succ k ih =>
      intro hk
      have h1 := ih (by omega)
      have h2 := h k (by omega)
      unfold sm
      unfold tm
      unfold tm at h1
      split <;> split <;> omega
  exact this _ (Nat.le_refl _)
theorem ct_bd {c : Nat → Int} {U : Nat} (h : ∀ i, i < S.na → 0 ≤ c i ∧ c i ≤ 1000) : 0 ≤ ct S c U ∧ ct S c U ≤ S.na * 1000 := by
  refine sm_bd _ (fun i hi => ?_)
  have := h i hi
  split <;> omega
theorem FI_0 {c f : Nat → Int} {o t : Int} (hc : ∀ i, i < S.na → 0 ≤ c i) (h : ∀ i, i < S.na → f (2 * i) = c i ∧ f (2 * i + 1) = 0) : FI S c o t f 0 := by
  refine ⟨fun i hi => ?_, fun U hU => ?_⟩
  · have h1 := h i hi
    have h2 := hc i hi
    omega
  · unfold rs ct
    rw [Int.add_zero]
    refine sm_ext _ (fun i hi => ?_)
    unfold tm
    rw [(h i hi).1, (h i hi).2]
    simp
/-- searching: nodes reached, in their order -/
def BF (S : St) (o : Int) (f : Nat → Int) (m w : Nat) (qu cb : Nat → Int) : Prop := m < 1024 ∧ 1 ≤ w ∧ cn (fun v => m.testBit v) 10 = w ∧ (∀ k, k < w → 0 ≤ qu k ∧ qu k < S.nn ∧ m.testBit (qu k).toNat = true) ∧ (∀ v, v < 10 → m.testBit v = true → ∃ k, k < w ∧ qu k = v) ∧ qu 0 = o ∧ cb o.toNat = -1 ∧ (∀ k, 0 < k → k < w → ∃ e k' : Nat, e < 2 * S.na ∧ cb (qu k).toNat = e ∧ 0 < f e ∧ en S e = qu k ∧ k' < k ∧ st S e = qu k') ∧ (∀ j k, j < w → k < w → qu j = qu k → j = k)
theorem cn_upd {p q : Nat → Bool} {j : Nat} : ∀ k : Nat, j < k → (∀ i, i < k → i ≠ j → q i = p i) → p j = false → q j = true → cn q k = cn p k + 1
  | 0, h, _, _, _ => absurd h (by omega)
  | k + 1, h, hh, h1, h2 => by
    unfold cn
    by_cases e : j = k
    · subst e
      have : cn q j = cn p j := by
        clear h
        have hx : ∀ m, m ≤ j → cn q m = cn p m := by
          intro m
          induction m with
          | zero => intro _; rfl
          | succ m ih => intro hm; unfold cn; rw [ih (by omega), hh m (by omega) (by omega)]
        exact hx j (Nat.le_refl _)
      rw [this, h1, h2]
      simp
    · rw [cn_upd k (by omega) (fun i hi => hh i (by omega)) h1 h2, hh k (by omega) (by omega)]
      omega
theorem BF_0 (hw : WF S) {o : Int} {f qu cb : Nat → Int} (h1 : 0 ≤ o) (h2 : o < S.nn) (hq : qu 0 = o) (hc : cb o.toNat = -1) : BF S o f (2 ^ o.toNat) 1 qu cb := by
  have hn := hw.1
  refine ⟨Nat.pow_lt_pow_right (by decide) (show o.toNat < 10 by omega), Nat.le_refl _, ?_, fun k hk => ?_, fun v hv hb => ?_, hq, hc, fun k h0 h1 => absurd h1 (by omega), fun j k hj hk _ => by omega⟩
  · have : cn (fun v => (2 ^ o.toNat).testBit v) 10 = cn (fun _ => false) 10 + 1 := by
      refine cn_upd (j := o.toNat) 10 (by omega) (fun i hi hne => ?_) rfl ?_
      · exact Nat.testBit_two_pow_of_ne (Ne.symm hne)
      · exact Nat.testBit_two_pow_self
    rw [this]
    rfl
  · have ek : k = 0 := by omega
    subst ek
    rw [hq]
    exact ⟨h1, h2, Nat.testBit_two_pow_self⟩
  · refine ⟨0, by omega, ?_⟩
    have : v = o.toNat := by
      by_cases e : v = o.toNat
      · exact e
      · rw [Nat.testBit_two_pow_of_ne (Ne.symm e)] at hb
        cases hb
    omega
theorem BF_le {o : Int} {f : Nat → Int} {m w : Nat} {qu cb : Nat → Int} (h : BF S o f m w qu cb) : w ≤ 10 := by
  obtain ⟨h1, h2, h3, -⟩ := h
  have := cn_le (o := fun v => m.testBit v) 10
  omega
theorem BF_s (hw : WF S) {o : Int} {f : Nat → Int} {m w : Nat} {qu cb : Nat → Int} (h : BF S o f m w qu cb) {e q : Nat} (he : e < 2 * S.na) (hf : 0 < f e) (hq : q < w) (hs : st S e = qu q) (hb : m.testBit (en S e).toNat = false) : BF S o f (m ||| 2 ^ (en S e).toNat) (w + 1) (fu qu w (en S e)) (fu cb (en S e).toNat e) ∧ w < 10 := by
  obtain ⟨h1, h2, h3, h4, h5, h6, h7, h8, h9⟩ := id h
  obtain ⟨b1, b2⟩ := en_bd hw he
  have hn := hw.1
  have hnq : ∀ k, k < w → qu k ≠ en S e := by
    intro k hk hh
    have := (h4 k hk).2.2
    rw [hh, hb] at this
    cases this
  have hcn : cn (fun v => (m ||| 2 ^ (en S e).toNat).testBit v) 10 = cn (fun v => m.testBit v) 10 + 1 := by
    refine cn_upd (j := (en S e).toNat) 10 (by omega) (fun i hi hne => ?_) hb ?_
    · rw [or_bit]; simp [hne]
    · rw [or_bit]; simp
  have hw10 : w + 1 ≤ 10 := by
    have := cn_le (o := fun v => (m ||| 2 ^ (en S e).toNat).testBit v) 10
    omega
  refine ⟨⟨or_lt h1 (by omega), by omega, by omega, fun k hk => ?_, fun v hv hbv => ?_, ?_, ?_, fun k k0 hk => ?_, fun j k hj hk hjk => ?_⟩, by omega⟩
  · by_cases ek : k = w
    · subst ek
      rw [fu_s, or_bit]
      exact ⟨b1, b2, by simp⟩
    · rw [fu_n _ _ ek, or_bit]
      obtain ⟨a1, a2, a3⟩ := h4 k (by omega)
      exact ⟨a1, a2, by rw [a3]; rfl⟩
  · rw [or_bit] at hbv
    by_cases ev : v = (en S e).toNat
    · exact ⟨w, by omega, by rw [fu_s]; omega⟩
    · rw [decide_eq_false ev, Bool.or_false] at hbv
      obtain ⟨k, hk, hkv⟩ := h5 v hv hbv
      exact ⟨k, by omega, by rw [fu_n _ _ (by omega)]; exact hkv⟩
  · rw [fu_n _ _ (by omega)]; exact h6
  · rw [fu_n]
    · exact h7
    · intro hh
      have a0 := hnq 0 (by omega)
      have a1 := h4 0 (by omega)
      rw [h6] at a0 a1
      omega
  · by_cases ek : k = w
    · subst ek
      refine ⟨e, q, he, ?_, hf, ?_, hq, ?_⟩
      · rw [fu_s, fu_s]
      · rw [fu_s]
      · rw [fu_n _ _ (by omega)]; exact hs
    · obtain ⟨e', k', c1, c2, c3, c4, c5, c6⟩ := h8 k k0 (by omega)
      refine ⟨e', k', c1, ?_, c3, ?_, c5, ?_⟩
      · rw [fu_n _ _ ek, fu_n]
        · exact c2
        · have a0 := hnq k (by omega)
          have a1 := h4 k (by omega)
          omega
      · rw [fu_n _ _ ek]; exact c4
      · rw [fu_n _ _ (by omega)]; exact c6
  · by_cases ej : j = w <;> by_cases ek : k = w
    · omega
    · subst ej
      rw [fu_s, fu_n _ _ ek] at hjk
      exact absurd hjk.symm (hnq k (by omega))
    · subst ek
      rw [fu_s, fu_n _ _ ej] at hjk
      exact absurd hjk (hnq j (by omega))
    · rw [fu_n _ _ ej, fu_n _ _ ek] at hjk
      exact h9 j k (by omega) (by omega) hjk
/-- the way back from the k-th node: everywhere a is left -/
def Low (S : St) (qu cb f : Nat → Int) (a : Int) : Nat → Nat → Prop
  | 0, k => k = 0
  | B + 1, k => k = 0 ∨ ∃ k' e : Nat, cb (qu k).toNat = e ∧ e < 2 * S.na ∧ k' < k ∧ st S e = qu k' ∧ en S e = qu k ∧ a ≤ f e ∧ Low S qu cb f a B k'
theorem Low.z {qu cb f : Nat → Int} {a : Int} : ∀ B : Nat, Low S qu cb f a B 0
  | 0 => rfl
  | _ + 1 => Or.inl rfl
/-- nothing leads out of what was reached -/
theorem cut_of {c f : Nat → Int} {o t sum : Int} {m w : Nat} {qu cb : Nat → Int} (hw : WF S) (hF : FI S c o t f sum) (hB : BF S o f m w qu cb) (ht : m.testBit t.toNat = false) (ht1 : 0 ≤ t) (hcl : ∀ k e, k < w → e < 2 * S.na → 0 < f e → st S e = qu k → m.testBit (en S e).toNat = true) : outs m o t = true ∧ m < 2 ^ S.nn ∧ sum = ct S c m ∧ ∀ U, outs U o t = true → sum ≤ ct S c U := by
  obtain ⟨h1, h2, h3, h4, h5, h6, h7, h8, h9⟩ := id hB
  have hn := hw.1
  have ho : outs m o t = true := by
    unfold outs
    have := (h4 0 (by omega)).2.2
    rw [h6] at this
    rw [this, ht]
    rfl
  have hin : ∀ e, e < 2 * S.na → m.testBit (st S e).toNat = true → m.testBit (en S e).toNat = false → f e = 0 := by
    intro e he hs hen
    have hb := st_bd hw he
    obtain ⟨k, hk, hkv⟩ := h5 _ (by omega) hs
    have hnn := (hF.1.nn he).1
    by_cases hp : 0 < f e
    · have := hcl k e hk he hp (by omega)
      rw [hen] at this
      cases this
    · omega
  refine ⟨ho, ?_, ?_, fun U hU => ?_⟩
  · refine Nat.lt_pow_two_of_testBit m (fun i hi => ?_)
    cases hbi : m.testBit i with
    | false => rfl
    | true =>
      by_cases h10 : i < 10
      · obtain ⟨k, hk, hkv⟩ := h5 i h10 hbi
        have := h4 k hk
        omega
      · have := Nat.testBit_lt_two_pow (x := m) (i := i) (Nat.lt_of_lt_of_le h1 (Nat.pow_le_pow_right (n := 2) (by decide) (show 10 ≤ i by omega)))
        rw [this] at hbi
        cases hbi
  · have hz : rs S f m = 0 := by
      have : rs S f m = sm (fun _ => 0) S.na := by
        refine sm_ext _ (fun i hi => ?_)
        unfold tm outs
        have e1 := hin (2 * i) (by omega)
        have e2 := hin (2 * i + 1) (by omega)
        rw [en_eq] at e1 e2
        unfold st at e1 e2
        rw [if_pos (show 2 * i % 2 = 0 by omega), if_pos (show 2 * i % 2 = 0 by omega), show 2 * i / 2 = i by omega] at e1
        rw [if_neg (show ¬ (2 * i + 1) % 2 = 0 by omega), if_neg (show ¬ (2 * i + 1) % 2 = 0 by omega), show (2 * i + 1) / 2 = i by omega] at e2
        cases b1 : m.testBit (S.2 0 i).toNat <;> cases b2 : m.testBit (S.2 1 i).toNat <;> simp
        · exact e2 b2 b1
        · exact e1 b1 b2
      rw [this]
      have hx : ∀ k, sm (fun _ => 0) k = 0 := by
        intro k
        induction k with
        | zero => rfl
        | succ k ih => unfold sm; rw [ih]; rfl
      exact hx _
    have := hF.2 m ho
    omega
  · have h1 := hF.2 U hU
    have h2 := rs_nn hF.1 U
    omega
/-- the least over sets, as the reference goes through them -/
def mnS (S : St) (c : Nat → Int) (o t : Int) : Nat → Int
  | 0 => -1
  | k + 1 => if outs k o t = true then (if mnS S c o t k < 0 ∨ ct S c k < mnS S c o t k then ct S c k else mnS S c o t k) else mnS S c o t k
theorem mnS_spec {c : Nat → Int} {o t : Int} (hc : ∀ i, i < S.na → 0 ≤ c i ∧ c i ≤ 1000) : ∀ k : Nat, -1 ≤ mnS S c o t k ∧ (∀ U, U < k → outs U o t = true → 0 ≤ mnS S c o t k ∧ mnS S c o t k ≤ ct S c U) ∧ (mnS S c o t k = -1 ∨ ∃ U, U < k ∧ outs U o t = true ∧ mnS S c o t k = ct S c U)
  | 0 => ⟨Int.le_refl _, fun U h => absurd h (by omega), Or.inl rfl⟩
  | k + 1 => by
    obtain ⟨i0, i1, i2⟩ := mnS_spec (o := o) (t := t) hc k
    have hb := (ct_bd (S := S) (U := k) hc).1
    unfold mnS
    by_cases ho : outs k o t = true
    · rw [if_pos ho]
      by_cases hm : mnS S c o t k < 0 ∨ ct S c k < mnS S c o t k
      · rw [if_pos hm]
        refine ⟨by omega, fun U hU hoU => ?_, Or.inr ⟨k, by omega, ho, rfl⟩⟩
        by_cases e : U = k
        · subst e; exact ⟨hb, Int.le_refl _⟩
        · have := i1 U (by omega) hoU
          omega
      · rw [if_neg hm]
        refine ⟨i0, fun U hU hoU => ?_, ?_⟩
        · by_cases e : U = k
          · subst e; omega
          · exact i1 U (by omega) hoU
        · rcases i2 with h | ⟨U, h1, h2, h3⟩
          · exact Or.inl h
          · exact Or.inr ⟨U, by omega, h2, h3⟩
    · rw [if_neg ho]
      refine ⟨i0, fun U hU hoU => ?_, ?_⟩
      · by_cases e : U = k
        · subst e; exact absurd hoU ho
        · exact i1 U (by omega) hoU
      · rcases i2 with h | ⟨U, h1, h2, h3⟩
        · exact Or.inl h
        · exact Or.inr ⟨U, by omega, h2, h3⟩
theorem mnS_eq {c : Nat → Int} {o t sum : Int} (hc : ∀ i, i < S.na → 0 ≤ c i ∧ c i ≤ 1000) {m k : Nat} (hm : m < k) (ho : outs m o t = true) (hs : sum = ct S c m) (hl : ∀ U, outs U o t = true → sum ≤ ct S c U) : mnS S c o t k = sum := by
  obtain ⟨i0, i1, i2⟩ := mnS_spec (o := o) (t := t) hc k
  obtain ⟨j1, j2⟩ := i1 m hm ho
  rcases i2 with h | ⟨U, h1, h2, h3⟩
  · omega
  · have := hl U h2
    omega
def lft (S : St) (i : Nat) : Int := S.2 2 i - lds S (pf (BP S).2.2) S.ng i
def spMore (S : St) (g : Int) : Int := if 0 ≤ g ∧ g < S.ng then mnS S (lft S) (S.2 4 g.toNat) (S.2 5 g.toNat) (2 ^ S.nn) else -2
end FLOW
