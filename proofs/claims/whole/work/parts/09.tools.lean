/-- a walk's point with more, or other, order of locals -/
theorem xX.loc {l : Launch} {t : xT} {d mc ms : Nat} {Q : xP} {kc ks pc n : Nat} {L : xL} (L' : xL) {st : List Value} {ws : xW} (h : ∀ q ∈ L', q ∈ L) (k : xX l t d mc ms Q kc ks pc L' st n ws) : xX l t d mc ms Q kc ks pc L st n ws := by
  intro G tc z p e s m args below meth c H locs cells slots ls hC hR hS hl hk1 hk2
  refine k G tc z p e s m args below meth c H locs cells slots ls hC hR hS ⟨hl.1, hl.2.1, fun q hq => ?_⟩ hk1 hk2
  obtain ⟨q0, h0, rfl⟩ := List.mem_map.mp hq
  exact hl.2.2 _ (List.mem_map.mpr ⟨q0, h q0 h0, rfl⟩)
/-- the sum of the first k -/
def sm (f : Nat → Int) : Nat → Int
  | 0 => 0
  | k + 1 => sm f k + f k
theorem sm_bd {f : Nat → Int} {B : Int} : ∀ k : Nat, (∀ i, i < k → 0 ≤ f i ∧ f i ≤ B) → 0 ≤ sm f k ∧ sm f k ≤ k * B
  | 0, _ => ⟨Int.le_refl 0, by simp [sm]⟩
  | k + 1, h => by
    obtain ⟨h1, h2⟩ := sm_bd k (fun i hi => h i (by omega))
    obtain ⟨h3, h4⟩ := h k (by omega)
    refine ⟨by unfold sm; omega, ?_⟩
    have e : ((k + 1 : Nat) : Int) * B = k * B + B := by rw [Int.natCast_add, Int.add_mul]; simp
    unfold sm
    omega
/-- the block at a loop's head, then others -/
theorem xL_ok {l : Launch} {t : xT} {d mc ms : Nat} {Q : xP} (hcls : t.2.1.cls = xnm t.1) {ops : List xO} {pc kc ks n : Nat} {L : xL} {st : List Value} {ws : xW} (hc : xchk t.1 t.2.2.2.1 (t.2.1.name == "<init>") t.2.2.1 ops pc = true) {T : List (Nat × List xO)} (hT : xTok t T = true) (k : Nat)
    (h : xb (xN T (xX l t d mc ms Q) Q t.2.2.2.2 k) Q t.2.2.2.2 ops pc kc ks L st n ws) : xX l t d mc ms Q kc ks pc L st n ws :=
  xgoX hcls _ (fun kc ks pc L st n ws q => xN_ok hcls hT k kc ks pc L st n ws q) ops pc kc ks L st n ws hc h
theorem b_eq0 (P : Prop) [Decidable P] : ((if P then (1 : Int) else 0) = 0) = ¬ P := by by_cases h : P <;> simp [h]
theorem b_eq1 (P : Prop) [Decidable P] : ((if P then (1 : Int) else 0) = 1) = P := by by_cases h : P <;> simp [h]
/-- behind a call that changes nothing -/
theorem pureQ {P : Option Value → Nat → xW → Prop} {r0 : Option Value} {n : Nat} {ws : xW} (h : P r0 n ws) : ∀ r n' ws', (r = r0 ∧ n' = n ∧ ws' = ws) → P r n' ws' := by
  rintro r n' ws' ⟨rfl, rfl, rfl⟩
  exact h
