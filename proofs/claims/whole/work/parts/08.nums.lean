/-! ints as integers; arrays as functions -/
theorem I_toInt {x : Int} (h1 : -2147483648 ≤ x) (h2 : x < 2147483648) : (I x).toInt = x := by
  unfold I
  rw [Int32.toInt_ofInt]
  rw [show Int32.size = 4294967296 from rfl]
  rw [Int.bmod_eq_of_le] <;> omega
theorem I_of (v : Int32) : v = I v.toInt := by unfold I; rw [Int32.ofInt_toInt]
theorem I_bd (v : Int32) : -2147483648 ≤ v.toInt ∧ v.toInt < 2147483648 := ⟨Int32.le_toInt v, Int32.toInt_lt v⟩
theorem I_add (a b : Int) : I a + I b = I (a + b) := by unfold I; rw [Int32.ofInt_add]
theorem I_sub (a b : Int) : I a - I b = I (a - b) := by unfold I; rw [Int32.ofInt_sub]
theorem I_mul (a b : Int) : I a * I b = I (a * b) := by unfold I; rw [Int32.ofInt_mul]
theorem I_neg (a : Int) : - I a = I (-a) := by unfold I; rw [Int32.ofInt_neg]
theorem I_lt {a b : Int} (h1 : -2147483648 ≤ a) (h2 : a < 2147483648) (h3 : -2147483648 ≤ b) (h4 : b < 2147483648) : (I a < I b) = (a < b) := by
  rw [Int32.lt_iff_toInt_lt, I_toInt h1 h2, I_toInt h3 h4]
theorem I_le {a b : Int} (h1 : -2147483648 ≤ a) (h2 : a < 2147483648) (h3 : -2147483648 ≤ b) (h4 : b < 2147483648) : (I a ≤ I b) = (a ≤ b) := by
  rw [Int32.le_iff_toInt_le, I_toInt h1 h2, I_toInt h3 h4]
theorem I_eq {a b : Int} (h1 : -2147483648 ≤ a) (h2 : a < 2147483648) (h3 : -2147483648 ≤ b) (h4 : b < 2147483648) : (I a = I b) = (a = b) := by
  apply propext
  constructor
  · intro h
    have := congrArg Int32.toInt h
    rwa [I_toInt h1 h2, I_toInt h3 h4] at this
  · intro h; rw [h]
theorem I_in {j : Int} {n : Nat} (h1 : -2147483648 ≤ j) (h2 : j < 2147483648) : vp_in (I j) n = (0 ≤ j ∧ j < n) := by
  apply propext
  rw [vp_in_iff, I_toInt h1 h2]
theorem I_cl {j : Int} (h1 : 0 ≤ j) (h2 : j < 2147483648) : (I j).toNatClampNeg = j.toNat := by
  have : (I j).toInt = j := I_toInt (by omega) h2
  rw [← Int32.toNat_toInt, this]
theorem I_nI (n : Nat) : nI n = I n := by unfold nI I; rw [Int32.ofInt_eq_ofNat]
/-- an int array of n places that holds f -/
def ra (n : Nat) (f : Nat → Int) : List Int32 := (List.range n).map fun i => I (f i)
theorem ra_len (n : Nat) (f : Nat → Int) : (ra n f).length = n := by simp [ra]
theorem ra_get {n : Nat} {f : Nat → Int} {j : Int} (h1 : 0 ≤ j) (h2 : j < n) (h3 : j < 2147483648) (x : Int32) : (ra n f).getD (I j).toNatClampNeg x = I (f j.toNat) := by
  rw [I_cl h1 h3]
  have : j.toNat < n := by omega
  simp [ra, List.getD_eq_getElem?_getD, this]
def fu (f : Nat → Int) (k : Nat) (v : Int) : Nat → Int := fun j => if j = k then v else f j
theorem fu_s (f : Nat → Int) (k : Nat) (v : Int) : fu f k v k = v := by simp [fu]
theorem fu_n (f : Nat → Int) {k j : Nat} (v : Int) (h : j ≠ k) : fu f k v j = f j := by simp [fu, h]
theorem ra_set {n : Nat} {f : Nat → Int} {j : Int} (h1 : 0 ≤ j) (h3 : j < 2147483648) (v : Int) : (ra n f).set (I j).toNatClampNeg (I v) = ra n (fu f j.toNat v) := by
  rw [I_cl h1 h3]
  apply List.ext_getElem?
  intro i
  by_cases hi : i < n
  · by_cases e : i = j.toNat
    · subst e; simp [ra, hi, fu]
    · rw [List.getElem?_set_ne (Ne.symm e)]; simp [ra, hi, fu, e]
  · simp [ra, hi, List.getElem?_set]
theorem ra_ext {n : Nat} {f g : Nat → Int} (h : ∀ i, i < n → f i = g i) : ra n f = ra n g := by
  unfold ra
  apply List.map_congr_left
  intro i hi
  rw [h i (List.mem_range.mp hi)]
theorem I_b0 (P : Prop) [Decidable P] : (I (if P then 1 else 0) = I 0) = ¬ P := by
  by_cases h : P <;> simp [h] <;> decide
theorem I_b01 (P : Prop) [Decidable P] : (I (if P then 1 else 0) = I 0 ∨ I (if P then 1 else 0) = I 1) = True := by
  by_cases h : P <;> simp [h]
