/-! the words of the tables that the walks use, by their places -/
def xTB : List Cond := lw_tbl.filter goodWord
theorem xTB_in {w : Cond} (h : w ∈ lw_tbl) (hg : goodWord w = true) : w ∈ xTB := List.mem_filter.mpr ⟨h, hg⟩
def xtc (a b : Nat) : Nat := (xtcs.getD a []).getD b 9
def xCl (i : Nat) : Prop := ∃ (C : String) (T : u_T) (N : Nat) (ty : Nat → FieldType), vwCl[i]? = some (C, T, N) ∧ (∀ w ∈ u_ws C T N, w ∈ xTB) ∧ (∀ k, k < N → parseFieldDescriptor (T k).2.2.1 = some (ty k)) ∧ (∀ a, a < N → ∀ b, b < N → a ≠ b → (T a).2.1 ≠ (T b).2.1) ∧ (xtcs.getD i []).length = N ∧ (∀ k, k < N → (xtc i k = 0 ∧ ty k = .int) ∨ (xtc i k = 1 ∧ ty k = .long) ∨ (xtc i k = 2 ∧ ((∃ D, ty k = .object D) ∨ ∃ D, ty k = .array D))) ∧ C = xnm i ∧ Cond.instantiable C N ∈ xTB ∧ Cond.initialized C ∈ xTB ∧ (∀ k, k < N → (T k).1 = C)
theorem xin0 : ∀ w ∈ u_ws RX0 TX0 6, w ∈ xTB := by
  have h : (u_ws RX0 TX0 6).all (fun w => decide (w ∈ lw_tbl) && goodWord w) = true := by decide +kernel
  intro w hw
  have h1 := List.all_eq_true.mp h w hw
  simp only [Bool.and_eq_true, decide_eq_true_eq] at h1
  exact xTB_in h1.1 h1.2
theorem xty0 : ∀ k, k < 6 → (xtc 0 k = 0 ∧ tyX0 k = .int) ∨ (xtc 0 k = 1 ∧ tyX0 k = .long) ∨ (xtc 0 k = 2 ∧ ((∃ D, tyX0 k = .object D) ∨ ∃ D, tyX0 k = .array D)) := fun k hk => match k, hk with
    | 0, _ => Or.inr (Or.inr ⟨by decide +kernel, Or.inr ⟨_, rfl⟩⟩)
    | 1, _ => Or.inr (Or.inr ⟨by decide +kernel, Or.inr ⟨_, rfl⟩⟩)
    | 2, _ => Or.inr (Or.inr ⟨by decide +kernel, Or.inr ⟨_, rfl⟩⟩)
    | 3, _ => Or.inr (Or.inr ⟨by decide +kernel, Or.inl ⟨_, rfl⟩⟩)
    | 4, _ => Or.inr (Or.inr ⟨by decide +kernel, Or.inl ⟨_, rfl⟩⟩)
    | 5, _ => Or.inl ⟨by decide +kernel, rfl⟩
    | k + 6, h => absurd h (by omega)
theorem xcl0 : xCl 0 := ⟨RX0, TX0, 6, tyX0, rfl, xin0, tyX0_ok, nmX0, rfl, xty0, rfl, xTB_in (List.mem_of_getElem? (i := 251) (by decide +kernel)) rfl, xTB_in (List.mem_of_getElem? (i := 42) (by decide +kernel)) rfl, by decide +kernel⟩
theorem xin1 : ∀ w ∈ u_ws RX1 TX1 3, w ∈ xTB := by
  have h : (u_ws RX1 TX1 3).all (fun w => decide (w ∈ lw_tbl) && goodWord w) = true := by decide +kernel
  intro w hw
  have h1 := List.all_eq_true.mp h w hw
  simp only [Bool.and_eq_true, decide_eq_true_eq] at h1
  exact xTB_in h1.1 h1.2
theorem xty1 : ∀ k, k < 3 → (xtc 1 k = 0 ∧ tyX1 k = .int) ∨ (xtc 1 k = 1 ∧ tyX1 k = .long) ∨ (xtc 1 k = 2 ∧ ((∃ D, tyX1 k = .object D) ∨ ∃ D, tyX1 k = .array D)) := fun k hk => match k, hk with
    | 0, _ => Or.inr (Or.inr ⟨by decide +kernel, Or.inr ⟨_, rfl⟩⟩)
    | 1, _ => Or.inr (Or.inr ⟨by decide +kernel, Or.inr ⟨_, rfl⟩⟩)
    | 2, _ => Or.inr (Or.inr ⟨by decide +kernel, Or.inr ⟨_, rfl⟩⟩)
    | k + 3, h => absurd h (by omega)
theorem xcl1 : xCl 1 := ⟨RX1, TX1, 3, tyX1, rfl, xin1, tyX1_ok, nmX1, rfl, xty1, rfl, xTB_in (List.mem_of_getElem? (i := 297) (by decide +kernel)) rfl, xTB_in (List.mem_of_getElem? (i := 44) (by decide +kernel)) rfl, by decide +kernel⟩
theorem xin2 : ∀ w ∈ u_ws RX2 TX2 2, w ∈ xTB := by
  have h : (u_ws RX2 TX2 2).all (fun w => decide (w ∈ lw_tbl) && goodWord w) = true := by decide +kernel
  intro w hw
  have h1 := List.all_eq_true.mp h w hw
  simp only [Bool.and_eq_true, decide_eq_true_eq] at h1
  exact xTB_in h1.1 h1.2
theorem xty2 : ∀ k, k < 2 → (xtc 2 k = 0 ∧ tyX2 k = .int) ∨ (xtc 2 k = 1 ∧ tyX2 k = .long) ∨ (xtc 2 k = 2 ∧ ((∃ D, tyX2 k = .object D) ∨ ∃ D, tyX2 k = .array D)) := fun k hk => match k, hk with
    | 0, _ => Or.inr (Or.inl ⟨by decide +kernel, rfl⟩)
    | 1, _ => Or.inr (Or.inl ⟨by decide +kernel, rfl⟩)
    | k + 2, h => absurd h (by omega)
theorem xcl2 : xCl 2 := ⟨RX2, TX2, 2, tyX2, rfl, xin2, tyX2_ok, nmX2, rfl, xty2, rfl, xTB_in (List.mem_of_getElem? (i := 258) (by decide +kernel)) rfl, xTB_in (List.mem_of_getElem? (i := 43) (by decide +kernel)) rfl, by decide +kernel⟩
theorem xin3 : ∀ w ∈ u_ws RX3 TX3 1, w ∈ xTB := by
  have h : (u_ws RX3 TX3 1).all (fun w => decide (w ∈ lw_tbl) && goodWord w) = true := by decide +kernel
  intro w hw
  have h1 := List.all_eq_true.mp h w hw
  simp only [Bool.and_eq_true, decide_eq_true_eq] at h1
  exact xTB_in h1.1 h1.2
theorem xty3 : ∀ k, k < 1 → (xtc 3 k = 0 ∧ tyX3 k = .int) ∨ (xtc 3 k = 1 ∧ tyX3 k = .long) ∨ (xtc 3 k = 2 ∧ ((∃ D, tyX3 k = .object D) ∨ ∃ D, tyX3 k = .array D)) := fun k hk => match k, hk with
    | 0, _ => Or.inr (Or.inr ⟨by decide +kernel, Or.inr ⟨_, rfl⟩⟩)
    | k + 1, h => absurd h (by omega)
theorem xcl3 : xCl 3 := ⟨RX3, TX3, 1, tyX3, rfl, xin3, tyX3_ok, nmX3, rfl, xty3, rfl, xTB_in (List.mem_of_getElem? (i := 212) (by decide +kernel)) rfl, xTB_in (List.mem_of_getElem? (i := 41) (by decide +kernel)) rfl, by decide +kernel⟩
theorem xin4 : ∀ w ∈ u_ws RX4 TX4 13, w ∈ xTB := by
  have h : (u_ws RX4 TX4 13).all (fun w => decide (w ∈ lw_tbl) && goodWord w) = true := by decide +kernel
  intro w hw
  have h1 := List.all_eq_true.mp h w hw
  simp only [Bool.and_eq_true, decide_eq_true_eq] at h1
  exact xTB_in h1.1 h1.2
theorem xty4 : ∀ k, k < 13 → (xtc 4 k = 0 ∧ tyX4 k = .int) ∨ (xtc 4 k = 1 ∧ tyX4 k = .long) ∨ (xtc 4 k = 2 ∧ ((∃ D, tyX4 k = .object D) ∨ ∃ D, tyX4 k = .array D)) := fun k hk => match k, hk with
    | 0, _ => Or.inl ⟨by decide +kernel, rfl⟩
    | 1, _ => Or.inl ⟨by decide +kernel, rfl⟩
    | 2, _ => Or.inl ⟨by decide +kernel, rfl⟩
    | 3, _ => Or.inl ⟨by decide +kernel, rfl⟩
    | 4, _ => Or.inl ⟨by decide +kernel, rfl⟩
    | 5, _ => Or.inr (Or.inr ⟨by decide +kernel, Or.inr ⟨_, rfl⟩⟩)
    | 6, _ => Or.inr (Or.inr ⟨by decide +kernel, Or.inr ⟨_, rfl⟩⟩)
    | 7, _ => Or.inr (Or.inr ⟨by decide +kernel, Or.inr ⟨_, rfl⟩⟩)
    | 8, _ => Or.inr (Or.inr ⟨by decide +kernel, Or.inr ⟨_, rfl⟩⟩)
    | 9, _ => Or.inr (Or.inr ⟨by decide +kernel, Or.inr ⟨_, rfl⟩⟩)
    | 10, _ => Or.inr (Or.inr ⟨by decide +kernel, Or.inr ⟨_, rfl⟩⟩)
    | 11, _ => Or.inr (Or.inr ⟨by decide +kernel, Or.inr ⟨_, rfl⟩⟩)
    | 12, _ => Or.inr (Or.inr ⟨by decide +kernel, Or.inr ⟨_, rfl⟩⟩)
    | k + 13, h => absurd h (by omega)
theorem xcl4 : xCl 4 := ⟨RX4, TX4, 13, tyX4, rfl, xin4, tyX4_ok, nmX4, rfl, xty4, rfl, xTB_in (List.mem_of_getElem? (i := 56) (by decide +kernel)) rfl, xTB_in (List.mem_of_getElem? (i := 36) (by decide +kernel)) rfl, by decide +kernel⟩
theorem xin5 : ∀ w ∈ u_ws RX5 TX5 7, w ∈ xTB := by
  have h : (u_ws RX5 TX5 7).all (fun w => decide (w ∈ lw_tbl) && goodWord w) = true := by decide +kernel
  intro w hw
  have h1 := List.all_eq_true.mp h w hw
  simp only [Bool.and_eq_true, decide_eq_true_eq] at h1
  exact xTB_in h1.1 h1.2
theorem xty5 : ∀ k, k < 7 → (xtc 5 k = 0 ∧ tyX5 k = .int) ∨ (xtc 5 k = 1 ∧ tyX5 k = .long) ∨ (xtc 5 k = 2 ∧ ((∃ D, tyX5 k = .object D) ∨ ∃ D, tyX5 k = .array D)) := fun k hk => match k, hk with
    | 0, _ => Or.inr (Or.inr ⟨by decide +kernel, Or.inr ⟨_, rfl⟩⟩)
    | 1, _ => Or.inl ⟨by decide +kernel, rfl⟩
    | 2, _ => Or.inl ⟨by decide +kernel, rfl⟩
    | 3, _ => Or.inr (Or.inr ⟨by decide +kernel, Or.inr ⟨_, rfl⟩⟩)
    | 4, _ => Or.inr (Or.inr ⟨by decide +kernel, Or.inr ⟨_, rfl⟩⟩)
    | 5, _ => Or.inr (Or.inr ⟨by decide +kernel, Or.inr ⟨_, rfl⟩⟩)
    | 6, _ => Or.inr (Or.inr ⟨by decide +kernel, Or.inl ⟨_, rfl⟩⟩)
    | k + 7, h => absurd h (by omega)
theorem xcl5 : xCl 5 := ⟨RX5, TX5, 7, tyX5, rfl, xin5, tyX5_ok, nmX5, rfl, xty5, rfl, xTB_in (List.mem_of_getElem? (i := 206) (by decide +kernel)) rfl, xTB_in (List.mem_of_getElem? (i := 40) (by decide +kernel)) rfl, by decide +kernel⟩
theorem xin6 : ∀ w ∈ u_ws RX6 TX6 3, w ∈ xTB := by
  have h : (u_ws RX6 TX6 3).all (fun w => decide (w ∈ lw_tbl) && goodWord w) = true := by decide +kernel
  intro w hw
  have h1 := List.all_eq_true.mp h w hw
  simp only [Bool.and_eq_true, decide_eq_true_eq] at h1
  exact xTB_in h1.1 h1.2
theorem xty6 : ∀ k, k < 3 → (xtc 6 k = 0 ∧ tyX6 k = .int) ∨ (xtc 6 k = 1 ∧ tyX6 k = .long) ∨ (xtc 6 k = 2 ∧ ((∃ D, tyX6 k = .object D) ∨ ∃ D, tyX6 k = .array D)) := fun k hk => match k, hk with
    | 0, _ => Or.inl ⟨by decide +kernel, rfl⟩
    | 1, _ => Or.inl ⟨by decide +kernel, rfl⟩
    | 2, _ => Or.inr (Or.inr ⟨by decide +kernel, Or.inr ⟨_, rfl⟩⟩)
    | k + 3, h => absurd h (by omega)
theorem xcl6 : xCl 6 := ⟨RX6, TX6, 3, tyX6, rfl, xin6, tyX6_ok, nmX6, rfl, xty6, rfl, xTB_in (List.mem_of_getElem? (i := 151) (by decide +kernel)) rfl, xTB_in (List.mem_of_getElem? (i := 39) (by decide +kernel)) rfl, by decide +kernel⟩
theorem xin7 : ∀ w ∈ u_ws RX7 TX7 2, w ∈ xTB := by
  have h : (u_ws RX7 TX7 2).all (fun w => decide (w ∈ lw_tbl) && goodWord w) = true := by decide +kernel
  intro w hw
  have h1 := List.all_eq_true.mp h w hw
  simp only [Bool.and_eq_true, decide_eq_true_eq] at h1
  exact xTB_in h1.1 h1.2
theorem xty7 : ∀ k, k < 2 → (xtc 7 k = 0 ∧ tyX7 k = .int) ∨ (xtc 7 k = 1 ∧ tyX7 k = .long) ∨ (xtc 7 k = 2 ∧ ((∃ D, tyX7 k = .object D) ∨ ∃ D, tyX7 k = .array D)) := fun k hk => match k, hk with
    | 0, _ => Or.inl ⟨by decide +kernel, rfl⟩
    | 1, _ => Or.inr (Or.inr ⟨by decide +kernel, Or.inr ⟨_, rfl⟩⟩)
    | k + 2, h => absurd h (by omega)
theorem xcl7 : xCl 7 := ⟨RX7, TX7, 2, tyX7, rfl, xin7, tyX7_ok, nmX7, rfl, xty7, rfl, xTB_in (List.mem_of_getElem? (i := 144) (by decide +kernel)) rfl, xTB_in (List.mem_of_getElem? (i := 38) (by decide +kernel)) rfl, by decide +kernel⟩
theorem xin8 : ∀ w ∈ u_ws RX8 TX8 4, w ∈ xTB := by
  have h : (u_ws RX8 TX8 4).all (fun w => decide (w ∈ lw_tbl) && goodWord w) = true := by decide +kernel
  intro w hw
  have h1 := List.all_eq_true.mp h w hw
  simp only [Bool.and_eq_true, decide_eq_true_eq] at h1
  exact xTB_in h1.1 h1.2
theorem xty8 : ∀ k, k < 4 → (xtc 8 k = 0 ∧ tyX8 k = .int) ∨ (xtc 8 k = 1 ∧ tyX8 k = .long) ∨ (xtc 8 k = 2 ∧ ((∃ D, tyX8 k = .object D) ∨ ∃ D, tyX8 k = .array D)) := fun k hk => match k, hk with
    | 0, _ => Or.inr (Or.inr ⟨by decide +kernel, Or.inr ⟨_, rfl⟩⟩)
    | 1, _ => Or.inr (Or.inr ⟨by decide +kernel, Or.inr ⟨_, rfl⟩⟩)
    | 2, _ => Or.inr (Or.inr ⟨by decide +kernel, Or.inr ⟨_, rfl⟩⟩)
    | 3, _ => Or.inl ⟨by decide +kernel, rfl⟩
    | k + 4, h => absurd h (by omega)
theorem xcl8 : xCl 8 := ⟨RX8, TX8, 4, tyX8, rfl, xin8, tyX8_ok, nmX8, rfl, xty8, rfl, xTB_in (List.mem_of_getElem? (i := 137) (by decide +kernel)) rfl, xTB_in (List.mem_of_getElem? (i := 37) (by decide +kernel)) rfl, by decide +kernel⟩
theorem xin9 : ∀ w ∈ u_ws RX9 TX9 10, w ∈ xTB := by
  have h : (u_ws RX9 TX9 10).all (fun w => decide (w ∈ lw_tbl) && goodWord w) = true := by decide +kernel
  intro w hw
  have h1 := List.all_eq_true.mp h w hw
  simp only [Bool.and_eq_true, decide_eq_true_eq] at h1
  exact xTB_in h1.1 h1.2
theorem xty9 : ∀ k, k < 10 → (xtc 9 k = 0 ∧ tyX9 k = .int) ∨ (xtc 9 k = 1 ∧ tyX9 k = .long) ∨ (xtc 9 k = 2 ∧ ((∃ D, tyX9 k = .object D) ∨ ∃ D, tyX9 k = .array D)) := fun k hk => match k, hk with
    | 0, _ => Or.inr (Or.inr ⟨by decide +kernel, Or.inl ⟨_, rfl⟩⟩)
    | 1, _ => Or.inr (Or.inr ⟨by decide +kernel, Or.inl ⟨_, rfl⟩⟩)
    | 2, _ => Or.inr (Or.inr ⟨by decide +kernel, Or.inl ⟨_, rfl⟩⟩)
    | 3, _ => Or.inr (Or.inr ⟨by decide +kernel, Or.inl ⟨_, rfl⟩⟩)
    | 4, _ => Or.inr (Or.inr ⟨by decide +kernel, Or.inl ⟨_, rfl⟩⟩)
    | 5, _ => Or.inr (Or.inr ⟨by decide +kernel, Or.inl ⟨_, rfl⟩⟩)
    | 6, _ => Or.inr (Or.inr ⟨by decide +kernel, Or.inr ⟨_, rfl⟩⟩)
    | 7, _ => Or.inr (Or.inr ⟨by decide +kernel, Or.inl ⟨_, rfl⟩⟩)
    | 8, _ => Or.inr (Or.inr ⟨by decide +kernel, Or.inl ⟨_, rfl⟩⟩)
    | 9, _ => Or.inl ⟨by decide +kernel, rfl⟩
    | k + 10, h => absurd h (by omega)
theorem xcl9 : xCl 9 := ⟨RX9, TX9, 10, tyX9, rfl, xin9, tyX9_ok, nmX9, rfl, xty9, rfl, xTB_in (List.mem_of_getElem? (i := 48) (by decide +kernel)) rfl, xTB_in (List.mem_of_getElem? (i := 35) (by decide +kernel)) rfl, by decide +kernel⟩
theorem xin10 : ∀ w ∈ u_ws RX10 TX10 26, w ∈ xTB := by
  have h : (u_ws RX10 TX10 26).all (fun w => decide (w ∈ lw_tbl) && goodWord w) = true := by decide +kernel
  intro w hw
  have h1 := List.all_eq_true.mp h w hw
  simp only [Bool.and_eq_true, decide_eq_true_eq] at h1
  exact xTB_in h1.1 h1.2
theorem xty10 : ∀ k, k < 26 → (xtc 10 k = 0 ∧ tyX10 k = .int) ∨ (xtc 10 k = 1 ∧ tyX10 k = .long) ∨ (xtc 10 k = 2 ∧ ((∃ D, tyX10 k = .object D) ∨ ∃ D, tyX10 k = .array D)) := fun k hk => match k, hk with
    | 0, _ => Or.inl ⟨by decide +kernel, rfl⟩
    | 1, _ => Or.inl ⟨by decide +kernel, rfl⟩
    | 2, _ => Or.inl ⟨by decide +kernel, rfl⟩
    | 3, _ => Or.inr (Or.inr ⟨by decide +kernel, Or.inr ⟨_, rfl⟩⟩)
    | 4, _ => Or.inr (Or.inr ⟨by decide +kernel, Or.inr ⟨_, rfl⟩⟩)
    | 5, _ => Or.inr (Or.inr ⟨by decide +kernel, Or.inr ⟨_, rfl⟩⟩)
    | 6, _ => Or.inr (Or.inr ⟨by decide +kernel, Or.inr ⟨_, rfl⟩⟩)
    | 7, _ => Or.inl ⟨by decide +kernel, rfl⟩
    | 8, _ => Or.inr (Or.inr ⟨by decide +kernel, Or.inr ⟨_, rfl⟩⟩)
    | 9, _ => Or.inr (Or.inr ⟨by decide +kernel, Or.inr ⟨_, rfl⟩⟩)
    | 10, _ => Or.inr (Or.inr ⟨by decide +kernel, Or.inr ⟨_, rfl⟩⟩)
    | 11, _ => Or.inr (Or.inr ⟨by decide +kernel, Or.inr ⟨_, rfl⟩⟩)
    | 12, _ => Or.inr (Or.inr ⟨by decide +kernel, Or.inr ⟨_, rfl⟩⟩)
    | 13, _ => Or.inr (Or.inr ⟨by decide +kernel, Or.inr ⟨_, rfl⟩⟩)
    | 14, _ => Or.inr (Or.inr ⟨by decide +kernel, Or.inr ⟨_, rfl⟩⟩)
    | 15, _ => Or.inr (Or.inr ⟨by decide +kernel, Or.inr ⟨_, rfl⟩⟩)
    | 16, _ => Or.inr (Or.inr ⟨by decide +kernel, Or.inr ⟨_, rfl⟩⟩)
    | 17, _ => Or.inr (Or.inr ⟨by decide +kernel, Or.inr ⟨_, rfl⟩⟩)
    | 18, _ => Or.inr (Or.inr ⟨by decide +kernel, Or.inr ⟨_, rfl⟩⟩)
    | 19, _ => Or.inr (Or.inr ⟨by decide +kernel, Or.inr ⟨_, rfl⟩⟩)
    | 20, _ => Or.inl ⟨by decide +kernel, rfl⟩
    | 21, _ => Or.inl ⟨by decide +kernel, rfl⟩
    | 22, _ => Or.inr (Or.inr ⟨by decide +kernel, Or.inr ⟨_, rfl⟩⟩)
    | 23, _ => Or.inr (Or.inr ⟨by decide +kernel, Or.inr ⟨_, rfl⟩⟩)
    | 24, _ => Or.inr (Or.inr ⟨by decide +kernel, Or.inr ⟨_, rfl⟩⟩)
    | 25, _ => Or.inr (Or.inr ⟨by decide +kernel, Or.inr ⟨_, rfl⟩⟩)
    | k + 26, h => absurd h (by omega)
theorem xcl10 : xCl 10 := ⟨RX10, TX10, 26, tyX10, rfl, xin10, tyX10_ok, nmX10, rfl, xty10, rfl, xTB_in (List.mem_of_getElem? (i := 636) (by decide +kernel)) rfl, xTB_in (List.mem_of_getElem? (i := 45) (by decide +kernel)) rfl, by decide +kernel⟩
theorem xcls : ∀ i, i < 11 → xCl i := fun i hi => match i, hi with
  | 0, _ => xcl0
  | 1, _ => xcl1
  | 2, _ => xcl2
  | 3, _ => xcl3
  | 4, _ => xcl4
  | 5, _ => xcl5
  | 6, _ => xcl6
  | 7, _ => xcl7
  | 8, _ => xcl8
  | 9, _ => xcl9
  | 10, _ => xcl10
  | i + 11, h => absurd h (by omega)
def xFL (q : Nat × Nat × Nat × Nat) : Prop := q.2.2.1 < 11 ∧ q.2.2.2 < (xtcs.getD q.2.2.1 []).length ∧ ∀ r : vw_C, vwCl[q.2.2.1]? = some r → Cond.fieldLink (xnm q.1) q.2.1 r.1 (r.2.1 q.2.2.2).2.1 (r.2.1 q.2.2.2).2.2.1 ∈ xTB
theorem xfl0 : xFL (9, 65, 4, 0) := ⟨by decide, by decide, fun r h => by cases h; exact xTB_in (List.mem_of_getElem? (i := 61) (by decide +kernel)) rfl⟩
theorem xfl1 : xFL (4, 36, 4, 0) := ⟨by decide, by decide, fun r h => by cases h; exact xTB_in (List.mem_of_getElem? (i := 62) (by decide +kernel)) rfl⟩
theorem xfl2 : xFL (1, 21, 4, 1) := ⟨by decide, by decide, fun r h => by cases h; exact xTB_in (List.mem_of_getElem? (i := 63) (by decide +kernel)) rfl⟩
theorem xfl3 : xFL (4, 44, 4, 1) := ⟨by decide, by decide, fun r h => by cases h; exact xTB_in (List.mem_of_getElem? (i := 64) (by decide +kernel)) rfl⟩
theorem xfl4 : xFL (0, 62, 4, 1) := ⟨by decide, by decide, fun r h => by cases h; exact xTB_in (List.mem_of_getElem? (i := 65) (by decide +kernel)) rfl⟩
theorem xfl5 : xFL (9, 79, 4, 1) := ⟨by decide, by decide, fun r h => by cases h; exact xTB_in (List.mem_of_getElem? (i := 66) (by decide +kernel)) rfl⟩
theorem xfl6 : xFL (8, 52, 4, 1) := ⟨by decide, by decide, fun r h => by cases h; exact xTB_in (List.mem_of_getElem? (i := 67) (by decide +kernel)) rfl⟩
theorem xfl7 : xFL (5, 49, 4, 1) := ⟨by decide, by decide, fun r h => by cases h; exact xTB_in (List.mem_of_getElem? (i := 68) (by decide +kernel)) rfl⟩
theorem xfl8 : xFL (8, 32, 4, 2) := ⟨by decide, by decide, fun r h => by cases h; exact xTB_in (List.mem_of_getElem? (i := 69) (by decide +kernel)) rfl⟩
theorem xfl9 : xFL (0, 40, 4, 2) := ⟨by decide, by decide, fun r h => by cases h; exact xTB_in (List.mem_of_getElem? (i := 70) (by decide +kernel)) rfl⟩
theorem xfl10 : xFL (4, 47, 4, 2) := ⟨by decide, by decide, fun r h => by cases h; exact xTB_in (List.mem_of_getElem? (i := 71) (by decide +kernel)) rfl⟩
theorem xfl11 : xFL (3, 27, 4, 2) := ⟨by decide, by decide, fun r h => by cases h; exact xTB_in (List.mem_of_getElem? (i := 72) (by decide +kernel)) rfl⟩
theorem xfl12 : xFL (5, 57, 4, 2) := ⟨by decide, by decide, fun r h => by cases h; exact xTB_in (List.mem_of_getElem? (i := 73) (by decide +kernel)) rfl⟩
theorem xfl13 : xFL (9, 99, 4, 2) := ⟨by decide, by decide, fun r h => by cases h; exact xTB_in (List.mem_of_getElem? (i := 74) (by decide +kernel)) rfl⟩
theorem xfl14 : xFL (0, 37, 4, 3) := ⟨by decide, by decide, fun r h => by cases h; exact xTB_in (List.mem_of_getElem? (i := 75) (by decide +kernel)) rfl⟩
theorem xfl15 : xFL (9, 68, 4, 3) := ⟨by decide, by decide, fun r h => by cases h; exact xTB_in (List.mem_of_getElem? (i := 76) (by decide +kernel)) rfl⟩
theorem xfl16 : xFL (4, 50, 4, 3) := ⟨by decide, by decide, fun r h => by cases h; exact xTB_in (List.mem_of_getElem? (i := 77) (by decide +kernel)) rfl⟩
theorem xfl17 : xFL (8, 29, 4, 4) := ⟨by decide, by decide, fun r h => by cases h; exact xTB_in (List.mem_of_getElem? (i := 78) (by decide +kernel)) rfl⟩
theorem xfl18 : xFL (4, 53, 4, 4) := ⟨by decide, by decide, fun r h => by cases h; exact xTB_in (List.mem_of_getElem? (i := 79) (by decide +kernel)) rfl⟩
theorem xfl19 : xFL (9, 96, 4, 4) := ⟨by decide, by decide, fun r h => by cases h; exact xTB_in (List.mem_of_getElem? (i := 80) (by decide +kernel)) rfl⟩
theorem xfl20 : xFL (4, 9, 4, 5) := ⟨by decide, by decide, fun r h => by cases h; exact xTB_in (List.mem_of_getElem? (i := 81) (by decide +kernel)) rfl⟩
theorem xfl21 : xFL (8, 61, 4, 5) := ⟨by decide, by decide, fun r h => by cases h; exact xTB_in (List.mem_of_getElem? (i := 82) (by decide +kernel)) rfl⟩
theorem xfl22 : xFL (1, 52, 4, 5) := ⟨by decide, by decide, fun r h => by cases h; exact xTB_in (List.mem_of_getElem? (i := 83) (by decide +kernel)) rfl⟩
theorem xfl23 : xFL (4, 15, 4, 6) := ⟨by decide, by decide, fun r h => by cases h; exact xTB_in (List.mem_of_getElem? (i := 84) (by decide +kernel)) rfl⟩
theorem xfl24 : xFL (8, 58, 4, 6) := ⟨by decide, by decide, fun r h => by cases h; exact xTB_in (List.mem_of_getElem? (i := 85) (by decide +kernel)) rfl⟩
theorem xfl25 : xFL (1, 55, 4, 6) := ⟨by decide, by decide, fun r h => by cases h; exact xTB_in (List.mem_of_getElem? (i := 86) (by decide +kernel)) rfl⟩
theorem xfl26 : xFL (4, 18, 4, 7) := ⟨by decide, by decide, fun r h => by cases h; exact xTB_in (List.mem_of_getElem? (i := 87) (by decide +kernel)) rfl⟩
theorem xfl27 : xFL (1, 27, 4, 7) := ⟨by decide, by decide, fun r h => by cases h; exact xTB_in (List.mem_of_getElem? (i := 88) (by decide +kernel)) rfl⟩
theorem xfl28 : xFL (5, 54, 4, 7) := ⟨by decide, by decide, fun r h => by cases h; exact xTB_in (List.mem_of_getElem? (i := 89) (by decide +kernel)) rfl⟩
theorem xfl29 : xFL (9, 90, 4, 7) := ⟨by decide, by decide, fun r h => by cases h; exact xTB_in (List.mem_of_getElem? (i := 90) (by decide +kernel)) rfl⟩
theorem xfl30 : xFL (0, 98, 4, 7) := ⟨by decide, by decide, fun r h => by cases h; exact xTB_in (List.mem_of_getElem? (i := 91) (by decide +kernel)) rfl⟩
theorem xfl31 : xFL (4, 21, 4, 8) := ⟨by decide, by decide, fun r h => by cases h; exact xTB_in (List.mem_of_getElem? (i := 92) (by decide +kernel)) rfl⟩
theorem xfl32 : xFL (8, 55, 4, 8) := ⟨by decide, by decide, fun r h => by cases h; exact xTB_in (List.mem_of_getElem? (i := 93) (by decide +kernel)) rfl⟩
theorem xfl33 : xFL (9, 93, 4, 8) := ⟨by decide, by decide, fun r h => by cases h; exact xTB_in (List.mem_of_getElem? (i := 94) (by decide +kernel)) rfl⟩
theorem xfl34 : xFL (4, 24, 4, 9) := ⟨by decide, by decide, fun r h => by cases h; exact xTB_in (List.mem_of_getElem? (i := 95) (by decide +kernel)) rfl⟩
theorem xfl35 : xFL (8, 45, 4, 9) := ⟨by decide, by decide, fun r h => by cases h; exact xTB_in (List.mem_of_getElem? (i := 96) (by decide +kernel)) rfl⟩
theorem xfl36 : xFL (9, 201, 4, 9) := ⟨by decide, by decide, fun r h => by cases h; exact xTB_in (List.mem_of_getElem? (i := 97) (by decide +kernel)) rfl⟩
theorem xfl37 : xFL (4, 27, 4, 10) := ⟨by decide, by decide, fun r h => by cases h; exact xTB_in (List.mem_of_getElem? (i := 98) (by decide +kernel)) rfl⟩
theorem xfl38 : xFL (8, 38, 4, 10) := ⟨by decide, by decide, fun r h => by cases h; exact xTB_in (List.mem_of_getElem? (i := 99) (by decide +kernel)) rfl⟩
theorem xfl39 : xFL (9, 204, 4, 10) := ⟨by decide, by decide, fun r h => by cases h; exact xTB_in (List.mem_of_getElem? (i := 100) (by decide +kernel)) rfl⟩
theorem xfl40 : xFL (4, 30, 4, 11) := ⟨by decide, by decide, fun r h => by cases h; exact xTB_in (List.mem_of_getElem? (i := 101) (by decide +kernel)) rfl⟩
theorem xfl41 : xFL (3, 48, 4, 11) := ⟨by decide, by decide, fun r h => by cases h; exact xTB_in (List.mem_of_getElem? (i := 102) (by decide +kernel)) rfl⟩
theorem xfl42 : xFL (5, 86, 4, 11) := ⟨by decide, by decide, fun r h => by cases h; exact xTB_in (List.mem_of_getElem? (i := 103) (by decide +kernel)) rfl⟩
theorem xfl43 : xFL (9, 108, 4, 11) := ⟨by decide, by decide, fun r h => by cases h; exact xTB_in (List.mem_of_getElem? (i := 104) (by decide +kernel)) rfl⟩
theorem xfl44 : xFL (4, 33, 4, 12) := ⟨by decide, by decide, fun r h => by cases h; exact xTB_in (List.mem_of_getElem? (i := 105) (by decide +kernel)) rfl⟩
theorem xfl45 : xFL (5, 71, 4, 12) := ⟨by decide, by decide, fun r h => by cases h; exact xTB_in (List.mem_of_getElem? (i := 106) (by decide +kernel)) rfl⟩
theorem xfl46 : xFL (9, 111, 4, 12) := ⟨by decide, by decide, fun r h => by cases h; exact xTB_in (List.mem_of_getElem? (i := 107) (by decide +kernel)) rfl⟩
theorem xfl47 : xFL (6, 15, 6, 0) := ⟨by decide, by decide, fun r h => by cases h; exact xTB_in (List.mem_of_getElem? (i := 156) (by decide +kernel)) rfl⟩
theorem xfl48 : xFL (3, 15, 6, 0) := ⟨by decide, by decide, fun r h => by cases h; exact xTB_in (List.mem_of_getElem? (i := 157) (by decide +kernel)) rfl⟩
theorem xfl49 : xFL (9, 134, 6, 0) := ⟨by decide, by decide, fun r h => by cases h; exact xTB_in (List.mem_of_getElem? (i := 158) (by decide +kernel)) rfl⟩
theorem xfl50 : xFL (6, 19, 6, 1) := ⟨by decide, by decide, fun r h => by cases h; exact xTB_in (List.mem_of_getElem? (i := 159) (by decide +kernel)) rfl⟩
theorem xfl51 : xFL (7, 22, 6, 1) := ⟨by decide, by decide, fun r h => by cases h; exact xTB_in (List.mem_of_getElem? (i := 160) (by decide +kernel)) rfl⟩
theorem xfl52 : xFL (5, 104, 6, 1) := ⟨by decide, by decide, fun r h => by cases h; exact xTB_in (List.mem_of_getElem? (i := 161) (by decide +kernel)) rfl⟩
theorem xfl53 : xFL (9, 139, 6, 1) := ⟨by decide, by decide, fun r h => by cases h; exact xTB_in (List.mem_of_getElem? (i := 162) (by decide +kernel)) rfl⟩
theorem xfl54 : xFL (6, 9, 6, 2) := ⟨by decide, by decide, fun r h => by cases h; exact xTB_in (List.mem_of_getElem? (i := 163) (by decide +kernel)) rfl⟩
theorem xfl55 : xFL (3, 21, 6, 2) := ⟨by decide, by decide, fun r h => by cases h; exact xTB_in (List.mem_of_getElem? (i := 164) (by decide +kernel)) rfl⟩
theorem xfl56 : xFL (9, 142, 6, 2) := ⟨by decide, by decide, fun r h => by cases h; exact xTB_in (List.mem_of_getElem? (i := 165) (by decide +kernel)) rfl⟩
theorem xfl57 : xFL (7, 18, 7, 0) := ⟨by decide, by decide, fun r h => by cases h; exact xTB_in (List.mem_of_getElem? (i := 173) (by decide +kernel)) rfl⟩
theorem xfl58 : xFL (8, 35, 7, 0) := ⟨by decide, by decide, fun r h => by cases h; exact xTB_in (List.mem_of_getElem? (i := 174) (by decide +kernel)) rfl⟩
theorem xfl59 : xFL (0, 49, 7, 0) := ⟨by decide, by decide, fun r h => by cases h; exact xTB_in (List.mem_of_getElem? (i := 175) (by decide +kernel)) rfl⟩
theorem xfl60 : xFL (5, 66, 7, 0) := ⟨by decide, by decide, fun r h => by cases h; exact xTB_in (List.mem_of_getElem? (i := 176) (by decide +kernel)) rfl⟩
theorem xfl61 : xFL (9, 122, 7, 0) := ⟨by decide, by decide, fun r h => by cases h; exact xTB_in (List.mem_of_getElem? (i := 177) (by decide +kernel)) rfl⟩
theorem xfl62 : xFL (7, 11, 7, 1) := ⟨by decide, by decide, fun r h => by cases h; exact xTB_in (List.mem_of_getElem? (i := 178) (by decide +kernel)) rfl⟩
theorem xfl63 : xFL (0, 88, 7, 1) := ⟨by decide, by decide, fun r h => by cases h; exact xTB_in (List.mem_of_getElem? (i := 179) (by decide +kernel)) rfl⟩
theorem xfl64 : xFL (3, 44, 7, 1) := ⟨by decide, by decide, fun r h => by cases h; exact xTB_in (List.mem_of_getElem? (i := 180) (by decide +kernel)) rfl⟩
theorem xfl65 : xFL (5, 82, 7, 1) := ⟨by decide, by decide, fun r h => by cases h; exact xTB_in (List.mem_of_getElem? (i := 181) (by decide +kernel)) rfl⟩
theorem xfl66 : xFL (9, 130, 7, 1) := ⟨by decide, by decide, fun r h => by cases h; exact xTB_in (List.mem_of_getElem? (i := 182) (by decide +kernel)) rfl⟩
theorem xfl67 : xFL (8, 11, 8, 0) := ⟨by decide, by decide, fun r h => by cases h; exact xTB_in (List.mem_of_getElem? (i := 188) (by decide +kernel)) rfl⟩
theorem xfl68 : xFL (0, 43, 8, 0) := ⟨by decide, by decide, fun r h => by cases h; exact xTB_in (List.mem_of_getElem? (i := 189) (by decide +kernel)) rfl⟩
theorem xfl69 : xFL (3, 32, 8, 0) := ⟨by decide, by decide, fun r h => by cases h; exact xTB_in (List.mem_of_getElem? (i := 190) (by decide +kernel)) rfl⟩
theorem xfl70 : xFL (5, 60, 8, 0) := ⟨by decide, by decide, fun r h => by cases h; exact xTB_in (List.mem_of_getElem? (i := 191) (by decide +kernel)) rfl⟩
theorem xfl71 : xFL (9, 118, 8, 0) := ⟨by decide, by decide, fun r h => by cases h; exact xTB_in (List.mem_of_getElem? (i := 192) (by decide +kernel)) rfl⟩
theorem xfl72 : xFL (8, 17, 8, 1) := ⟨by decide, by decide, fun r h => by cases h; exact xTB_in (List.mem_of_getElem? (i := 193) (by decide +kernel)) rfl⟩
theorem xfl73 : xFL (8, 21, 8, 2) := ⟨by decide, by decide, fun r h => by cases h; exact xTB_in (List.mem_of_getElem? (i := 194) (by decide +kernel)) rfl⟩
theorem xfl74 : xFL (8, 24, 8, 3) := ⟨by decide, by decide, fun r h => by cases h; exact xTB_in (List.mem_of_getElem? (i := 195) (by decide +kernel)) rfl⟩
theorem xfl75 : xFL (3, 9, 3, 0) := ⟨by decide, by decide, fun r h => by cases h; exact xTB_in (List.mem_of_getElem? (i := 217) (by decide +kernel)) rfl⟩
theorem xfl76 : xFL (1, 30, 3, 0) := ⟨by decide, by decide, fun r h => by cases h; exact xTB_in (List.mem_of_getElem? (i := 218) (by decide +kernel)) rfl⟩
theorem xfl77 : xFL (9, 156, 3, 0) := ⟨by decide, by decide, fun r h => by cases h; exact xTB_in (List.mem_of_getElem? (i := 219) (by decide +kernel)) rfl⟩
theorem xfl78 : xFL (5, 9, 5, 0) := ⟨by decide, by decide, fun r h => by cases h; exact xTB_in (List.mem_of_getElem? (i := 223) (by decide +kernel)) rfl⟩
theorem xfl79 : xFL (9, 153, 5, 0) := ⟨by decide, by decide, fun r h => by cases h; exact xTB_in (List.mem_of_getElem? (i := 224) (by decide +kernel)) rfl⟩
theorem xfl80 : xFL (5, 35, 5, 1) := ⟨by decide, by decide, fun r h => by cases h; exact xTB_in (List.mem_of_getElem? (i := 225) (by decide +kernel)) rfl⟩
theorem xfl81 : xFL (9, 147, 5, 1) := ⟨by decide, by decide, fun r h => by cases h; exact xTB_in (List.mem_of_getElem? (i := 226) (by decide +kernel)) rfl⟩
theorem xfl82 : xFL (5, 39, 5, 2) := ⟨by decide, by decide, fun r h => by cases h; exact xTB_in (List.mem_of_getElem? (i := 227) (by decide +kernel)) rfl⟩
theorem xfl83 : xFL (9, 150, 5, 2) := ⟨by decide, by decide, fun r h => by cases h; exact xTB_in (List.mem_of_getElem? (i := 228) (by decide +kernel)) rfl⟩
theorem xfl84 : xFL (5, 15, 5, 3) := ⟨by decide, by decide, fun r h => by cases h; exact xTB_in (List.mem_of_getElem? (i := 229) (by decide +kernel)) rfl⟩
theorem xfl85 : xFL (5, 18, 5, 4) := ⟨by decide, by decide, fun r h => by cases h; exact xTB_in (List.mem_of_getElem? (i := 230) (by decide +kernel)) rfl⟩
theorem xfl86 : xFL (5, 21, 5, 5) := ⟨by decide, by decide, fun r h => by cases h; exact xTB_in (List.mem_of_getElem? (i := 231) (by decide +kernel)) rfl⟩
theorem xfl87 : xFL (5, 27, 5, 6) := ⟨by decide, by decide, fun r h => by cases h; exact xTB_in (List.mem_of_getElem? (i := 232) (by decide +kernel)) rfl⟩
theorem xfl88 : xFL (2, 17, 2, 0) := ⟨by decide, by decide, fun r h => by cases h; exact xTB_in (List.mem_of_getElem? (i := 263) (by decide +kernel)) rfl⟩
theorem xfl89 : xFL (0, 77, 2, 0) := ⟨by decide, by decide, fun r h => by cases h; exact xTB_in (List.mem_of_getElem? (i := 264) (by decide +kernel)) rfl⟩
theorem xfl90 : xFL (9, 192, 2, 0) := ⟨by decide, by decide, fun r h => by cases h; exact xTB_in (List.mem_of_getElem? (i := 265) (by decide +kernel)) rfl⟩
theorem xfl91 : xFL (2, 7, 2, 1) := ⟨by decide, by decide, fun r h => by cases h; exact xTB_in (List.mem_of_getElem? (i := 266) (by decide +kernel)) rfl⟩
theorem xfl92 : xFL (0, 81, 2, 1) := ⟨by decide, by decide, fun r h => by cases h; exact xTB_in (List.mem_of_getElem? (i := 267) (by decide +kernel)) rfl⟩
theorem xfl93 : xFL (9, 198, 2, 1) := ⟨by decide, by decide, fun r h => by cases h; exact xTB_in (List.mem_of_getElem? (i := 268) (by decide +kernel)) rfl⟩
theorem xfl94 : xFL (0, 11, 0, 0) := ⟨by decide, by decide, fun r h => by cases h; exact xTB_in (List.mem_of_getElem? (i := 275) (by decide +kernel)) rfl⟩
theorem xfl95 : xFL (9, 188, 0, 0) := ⟨by decide, by decide, fun r h => by cases h; exact xTB_in (List.mem_of_getElem? (i := 276) (by decide +kernel)) rfl⟩
theorem xfl96 : xFL (0, 17, 0, 1) := ⟨by decide, by decide, fun r h => by cases h; exact xTB_in (List.mem_of_getElem? (i := 277) (by decide +kernel)) rfl⟩
theorem xfl97 : xFL (9, 185, 0, 1) := ⟨by decide, by decide, fun r h => by cases h; exact xTB_in (List.mem_of_getElem? (i := 278) (by decide +kernel)) rfl⟩
theorem xfl98 : xFL (0, 21, 0, 2) := ⟨by decide, by decide, fun r h => by cases h; exact xTB_in (List.mem_of_getElem? (i := 279) (by decide +kernel)) rfl⟩
theorem xfl99 : xFL (0, 26, 0, 3) := ⟨by decide, by decide, fun r h => by cases h; exact xTB_in (List.mem_of_getElem? (i := 280) (by decide +kernel)) rfl⟩
theorem xfl100 : xFL (0, 30, 0, 4) := ⟨by decide, by decide, fun r h => by cases h; exact xTB_in (List.mem_of_getElem? (i := 281) (by decide +kernel)) rfl⟩
theorem xfl101 : xFL (0, 33, 0, 5) := ⟨by decide, by decide, fun r h => by cases h; exact xTB_in (List.mem_of_getElem? (i := 282) (by decide +kernel)) rfl⟩
theorem xfl102 : xFL (1, 9, 1, 0) := ⟨by decide, by decide, fun r h => by cases h; exact xTB_in (List.mem_of_getElem? (i := 302) (by decide +kernel)) rfl⟩
theorem xfl103 : xFL (1, 15, 1, 1) := ⟨by decide, by decide, fun r h => by cases h; exact xTB_in (List.mem_of_getElem? (i := 303) (by decide +kernel)) rfl⟩
theorem xfl104 : xFL (1, 18, 1, 2) := ⟨by decide, by decide, fun r h => by cases h; exact xTB_in (List.mem_of_getElem? (i := 304) (by decide +kernel)) rfl⟩
theorem xfl105 : xFL (9, 12, 9, 0) := ⟨by decide, by decide, fun r h => by cases h; exact xTB_in (List.mem_of_getElem? (i := 312) (by decide +kernel)) rfl⟩
theorem xfl106 : xFL (9, 19, 9, 1) := ⟨by decide, by decide, fun r h => by cases h; exact xTB_in (List.mem_of_getElem? (i := 313) (by decide +kernel)) rfl⟩
theorem xfl107 : xFL (9, 26, 9, 2) := ⟨by decide, by decide, fun r h => by cases h; exact xTB_in (List.mem_of_getElem? (i := 314) (by decide +kernel)) rfl⟩
theorem xfl108 : xFL (9, 30, 9, 3) := ⟨by decide, by decide, fun r h => by cases h; exact xTB_in (List.mem_of_getElem? (i := 315) (by decide +kernel)) rfl⟩
theorem xfl109 : xFL (9, 36, 9, 4) := ⟨by decide, by decide, fun r h => by cases h; exact xTB_in (List.mem_of_getElem? (i := 316) (by decide +kernel)) rfl⟩
theorem xfl110 : xFL (9, 40, 9, 5) := ⟨by decide, by decide, fun r h => by cases h; exact xTB_in (List.mem_of_getElem? (i := 317) (by decide +kernel)) rfl⟩
theorem xfl111 : xFL (9, 43, 9, 6) := ⟨by decide, by decide, fun r h => by cases h; exact xTB_in (List.mem_of_getElem? (i := 318) (by decide +kernel)) rfl⟩
theorem xfl112 : xFL (9, 50, 9, 7) := ⟨by decide, by decide, fun r h => by cases h; exact xTB_in (List.mem_of_getElem? (i := 319) (by decide +kernel)) rfl⟩
theorem xfl113 : xFL (9, 57, 9, 8) := ⟨by decide, by decide, fun r h => by cases h; exact xTB_in (List.mem_of_getElem? (i := 320) (by decide +kernel)) rfl⟩
theorem xfl114 : xFL (9, 61, 9, 9) := ⟨by decide, by decide, fun r h => by cases h; exact xTB_in (List.mem_of_getElem? (i := 321) (by decide +kernel)) rfl⟩
theorem xfl115 : xFL (10, 1, 10, 0) := ⟨by decide, by decide, fun r h => by cases h; exact xTB_in (List.mem_of_getElem? (i := 641) (by decide +kernel)) rfl⟩
theorem xfl116 : xFL (10, 75, 10, 1) := ⟨by decide, by decide, fun r h => by cases h; exact xTB_in (List.mem_of_getElem? (i := 642) (by decide +kernel)) rfl⟩
theorem xfl117 : xFL (10, 82, 10, 2) := ⟨by decide, by decide, fun r h => by cases h; exact xTB_in (List.mem_of_getElem? (i := 643) (by decide +kernel)) rfl⟩
theorem xfl118 : xFL (10, 13, 10, 3) := ⟨by decide, by decide, fun r h => by cases h; exact xTB_in (List.mem_of_getElem? (i := 644) (by decide +kernel)) rfl⟩
theorem xfl119 : xFL (10, 17, 10, 4) := ⟨by decide, by decide, fun r h => by cases h; exact xTB_in (List.mem_of_getElem? (i := 645) (by decide +kernel)) rfl⟩
theorem xfl120 : xFL (10, 20, 10, 5) := ⟨by decide, by decide, fun r h => by cases h; exact xTB_in (List.mem_of_getElem? (i := 646) (by decide +kernel)) rfl⟩
theorem xfl121 : xFL (10, 23, 10, 6) := ⟨by decide, by decide, fun r h => by cases h; exact xTB_in (List.mem_of_getElem? (i := 647) (by decide +kernel)) rfl⟩
theorem xfl122 : xFL (10, 85, 10, 7) := ⟨by decide, by decide, fun r h => by cases h; exact xTB_in (List.mem_of_getElem? (i := 648) (by decide +kernel)) rfl⟩
theorem xfl123 : xFL (10, 26, 10, 8) := ⟨by decide, by decide, fun r h => by cases h; exact xTB_in (List.mem_of_getElem? (i := 649) (by decide +kernel)) rfl⟩
theorem xfl124 : xFL (10, 29, 10, 9) := ⟨by decide, by decide, fun r h => by cases h; exact xTB_in (List.mem_of_getElem? (i := 650) (by decide +kernel)) rfl⟩
theorem xfl125 : xFL (10, 32, 10, 10) := ⟨by decide, by decide, fun r h => by cases h; exact xTB_in (List.mem_of_getElem? (i := 651) (by decide +kernel)) rfl⟩
theorem xfl126 : xFL (10, 35, 10, 11) := ⟨by decide, by decide, fun r h => by cases h; exact xTB_in (List.mem_of_getElem? (i := 652) (by decide +kernel)) rfl⟩
theorem xfl127 : xFL (10, 38, 10, 12) := ⟨by decide, by decide, fun r h => by cases h; exact xTB_in (List.mem_of_getElem? (i := 653) (by decide +kernel)) rfl⟩
theorem xfl128 : xFL (10, 41, 10, 13) := ⟨by decide, by decide, fun r h => by cases h; exact xTB_in (List.mem_of_getElem? (i := 654) (by decide +kernel)) rfl⟩
theorem xfl129 : xFL (10, 44, 10, 14) := ⟨by decide, by decide, fun r h => by cases h; exact xTB_in (List.mem_of_getElem? (i := 655) (by decide +kernel)) rfl⟩
theorem xfl130 : xFL (10, 47, 10, 15) := ⟨by decide, by decide, fun r h => by cases h; exact xTB_in (List.mem_of_getElem? (i := 656) (by decide +kernel)) rfl⟩
theorem xfl131 : xFL (10, 50, 10, 16) := ⟨by decide, by decide, fun r h => by cases h; exact xTB_in (List.mem_of_getElem? (i := 657) (by decide +kernel)) rfl⟩
theorem xfl132 : xFL (10, 53, 10, 17) := ⟨by decide, by decide, fun r h => by cases h; exact xTB_in (List.mem_of_getElem? (i := 658) (by decide +kernel)) rfl⟩
theorem xfl133 : xFL (10, 56, 10, 18) := ⟨by decide, by decide, fun r h => by cases h; exact xTB_in (List.mem_of_getElem? (i := 659) (by decide +kernel)) rfl⟩
theorem xfl134 : xFL (10, 59, 10, 19) := ⟨by decide, by decide, fun r h => by cases h; exact xTB_in (List.mem_of_getElem? (i := 660) (by decide +kernel)) rfl⟩
theorem xfl135 : xFL (10, 112, 10, 20) := ⟨by decide, by decide, fun r h => by cases h; exact xTB_in (List.mem_of_getElem? (i := 661) (by decide +kernel)) rfl⟩
theorem xfl136 : xFL (10, 115, 10, 21) := ⟨by decide, by decide, fun r h => by cases h; exact xTB_in (List.mem_of_getElem? (i := 662) (by decide +kernel)) rfl⟩
theorem xfl137 : xFL (10, 62, 10, 22) := ⟨by decide, by decide, fun r h => by cases h; exact xTB_in (List.mem_of_getElem? (i := 663) (by decide +kernel)) rfl⟩
theorem xfl138 : xFL (10, 65, 10, 23) := ⟨by decide, by decide, fun r h => by cases h; exact xTB_in (List.mem_of_getElem? (i := 664) (by decide +kernel)) rfl⟩
theorem xfl139 : xFL (10, 69, 10, 24) := ⟨by decide, by decide, fun r h => by cases h; exact xTB_in (List.mem_of_getElem? (i := 665) (by decide +kernel)) rfl⟩
theorem xfl140 : xFL (10, 72, 10, 25) := ⟨by decide, by decide, fun r h => by cases h; exact xTB_in (List.mem_of_getElem? (i := 666) (by decide +kernel)) rfl⟩
set_option maxRecDepth 20000 in
theorem xflt_ok : ∀ q ∈ xflt, xFL q := List.forall_mem_cons.mpr ⟨xfl0, List.forall_mem_cons.mpr ⟨xfl1, List.forall_mem_cons.mpr ⟨xfl2, List.forall_mem_cons.mpr ⟨xfl3, List.forall_mem_cons.mpr ⟨xfl4, List.forall_mem_cons.mpr ⟨xfl5, List.forall_mem_cons.mpr ⟨xfl6, List.forall_mem_cons.mpr ⟨xfl7, List.forall_mem_cons.mpr ⟨xfl8, List.forall_mem_cons.mpr ⟨xfl9, List.forall_mem_cons.mpr ⟨xfl10, List.forall_mem_cons.mpr ⟨xfl11, List.forall_mem_cons.mpr ⟨xfl12, List.forall_mem_cons.mpr ⟨xfl13, List.forall_mem_cons.mpr ⟨xfl14, List.forall_mem_cons.mpr ⟨xfl15, List.forall_mem_cons.mpr ⟨xfl16, List.forall_mem_cons.mpr ⟨xfl17, List.forall_mem_cons.mpr ⟨xfl18, List.forall_mem_cons.mpr ⟨xfl19, List.forall_mem_cons.mpr ⟨xfl20, List.forall_mem_cons.mpr ⟨xfl21, List.forall_mem_cons.mpr ⟨xfl22, List.forall_mem_cons.mpr ⟨xfl23, List.forall_mem_cons.mpr ⟨xfl24, List.forall_mem_cons.mpr ⟨xfl25, List.forall_mem_cons.mpr ⟨xfl26, List.forall_mem_cons.mpr ⟨xfl27, List.forall_mem_cons.mpr ⟨xfl28, List.forall_mem_cons.mpr ⟨xfl29, List.forall_mem_cons.mpr ⟨xfl30, List.forall_mem_cons.mpr ⟨xfl31, List.forall_mem_cons.mpr ⟨xfl32, List.forall_mem_cons.mpr ⟨xfl33, List.forall_mem_cons.mpr ⟨xfl34, List.forall_mem_cons.mpr ⟨xfl35, List.forall_mem_cons.mpr ⟨xfl36, List.forall_mem_cons.mpr ⟨xfl37, List.forall_mem_cons.mpr ⟨xfl38, List.forall_mem_cons.mpr ⟨xfl39, List.forall_mem_cons.mpr ⟨xfl40, List.forall_mem_cons.mpr ⟨xfl41, List.forall_mem_cons.mpr ⟨xfl42, List.forall_mem_cons.mpr ⟨xfl43, List.forall_mem_cons.mpr ⟨xfl44, List.forall_mem_cons.mpr ⟨xfl45, List.forall_mem_cons.mpr ⟨xfl46, List.forall_mem_cons.mpr ⟨xfl47, List.forall_mem_cons.mpr ⟨xfl48, List.forall_mem_cons.mpr ⟨xfl49, List.forall_mem_cons.mpr ⟨xfl50, List.forall_mem_cons.mpr ⟨xfl51, List.forall_mem_cons.mpr ⟨xfl52, List.forall_mem_cons.mpr ⟨xfl53, List.forall_mem_cons.mpr ⟨xfl54, List.forall_mem_cons.mpr ⟨xfl55, List.forall_mem_cons.mpr ⟨xfl56, List.forall_mem_cons.mpr ⟨xfl57, List.forall_mem_cons.mpr ⟨xfl58, List.forall_mem_cons.mpr ⟨xfl59, List.forall_mem_cons.mpr ⟨xfl60, List.forall_mem_cons.mpr ⟨xfl61, List.forall_mem_cons.mpr ⟨xfl62, List.forall_mem_cons.mpr ⟨xfl63, List.forall_mem_cons.mpr ⟨xfl64, List.forall_mem_cons.mpr ⟨xfl65, List.forall_mem_cons.mpr ⟨xfl66, List.forall_mem_cons.mpr ⟨xfl67, List.forall_mem_cons.mpr ⟨xfl68, List.forall_mem_cons.mpr ⟨xfl69, List.forall_mem_cons.mpr ⟨xfl70, List.forall_mem_cons.mpr ⟨xfl71, List.forall_mem_cons.mpr ⟨xfl72, List.forall_mem_cons.mpr ⟨xfl73, List.forall_mem_cons.mpr ⟨xfl74, List.forall_mem_cons.mpr ⟨xfl75, List.forall_mem_cons.mpr ⟨xfl76, List.forall_mem_cons.mpr ⟨xfl77, List.forall_mem_cons.mpr ⟨xfl78, List.forall_mem_cons.mpr ⟨xfl79, List.forall_mem_cons.mpr ⟨xfl80, List.forall_mem_cons.mpr ⟨xfl81, List.forall_mem_cons.mpr ⟨xfl82, List.forall_mem_cons.mpr ⟨xfl83, List.forall_mem_cons.mpr ⟨xfl84, List.forall_mem_cons.mpr ⟨xfl85, List.forall_mem_cons.mpr ⟨xfl86, List.forall_mem_cons.mpr ⟨xfl87, List.forall_mem_cons.mpr ⟨xfl88, List.forall_mem_cons.mpr ⟨xfl89, List.forall_mem_cons.mpr ⟨xfl90, List.forall_mem_cons.mpr ⟨xfl91, List.forall_mem_cons.mpr ⟨xfl92, List.forall_mem_cons.mpr ⟨xfl93, List.forall_mem_cons.mpr ⟨xfl94, List.forall_mem_cons.mpr ⟨xfl95, List.forall_mem_cons.mpr ⟨xfl96, List.forall_mem_cons.mpr ⟨xfl97, List.forall_mem_cons.mpr ⟨xfl98, List.forall_mem_cons.mpr ⟨xfl99, List.forall_mem_cons.mpr ⟨xfl100, List.forall_mem_cons.mpr ⟨xfl101, List.forall_mem_cons.mpr ⟨xfl102, List.forall_mem_cons.mpr ⟨xfl103, List.forall_mem_cons.mpr ⟨xfl104, List.forall_mem_cons.mpr ⟨xfl105, List.forall_mem_cons.mpr ⟨xfl106, List.forall_mem_cons.mpr ⟨xfl107, List.forall_mem_cons.mpr ⟨xfl108, List.forall_mem_cons.mpr ⟨xfl109, List.forall_mem_cons.mpr ⟨xfl110, List.forall_mem_cons.mpr ⟨xfl111, List.forall_mem_cons.mpr ⟨xfl112, List.forall_mem_cons.mpr ⟨xfl113, List.forall_mem_cons.mpr ⟨xfl114, List.forall_mem_cons.mpr ⟨xfl115, List.forall_mem_cons.mpr ⟨xfl116, List.forall_mem_cons.mpr ⟨xfl117, List.forall_mem_cons.mpr ⟨xfl118, List.forall_mem_cons.mpr ⟨xfl119, List.forall_mem_cons.mpr ⟨xfl120, List.forall_mem_cons.mpr ⟨xfl121, List.forall_mem_cons.mpr ⟨xfl122, List.forall_mem_cons.mpr ⟨xfl123, List.forall_mem_cons.mpr ⟨xfl124, List.forall_mem_cons.mpr ⟨xfl125, List.forall_mem_cons.mpr ⟨xfl126, List.forall_mem_cons.mpr ⟨xfl127, List.forall_mem_cons.mpr ⟨xfl128, List.forall_mem_cons.mpr ⟨xfl129, List.forall_mem_cons.mpr ⟨xfl130, List.forall_mem_cons.mpr ⟨xfl131, List.forall_mem_cons.mpr ⟨xfl132, List.forall_mem_cons.mpr ⟨xfl133, List.forall_mem_cons.mpr ⟨xfl134, List.forall_mem_cons.mpr ⟨xfl135, List.forall_mem_cons.mpr ⟨xfl136, List.forall_mem_cons.mpr ⟨xfl137, List.forall_mem_cons.mpr ⟨xfl138, List.forall_mem_cons.mpr ⟨xfl139, List.forall_mem_cons.mpr ⟨xfl140, fun _ h => absurd h List.not_mem_nil⟩⟩⟩⟩⟩⟩⟩⟩⟩⟩⟩⟩⟩⟩⟩⟩⟩⟩⟩⟩⟩⟩⟩⟩⟩⟩⟩⟩⟩⟩⟩⟩⟩⟩⟩⟩⟩⟩⟩⟩⟩⟩⟩⟩⟩⟩⟩⟩⟩⟩⟩⟩⟩⟩⟩⟩⟩⟩⟩⟩⟩⟩⟩⟩⟩⟩⟩⟩⟩⟩⟩⟩⟩⟩⟩⟩⟩⟩⟩⟩⟩⟩⟩⟩⟩⟩⟩⟩⟩⟩⟩⟩⟩⟩⟩⟩⟩⟩⟩⟩⟩⟩⟩⟩⟩⟩⟩⟩⟩⟩⟩⟩⟩⟩⟩⟩⟩⟩⟩⟩⟩⟩⟩⟩⟩⟩⟩⟩⟩⟩⟩⟩⟩⟩⟩⟩⟩⟩⟩⟩⟩
def xNW (q : Nat × Nat × Nat) : Prop := q.2.2 < 11 ∧ Cond.classLink (xnm q.1) q.2.1 (xnm q.2.2) ∈ xTB
theorem xnw0 : xNW (9, 9, 4) := ⟨by decide, xTB_in (List.mem_of_getElem? (i := 55) (by decide +kernel)) rfl⟩
theorem xnw1 : xNW (9, 16, 8) := ⟨by decide, xTB_in (List.mem_of_getElem? (i := 136) (by decide +kernel)) rfl⟩
theorem xnw2 : xNW (9, 23, 5) := ⟨by decide, xTB_in (List.mem_of_getElem? (i := 205) (by decide +kernel)) rfl⟩
theorem xnw3 : xNW (9, 33, 3) := ⟨by decide, xTB_in (List.mem_of_getElem? (i := 248) (by decide +kernel)) rfl⟩
theorem xnw4 : xNW (9, 47, 0) := ⟨by decide, xTB_in (List.mem_of_getElem? (i := 250) (by decide +kernel)) rfl⟩
theorem xnw5 : xNW (9, 54, 1) := ⟨by decide, xTB_in (List.mem_of_getElem? (i := 296) (by decide +kernel)) rfl⟩
theorem xnw6 : xNW (0, 9, 2) := ⟨by decide, xTB_in (List.mem_of_getElem? (i := 256) (by decide +kernel)) rfl⟩
theorem xnw7 : xNW (5, 24, 3) := ⟨by decide, xTB_in (List.mem_of_getElem? (i := 211) (by decide +kernel)) rfl⟩
theorem xnw8 : xNW (7, 9, 6) := ⟨by decide, xTB_in (List.mem_of_getElem? (i := 149) (by decide +kernel)) rfl⟩
theorem xnw9 : xNW (8, 9, 7) := ⟨by decide, xTB_in (List.mem_of_getElem? (i := 142) (by decide +kernel)) rfl⟩
theorem xnw10 : xNW (11, 7, 9) := ⟨by decide, xTB_in (List.mem_of_getElem? (i := 47) (by decide +kernel)) rfl⟩
theorem xnw11 : xNW (11, 10, 10) := ⟨by decide, xTB_in (List.mem_of_getElem? (i := 635) (by decide +kernel)) rfl⟩
theorem xnwt_ok : ∀ q ∈ xnwt, xNW q := List.forall_mem_cons.mpr ⟨xnw0, List.forall_mem_cons.mpr ⟨xnw1, List.forall_mem_cons.mpr ⟨xnw2, List.forall_mem_cons.mpr ⟨xnw3, List.forall_mem_cons.mpr ⟨xnw4, List.forall_mem_cons.mpr ⟨xnw5, List.forall_mem_cons.mpr ⟨xnw6, List.forall_mem_cons.mpr ⟨xnw7, List.forall_mem_cons.mpr ⟨xnw8, List.forall_mem_cons.mpr ⟨xnw9, List.forall_mem_cons.mpr ⟨xnw10, List.forall_mem_cons.mpr ⟨xnw11, fun _ h => absurd h List.not_mem_nil⟩⟩⟩⟩⟩⟩⟩⟩⟩⟩⟩⟩
def xelt (k : Nat) : Nat := match k with | 3 => 6 | 4 => 7 | _ => 2
def xAN (q : Nat × Nat × Nat) : Prop := (q.2.2 = 3 ∨ q.2.2 = 4 ∨ q.2.2 = 5) ∧ Cond.classLink (xnm q.1) q.2.1 (xnm (xelt q.2.2)) ∈ xTB
theorem xan0 : xAN (0, 9, 5) := ⟨by decide, xTB_in (List.mem_of_getElem? (i := 256) (by decide +kernel)) rfl⟩
theorem xan1 : xAN (7, 9, 3) := ⟨by decide, xTB_in (List.mem_of_getElem? (i := 149) (by decide +kernel)) rfl⟩
theorem xan2 : xAN (8, 9, 4) := ⟨by decide, xTB_in (List.mem_of_getElem? (i := 142) (by decide +kernel)) rfl⟩
theorem xant_ok : ∀ q ∈ xant, xAN q := List.forall_mem_cons.mpr ⟨xan0, List.forall_mem_cons.mpr ⟨xan1, List.forall_mem_cons.mpr ⟨xan2, fun _ h => absurd h List.not_mem_nil⟩⟩⟩
theorem xac_int : Cond.arrayClass .int ∈ xTB := xTB_in (List.mem_of_getElem? (i := 135) (by decide +kernel)) rfl
theorem xac_boolean : Cond.arrayClass .boolean ∈ xTB := xTB_in (List.mem_of_getElem? (i := 274) (by decide +kernel)) rfl
theorem xac_long : Cond.arrayClass .long ∈ xTB := xTB_in (List.mem_of_getElem? (i := 720) (by decide +kernel)) rfl
def xMo (t : xT) (np : Nat) : Prop := Cond.code t.2.1 t.2.2.1 t.2.2.2.1 t.2.2.2.2 ∈ xTB ∧ Cond.initialized t.2.1.cls ∈ xTB ∧ (t.2.1.cls ≠ "java/lang/invoke/MethodHandle" ∧ t.2.1.cls ≠ "java/lang/invoke/VarHandle") ∧ (parseMethodDescriptor t.2.1.desc).map (fun d => d.parameters.length) = some np ∧ t.2.2.2.1 ≤ 29 ∧ plainName t.2.1.cls = true ∧ t.2.1.cls = xnm t.1
set_option maxRecDepth 20000 in
theorem mX0_init : xMo tX0_init 0 := ⟨xTB_in (List.mem_of_getElem? (i := 254) (by rfl)) rfl, xTB_in (List.mem_of_getElem? (i := 42) (by decide +kernel)) rfl, ⟨by decide +kernel, by decide +kernel⟩, by decide +kernel, by decide, by decide, rfl⟩
set_option maxRecDepth 20000 in
theorem mX0_refresh : xMo tX0_refresh 2 := ⟨xTB_in (List.mem_of_getElem? (i := 552) (by rfl)) rfl, xTB_in (List.mem_of_getElem? (i := 42) (by decide +kernel)) rfl, ⟨by decide +kernel, by decide +kernel⟩, by decide +kernel, by decide, by decide, rfl⟩
set_option maxRecDepth 20000 in
theorem mX0_findTightest : xMo tX0_findTightest 2 := ⟨xTB_in (List.mem_of_getElem? (i := 556) (by rfl)) rfl, xTB_in (List.mem_of_getElem? (i := 42) (by decide +kernel)) rfl, ⟨by decide +kernel, by decide +kernel⟩, by decide +kernel, by decide, by decide, rfl⟩
set_option maxRecDepth 20000 in
theorem mX0_openUsers : xMo tX0_openUsers 3 := ⟨xTB_in (List.mem_of_getElem? (i := 560) (by rfl)) rfl, xTB_in (List.mem_of_getElem? (i := 42) (by decide +kernel)) rfl, ⟨by decide +kernel, by decide +kernel⟩, by decide +kernel, by decide, by decide, rfl⟩
set_option maxRecDepth 20000 in
theorem mX0_setShare : xMo tX0_setShare 4 := ⟨xTB_in (List.mem_of_getElem? (i := 568) (by rfl)) rfl, xTB_in (List.mem_of_getElem? (i := 42) (by decide +kernel)) rfl, ⟨by decide +kernel, by decide +kernel⟩, by decide +kernel, by decide, by decide, rfl⟩
set_option maxRecDepth 20000 in
theorem mX0_closeAlong : xMo tX0_closeAlong 3 := ⟨xTB_in (List.mem_of_getElem? (i := 588) (by rfl)) rfl, xTB_in (List.mem_of_getElem? (i := 42) (by decide +kernel)) rfl, ⟨by decide +kernel, by decide +kernel⟩, by decide +kernel, by decide, by decide, rfl⟩
set_option maxRecDepth 20000 in
theorem mX1_init : xMo tX1_init 0 := ⟨xTB_in (List.mem_of_getElem? (i := 300) (by rfl)) rfl, xTB_in (List.mem_of_getElem? (i := 44) (by decide +kernel)) rfl, ⟨by decide +kernel, by decide +kernel⟩, by decide +kernel, by decide, by decide, rfl⟩
set_option maxRecDepth 20000 in
theorem mX1_most : xMo tX1_most 4 := ⟨xTB_in (List.mem_of_getElem? (i := 600) (by rfl)) rfl, xTB_in (List.mem_of_getElem? (i := 44) (by decide +kernel)) rfl, ⟨by decide +kernel, by decide +kernel⟩, by decide +kernel, by decide, by decide, rfl⟩
set_option maxRecDepth 20000 in
theorem mX1_reaches : xMo tX1_reaches 3 := ⟨xTB_in (List.mem_of_getElem? (i := 604) (by rfl)) rfl, xTB_in (List.mem_of_getElem? (i := 44) (by decide +kernel)) rfl, ⟨by decide +kernel, by decide +kernel⟩, by decide +kernel, by decide, by decide, rfl⟩
set_option maxRecDepth 20000 in
theorem mX1_push : xMo tX1_push 2 := ⟨xTB_in (List.mem_of_getElem? (i := 611) (by rfl)) rfl, xTB_in (List.mem_of_getElem? (i := 44) (by decide +kernel)) rfl, ⟨by decide +kernel, by decide +kernel⟩, by decide +kernel, by decide, by decide, rfl⟩
set_option maxRecDepth 20000 in
theorem mX1_startOf : xMo tX1_startOf 2 := ⟨xTB_in (List.mem_of_getElem? (i := 607) (by rfl)) rfl, xTB_in (List.mem_of_getElem? (i := 44) (by decide +kernel)) rfl, ⟨by decide +kernel, by decide +kernel⟩, by decide +kernel, by decide, by decide, rfl⟩
set_option maxRecDepth 20000 in
theorem mX2_init : xMo tX2_init 0 := ⟨xTB_in (List.mem_of_getElem? (i := 261) (by rfl)) rfl, xTB_in (List.mem_of_getElem? (i := 43) (by decide +kernel)) rfl, ⟨by decide +kernel, by decide +kernel⟩, by decide +kernel, by decide, by decide, rfl⟩
set_option maxRecDepth 20000 in
theorem mX2_set : xMo tX2_set 2 := ⟨xTB_in (List.mem_of_getElem? (i := 572) (by rfl)) rfl, xTB_in (List.mem_of_getElem? (i := 43) (by decide +kernel)) rfl, ⟨by decide +kernel, by decide +kernel⟩, by decide +kernel, by decide, by decide, rfl⟩
set_option maxRecDepth 20000 in
theorem mX2_subtract : xMo tX2_subtract 1 := ⟨xTB_in (List.mem_of_getElem? (i := 579) (by rfl)) rfl, xTB_in (List.mem_of_getElem? (i := 43) (by decide +kernel)) rfl, ⟨by decide +kernel, by decide +kernel⟩, by decide +kernel, by decide, by decide, rfl⟩
set_option maxRecDepth 20000 in
theorem mX2_isLessThan : xMo tX2_isLessThan 1 := ⟨xTB_in (List.mem_of_getElem? (i := 584) (by rfl)) rfl, xTB_in (List.mem_of_getElem? (i := 43) (by decide +kernel)) rfl, ⟨by decide +kernel, by decide +kernel⟩, by decide +kernel, by decide, by decide, rfl⟩
set_option maxRecDepth 20000 in
theorem mX2_commonFactor : xMo tX2_commonFactor 2 := ⟨xTB_in (List.mem_of_getElem? (i := 575) (by rfl)) rfl, xTB_in (List.mem_of_getElem? (i := 43) (by decide +kernel)) rfl, ⟨by decide +kernel, by decide +kernel⟩, by decide +kernel, by decide, by decide, rfl⟩
set_option maxRecDepth 20000 in
theorem mX3_init : xMo tX3_init 0 := ⟨xTB_in (List.mem_of_getElem? (i := 215) (by rfl)) rfl, xTB_in (List.mem_of_getElem? (i := 41) (by decide +kernel)) rfl, ⟨by decide +kernel, by decide +kernel⟩, by decide +kernel, by decide, by decide, rfl⟩
set_option maxRecDepth 20000 in
theorem mX3_clear : xMo tX3_clear 0 := ⟨xTB_in (List.mem_of_getElem? (i := 461) (by rfl)) rfl, xTB_in (List.mem_of_getElem? (i := 41) (by decide +kernel)) rfl, ⟨by decide +kernel, by decide +kernel⟩, by decide +kernel, by decide, by decide, rfl⟩
set_option maxRecDepth 20000 in
theorem mX3_add : xMo tX3_add 2 := ⟨xTB_in (List.mem_of_getElem? (i := 485) (by rfl)) rfl, xTB_in (List.mem_of_getElem? (i := 41) (by decide +kernel)) rfl, ⟨by decide +kernel, by decide +kernel⟩, by decide +kernel, by decide, by decide, rfl⟩
set_option maxRecDepth 20000 in
theorem mX3_addAll : xMo tX3_addAll 3 := ⟨xTB_in (List.mem_of_getElem? (i := 493) (by rfl)) rfl, xTB_in (List.mem_of_getElem? (i := 41) (by decide +kernel)) rfl, ⟨by decide +kernel, by decide +kernel⟩, by decide +kernel, by decide, by decide, rfl⟩
set_option maxRecDepth 20000 in
theorem mX3_leavesRoomFor : xMo tX3_leavesRoomFor 3 := ⟨xTB_in (List.mem_of_getElem? (i := 477) (by rfl)) rfl, xTB_in (List.mem_of_getElem? (i := 41) (by decide +kernel)) rfl, ⟨by decide +kernel, by decide +kernel⟩, by decide +kernel, by decide, by decide, rfl⟩
set_option maxRecDepth 20000 in
theorem mX3_firstAbove : xMo tX3_firstAbove 2 := ⟨xTB_in (List.mem_of_getElem? (i := 540) (by rfl)) rfl, xTB_in (List.mem_of_getElem? (i := 41) (by decide +kernel)) rfl, ⟨by decide +kernel, by decide +kernel⟩, by decide +kernel, by decide, by decide, rfl⟩
set_option maxRecDepth 20000 in
theorem mX4_init : xMo tX4_init 0 := ⟨xTB_in (List.mem_of_getElem? (i := 59) (by rfl)) rfl, xTB_in (List.mem_of_getElem? (i := 36) (by decide +kernel)) rfl, ⟨by decide +kernel, by decide +kernel⟩, by decide +kernel, by decide, by decide, rfl⟩
set_option maxRecDepth 20000 in
theorem mX4_areTwoNodes : xMo tX4_areTwoNodes 2 := ⟨xTB_in (List.mem_of_getElem? (i := 354) (by rfl)) rfl, xTB_in (List.mem_of_getElem? (i := 36) (by decide +kernel)) rfl, ⟨by decide +kernel, by decide +kernel⟩, by decide +kernel, by decide, by decide, rfl⟩
set_option maxRecDepth 20000 in
theorem mX4_isArc : xMo tX4_isArc 1 := ⟨xTB_in (List.mem_of_getElem? (i := 370) (by rfl)) rfl, xTB_in (List.mem_of_getElem? (i := 36) (by decide +kernel)) rfl, ⟨by decide +kernel, by decide +kernel⟩, by decide +kernel, by decide, by decide, rfl⟩
set_option maxRecDepth 20000 in
theorem mX4_isGood : xMo tX4_isGood 1 := ⟨xTB_in (List.mem_of_getElem? (i := 390) (by rfl)) rfl, xTB_in (List.mem_of_getElem? (i := 36) (by decide +kernel)) rfl, ⟨by decide +kernel, by decide +kernel⟩, by decide +kernel, by decide, by decide, rfl⟩
set_option maxRecDepth 20000 in
theorem mX4_addArc : xMo tX4_addArc 4 := ⟨xTB_in (List.mem_of_getElem? (i := 362) (by rfl)) rfl, xTB_in (List.mem_of_getElem? (i := 36) (by decide +kernel)) rfl, ⟨by decide +kernel, by decide +kernel⟩, by decide +kernel, by decide, by decide, rfl⟩
set_option maxRecDepth 20000 in
theorem mX4_addGood : xMo tX4_addGood 4 := ⟨xTB_in (List.mem_of_getElem? (i := 382) (by rfl)) rfl, xTB_in (List.mem_of_getElem? (i := 36) (by decide +kernel)) rfl, ⟨by decide +kernel, by decide +kernel⟩, by decide +kernel, by decide, by decide, rfl⟩
set_option maxRecDepth 20000 in
theorem mX4_isCut : xMo tX4_isCut 1 := ⟨xTB_in (List.mem_of_getElem? (i := 620) (by rfl)) rfl, xTB_in (List.mem_of_getElem? (i := 36) (by decide +kernel)) rfl, ⟨by decide +kernel, by decide +kernel⟩, by decide +kernel, by decide, by decide, rfl⟩
set_option maxRecDepth 20000 in
theorem mX4_demandOutOf : xMo tX4_demandOutOf 1 := ⟨xTB_in (List.mem_of_getElem? (i := 624) (by rfl)) rfl, xTB_in (List.mem_of_getElem? (i := 36) (by decide +kernel)) rfl, ⟨by decide +kernel, by decide +kernel⟩, by decide +kernel, by decide, by decide, rfl⟩
set_option maxRecDepth 20000 in
theorem mX4_leadsOut : xMo tX4_leadsOut 3 := ⟨xTB_in (List.mem_of_getElem? (i := 627) (by rfl)) rfl, xTB_in (List.mem_of_getElem? (i := 36) (by decide +kernel)) rfl, ⟨by decide +kernel, by decide +kernel⟩, by decide +kernel, by decide, by decide, rfl⟩
set_option maxRecDepth 20000 in
theorem mX5_init : xMo tX5_init 0 := ⟨xTB_in (List.mem_of_getElem? (i := 209) (by rfl)) rfl, xTB_in (List.mem_of_getElem? (i := 40) (by decide +kernel)) rfl, ⟨by decide +kernel, by decide +kernel⟩, by decide +kernel, by decide, by decide, rfl⟩
set_option maxRecDepth 20000 in
theorem mX5_findBest : xMo tX5_findBest 2 := ⟨xTB_in (List.mem_of_getElem? (i := 453) (by rfl)) rfl, xTB_in (List.mem_of_getElem? (i := 40) (by decide +kernel)) rfl, ⟨by decide +kernel, by decide +kernel⟩, by decide +kernel, by decide, by decide, rfl⟩
set_option maxRecDepth 20000 in
theorem mX5_mostWorthWithWider : xMo tX5_mostWorthWithWider 5 := ⟨xTB_in (List.mem_of_getElem? (i := 516) (by rfl)) rfl, xTB_in (List.mem_of_getElem? (i := 40) (by decide +kernel)) rfl, ⟨by decide +kernel, by decide +kernel⟩, by decide +kernel, by decide, by decide, rfl⟩
set_option maxRecDepth 20000 in
theorem mX5_prepare : xMo tX5_prepare 2 := ⟨xTB_in (List.mem_of_getElem? (i := 457) (by rfl)) rfl, xTB_in (List.mem_of_getElem? (i := 40) (by decide +kernel)) rfl, ⟨by decide +kernel, by decide +kernel⟩, by decide +kernel, by decide, by decide, rfl⟩
set_option maxRecDepth 20000 in
theorem mX5_choose : xMo tX5_choose 5 := ⟨xTB_in (List.mem_of_getElem? (i := 465) (by rfl)) rfl, xTB_in (List.mem_of_getElem? (i := 40) (by decide +kernel)) rfl, ⟨by decide +kernel, by decide +kernel⟩, by decide +kernel, by decide, by decide, rfl⟩
set_option maxRecDepth 20000 in
theorem mX5_serve : xMo tX5_serve 6 := ⟨xTB_in (List.mem_of_getElem? (i := 481) (by rfl)) rfl, xTB_in (List.mem_of_getElem? (i := 40) (by decide +kernel)) rfl, ⟨by decide +kernel, by decide +kernel⟩, by decide +kernel, by decide, by decide, rfl⟩
set_option maxRecDepth 20000 in
theorem mX5_leaveOut : xMo tX5_leaveOut 5 := ⟨xTB_in (List.mem_of_getElem? (i := 489) (by rfl)) rfl, xTB_in (List.mem_of_getElem? (i := 40) (by decide +kernel)) rfl, ⟨by decide +kernel, by decide +kernel⟩, by decide +kernel, by decide, by decide, rfl⟩
set_option maxRecDepth 20000 in
theorem mX5_mayBeBetter : xMo tX5_mayBeBetter 2 := ⟨xTB_in (List.mem_of_getElem? (i := 469) (by rfl)) rfl, xTB_in (List.mem_of_getElem? (i := 40) (by decide +kernel)) rfl, ⟨by decide +kernel, by decide +kernel⟩, by decide +kernel, by decide, by decide, rfl⟩
set_option maxRecDepth 20000 in
theorem mX5_keep : xMo tX5_keep 3 := ⟨xTB_in (List.mem_of_getElem? (i := 473) (by rfl)) rfl, xTB_in (List.mem_of_getElem? (i := 40) (by decide +kernel)) rfl, ⟨by decide +kernel, by decide +kernel⟩, by decide +kernel, by decide, by decide, rfl⟩
set_option maxRecDepth 20000 in
theorem mX6_init : xMo tX6_init 0 := ⟨xTB_in (List.mem_of_getElem? (i := 154) (by rfl)) rfl, xTB_in (List.mem_of_getElem? (i := 39) (by decide +kernel)) rfl, ⟨by decide +kernel, by decide +kernel⟩, by decide +kernel, by decide, by decide, rfl⟩
set_option maxRecDepth 20000 in
theorem mX6_copyFrom : xMo tX6_copyFrom 3 := ⟨xTB_in (List.mem_of_getElem? (i := 421) (by rfl)) rfl, xTB_in (List.mem_of_getElem? (i := 39) (by decide +kernel)) rfl, ⟨by decide +kernel, by decide +kernel⟩, by decide +kernel, by decide, by decide, rfl⟩
set_option maxRecDepth 20000 in
theorem mX6_uses : xMo tX6_uses 1 := ⟨xTB_in (List.mem_of_getElem? (i := 564) (by rfl)) rfl, xTB_in (List.mem_of_getElem? (i := 39) (by decide +kernel)) rfl, ⟨by decide +kernel, by decide +kernel⟩, by decide +kernel, by decide, by decide, rfl⟩
set_option maxRecDepth 20000 in
theorem mX7_init : xMo tX7_init 0 := ⟨xTB_in (List.mem_of_getElem? (i := 147) (by rfl)) rfl, xTB_in (List.mem_of_getElem? (i := 38) (by decide +kernel)) rfl, ⟨by decide +kernel, by decide +kernel⟩, by decide +kernel, by decide, by decide, rfl⟩
set_option maxRecDepth 20000 in
theorem mX7_has : xMo tX7_has 1 := ⟨xTB_in (List.mem_of_getElem? (i := 441) (by rfl)) rfl, xTB_in (List.mem_of_getElem? (i := 38) (by decide +kernel)) rfl, ⟨by decide +kernel, by decide +kernel⟩, by decide +kernel, by decide, by decide, rfl⟩
set_option maxRecDepth 20000 in
theorem mX7_hasPlaceFor : xMo tX7_hasPlaceFor 1 := ⟨xTB_in (List.mem_of_getElem? (i := 429) (by rfl)) rfl, xTB_in (List.mem_of_getElem? (i := 38) (by decide +kernel)) rfl, ⟨by decide +kernel, by decide +kernel⟩, by decide +kernel, by decide, by decide, rfl⟩
set_option maxRecDepth 20000 in
theorem mX7_insert : xMo tX7_insert 3 := ⟨xTB_in (List.mem_of_getElem? (i := 414) (by rfl)) rfl, xTB_in (List.mem_of_getElem? (i := 38) (by decide +kernel)) rfl, ⟨by decide +kernel, by decide +kernel⟩, by decide +kernel, by decide, by decide, rfl⟩
set_option maxRecDepth 20000 in
theorem mX8_init : xMo tX8_init 0 := ⟨xTB_in (List.mem_of_getElem? (i := 140) (by rfl)) rfl, xTB_in (List.mem_of_getElem? (i := 37) (by decide +kernel)) rfl, ⟨by decide +kernel, by decide +kernel⟩, by decide +kernel, by decide, by decide, rfl⟩
set_option maxRecDepth 20000 in
theorem mX8_refresh : xMo tX8_refresh 1 := ⟨xTB_in (List.mem_of_getElem? (i := 402) (by rfl)) rfl, xTB_in (List.mem_of_getElem? (i := 37) (by decide +kernel)) rfl, ⟨by decide +kernel, by decide +kernel⟩, by decide +kernel, by decide, by decide, rfl⟩
set_option maxRecDepth 20000 in
theorem mX8_measure : xMo tX8_measure 2 := ⟨xTB_in (List.mem_of_getElem? (i := 406) (by rfl)) rfl, xTB_in (List.mem_of_getElem? (i := 37) (by decide +kernel)) rfl, ⟨by decide +kernel, by decide +kernel⟩, by decide +kernel, by decide, by decide, rfl⟩
set_option maxRecDepth 20000 in
theorem mX8_walk : xMo tX8_walk 6 := ⟨xTB_in (List.mem_of_getElem? (i := 410) (by rfl)) rfl, xTB_in (List.mem_of_getElem? (i := 37) (by decide +kernel)) rfl, ⟨by decide +kernel, by decide +kernel⟩, by decide +kernel, by decide, by decide, rfl⟩
set_option maxRecDepth 20000 in
theorem mX8_follow : xMo tX8_follow 6 := ⟨xTB_in (List.mem_of_getElem? (i := 433) (by rfl)) rfl, xTB_in (List.mem_of_getElem? (i := 37) (by decide +kernel)) rfl, ⟨by decide +kernel, by decide +kernel⟩, by decide +kernel, by decide, by decide, rfl⟩
set_option maxRecDepth 20000 in
theorem mX8_isWorthwhile : xMo tX8_isWorthwhile 3 := ⟨xTB_in (List.mem_of_getElem? (i := 425) (by rfl)) rfl, xTB_in (List.mem_of_getElem? (i := 37) (by decide +kernel)) rfl, ⟨by decide +kernel, by decide +kernel⟩, by decide +kernel, by decide, by decide, rfl⟩
set_option maxRecDepth 20000 in
theorem mX9_init : xMo tX9_init 0 := ⟨xTB_in (List.mem_of_getElem? (i := 51) (by rfl)) rfl, xTB_in (List.mem_of_getElem? (i := 35) (by decide +kernel)) rfl, ⟨by decide +kernel, by decide +kernel⟩, by decide +kernel, by decide, by decide, rfl⟩
set_option maxRecDepth 20000 in
theorem mX9_node : xMo tX9_node 0 := ⟨xTB_in (List.mem_of_getElem? (i := 346) (by rfl)) rfl, xTB_in (List.mem_of_getElem? (i := 35) (by decide +kernel)) rfl, ⟨by decide +kernel, by decide +kernel⟩, by decide +kernel, by decide, by decide, rfl⟩
set_option maxRecDepth 20000 in
theorem mX9_arc : xMo tX9_arc 4 := ⟨xTB_in (List.mem_of_getElem? (i := 350) (by rfl)) rfl, xTB_in (List.mem_of_getElem? (i := 35) (by decide +kernel)) rfl, ⟨by decide +kernel, by decide +kernel⟩, by decide +kernel, by decide, by decide, rfl⟩
set_option maxRecDepth 20000 in
theorem mX9_capacity : xMo tX9_capacity 2 := ⟨xTB_in (List.mem_of_getElem? (i := 366) (by rfl)) rfl, xTB_in (List.mem_of_getElem? (i := 35) (by decide +kernel)) rfl, ⟨by decide +kernel, by decide +kernel⟩, by decide +kernel, by decide, by decide, rfl⟩
set_option maxRecDepth 20000 in
theorem mX9_cost : xMo tX9_cost 2 := ⟨xTB_in (List.mem_of_getElem? (i := 374) (by rfl)) rfl, xTB_in (List.mem_of_getElem? (i := 35) (by decide +kernel)) rfl, ⟨by decide +kernel, by decide +kernel⟩, by decide +kernel, by decide, by decide, rfl⟩
set_option maxRecDepth 20000 in
theorem mX9_good : xMo tX9_good 4 := ⟨xTB_in (List.mem_of_getElem? (i := 378) (by rfl)) rfl, xTB_in (List.mem_of_getElem? (i := 35) (by decide +kernel)) rfl, ⟨by decide +kernel, by decide +kernel⟩, by decide +kernel, by decide, by decide, rfl⟩
set_option maxRecDepth 20000 in
theorem mX9_demand : xMo tX9_demand 2 := ⟨xTB_in (List.mem_of_getElem? (i := 386) (by rfl)) rfl, xTB_in (List.mem_of_getElem? (i := 35) (by decide +kernel)) rfl, ⟨by decide +kernel, by decide +kernel⟩, by decide +kernel, by decide, by decide, rfl⟩
set_option maxRecDepth 20000 in
theorem mX9_worth : xMo tX9_worth 2 := ⟨xTB_in (List.mem_of_getElem? (i := 394) (by rfl)) rfl, xTB_in (List.mem_of_getElem? (i := 35) (by decide +kernel)) rfl, ⟨by decide +kernel, by decide +kernel⟩, by decide +kernel, by decide, by decide, rfl⟩
set_option maxRecDepth 20000 in
theorem mX9_ways : xMo tX9_ways 1 := ⟨xTB_in (List.mem_of_getElem? (i := 398) (by rfl)) rfl, xTB_in (List.mem_of_getElem? (i := 35) (by decide +kernel)) rfl, ⟨by decide +kernel, by decide +kernel⟩, by decide +kernel, by decide, by decide, rfl⟩
set_option maxRecDepth 20000 in
theorem mX9_way : xMo tX9_way 3 := ⟨xTB_in (List.mem_of_getElem? (i := 437) (by rfl)) rfl, xTB_in (List.mem_of_getElem? (i := 35) (by decide +kernel)) rfl, ⟨by decide +kernel, by decide +kernel⟩, by decide +kernel, by decide, by decide, rfl⟩
set_option maxRecDepth 20000 in
theorem mX9_best : xMo tX9_best 0 := ⟨xTB_in (List.mem_of_getElem? (i := 445) (by rfl)) rfl, xTB_in (List.mem_of_getElem? (i := 35) (by decide +kernel)) rfl, ⟨by decide +kernel, by decide +kernel⟩, by decide +kernel, by decide, by decide, rfl⟩
set_option maxRecDepth 20000 in
theorem mX9_spent : xMo tX9_spent 0 := ⟨xTB_in (List.mem_of_getElem? (i := 500) (by rfl)) rfl, xTB_in (List.mem_of_getElem? (i := 35) (by decide +kernel)) rfl, ⟨by decide +kernel, by decide +kernel⟩, by decide +kernel, by decide, by decide, rfl⟩
set_option maxRecDepth 20000 in
theorem mX9_plan : xMo tX9_plan 1 := ⟨xTB_in (List.mem_of_getElem? (i := 504) (by rfl)) rfl, xTB_in (List.mem_of_getElem? (i := 35) (by decide +kernel)) rfl, ⟨by decide +kernel, by decide +kernel⟩, by decide +kernel, by decide, by decide, rfl⟩
set_option maxRecDepth 20000 in
theorem mX9_load : xMo tX9_load 1 := ⟨xTB_in (List.mem_of_getElem? (i := 508) (by rfl)) rfl, xTB_in (List.mem_of_getElem? (i := 35) (by decide +kernel)) rfl, ⟨by decide +kernel, by decide +kernel⟩, by decide +kernel, by decide, by decide, rfl⟩
set_option maxRecDepth 20000 in
theorem mX9_price : xMo tX9_price 2 := ⟨xTB_in (List.mem_of_getElem? (i := 512) (by rfl)) rfl, xTB_in (List.mem_of_getElem? (i := 35) (by decide +kernel)) rfl, ⟨by decide +kernel, by decide +kernel⟩, by decide +kernel, by decide, by decide, rfl⟩
set_option maxRecDepth 20000 in
theorem mX9_attempt : xMo tX9_attempt 2 := ⟨xTB_in (List.mem_of_getElem? (i := 520) (by rfl)) rfl, xTB_in (List.mem_of_getElem? (i := 35) (by decide +kernel)) rfl, ⟨by decide +kernel, by decide +kernel⟩, by decide +kernel, by decide, by decide, rfl⟩
set_option maxRecDepth 20000 in
theorem mX9_attempted : xMo tX9_attempted 1 := ⟨xTB_in (List.mem_of_getElem? (i := 524) (by rfl)) rfl, xTB_in (List.mem_of_getElem? (i := 35) (by decide +kernel)) rfl, ⟨by decide +kernel, by decide +kernel⟩, by decide +kernel, by decide, by decide, rfl⟩
set_option maxRecDepth 20000 in
theorem mX9_rate : xMo tX9_rate 2 := ⟨xTB_in (List.mem_of_getElem? (i := 544) (by rfl)) rfl, xTB_in (List.mem_of_getElem? (i := 35) (by decide +kernel)) rfl, ⟨by decide +kernel, by decide +kernel⟩, by decide +kernel, by decide, by decide, rfl⟩
set_option maxRecDepth 20000 in
theorem mX9_bottleneck : xMo tX9_bottleneck 1 := ⟨xTB_in (List.mem_of_getElem? (i := 592) (by rfl)) rfl, xTB_in (List.mem_of_getElem? (i := 35) (by decide +kernel)) rfl, ⟨by decide +kernel, by decide +kernel⟩, by decide +kernel, by decide, by decide, rfl⟩
set_option maxRecDepth 20000 in
theorem mX9_more : xMo tX9_more 1 := ⟨xTB_in (List.mem_of_getElem? (i := 596) (by rfl)) rfl, xTB_in (List.mem_of_getElem? (i := 35) (by decide +kernel)) rfl, ⟨by decide +kernel, by decide +kernel⟩, by decide +kernel, by decide, by decide, rfl⟩
set_option maxRecDepth 20000 in
theorem mX9_cut : xMo tX9_cut 0 := ⟨xTB_in (List.mem_of_getElem? (i := 616) (by rfl)) rfl, xTB_in (List.mem_of_getElem? (i := 35) (by decide +kernel)) rfl, ⟨by decide +kernel, by decide +kernel⟩, by decide +kernel, by decide, by decide, rfl⟩
set_option maxRecDepth 20000 in
theorem mX9_count : xMo tX9_count 1 := ⟨xTB_in (List.mem_of_getElem? (i := 631) (by rfl)) rfl, xTB_in (List.mem_of_getElem? (i := 35) (by decide +kernel)) rfl, ⟨by decide +kernel, by decide +kernel⟩, by decide +kernel, by decide, by decide, rfl⟩
set_option maxRecDepth 20000 in
theorem mX9_refreshPlan : xMo tX9_refreshPlan 0 := ⟨xTB_in (List.mem_of_getElem? (i := 449) (by rfl)) rfl, xTB_in (List.mem_of_getElem? (i := 35) (by decide +kernel)) rfl, ⟨by decide +kernel, by decide +kernel⟩, by decide +kernel, by decide, by decide, rfl⟩
set_option maxRecDepth 20000 in
theorem mX9_refreshRates : xMo tX9_refreshRates 0 := ⟨xTB_in (List.mem_of_getElem? (i := 548) (by rfl)) rfl, xTB_in (List.mem_of_getElem? (i := 35) (by decide +kernel)) rfl, ⟨by decide +kernel, by decide +kernel⟩, by decide +kernel, by decide, by decide, rfl⟩
set_option maxRecDepth 20000 in
theorem mX9_areTriedThere : xMo tX9_areTriedThere 0 := ⟨xTB_in (List.mem_of_getElem? (i := 528) (by rfl)) rfl, xTB_in (List.mem_of_getElem? (i := 35) (by decide +kernel)) rfl, ⟨by decide +kernel, by decide +kernel⟩, by decide +kernel, by decide, by decide, rfl⟩
set_option maxRecDepth 20000 in
theorem mX9_triedWorth : xMo tX9_triedWorth 0 := ⟨xTB_in (List.mem_of_getElem? (i := 532) (by rfl)) rfl, xTB_in (List.mem_of_getElem? (i := 35) (by decide +kernel)) rfl, ⟨by decide +kernel, by decide +kernel⟩, by decide +kernel, by decide, by decide, rfl⟩
set_option maxRecDepth 20000 in
theorem mX9_triedCost : xMo tX9_triedCost 0 := ⟨xTB_in (List.mem_of_getElem? (i := 536) (by rfl)) rfl, xTB_in (List.mem_of_getElem? (i := 35) (by decide +kernel)) rfl, ⟨by decide +kernel, by decide +kernel⟩, by decide +kernel, by decide, by decide, rfl⟩
set_option maxRecDepth 20000 in
theorem mX9_isWithin : xMo tX9_isWithin 3 := ⟨xTB_in (List.mem_of_getElem? (i := 357) (by rfl)) rfl, xTB_in (List.mem_of_getElem? (i := 35) (by decide +kernel)) rfl, ⟨by decide +kernel, by decide +kernel⟩, by decide +kernel, by decide, by decide, rfl⟩
set_option maxRecDepth 20000 in
theorem mX9_sumOfFirst : xMo tX9_sumOfFirst 2 := ⟨xTB_in (List.mem_of_getElem? (i := 634) (by rfl)) rfl, xTB_in (List.mem_of_getElem? (i := 35) (by decide +kernel)) rfl, ⟨by decide +kernel, by decide +kernel⟩, by decide +kernel, by decide, by decide, rfl⟩
set_option maxRecDepth 20000 in
theorem mX10_in : xMo tX10_in 3 := ⟨xTB_in (List.mem_of_getElem? (i := 735) (by rfl)) rfl, xTB_in (List.mem_of_getElem? (i := 45) (by decide +kernel)) rfl, ⟨by decide +kernel, by decide +kernel⟩, by decide +kernel, by decide, by decide, rfl⟩
set_option maxRecDepth 20000 in
theorem mX10_init : xMo tX10_init 0 := ⟨xTB_in (List.mem_of_getElem? (i := 639) (by rfl)) rfl, xTB_in (List.mem_of_getElem? (i := 45) (by decide +kernel)) rfl, ⟨by decide +kernel, by decide +kernel⟩, by decide +kernel, by decide, by decide, rfl⟩
set_option maxRecDepth 20000 in
theorem mX10_noNode : xMo tX10_noNode 1 := ⟨xTB_in (List.mem_of_getElem? (i := 732) (by rfl)) rfl, xTB_in (List.mem_of_getElem? (i := 45) (by decide +kernel)) rfl, ⟨by decide +kernel, by decide +kernel⟩, by decide +kernel, by decide, by decide, rfl⟩
set_option maxRecDepth 20000 in
theorem mX10_noArc : xMo tX10_noArc 1 := ⟨xTB_in (List.mem_of_getElem? (i := 758) (by rfl)) rfl, xTB_in (List.mem_of_getElem? (i := 45) (by decide +kernel)) rfl, ⟨by decide +kernel, by decide +kernel⟩, by decide +kernel, by decide, by decide, rfl⟩
set_option maxRecDepth 20000 in
theorem mX10_noGood : xMo tX10_noGood 1 := ⟨xTB_in (List.mem_of_getElem? (i := 774) (by rfl)) rfl, xTB_in (List.mem_of_getElem? (i := 45) (by decide +kernel)) rfl, ⟨by decide +kernel, by decide +kernel⟩, by decide +kernel, by decide, by decide, rfl⟩
set_option maxRecDepth 20000 in
theorem mX10_node : xMo tX10_node 0 := ⟨xTB_in (List.mem_of_getElem? (i := 724) (by rfl)) rfl, xTB_in (List.mem_of_getElem? (i := 45) (by decide +kernel)) rfl, ⟨by decide +kernel, by decide +kernel⟩, by decide +kernel, by decide, by decide, rfl⟩
set_option maxRecDepth 20000 in
theorem mX10_arc : xMo tX10_arc 4 := ⟨xTB_in (List.mem_of_getElem? (i := 728) (by rfl)) rfl, xTB_in (List.mem_of_getElem? (i := 45) (by decide +kernel)) rfl, ⟨by decide +kernel, by decide +kernel⟩, by decide +kernel, by decide, by decide, rfl⟩
set_option maxRecDepth 20000 in
theorem mX10_capacity : xMo tX10_capacity 2 := ⟨xTB_in (List.mem_of_getElem? (i := 754) (by rfl)) rfl, xTB_in (List.mem_of_getElem? (i := 45) (by decide +kernel)) rfl, ⟨by decide +kernel, by decide +kernel⟩, by decide +kernel, by decide, by decide, rfl⟩
set_option maxRecDepth 20000 in
theorem mX10_cost : xMo tX10_cost 2 := ⟨xTB_in (List.mem_of_getElem? (i := 762) (by rfl)) rfl, xTB_in (List.mem_of_getElem? (i := 45) (by decide +kernel)) rfl, ⟨by decide +kernel, by decide +kernel⟩, by decide +kernel, by decide, by decide, rfl⟩
set_option maxRecDepth 20000 in
theorem mX10_good : xMo tX10_good 4 := ⟨xTB_in (List.mem_of_getElem? (i := 766) (by rfl)) rfl, xTB_in (List.mem_of_getElem? (i := 45) (by decide +kernel)) rfl, ⟨by decide +kernel, by decide +kernel⟩, by decide +kernel, by decide, by decide, rfl⟩
set_option maxRecDepth 20000 in
theorem mX10_demand : xMo tX10_demand 2 := ⟨xTB_in (List.mem_of_getElem? (i := 770) (by rfl)) rfl, xTB_in (List.mem_of_getElem? (i := 45) (by decide +kernel)) rfl, ⟨by decide +kernel, by decide +kernel⟩, by decide +kernel, by decide, by decide, rfl⟩
set_option maxRecDepth 20000 in
theorem mX10_worth : xMo tX10_worth 2 := ⟨xTB_in (List.mem_of_getElem? (i := 778) (by rfl)) rfl, xTB_in (List.mem_of_getElem? (i := 45) (by decide +kernel)) rfl, ⟨by decide +kernel, by decide +kernel⟩, by decide +kernel, by decide, by decide, rfl⟩
set_option maxRecDepth 20000 in
theorem mX10_layWays : xMo tX10_layWays 0 := ⟨xTB_in (List.mem_of_getElem? (i := 739) (by rfl)) rfl, xTB_in (List.mem_of_getElem? (i := 45) (by decide +kernel)) rfl, ⟨by decide +kernel, by decide +kernel⟩, by decide +kernel, by decide, by decide, rfl⟩
set_option maxRecDepth 20000 in
theorem mX10_goOn : xMo tX10_goOn 6 := ⟨xTB_in (List.mem_of_getElem? (i := 742) (by rfl)) rfl, xTB_in (List.mem_of_getElem? (i := 45) (by decide +kernel)) rfl, ⟨by decide +kernel, by decide +kernel⟩, by decide +kernel, by decide, by decide, rfl⟩
set_option maxRecDepth 20000 in
theorem mX10_isAhead : xMo tX10_isAhead 3 := ⟨xTB_in (List.mem_of_getElem? (i := 750) (by rfl)) rfl, xTB_in (List.mem_of_getElem? (i := 45) (by decide +kernel)) rfl, ⟨by decide +kernel, by decide +kernel⟩, by decide +kernel, by decide, by decide, rfl⟩
set_option maxRecDepth 20000 in
theorem mX10_keep : xMo tX10_keep 3 := ⟨xTB_in (List.mem_of_getElem? (i := 746) (by rfl)) rfl, xTB_in (List.mem_of_getElem? (i := 45) (by decide +kernel)) rfl, ⟨by decide +kernel, by decide +kernel⟩, by decide +kernel, by decide, by decide, rfl⟩
set_option maxRecDepth 20000 in
theorem mX10_ways : xMo tX10_ways 1 := ⟨xTB_in (List.mem_of_getElem? (i := 782) (by rfl)) rfl, xTB_in (List.mem_of_getElem? (i := 45) (by decide +kernel)) rfl, ⟨by decide +kernel, by decide +kernel⟩, by decide +kernel, by decide, by decide, rfl⟩
set_option maxRecDepth 20000 in
theorem mX10_way : xMo tX10_way 3 := ⟨xTB_in (List.mem_of_getElem? (i := 786) (by rfl)) rfl, xTB_in (List.mem_of_getElem? (i := 45) (by decide +kernel)) rfl, ⟨by decide +kernel, by decide +kernel⟩, by decide +kernel, by decide, by decide, rfl⟩
set_option maxRecDepth 20000 in
theorem mX10_hasArc : xMo tX10_hasArc 3 := ⟨xTB_in (List.mem_of_getElem? (i := 825) (by rfl)) rfl, xTB_in (List.mem_of_getElem? (i := 45) (by decide +kernel)) rfl, ⟨by decide +kernel, by decide +kernel⟩, by decide +kernel, by decide, by decide, rfl⟩
set_option maxRecDepth 20000 in
theorem mX10_load : xMo tX10_load 3 := ⟨xTB_in (List.mem_of_getElem? (i := 805) (by rfl)) rfl, xTB_in (List.mem_of_getElem? (i := 45) (by decide +kernel)) rfl, ⟨by decide +kernel, by decide +kernel⟩, by decide +kernel, by decide, by decide, rfl⟩
set_option maxRecDepth 20000 in
theorem mX10_fits : xMo tX10_fits 2 := ⟨xTB_in (List.mem_of_getElem? (i := 801) (by rfl)) rfl, xTB_in (List.mem_of_getElem? (i := 45) (by decide +kernel)) rfl, ⟨by decide +kernel, by decide +kernel⟩, by decide +kernel, by decide, by decide, rfl⟩
set_option maxRecDepth 20000 in
theorem mX10_plans : xMo tX10_plans 4 := ⟨xTB_in (List.mem_of_getElem? (i := 797) (by rfl)) rfl, xTB_in (List.mem_of_getElem? (i := 45) (by decide +kernel)) rfl, ⟨by decide +kernel, by decide +kernel⟩, by decide +kernel, by decide, by decide, rfl⟩
set_option maxRecDepth 20000 in
theorem mX10_findBest : xMo tX10_findBest 0 := ⟨xTB_in (List.mem_of_getElem? (i := 794) (by rfl)) rfl, xTB_in (List.mem_of_getElem? (i := 45) (by decide +kernel)) rfl, ⟨by decide +kernel, by decide +kernel⟩, by decide +kernel, by decide, by decide, rfl⟩
set_option maxRecDepth 20000 in
theorem mX10_best : xMo tX10_best 0 := ⟨xTB_in (List.mem_of_getElem? (i := 790) (by rfl)) rfl, xTB_in (List.mem_of_getElem? (i := 45) (by decide +kernel)) rfl, ⟨by decide +kernel, by decide +kernel⟩, by decide +kernel, by decide, by decide, rfl⟩
set_option maxRecDepth 20000 in
theorem mX10_spent : xMo tX10_spent 0 := ⟨xTB_in (List.mem_of_getElem? (i := 809) (by rfl)) rfl, xTB_in (List.mem_of_getElem? (i := 45) (by decide +kernel)) rfl, ⟨by decide +kernel, by decide +kernel⟩, by decide +kernel, by decide, by decide, rfl⟩
set_option maxRecDepth 20000 in
theorem mX10_plan : xMo tX10_plan 1 := ⟨xTB_in (List.mem_of_getElem? (i := 813) (by rfl)) rfl, xTB_in (List.mem_of_getElem? (i := 45) (by decide +kernel)) rfl, ⟨by decide +kernel, by decide +kernel⟩, by decide +kernel, by decide, by decide, rfl⟩
set_option maxRecDepth 20000 in
theorem mX10_loadOf : xMo tX10_loadOf 2 := ⟨xTB_in (List.mem_of_getElem? (i := 821) (by rfl)) rfl, xTB_in (List.mem_of_getElem? (i := 45) (by decide +kernel)) rfl, ⟨by decide +kernel, by decide +kernel⟩, by decide +kernel, by decide, by decide, rfl⟩
set_option maxRecDepth 20000 in
theorem mX10_load_ : xMo tX10_load_ 1 := ⟨xTB_in (List.mem_of_getElem? (i := 817) (by rfl)) rfl, xTB_in (List.mem_of_getElem? (i := 45) (by decide +kernel)) rfl, ⟨by decide +kernel, by decide +kernel⟩, by decide +kernel, by decide, by decide, rfl⟩
set_option maxRecDepth 20000 in
theorem mX10_price : xMo tX10_price 2 := ⟨xTB_in (List.mem_of_getElem? (i := 829) (by rfl)) rfl, xTB_in (List.mem_of_getElem? (i := 45) (by decide +kernel)) rfl, ⟨by decide +kernel, by decide +kernel⟩, by decide +kernel, by decide, by decide, rfl⟩
set_option maxRecDepth 20000 in
theorem mX10_attempt : xMo tX10_attempt 2 := ⟨xTB_in (List.mem_of_getElem? (i := 833) (by rfl)) rfl, xTB_in (List.mem_of_getElem? (i := 45) (by decide +kernel)) rfl, ⟨by decide +kernel, by decide +kernel⟩, by decide +kernel, by decide, by decide, rfl⟩
set_option maxRecDepth 20000 in
theorem mX10_attempted : xMo tX10_attempted 1 := ⟨xTB_in (List.mem_of_getElem? (i := 837) (by rfl)) rfl, xTB_in (List.mem_of_getElem? (i := 45) (by decide +kernel)) rfl, ⟨by decide +kernel, by decide +kernel⟩, by decide +kernel, by decide, by decide, rfl⟩
set_option maxRecDepth 20000 in
theorem mX10_common : xMo tX10_common 2 := ⟨xTB_in (List.mem_of_getElem? (i := 848) (by rfl)) rfl, xTB_in (List.mem_of_getElem? (i := 45) (by decide +kernel)) rfl, ⟨by decide +kernel, by decide +kernel⟩, by decide +kernel, by decide, by decide, rfl⟩
set_option maxRecDepth 20000 in
theorem mX10_findRates : xMo tX10_findRates 0 := ⟨xTB_in (List.mem_of_getElem? (i := 845) (by rfl)) rfl, xTB_in (List.mem_of_getElem? (i := 45) (by decide +kernel)) rfl, ⟨by decide +kernel, by decide +kernel⟩, by decide +kernel, by decide, by decide, rfl⟩
set_option maxRecDepth 20000 in
theorem mX10_rate : xMo tX10_rate 2 := ⟨xTB_in (List.mem_of_getElem? (i := 841) (by rfl)) rfl, xTB_in (List.mem_of_getElem? (i := 45) (by decide +kernel)) rfl, ⟨by decide +kernel, by decide +kernel⟩, by decide +kernel, by decide, by decide, rfl⟩
set_option maxRecDepth 20000 in
theorem mX10_bottleneck : xMo tX10_bottleneck 1 := ⟨xTB_in (List.mem_of_getElem? (i := 852) (by rfl)) rfl, xTB_in (List.mem_of_getElem? (i := 45) (by decide +kernel)) rfl, ⟨by decide +kernel, by decide +kernel⟩, by decide +kernel, by decide, by decide, rfl⟩
set_option maxRecDepth 20000 in
theorem mX10_has : xMo tX10_has 2 := ⟨xTB_in (List.mem_of_getElem? (i := 859) (by rfl)) rfl, xTB_in (List.mem_of_getElem? (i := 45) (by decide +kernel)) rfl, ⟨by decide +kernel, by decide +kernel⟩, by decide +kernel, by decide, by decide, rfl⟩
set_option maxRecDepth 20000 in
theorem mX10_more : xMo tX10_more 1 := ⟨xTB_in (List.mem_of_getElem? (i := 856) (by rfl)) rfl, xTB_in (List.mem_of_getElem? (i := 45) (by decide +kernel)) rfl, ⟨by decide +kernel, by decide +kernel⟩, by decide +kernel, by decide, by decide, rfl⟩
set_option maxRecDepth 20000 in
theorem mX10_cut : xMo tX10_cut 0 := ⟨xTB_in (List.mem_of_getElem? (i := 863) (by rfl)) rfl, xTB_in (List.mem_of_getElem? (i := 45) (by decide +kernel)) rfl, ⟨by decide +kernel, by decide +kernel⟩, by decide +kernel, by decide, by decide, rfl⟩
set_option maxRecDepth 20000 in
theorem mX10_count : xMo tX10_count 1 := ⟨xTB_in (List.mem_of_getElem? (i := 867) (by rfl)) rfl, xTB_in (List.mem_of_getElem? (i := 45) (by decide +kernel)) rfl, ⟨by decide +kernel, by decide +kernel⟩, by decide +kernel, by decide, by decide, rfl⟩
theorem xmin1 : Cond.static Lib.Math.min.name ∈ xTB := xTB_in (List.mem_of_getElem? (i := 416) (by decide +kernel)) rfl
theorem xmin2 : Cond.initialized "java/lang/Math" ∈ xTB := xTB_in (List.mem_of_getElem? (i := 46) (by decide +kernel)) rfl
set_option maxRecDepth 20000 in
theorem xmin3 : Cond.code Lib.Math.min.name Lib.Math.min.code 2 (some .int) ∈ xTB := xTB_in (List.mem_of_getElem? (i := 417) (by rfl)) rfl
def xCV (o idx : Nat) (t : xT) : Prop := Cond.methodLink (xnm o) idx t.2.1 ∈ xTB ∧ Cond.instanceMethod t.2.1 ∈ xTB ∧ Cond.selects t.2.1.cls t.2.1 t.2.1 ∈ xTB
def xCS (o idx : Nat) (t : xT) : Prop := Cond.methodLink (xnm o) idx t.2.1 ∈ xTB ∧ Cond.static t.2.1 ∈ xTB
def xCI (o idx : Nat) (t : xT) : Prop := Cond.methodLink (xnm o) idx t.2.1 ∈ xTB ∧ Cond.instanceMethod t.2.1 ∈ xTB
def xCN (o idx : Nat) (t : xT) (h : String) : Prop := (xnm o, idx, t.2.1, h) ∈ xnest
theorem k11_9 : xCI 11 9 tX9_init := ⟨xTB_in (List.mem_of_getElem? (i := 49) (by decide +kernel)) rfl, xTB_in (List.mem_of_getElem? (i := 50) (by decide +kernel)) rfl⟩
theorem k9_3 : Cond.methodLink (xnm 9) 3 objectInit ∈ xTB := xTB_in (List.mem_of_getElem? (i := 52) (by decide +kernel)) rfl
theorem k4_3 : Cond.methodLink (xnm 4) 3 objectInit ∈ xTB := xTB_in (List.mem_of_getElem? (i := 60) (by decide +kernel)) rfl
theorem k9_18 : xCI 9 18 tX8_init := ⟨xTB_in (List.mem_of_getElem? (i := 138) (by decide +kernel)) rfl, xTB_in (List.mem_of_getElem? (i := 139) (by decide +kernel)) rfl⟩
theorem k8_3 : Cond.methodLink (xnm 8) 3 objectInit ∈ xTB := xTB_in (List.mem_of_getElem? (i := 141) (by decide +kernel)) rfl
theorem k8_28 : xCI 8 28 tX7_init := ⟨xTB_in (List.mem_of_getElem? (i := 145) (by decide +kernel)) rfl, xTB_in (List.mem_of_getElem? (i := 146) (by decide +kernel)) rfl⟩
theorem k7_3 : Cond.methodLink (xnm 7) 3 objectInit ∈ xTB := xTB_in (List.mem_of_getElem? (i := 148) (by decide +kernel)) rfl
theorem k6_3 : Cond.methodLink (xnm 6) 3 objectInit ∈ xTB := xTB_in (List.mem_of_getElem? (i := 155) (by decide +kernel)) rfl
theorem k5_3 : Cond.methodLink (xnm 5) 3 objectInit ∈ xTB := xTB_in (List.mem_of_getElem? (i := 210) (by decide +kernel)) rfl
theorem k3_3 : Cond.methodLink (xnm 3) 3 objectInit ∈ xTB := xTB_in (List.mem_of_getElem? (i := 216) (by decide +kernel)) rfl
theorem k9_49 : xCI 9 49 tX0_init := ⟨xTB_in (List.mem_of_getElem? (i := 252) (by decide +kernel)) rfl, xTB_in (List.mem_of_getElem? (i := 253) (by decide +kernel)) rfl⟩
theorem k0_3 : Cond.methodLink (xnm 0) 3 objectInit ∈ xTB := xTB_in (List.mem_of_getElem? (i := 255) (by decide +kernel)) rfl
theorem k2_1 : Cond.methodLink (xnm 2) 1 objectInit ∈ xTB := xTB_in (List.mem_of_getElem? (i := 262) (by decide +kernel)) rfl
theorem k1_3 : Cond.methodLink (xnm 1) 3 objectInit ∈ xTB := xTB_in (List.mem_of_getElem? (i := 301) (by decide +kernel)) rfl
theorem k11_13 : xCV 11 13 tX9_node := ⟨xTB_in (List.mem_of_getElem? (i := 343) (by decide +kernel)) rfl, xTB_in (List.mem_of_getElem? (i := 344) (by decide +kernel)) rfl, xTB_in (List.mem_of_getElem? (i := 345) (by decide +kernel)) rfl⟩
theorem k11_18 : xCV 11 18 tX9_arc := ⟨xTB_in (List.mem_of_getElem? (i := 347) (by decide +kernel)) rfl, xTB_in (List.mem_of_getElem? (i := 348) (by decide +kernel)) rfl, xTB_in (List.mem_of_getElem? (i := 349) (by decide +kernel)) rfl⟩
theorem k9_71 : xCV 9 71 tX4_areTwoNodes := ⟨xTB_in (List.mem_of_getElem? (i := 351) (by decide +kernel)) rfl, xTB_in (List.mem_of_getElem? (i := 352) (by decide +kernel)) rfl, xTB_in (List.mem_of_getElem? (i := 353) (by decide +kernel)) rfl⟩
theorem k9_75 : xCS 9 75 tX9_isWithin := ⟨xTB_in (List.mem_of_getElem? (i := 358) (by decide +kernel)) rfl, xTB_in (List.mem_of_getElem? (i := 356) (by decide +kernel)) rfl⟩
theorem k9_82 : xCV 9 82 tX4_addArc := ⟨xTB_in (List.mem_of_getElem? (i := 359) (by decide +kernel)) rfl, xTB_in (List.mem_of_getElem? (i := 360) (by decide +kernel)) rfl, xTB_in (List.mem_of_getElem? (i := 361) (by decide +kernel)) rfl⟩
theorem k11_23 : xCV 11 23 tX9_capacity := ⟨xTB_in (List.mem_of_getElem? (i := 363) (by decide +kernel)) rfl, xTB_in (List.mem_of_getElem? (i := 364) (by decide +kernel)) rfl, xTB_in (List.mem_of_getElem? (i := 365) (by decide +kernel)) rfl⟩
theorem k9_86 : xCV 9 86 tX4_isArc := ⟨xTB_in (List.mem_of_getElem? (i := 367) (by decide +kernel)) rfl, xTB_in (List.mem_of_getElem? (i := 368) (by decide +kernel)) rfl, xTB_in (List.mem_of_getElem? (i := 369) (by decide +kernel)) rfl⟩
theorem k11_28 : xCV 11 28 tX9_cost := ⟨xTB_in (List.mem_of_getElem? (i := 371) (by decide +kernel)) rfl, xTB_in (List.mem_of_getElem? (i := 372) (by decide +kernel)) rfl, xTB_in (List.mem_of_getElem? (i := 373) (by decide +kernel)) rfl⟩
theorem k11_32 : xCV 11 32 tX9_good := ⟨xTB_in (List.mem_of_getElem? (i := 375) (by decide +kernel)) rfl, xTB_in (List.mem_of_getElem? (i := 376) (by decide +kernel)) rfl, xTB_in (List.mem_of_getElem? (i := 377) (by decide +kernel)) rfl⟩
theorem k9_102 : xCV 9 102 tX4_addGood := ⟨xTB_in (List.mem_of_getElem? (i := 379) (by decide +kernel)) rfl, xTB_in (List.mem_of_getElem? (i := 380) (by decide +kernel)) rfl, xTB_in (List.mem_of_getElem? (i := 381) (by decide +kernel)) rfl⟩
theorem k11_36 : xCV 11 36 tX9_demand := ⟨xTB_in (List.mem_of_getElem? (i := 383) (by decide +kernel)) rfl, xTB_in (List.mem_of_getElem? (i := 384) (by decide +kernel)) rfl, xTB_in (List.mem_of_getElem? (i := 385) (by decide +kernel)) rfl⟩
theorem k9_105 : xCV 9 105 tX4_isGood := ⟨xTB_in (List.mem_of_getElem? (i := 387) (by decide +kernel)) rfl, xTB_in (List.mem_of_getElem? (i := 388) (by decide +kernel)) rfl, xTB_in (List.mem_of_getElem? (i := 389) (by decide +kernel)) rfl⟩
theorem k11_40 : xCV 11 40 tX9_worth := ⟨xTB_in (List.mem_of_getElem? (i := 391) (by decide +kernel)) rfl, xTB_in (List.mem_of_getElem? (i := 392) (by decide +kernel)) rfl, xTB_in (List.mem_of_getElem? (i := 393) (by decide +kernel)) rfl⟩
theorem k11_44 : xCV 11 44 tX9_ways := ⟨xTB_in (List.mem_of_getElem? (i := 395) (by decide +kernel)) rfl, xTB_in (List.mem_of_getElem? (i := 396) (by decide +kernel)) rfl, xTB_in (List.mem_of_getElem? (i := 397) (by decide +kernel)) rfl⟩
theorem k9_114 : xCV 9 114 tX8_refresh := ⟨xTB_in (List.mem_of_getElem? (i := 399) (by decide +kernel)) rfl, xTB_in (List.mem_of_getElem? (i := 400) (by decide +kernel)) rfl, xTB_in (List.mem_of_getElem? (i := 401) (by decide +kernel)) rfl⟩
theorem k8_41 : xCV 8 41 tX8_measure := ⟨xTB_in (List.mem_of_getElem? (i := 403) (by decide +kernel)) rfl, xTB_in (List.mem_of_getElem? (i := 405) (by decide +kernel)) rfl, xTB_in (List.mem_of_getElem? (i := 0) (by decide +kernel)) rfl⟩
theorem k8_48 : xCV 8 48 tX8_walk := ⟨xTB_in (List.mem_of_getElem? (i := 407) (by decide +kernel)) rfl, xTB_in (List.mem_of_getElem? (i := 409) (by decide +kernel)) rfl, xTB_in (List.mem_of_getElem? (i := 1) (by decide +kernel)) rfl⟩
theorem k8_64 : xCV 8 64 tX7_insert := ⟨xTB_in (List.mem_of_getElem? (i := 411) (by decide +kernel)) rfl, xTB_in (List.mem_of_getElem? (i := 412) (by decide +kernel)) rfl, xTB_in (List.mem_of_getElem? (i := 413) (by decide +kernel)) rfl⟩
theorem k7_25 : Cond.methodLink (xnm 7) 25 Lib.Math.min.name ∈ xTB := xTB_in (List.mem_of_getElem? (i := 415) (by decide +kernel)) rfl
theorem k7_31 : xCV 7 31 tX6_copyFrom := ⟨xTB_in (List.mem_of_getElem? (i := 418) (by decide +kernel)) rfl, xTB_in (List.mem_of_getElem? (i := 419) (by decide +kernel)) rfl, xTB_in (List.mem_of_getElem? (i := 420) (by decide +kernel)) rfl⟩
theorem k8_68 : xCV 8 68 tX8_isWorthwhile := ⟨xTB_in (List.mem_of_getElem? (i := 422) (by decide +kernel)) rfl, xTB_in (List.mem_of_getElem? (i := 424) (by decide +kernel)) rfl, xTB_in (List.mem_of_getElem? (i := 2) (by decide +kernel)) rfl⟩
theorem k8_75 : xCV 8 75 tX7_hasPlaceFor := ⟨xTB_in (List.mem_of_getElem? (i := 426) (by decide +kernel)) rfl, xTB_in (List.mem_of_getElem? (i := 427) (by decide +kernel)) rfl, xTB_in (List.mem_of_getElem? (i := 428) (by decide +kernel)) rfl⟩
theorem k8_72 : xCV 8 72 tX8_follow := ⟨xTB_in (List.mem_of_getElem? (i := 430) (by decide +kernel)) rfl, xTB_in (List.mem_of_getElem? (i := 432) (by decide +kernel)) rfl, xTB_in (List.mem_of_getElem? (i := 3) (by decide +kernel)) rfl⟩
theorem k11_49 : xCV 11 49 tX9_way := ⟨xTB_in (List.mem_of_getElem? (i := 434) (by decide +kernel)) rfl, xTB_in (List.mem_of_getElem? (i := 435) (by decide +kernel)) rfl, xTB_in (List.mem_of_getElem? (i := 436) (by decide +kernel)) rfl⟩
theorem k9_127 : xCV 9 127 tX7_has := ⟨xTB_in (List.mem_of_getElem? (i := 438) (by decide +kernel)) rfl, xTB_in (List.mem_of_getElem? (i := 439) (by decide +kernel)) rfl, xTB_in (List.mem_of_getElem? (i := 440) (by decide +kernel)) rfl⟩
theorem k11_54 : xCV 11 54 tX9_best := ⟨xTB_in (List.mem_of_getElem? (i := 442) (by decide +kernel)) rfl, xTB_in (List.mem_of_getElem? (i := 443) (by decide +kernel)) rfl, xTB_in (List.mem_of_getElem? (i := 444) (by decide +kernel)) rfl⟩
theorem k9_144 : xCV 9 144 tX9_refreshPlan := ⟨xTB_in (List.mem_of_getElem? (i := 446) (by decide +kernel)) rfl, xTB_in (List.mem_of_getElem? (i := 448) (by decide +kernel)) rfl, xTB_in (List.mem_of_getElem? (i := 4) (by decide +kernel)) rfl⟩
theorem k9_217 : xCV 9 217 tX5_findBest := ⟨xTB_in (List.mem_of_getElem? (i := 450) (by decide +kernel)) rfl, xTB_in (List.mem_of_getElem? (i := 451) (by decide +kernel)) rfl, xTB_in (List.mem_of_getElem? (i := 452) (by decide +kernel)) rfl⟩
theorem k5_31 : xCV 5 31 tX5_prepare := ⟨xTB_in (List.mem_of_getElem? (i := 454) (by decide +kernel)) rfl, xTB_in (List.mem_of_getElem? (i := 456) (by decide +kernel)) rfl, xTB_in (List.mem_of_getElem? (i := 5) (by decide +kernel)) rfl⟩
theorem k5_46 : xCV 5 46 tX3_clear := ⟨xTB_in (List.mem_of_getElem? (i := 458) (by decide +kernel)) rfl, xTB_in (List.mem_of_getElem? (i := 459) (by decide +kernel)) rfl, xTB_in (List.mem_of_getElem? (i := 460) (by decide +kernel)) rfl⟩
theorem k5_42 : xCV 5 42 tX5_choose := ⟨xTB_in (List.mem_of_getElem? (i := 462) (by decide +kernel)) rfl, xTB_in (List.mem_of_getElem? (i := 464) (by decide +kernel)) rfl, xTB_in (List.mem_of_getElem? (i := 6) (by decide +kernel)) rfl⟩
theorem k5_74 : xCV 5 74 tX5_mayBeBetter := ⟨xTB_in (List.mem_of_getElem? (i := 466) (by decide +kernel)) rfl, xTB_in (List.mem_of_getElem? (i := 468) (by decide +kernel)) rfl, xTB_in (List.mem_of_getElem? (i := 7) (by decide +kernel)) rfl⟩
theorem k5_78 : xCV 5 78 tX5_keep := ⟨xTB_in (List.mem_of_getElem? (i := 470) (by decide +kernel)) rfl, xTB_in (List.mem_of_getElem? (i := 472) (by decide +kernel)) rfl, xTB_in (List.mem_of_getElem? (i := 8) (by decide +kernel)) rfl⟩
theorem k5_89 : xCV 5 89 tX3_leavesRoomFor := ⟨xTB_in (List.mem_of_getElem? (i := 474) (by decide +kernel)) rfl, xTB_in (List.mem_of_getElem? (i := 475) (by decide +kernel)) rfl, xTB_in (List.mem_of_getElem? (i := 476) (by decide +kernel)) rfl⟩
theorem k5_93 : xCV 5 93 tX5_serve := ⟨xTB_in (List.mem_of_getElem? (i := 478) (by decide +kernel)) rfl, xTB_in (List.mem_of_getElem? (i := 480) (by decide +kernel)) rfl, xTB_in (List.mem_of_getElem? (i := 9) (by decide +kernel)) rfl⟩
theorem k5_100 : xCV 5 100 tX3_add := ⟨xTB_in (List.mem_of_getElem? (i := 482) (by decide +kernel)) rfl, xTB_in (List.mem_of_getElem? (i := 483) (by decide +kernel)) rfl, xTB_in (List.mem_of_getElem? (i := 484) (by decide +kernel)) rfl⟩
theorem k5_97 : xCV 5 97 tX5_leaveOut := ⟨xTB_in (List.mem_of_getElem? (i := 486) (by decide +kernel)) rfl, xTB_in (List.mem_of_getElem? (i := 488) (by decide +kernel)) rfl, xTB_in (List.mem_of_getElem? (i := 10) (by decide +kernel)) rfl⟩
theorem k9_174 : xCV 9 174 tX3_addAll := ⟨xTB_in (List.mem_of_getElem? (i := 490) (by decide +kernel)) rfl, xTB_in (List.mem_of_getElem? (i := 491) (by decide +kernel)) rfl, xTB_in (List.mem_of_getElem? (i := 492) (by decide +kernel)) rfl⟩
theorem k3_24 : xCV 3 24 tX3_clear := ⟨xTB_in (List.mem_of_getElem? (i := 494) (by decide +kernel)) rfl, xTB_in (List.mem_of_getElem? (i := 459) (by decide +kernel)) rfl, xTB_in (List.mem_of_getElem? (i := 460) (by decide +kernel)) rfl⟩
theorem k3_38 : xCV 3 38 tX7_has := ⟨xTB_in (List.mem_of_getElem? (i := 495) (by decide +kernel)) rfl, xTB_in (List.mem_of_getElem? (i := 439) (by decide +kernel)) rfl, xTB_in (List.mem_of_getElem? (i := 440) (by decide +kernel)) rfl⟩
theorem k3_51 : xCV 3 51 tX3_add := ⟨xTB_in (List.mem_of_getElem? (i := 496) (by decide +kernel)) rfl, xTB_in (List.mem_of_getElem? (i := 483) (by decide +kernel)) rfl, xTB_in (List.mem_of_getElem? (i := 484) (by decide +kernel)) rfl⟩
theorem k11_58 : xCV 11 58 tX9_spent := ⟨xTB_in (List.mem_of_getElem? (i := 497) (by decide +kernel)) rfl, xTB_in (List.mem_of_getElem? (i := 498) (by decide +kernel)) rfl, xTB_in (List.mem_of_getElem? (i := 499) (by decide +kernel)) rfl⟩
theorem k11_62 : xCV 11 62 tX9_plan := ⟨xTB_in (List.mem_of_getElem? (i := 501) (by decide +kernel)) rfl, xTB_in (List.mem_of_getElem? (i := 502) (by decide +kernel)) rfl, xTB_in (List.mem_of_getElem? (i := 503) (by decide +kernel)) rfl⟩
theorem k11_66 : xCV 11 66 tX9_load := ⟨xTB_in (List.mem_of_getElem? (i := 505) (by decide +kernel)) rfl, xTB_in (List.mem_of_getElem? (i := 506) (by decide +kernel)) rfl, xTB_in (List.mem_of_getElem? (i := 507) (by decide +kernel)) rfl⟩
theorem k11_70 : xCV 11 70 tX9_price := ⟨xTB_in (List.mem_of_getElem? (i := 509) (by decide +kernel)) rfl, xTB_in (List.mem_of_getElem? (i := 510) (by decide +kernel)) rfl, xTB_in (List.mem_of_getElem? (i := 511) (by decide +kernel)) rfl⟩
theorem k9_159 : xCV 9 159 tX5_mostWorthWithWider := ⟨xTB_in (List.mem_of_getElem? (i := 513) (by decide +kernel)) rfl, xTB_in (List.mem_of_getElem? (i := 514) (by decide +kernel)) rfl, xTB_in (List.mem_of_getElem? (i := 515) (by decide +kernel)) rfl⟩
theorem k11_74 : xCV 11 74 tX9_attempt := ⟨xTB_in (List.mem_of_getElem? (i := 517) (by decide +kernel)) rfl, xTB_in (List.mem_of_getElem? (i := 518) (by decide +kernel)) rfl, xTB_in (List.mem_of_getElem? (i := 519) (by decide +kernel)) rfl⟩
theorem k11_78 : xCV 11 78 tX9_attempted := ⟨xTB_in (List.mem_of_getElem? (i := 521) (by decide +kernel)) rfl, xTB_in (List.mem_of_getElem? (i := 522) (by decide +kernel)) rfl, xTB_in (List.mem_of_getElem? (i := 523) (by decide +kernel)) rfl⟩
theorem k9_163 : xCV 9 163 tX9_areTriedThere := ⟨xTB_in (List.mem_of_getElem? (i := 525) (by decide +kernel)) rfl, xTB_in (List.mem_of_getElem? (i := 527) (by decide +kernel)) rfl, xTB_in (List.mem_of_getElem? (i := 11) (by decide +kernel)) rfl⟩
theorem k9_167 : xCV 9 167 tX9_triedWorth := ⟨xTB_in (List.mem_of_getElem? (i := 529) (by decide +kernel)) rfl, xTB_in (List.mem_of_getElem? (i := 531) (by decide +kernel)) rfl, xTB_in (List.mem_of_getElem? (i := 12) (by decide +kernel)) rfl⟩
theorem k9_171 : xCV 9 171 tX9_triedCost := ⟨xTB_in (List.mem_of_getElem? (i := 533) (by decide +kernel)) rfl, xTB_in (List.mem_of_getElem? (i := 535) (by decide +kernel)) rfl, xTB_in (List.mem_of_getElem? (i := 13) (by decide +kernel)) rfl⟩
theorem k9_178 : xCV 9 178 tX3_firstAbove := ⟨xTB_in (List.mem_of_getElem? (i := 537) (by decide +kernel)) rfl, xTB_in (List.mem_of_getElem? (i := 538) (by decide +kernel)) rfl, xTB_in (List.mem_of_getElem? (i := 539) (by decide +kernel)) rfl⟩
theorem k11_82 : xCV 11 82 tX9_rate := ⟨xTB_in (List.mem_of_getElem? (i := 541) (by decide +kernel)) rfl, xTB_in (List.mem_of_getElem? (i := 542) (by decide +kernel)) rfl, xTB_in (List.mem_of_getElem? (i := 543) (by decide +kernel)) rfl⟩
theorem k9_182 : xCV 9 182 tX9_refreshRates := ⟨xTB_in (List.mem_of_getElem? (i := 545) (by decide +kernel)) rfl, xTB_in (List.mem_of_getElem? (i := 547) (by decide +kernel)) rfl, xTB_in (List.mem_of_getElem? (i := 14) (by decide +kernel)) rfl⟩
theorem k9_221 : xCV 9 221 tX0_refresh := ⟨xTB_in (List.mem_of_getElem? (i := 549) (by decide +kernel)) rfl, xTB_in (List.mem_of_getElem? (i := 550) (by decide +kernel)) rfl, xTB_in (List.mem_of_getElem? (i := 551) (by decide +kernel)) rfl⟩
theorem k0_54 : xCV 0 54 tX0_findTightest := ⟨xTB_in (List.mem_of_getElem? (i := 553) (by decide +kernel)) rfl, xTB_in (List.mem_of_getElem? (i := 555) (by decide +kernel)) rfl, xTB_in (List.mem_of_getElem? (i := 15) (by decide +kernel)) rfl⟩
theorem k0_65 : xCV 0 65 tX0_openUsers := ⟨xTB_in (List.mem_of_getElem? (i := 557) (by decide +kernel)) rfl, xTB_in (List.mem_of_getElem? (i := 559) (by decide +kernel)) rfl, xTB_in (List.mem_of_getElem? (i := 16) (by decide +kernel)) rfl⟩
theorem k0_92 : xCV 0 92 tX6_uses := ⟨xTB_in (List.mem_of_getElem? (i := 561) (by decide +kernel)) rfl, xTB_in (List.mem_of_getElem? (i := 562) (by decide +kernel)) rfl, xTB_in (List.mem_of_getElem? (i := 563) (by decide +kernel)) rfl⟩
theorem k0_69 : xCV 0 69 tX0_setShare := ⟨xTB_in (List.mem_of_getElem? (i := 565) (by decide +kernel)) rfl, xTB_in (List.mem_of_getElem? (i := 567) (by decide +kernel)) rfl, xTB_in (List.mem_of_getElem? (i := 17) (by decide +kernel)) rfl⟩
theorem k0_84 : xCV 0 84 tX2_set := ⟨xTB_in (List.mem_of_getElem? (i := 569) (by decide +kernel)) rfl, xTB_in (List.mem_of_getElem? (i := 570) (by decide +kernel)) rfl, xTB_in (List.mem_of_getElem? (i := 571) (by decide +kernel)) rfl⟩
theorem k2_13 : xCS 2 13 tX2_commonFactor := ⟨xTB_in (List.mem_of_getElem? (i := 573) (by decide +kernel)) rfl, xTB_in (List.mem_of_getElem? (i := 574) (by decide +kernel)) rfl⟩
theorem k0_101 : xCV 0 101 tX2_subtract := ⟨xTB_in (List.mem_of_getElem? (i := 576) (by decide +kernel)) rfl, xTB_in (List.mem_of_getElem? (i := 577) (by decide +kernel)) rfl, xTB_in (List.mem_of_getElem? (i := 578) (by decide +kernel)) rfl⟩
theorem k2_20 : xCV 2 20 tX2_set := ⟨xTB_in (List.mem_of_getElem? (i := 580) (by decide +kernel)) rfl, xTB_in (List.mem_of_getElem? (i := 570) (by decide +kernel)) rfl, xTB_in (List.mem_of_getElem? (i := 571) (by decide +kernel)) rfl⟩
theorem k0_73 : xCV 0 73 tX2_isLessThan := ⟨xTB_in (List.mem_of_getElem? (i := 581) (by decide +kernel)) rfl, xTB_in (List.mem_of_getElem? (i := 582) (by decide +kernel)) rfl, xTB_in (List.mem_of_getElem? (i := 583) (by decide +kernel)) rfl⟩
theorem k0_58 : xCV 0 58 tX0_closeAlong := ⟨xTB_in (List.mem_of_getElem? (i := 585) (by decide +kernel)) rfl, xTB_in (List.mem_of_getElem? (i := 587) (by decide +kernel)) rfl, xTB_in (List.mem_of_getElem? (i := 18) (by decide +kernel)) rfl⟩
theorem k11_86 : xCV 11 86 tX9_bottleneck := ⟨xTB_in (List.mem_of_getElem? (i := 589) (by decide +kernel)) rfl, xTB_in (List.mem_of_getElem? (i := 590) (by decide +kernel)) rfl, xTB_in (List.mem_of_getElem? (i := 591) (by decide +kernel)) rfl⟩
theorem k11_90 : xCV 11 90 tX9_more := ⟨xTB_in (List.mem_of_getElem? (i := 593) (by decide +kernel)) rfl, xTB_in (List.mem_of_getElem? (i := 594) (by decide +kernel)) rfl, xTB_in (List.mem_of_getElem? (i := 595) (by decide +kernel)) rfl⟩
theorem k9_207 : xCV 9 207 tX1_most := ⟨xTB_in (List.mem_of_getElem? (i := 597) (by decide +kernel)) rfl, xTB_in (List.mem_of_getElem? (i := 598) (by decide +kernel)) rfl, xTB_in (List.mem_of_getElem? (i := 599) (by decide +kernel)) rfl⟩
theorem k1_35 : xCV 1 35 tX1_reaches := ⟨xTB_in (List.mem_of_getElem? (i := 601) (by decide +kernel)) rfl, xTB_in (List.mem_of_getElem? (i := 603) (by decide +kernel)) rfl, xTB_in (List.mem_of_getElem? (i := 19) (by decide +kernel)) rfl⟩
theorem k1_43 : xCS 1 43 tX1_startOf := ⟨xTB_in (List.mem_of_getElem? (i := 605) (by decide +kernel)) rfl, xTB_in (List.mem_of_getElem? (i := 606) (by decide +kernel)) rfl⟩
theorem k1_39 : xCV 1 39 tX1_push := ⟨xTB_in (List.mem_of_getElem? (i := 608) (by decide +kernel)) rfl, xTB_in (List.mem_of_getElem? (i := 610) (by decide +kernel)) rfl, xTB_in (List.mem_of_getElem? (i := 20) (by decide +kernel)) rfl⟩
theorem k1_46 : Cond.methodLink (xnm 1) 46 Lib.Math.min.name ∈ xTB := xTB_in (List.mem_of_getElem? (i := 612) (by decide +kernel)) rfl
theorem k11_94 : xCV 11 94 tX9_cut := ⟨xTB_in (List.mem_of_getElem? (i := 613) (by decide +kernel)) rfl, xTB_in (List.mem_of_getElem? (i := 614) (by decide +kernel)) rfl, xTB_in (List.mem_of_getElem? (i := 615) (by decide +kernel)) rfl⟩
theorem k9_211 : xCV 9 211 tX4_isCut := ⟨xTB_in (List.mem_of_getElem? (i := 617) (by decide +kernel)) rfl, xTB_in (List.mem_of_getElem? (i := 618) (by decide +kernel)) rfl, xTB_in (List.mem_of_getElem? (i := 619) (by decide +kernel)) rfl⟩
theorem k4_56 : xCV 4 56 tX4_demandOutOf := ⟨xTB_in (List.mem_of_getElem? (i := 621) (by decide +kernel)) rfl, xTB_in (List.mem_of_getElem? (i := 623) (by decide +kernel)) rfl, xTB_in (List.mem_of_getElem? (i := 21) (by decide +kernel)) rfl⟩
theorem k4_60 : xCS 4 60 tX4_leadsOut := ⟨xTB_in (List.mem_of_getElem? (i := 625) (by decide +kernel)) rfl, xTB_in (List.mem_of_getElem? (i := 626) (by decide +kernel)) rfl⟩
theorem k11_98 : xCV 11 98 tX9_count := ⟨xTB_in (List.mem_of_getElem? (i := 628) (by decide +kernel)) rfl, xTB_in (List.mem_of_getElem? (i := 629) (by decide +kernel)) rfl, xTB_in (List.mem_of_getElem? (i := 630) (by decide +kernel)) rfl⟩
theorem k9_214 : xCS 9 214 tX9_sumOfFirst := ⟨xTB_in (List.mem_of_getElem? (i := 632) (by decide +kernel)) rfl, xTB_in (List.mem_of_getElem? (i := 633) (by decide +kernel)) rfl⟩
theorem k11_12 : xCI 11 12 tX10_init := ⟨xTB_in (List.mem_of_getElem? (i := 637) (by decide +kernel)) rfl, xTB_in (List.mem_of_getElem? (i := 638) (by decide +kernel)) rfl⟩
theorem k10_7 : Cond.methodLink (xnm 10) 7 objectInit ∈ xTB := xTB_in (List.mem_of_getElem? (i := 640) (by decide +kernel)) rfl
theorem k11_17 : xCV 11 17 tX10_node := ⟨xTB_in (List.mem_of_getElem? (i := 721) (by decide +kernel)) rfl, xTB_in (List.mem_of_getElem? (i := 722) (by decide +kernel)) rfl, xTB_in (List.mem_of_getElem? (i := 723) (by decide +kernel)) rfl⟩
theorem k11_22 : xCV 11 22 tX10_arc := ⟨xTB_in (List.mem_of_getElem? (i := 725) (by decide +kernel)) rfl, xTB_in (List.mem_of_getElem? (i := 726) (by decide +kernel)) rfl, xTB_in (List.mem_of_getElem? (i := 727) (by decide +kernel)) rfl⟩
theorem k10_88 : xCV 10 88 tX10_noNode := ⟨xTB_in (List.mem_of_getElem? (i := 729) (by decide +kernel)) rfl, xTB_in (List.mem_of_getElem? (i := 731) (by decide +kernel)) rfl, xTB_in (List.mem_of_getElem? (i := 22) (by decide +kernel)) rfl⟩
theorem k10_78 : xCS 10 78 tX10_in := ⟨xTB_in (List.mem_of_getElem? (i := 733) (by decide +kernel)) rfl, xTB_in (List.mem_of_getElem? (i := 734) (by decide +kernel)) rfl⟩
theorem k10_92 : xCV 10 92 tX10_layWays := ⟨xTB_in (List.mem_of_getElem? (i := 736) (by decide +kernel)) rfl, xTB_in (List.mem_of_getElem? (i := 738) (by decide +kernel)) rfl, xTB_in (List.mem_of_getElem? (i := 23) (by decide +kernel)) rfl⟩
theorem k10_101 : xCS 10 101 tX10_goOn := ⟨xTB_in (List.mem_of_getElem? (i := 740) (by decide +kernel)) rfl, xTB_in (List.mem_of_getElem? (i := 741) (by decide +kernel)) rfl⟩
theorem k10_105 : xCV 10 105 tX10_keep := ⟨xTB_in (List.mem_of_getElem? (i := 743) (by decide +kernel)) rfl, xTB_in (List.mem_of_getElem? (i := 745) (by decide +kernel)) rfl, xTB_in (List.mem_of_getElem? (i := 24) (by decide +kernel)) rfl⟩
theorem k10_109 : xCV 10 109 tX10_isAhead := ⟨xTB_in (List.mem_of_getElem? (i := 747) (by decide +kernel)) rfl, xTB_in (List.mem_of_getElem? (i := 749) (by decide +kernel)) rfl, xTB_in (List.mem_of_getElem? (i := 25) (by decide +kernel)) rfl⟩
theorem k11_27 : xCV 11 27 tX10_capacity := ⟨xTB_in (List.mem_of_getElem? (i := 751) (by decide +kernel)) rfl, xTB_in (List.mem_of_getElem? (i := 752) (by decide +kernel)) rfl, xTB_in (List.mem_of_getElem? (i := 753) (by decide +kernel)) rfl⟩
theorem k10_95 : xCV 10 95 tX10_noArc := ⟨xTB_in (List.mem_of_getElem? (i := 755) (by decide +kernel)) rfl, xTB_in (List.mem_of_getElem? (i := 757) (by decide +kernel)) rfl, xTB_in (List.mem_of_getElem? (i := 26) (by decide +kernel)) rfl⟩
theorem k11_31 : xCV 11 31 tX10_cost := ⟨xTB_in (List.mem_of_getElem? (i := 759) (by decide +kernel)) rfl, xTB_in (List.mem_of_getElem? (i := 760) (by decide +kernel)) rfl, xTB_in (List.mem_of_getElem? (i := 761) (by decide +kernel)) rfl⟩
theorem k11_35 : xCV 11 35 tX10_good := ⟨xTB_in (List.mem_of_getElem? (i := 763) (by decide +kernel)) rfl, xTB_in (List.mem_of_getElem? (i := 764) (by decide +kernel)) rfl, xTB_in (List.mem_of_getElem? (i := 765) (by decide +kernel)) rfl⟩
theorem k11_39 : xCV 11 39 tX10_demand := ⟨xTB_in (List.mem_of_getElem? (i := 767) (by decide +kernel)) rfl, xTB_in (List.mem_of_getElem? (i := 768) (by decide +kernel)) rfl, xTB_in (List.mem_of_getElem? (i := 769) (by decide +kernel)) rfl⟩
theorem k10_98 : xCV 10 98 tX10_noGood := ⟨xTB_in (List.mem_of_getElem? (i := 771) (by decide +kernel)) rfl, xTB_in (List.mem_of_getElem? (i := 773) (by decide +kernel)) rfl, xTB_in (List.mem_of_getElem? (i := 27) (by decide +kernel)) rfl⟩
theorem k11_43 : xCV 11 43 tX10_worth := ⟨xTB_in (List.mem_of_getElem? (i := 775) (by decide +kernel)) rfl, xTB_in (List.mem_of_getElem? (i := 776) (by decide +kernel)) rfl, xTB_in (List.mem_of_getElem? (i := 777) (by decide +kernel)) rfl⟩
theorem k11_48 : xCV 11 48 tX10_ways := ⟨xTB_in (List.mem_of_getElem? (i := 779) (by decide +kernel)) rfl, xTB_in (List.mem_of_getElem? (i := 780) (by decide +kernel)) rfl, xTB_in (List.mem_of_getElem? (i := 781) (by decide +kernel)) rfl⟩
theorem k11_53 : xCV 11 53 tX10_way := ⟨xTB_in (List.mem_of_getElem? (i := 783) (by decide +kernel)) rfl, xTB_in (List.mem_of_getElem? (i := 784) (by decide +kernel)) rfl, xTB_in (List.mem_of_getElem? (i := 785) (by decide +kernel)) rfl⟩
theorem k11_57 : xCV 11 57 tX10_best := ⟨xTB_in (List.mem_of_getElem? (i := 787) (by decide +kernel)) rfl, xTB_in (List.mem_of_getElem? (i := 788) (by decide +kernel)) rfl, xTB_in (List.mem_of_getElem? (i := 789) (by decide +kernel)) rfl⟩
theorem k10_129 : xCV 10 129 tX10_findBest := ⟨xTB_in (List.mem_of_getElem? (i := 791) (by decide +kernel)) rfl, xTB_in (List.mem_of_getElem? (i := 793) (by decide +kernel)) rfl, xTB_in (List.mem_of_getElem? (i := 28) (by decide +kernel)) rfl⟩
theorem k10_125 : xCS 10 125 tX10_plans := ⟨xTB_in (List.mem_of_getElem? (i := 795) (by decide +kernel)) rfl, xTB_in (List.mem_of_getElem? (i := 796) (by decide +kernel)) rfl⟩
theorem k10_118 : xCV 10 118 tX10_fits := ⟨xTB_in (List.mem_of_getElem? (i := 798) (by decide +kernel)) rfl, xTB_in (List.mem_of_getElem? (i := 800) (by decide +kernel)) rfl, xTB_in (List.mem_of_getElem? (i := 29) (by decide +kernel)) rfl⟩
theorem k10_122 : xCV 10 122 tX10_load := ⟨xTB_in (List.mem_of_getElem? (i := 802) (by decide +kernel)) rfl, xTB_in (List.mem_of_getElem? (i := 804) (by decide +kernel)) rfl, xTB_in (List.mem_of_getElem? (i := 30) (by decide +kernel)) rfl⟩
theorem k11_61 : xCV 11 61 tX10_spent := ⟨xTB_in (List.mem_of_getElem? (i := 806) (by decide +kernel)) rfl, xTB_in (List.mem_of_getElem? (i := 807) (by decide +kernel)) rfl, xTB_in (List.mem_of_getElem? (i := 808) (by decide +kernel)) rfl⟩
theorem k11_65 : xCV 11 65 tX10_plan := ⟨xTB_in (List.mem_of_getElem? (i := 810) (by decide +kernel)) rfl, xTB_in (List.mem_of_getElem? (i := 811) (by decide +kernel)) rfl, xTB_in (List.mem_of_getElem? (i := 812) (by decide +kernel)) rfl⟩
theorem k11_69 : xCV 11 69 tX10_load_ := ⟨xTB_in (List.mem_of_getElem? (i := 814) (by decide +kernel)) rfl, xTB_in (List.mem_of_getElem? (i := 815) (by decide +kernel)) rfl, xTB_in (List.mem_of_getElem? (i := 816) (by decide +kernel)) rfl⟩
theorem k10_135 : xCV 10 135 tX10_loadOf := ⟨xTB_in (List.mem_of_getElem? (i := 818) (by decide +kernel)) rfl, xTB_in (List.mem_of_getElem? (i := 820) (by decide +kernel)) rfl, xTB_in (List.mem_of_getElem? (i := 31) (by decide +kernel)) rfl⟩
theorem k10_132 : xCV 10 132 tX10_hasArc := ⟨xTB_in (List.mem_of_getElem? (i := 822) (by decide +kernel)) rfl, xTB_in (List.mem_of_getElem? (i := 824) (by decide +kernel)) rfl, xTB_in (List.mem_of_getElem? (i := 32) (by decide +kernel)) rfl⟩
theorem k11_73 : xCV 11 73 tX10_price := ⟨xTB_in (List.mem_of_getElem? (i := 826) (by decide +kernel)) rfl, xTB_in (List.mem_of_getElem? (i := 827) (by decide +kernel)) rfl, xTB_in (List.mem_of_getElem? (i := 828) (by decide +kernel)) rfl⟩
theorem k11_77 : xCV 11 77 tX10_attempt := ⟨xTB_in (List.mem_of_getElem? (i := 830) (by decide +kernel)) rfl, xTB_in (List.mem_of_getElem? (i := 831) (by decide +kernel)) rfl, xTB_in (List.mem_of_getElem? (i := 832) (by decide +kernel)) rfl⟩
theorem k11_81 : xCV 11 81 tX10_attempted := ⟨xTB_in (List.mem_of_getElem? (i := 834) (by decide +kernel)) rfl, xTB_in (List.mem_of_getElem? (i := 835) (by decide +kernel)) rfl, xTB_in (List.mem_of_getElem? (i := 836) (by decide +kernel)) rfl⟩
theorem k11_85 : xCV 11 85 tX10_rate := ⟨xTB_in (List.mem_of_getElem? (i := 838) (by decide +kernel)) rfl, xTB_in (List.mem_of_getElem? (i := 839) (by decide +kernel)) rfl, xTB_in (List.mem_of_getElem? (i := 840) (by decide +kernel)) rfl⟩
theorem k10_143 : xCV 10 143 tX10_findRates := ⟨xTB_in (List.mem_of_getElem? (i := 842) (by decide +kernel)) rfl, xTB_in (List.mem_of_getElem? (i := 844) (by decide +kernel)) rfl, xTB_in (List.mem_of_getElem? (i := 33) (by decide +kernel)) rfl⟩
theorem k10_139 : xCS 10 139 tX10_common := ⟨xTB_in (List.mem_of_getElem? (i := 846) (by decide +kernel)) rfl, xTB_in (List.mem_of_getElem? (i := 847) (by decide +kernel)) rfl⟩
theorem k11_89 : xCV 11 89 tX10_bottleneck := ⟨xTB_in (List.mem_of_getElem? (i := 849) (by decide +kernel)) rfl, xTB_in (List.mem_of_getElem? (i := 850) (by decide +kernel)) rfl, xTB_in (List.mem_of_getElem? (i := 851) (by decide +kernel)) rfl⟩
theorem k11_93 : xCV 11 93 tX10_more := ⟨xTB_in (List.mem_of_getElem? (i := 853) (by decide +kernel)) rfl, xTB_in (List.mem_of_getElem? (i := 854) (by decide +kernel)) rfl, xTB_in (List.mem_of_getElem? (i := 855) (by decide +kernel)) rfl⟩
theorem k10_146 : xCS 10 146 tX10_has := ⟨xTB_in (List.mem_of_getElem? (i := 857) (by decide +kernel)) rfl, xTB_in (List.mem_of_getElem? (i := 858) (by decide +kernel)) rfl⟩
theorem k11_97 : xCV 11 97 tX10_cut := ⟨xTB_in (List.mem_of_getElem? (i := 860) (by decide +kernel)) rfl, xTB_in (List.mem_of_getElem? (i := 861) (by decide +kernel)) rfl, xTB_in (List.mem_of_getElem? (i := 862) (by decide +kernel)) rfl⟩
theorem k11_101 : xCV 11 101 tX10_count := ⟨xTB_in (List.mem_of_getElem? (i := 864) (by decide +kernel)) rfl, xTB_in (List.mem_of_getElem? (i := 865) (by decide +kernel)) rfl, xTB_in (List.mem_of_getElem? (i := 866) (by decide +kernel)) rfl⟩
theorem k9_11 : xCN 9 11 tX4_init "ManyGoods" := List.mem_of_getElem? (i := 0) rfl
theorem k7_17 : xCN 7 17 tX6_init "ManyGoods" := List.mem_of_getElem? (i := 1) rfl
theorem k9_25 : xCN 9 25 tX5_init "ManyGoods" := List.mem_of_getElem? (i := 2) rfl
theorem k5_26 : xCN 5 26 tX3_init "ManyGoods" := List.mem_of_getElem? (i := 3) rfl
theorem k9_35 : xCN 9 35 tX3_init "ManyGoods" := List.mem_of_getElem? (i := 4) rfl
theorem k0_25 : xCN 0 25 tX2_init "ManyGoods" := List.mem_of_getElem? (i := 5) rfl
theorem k9_56 : xCN 9 56 tX1_init "ManyGoods" := List.mem_of_getElem? (i := 6) rfl
theorem k4_40 : xCN 4 40 tX9_isWithin "ManyGoods" := List.mem_of_getElem? (i := 7) rfl
theorem nX9_isWithin : Cond.static tX9_isWithin.2.1 ∈ xTB := xTB_in (List.mem_of_getElem? (i := 356) (by decide +kernel)) rfl
theorem nX1_init : Cond.instanceMethod tX1_init.2.1 ∈ xTB := xTB_in (List.mem_of_getElem? (i := 299) (by decide +kernel)) rfl
theorem nX2_init : Cond.instanceMethod tX2_init.2.1 ∈ xTB := xTB_in (List.mem_of_getElem? (i := 260) (by decide +kernel)) rfl
theorem nX3_init : Cond.instanceMethod tX3_init.2.1 ∈ xTB := xTB_in (List.mem_of_getElem? (i := 214) (by decide +kernel)) rfl
theorem nX4_init : Cond.instanceMethod tX4_init.2.1 ∈ xTB := xTB_in (List.mem_of_getElem? (i := 58) (by decide +kernel)) rfl
theorem nX5_init : Cond.instanceMethod tX5_init.2.1 ∈ xTB := xTB_in (List.mem_of_getElem? (i := 208) (by decide +kernel)) rfl
theorem nX6_init : Cond.instanceMethod tX6_init.2.1 ∈ xTB := xTB_in (List.mem_of_getElem? (i := 153) (by decide +kernel)) rfl
theorem xob1 : Cond.instanceMethod objectInit ∈ xTB := xTB_in (List.mem_of_getElem? (i := 53) (by decide +kernel)) rfl
set_option maxRecDepth 20000 in
theorem xob2 : Cond.code objectInit ⟨#[0xb1]⟩ 1 none ∈ xTB := xTB_in (List.mem_of_getElem? (i := 54) (by rfl)) rfl
