/-! THE LAW'S CALLS: one of the class, the same of the reference -/
theorem fS_ext {P P' : Nat → Bool} : ∀ (j i : Nat), (∀ k, i ≤ k → k < i + j → P k = P' k) → fS P j i = fS P' j i
  | 0, i, _ => rfl
  | j + 1, i, h => by
    show (if P i = true then (i : Int) else fS P j (i + 1)) = (if P' i = true then (i : Int) else fS P' j (i + 1))
    rw [h i (by omega) (by omega), fS_ext j (i + 1) (fun k a b => h k (by omega) (by omega))]
theorem spAtt_congr {S : St} {f f' : Nat → Int} (h : ∀ g, g < S.ng → f g = f' g) {v : Int} : spAtt S f v = spAtt S f' v := by
  have e1 : fS (attB S f) S.ng 0 = fS (attB S f') S.ng 0 := fS_ext _ _ (fun k _ b => by unfold attB; rw [h k (by omega)])
  have e2 : sm (attW S f) S.ng = sm (attW S f') S.ng := sm_ext _ (fun k hk => by unfold attW; rw [h k hk])
  have e3 : sm (attC S f) S.ng = sm (attC S f') S.ng := sm_ext _ (fun k hk => by unfold attC wof; rw [h k hk])
  have e4 : overB S f = overB S f' := by funext i; unfold overB; rw [lds_congr _ h]
  unfold spAtt
  rw [e1, e2, e3, e4]
theorem good_fm {S : St} {fA fM : Nat → Int} (hfm : ∀ g, g < S.ng → fM g = fA g) (hfz : ∀ g, S.ng ≤ g → g < 6 → fA g = -1) (h : S.ng < 6) : ∀ g, g < S.ng + 1 → fu fM S.ng (-1) g = fA g := by
  intro g hg
  by_cases e : g = S.ng
  · subst e; rw [fu_s, hfz _ (Nat.le_refl _) h]
  · rw [fu_n _ _ e]; exact hfm g (by omega)
section OPS
variable {l : Launch} {ws : xW} {t : Nat} {S : St} {ver wv : Int}
def LI (ws : xW) (t : Nat) : Prop := ∃ (S : St) (ver wv : Int) (fA fM : Nat → Int), WF S ∧ PC ws S ver wv ∧ KC ws S ver fA ∧ KM ws S fM ∧ okA fA ∧ (∀ g, g < S.ng → fM g = fA g) ∧ (∀ g, S.ng ≤ g → g < 6 → fA g = -1) ∧ ver ≤ t ∧ wv ≤ t
def OP (l : Launch) (y1 y2 : xT) (As : List Value) (ws : xW) (t : Nat) : Prop := xM l y1 30 0 0 (.ref 0 :: As) 142 ws (fun r n' ws' => n' = 142 ∧ ∃ v : Int32, r = some (.int v) ∧ (∃ q, ws' 121 = some (10, .inr (.inr (.inr q)))) ∧ xM l y2 30 0 0 (.ref 121 :: As) 142 ws' (fun r' n'' ws'' => n'' = 142 ∧ r' = some (.int v) ∧ LI ws'' (t + 1)))
theorem KM.keep {ws ws' : xW} {fM : Nat → Int} (h : KM ws S fM) (hq : ∀ q, 121 ≤ q → ws' q = ws q) : KM ws' S fM := by
  obtain ⟨⟨bw, bs, hM, hI, ⟨fc, fk, fl, s1, s2, s3⟩⟩, hR, h3⟩ := h
  exact ⟨⟨bw, bs, hM.keep (fun q a b => hq q (by omega)), hI.keep (fun q a b => hq q (by omega)), ⟨fc, fk, fl, (hq _ (by omega)).trans s1, (hq _ (by omega)).trans s2, (hq _ (by omega)).trans s3⟩⟩, hR.keep (fun q a b => hq q (by omega)), (hq _ (by omega)).trans h3⟩
theorem KM.obj {fM : Nat → Int} (h : KM ws S fM) : ∃ q, ws 121 = some (10, .inr (.inr (.inr q))) := by
  obtain ⟨⟨bw, bs, hM, -⟩, -⟩ := h
  exact ⟨_, hM.1⟩
theorem PrInv.kp {ws ws' : xW} (h : PrInv ws) (hq : ∀ q, 93 ≤ q → q < 100 → ws' q = ws q) : PrInv ws' := by
  obtain ⟨w, c, fk, fc, lim, fh, ld, h1, h2⟩ := h
  exact ⟨w, c, fk, fc, lim, fh, ld, h1.kp (fun q a b => hq q (by omega) (by omega)), h2⟩
theorem RC.kp {ws ws' : xW} (hw : WF S) (h : RC ws S ver) (hq : ∀ q, 105 ≤ q → q < 117 → ws' q = ws q) : RC ws' S ver := RC.keep hw h hq
theorem KC.keep {ws ws' : xW} {fA : Nat → Int} (hw : WF S) (h : KC ws S ver fA) (hq : ∀ q, 93 ≤ q → q ≠ 100 → q ≠ 101 → q < 121 → ws' q = ws q) : KC ws' S ver fA := by
  obtain ⟨h1, h2, ⟨f, h3⟩, h4, h5⟩ := h
  exact ⟨h1.kp (fun q a b => hq q (by omega) (by omega) (by omega) (by omega)), (hq _ (by omega) (by omega) (by omega) (by omega)).trans h2, ⟨f, h3.kp (fun q a b => hq q (by omega) (by omega) (by omega) (by omega))⟩, h4.kp hw (fun q a b => hq q (by omega) (by omega) (by omega) (by omega)), h5.keep (fun q a b => hq q (by omega) (by omega) (by omega) (by omega))⟩
/-- behind both calls, nothing told -/
theorem LI.fin {u u' : xW} {fA fM : Nat → Int} (hw : WF S) (hC : PC u S ver wv) (hK : KC u S ver fA) (hM : KM u' S fM) (hq : ∀ q, q < 121 → u' q = u q) (hok : okA fA) (hfm : ∀ g, g < S.ng → fM g = fA g) (hfz : ∀ g, S.ng ≤ g → g < 6 → fA g = -1) (hv : ver ≤ (t : Int) + 1) (hwv : wv ≤ (t : Int) + 1) : LI u' (t + 1) :=
  ⟨S, ver, wv, fA, fM, hw, hC.keep (fun q hh => hq q (by omega)), hK.keep hw (fun q _ _ _ b => hq q b), hM, hok, hfm, hfz, by omega, by omega⟩
theorem PC.chg {ws ws' : xW} {S' : St} {wv' : Int} (h : PC ws S ver wv) (hN : NetAt ws' S' (ver + 1) wv') (hq : ∀ q, 10 ≤ q ∨ q = 0 → ws' q = ws q) (hv : wv' = wv + 1 ∨ (wv' = wv ∧ S'.ng = S.ng ∧ ∀ g, WS S' g = WS S g)) (hb : ver + 1 < 100000) (hb2 : wv' < 100000) : PC ws' S' (ver + 1) wv' := by
  obtain ⟨pv, tv, hO, hN0, hT, hP, x1, x2, x3, x4, x5, x6, x7, x8, x9⟩ := h
  obtain ⟨t1, t2, t3, t4, t5⟩ := hT.keep (ws' := ws') (fun q a b => hq q (by omega))
  obtain ⟨w, c, fk, fc, lim, fh, ld, lo, p1, p2, p3, -⟩ := hP.keep (ws' := ws') (fun q a b => hq q (by omega))
  refine ⟨pv, tv, (hq 0 (by omega)).trans hO, hN, ⟨t1, t2, fun e g hg h6 => ?_, t4, t5⟩, ⟨w, c, fk, fc, lim, fh, ld, lo, p1, p2, p3, fun h => absurd h (by omega)⟩, fun h => absurd h (by omega), x2, by omega, hb, x5, by omega, hb2, by omega, by omega⟩
  rcases hv with hv | ⟨hv1, hv2, hv3⟩
  · exact absurd e (by omega)
  · rw [hv3]
    exact t3 (by omega) g (by omega) h6
theorem KC.chg {ws ws' : xW} {S' : St} {fA : Nat → Int} (h : KC ws S ver fA) (hq : ∀ q, 10 ≤ q → ws' q = ws q) : KC ws' S' (ver + 1) fA := by
  obtain ⟨h1, h2, ⟨f, h3⟩, ⟨rv, ⟨⟨fb, fo, h4⟩, -⟩, h5, h6⟩, h7⟩ := h
  exact ⟨h1.kp (fun q a b => hq q (by omega)), (hq _ (by omega)).trans h2, ⟨f, h3.kp (fun q a b => hq q (by omega))⟩, ⟨rv, ⟨⟨fb, fo, h4.kp (fun q a b => hq q (by omega))⟩, fun e => absurd e (by omega)⟩, h5, by omega⟩, h7.keep (fun q a b => hq q (by omega))⟩
theorem MInv.cg {S' : St} (h : MInv ws S) (h1 : S'.ng = S.ng) (h2 : ∀ g, WS S' g = WS S g) : MInv ws S' := by
  obtain ⟨F, h3, h4⟩ := h
  refine ⟨F, h3, fun g hg => ?_⟩
  rw [h2]
  exact h4 g (by omega)
/-- the reference behind a change -/
theorem KM.chg {ws ws' : xW} {S' : St} {bw bs : Int} {fM fM' : Nat → Int} (h : KM ws S fM) (hM : ModAt ws' S' bw bs) (hI : MInv ws' S') (hA : ws' 130 = some (0, .inl (ra 6 fM'))) (hq : ∀ q, 136 ≤ q → ws' q = ws q) : KM ws' S' fM' := by
  obtain ⟨⟨_, _, -, -, ⟨fc, fk, fl, s1, s2, s3⟩⟩, hR, -⟩ := h
  exact ⟨⟨bw, bs, hM, hI, ⟨fc, fk, fl, (hq _ (by omega)).trans s1, (hq _ (by omega)).trans s2, (hq _ (by omega)).trans s3⟩⟩, hR.keep (fun q a b => hq q (by omega)), hA⟩
theorem op_best (h : LI ws t) (ht : t < 1000) : OP l tX9_best tX10_best [] ws t := by
  obtain ⟨S, ver, wv, fA, fM, hw, hC, hK, hM, hok, hfm, hfz, hv, hwv⟩ := h
  refine xM.mono (w_best hC hw (by omega)) (fun r n1 u hu => ?_)
  obtain ⟨rfl, rfl, hC1, hq1⟩ := hu
  have hM1 := hM.keep (ws' := u) (fun q hh => hq1 q (by omega) (by omega))
  refine ⟨rfl, _, rfl, hM1.obj, ?_⟩
  refine xM.mono (v_best hM1.1 hw (by omega)) (fun r2 n2 u2 hu2 => ?_)
  obtain ⟨rfl, rfl, hC2, hq2⟩ := hu2
  exact ⟨rfl, rfl, LI.fin hw hC1 (hK.keep hw (fun q a b c d => hq1 q a c)) (⟨hC2, hM1.2.1.keep (fun q a b => hq2 q (by omega) (by omega) (by omega) (by omega)), (hq2 _ (by omega) (by omega) (by omega) (by omega)).trans hM1.2.2⟩) (fun q hh => hq2 q (by omega) (by omega) (by omega) (by omega)) hok hfm hfz (by omega) (by omega)⟩
theorem op_spent (h : LI ws t) (ht : t < 1000) : OP l tX9_spent tX10_spent [] ws t := by
  obtain ⟨S, ver, wv, fA, fM, hw, hC, hK, hM, hok, hfm, hfz, hv, hwv⟩ := h
  refine xM.mono (w_spent hC hw (by omega)) (fun r n1 u hu => ?_)
  obtain ⟨rfl, rfl, hC1, hq1⟩ := hu
  have hM1 := hM.keep (ws' := u) (fun q hh => hq1 q (by omega) (by omega))
  refine ⟨rfl, _, rfl, hM1.obj, ?_⟩
  refine xM.mono (v_spent hM1.1 hw (by omega)) (fun r2 n2 u2 hu2 => ?_)
  obtain ⟨rfl, rfl, hC2, hq2⟩ := hu2
  exact ⟨rfl, rfl, LI.fin hw hC1 (hK.keep hw (fun q a b c d => hq1 q a c)) (⟨hC2, hM1.2.1.keep (fun q a b => hq2 q (by omega) (by omega) (by omega) (by omega)), (hq2 _ (by omega) (by omega) (by omega) (by omega)).trans hM1.2.2⟩) (fun q hh => hq2 q (by omega) (by omega) (by omega) (by omega)) hok hfm hfz (by omega) (by omega)⟩
theorem op_plan (h : LI ws t) (ht : t < 1000) {a : Int} (a1 : -2147483648 ≤ a) (a2 : a < 2147483648) : OP l tX9_plan tX10_plan [.int (I a)] ws t := by
  obtain ⟨S, ver, wv, fA, fM, hw, hC, hK, hM, hok, hfm, hfz, hv, hwv⟩ := h
  refine xM.mono (w_plan hC hw (by omega) a1 a2) (fun r n1 u hu => ?_)
  obtain ⟨rfl, rfl, hC1, hq1⟩ := hu
  have hM1 := hM.keep (ws' := u) (fun q hh => hq1 q (by omega) (by omega))
  refine ⟨rfl, _, rfl, hM1.obj, ?_⟩
  refine xM.mono (v_plan hM1.1 hw (by omega) a1 a2) (fun r2 n2 u2 hu2 => ?_)
  obtain ⟨rfl, rfl, hC2, hq2⟩ := hu2
  exact ⟨rfl, rfl, LI.fin hw hC1 (hK.keep hw (fun q a b c d => hq1 q a c)) (⟨hC2, hM1.2.1.keep (fun q a b => hq2 q (by omega) (by omega) (by omega) (by omega)), (hq2 _ (by omega) (by omega) (by omega) (by omega)).trans hM1.2.2⟩) (fun q hh => hq2 q (by omega) (by omega) (by omega) (by omega)) hok hfm hfz (by omega) (by omega)⟩
theorem op_load (h : LI ws t) (ht : t < 1000) {a : Int} (a1 : -2147483648 ≤ a) (a2 : a < 2147483648) : OP l tX9_load tX10_load_ [.int (I a)] ws t := by
  obtain ⟨S, ver, wv, fA, fM, hw, hC, hK, hM, hok, hfm, hfz, hv, hwv⟩ := h
  refine xM.mono (w_load hC hw (by omega) a1 a2) (fun r n1 u hu => ?_)
  obtain ⟨rfl, rfl, hC1, hq1⟩ := hu
  have hM1 := hM.keep (ws' := u) (fun q hh => hq1 q (by omega) (by omega))
  refine ⟨rfl, _, rfl, hM1.obj, ?_⟩
  refine xM.mono (v_load hM1.1 hw (by omega) a1 a2) (fun r2 n2 u2 hu2 => ?_)
  obtain ⟨rfl, rfl, hC2, hq2⟩ := hu2
  exact ⟨rfl, rfl, LI.fin hw hC1 (hK.keep hw (fun q a b c d => hq1 q a c)) (⟨hC2, hM1.2.1.keep (fun q a b => hq2 q (by omega) (by omega) (by omega) (by omega)), (hq2 _ (by omega) (by omega) (by omega) (by omega)).trans hM1.2.2⟩) (fun q hh => hq2 q (by omega) (by omega) (by omega) (by omega)) hok hfm hfz (by omega) (by omega)⟩
theorem op_ways (h : LI ws t) (ht : t < 1000) {a : Int} (a1 : -2147483648 ≤ a) (a2 : a < 2147483648) : OP l tX9_ways tX10_ways [.int (I a)] ws t := by
  obtain ⟨S, ver, wv, fA, fM, hw, hC, hK, hM, hok, hfm, hfz, hv, hwv⟩ := h
  refine xM.mono (w_waysC hC hw (by omega) a1 a2) (fun r n1 u hu => ?_)
  obtain ⟨rfl, rfl, hC1, hq1⟩ := hu
  have hM1 := hM.keep (ws' := u) (fun q hh => hq1 q (by omega))
  refine ⟨rfl, _, rfl, hM1.obj, ?_⟩
  obtain ⟨bw, bs, m1, m2, m3⟩ := hM1.1
  refine xM.mono (v_ways m1 hw m2 (by omega) a1 a2) (fun r2 n2 u2 hu2 => ?_)
  obtain ⟨rfl, rfl, rfl⟩ := hu2
  exact ⟨rfl, rfl, LI.fin hw hC1 (hK.keep hw (fun q a b c d => hq1 q (by omega))) hM1 (fun q hh => rfl) hok hfm hfz (by omega) (by omega)⟩
theorem op_way (h : LI ws t) (ht : t < 1000) {a b c : Int} (a1 : -2147483648 ≤ a) (a2 : a < 2147483648) (b1 : -2147483648 ≤ b) (b2 : b < 2147483648) (c1 : -2147483648 ≤ c) (c2 : c < 2147483648) : OP l tX9_way tX10_way [.int (I a), .int (I b), .int (I c)] ws t := by
  obtain ⟨S, ver, wv, fA, fM, hw, hC, hK, hM, hok, hfm, hfz, hv, hwv⟩ := h
  refine xM.mono (w_wayC hC hw (by omega) a1 a2 b1 b2 c1 c2) (fun r n1 u hu => ?_)
  obtain ⟨rfl, rfl, hC1, hq1⟩ := hu
  have hM1 := hM.keep (ws' := u) (fun q hh => hq1 q (by omega))
  refine ⟨rfl, _, rfl, hM1.obj, ?_⟩
  obtain ⟨bw, bs, m1, m2, m3⟩ := hM1.1
  refine xM.mono (v_way m1 hw m2 (by omega) a1 a2 b1 b2 c1 c2) (fun r2 n2 u2 hu2 => ?_)
  obtain ⟨rfl, rfl, rfl⟩ := hu2
  exact ⟨rfl, rfl, LI.fin hw hC1 (hK.keep hw (fun q a b c d => hq1 q (by omega))) hM1 (fun q hh => rfl) hok hfm hfz (by omega) (by omega)⟩
theorem op_price (h : LI ws t) (ht : t < 1000) {a b : Int} (a1 : -2147483648 ≤ a) (a2 : a < 2147483648) (b1 : -2147483648 ≤ b) (b2 : b < 2147483648) : OP l tX9_price tX10_price [.int (I a), .int (I b)] ws t := by
  obtain ⟨S, ver, wv, fA, fM, hw, hC, hK, hM, hok, hfm, hfz, hv, hwv⟩ := h
  refine xM.mono (w_price hC hK.1 hw (by omega) a1 a2 b1 b2) (fun r n1 u hu => ?_)
  obtain ⟨rfl, rfl, hC1, hP1, hq1⟩ := hu
  have hM1 := hM.keep (ws' := u) (fun q hh => hq1 q (by omega) (by omega))
  refine ⟨rfl, _, rfl, hM1.obj, ?_⟩
  obtain ⟨-, k2, ⟨f, k3⟩, k4, k5⟩ := hK
  have hK1 : KC u S ver fA := ⟨hP1, (hq1 _ (by omega) (by omega)).trans k2, ⟨f, k3.kp (fun q a b => hq1 q (by omega) (by omega))⟩, k4.kp hw (fun q a b => hq1 q (by omega) (by omega)), k5.keep (fun q a b => hq1 q (by omega) (by omega))⟩
  refine xM.mono (v_price hM1.1 hw (by omega) a1 a2 b1 b2) (fun r2 n2 u2 hu2 => ?_)
  obtain ⟨rfl, rfl, hC2, hq2⟩ := hu2
  exact ⟨rfl, rfl, LI.fin hw hC1 hK1 ⟨hC2, hM1.2.1.keep (fun q a b => hq2 q (by omega) (by omega) (by omega) (by omega) (by omega)), (hq2 _ (by omega) (by omega) (by omega) (by omega) (by omega)).trans hM1.2.2⟩ (fun q hh => hq2 q (by omega) (by omega) (by omega) (by omega) (by omega)) hok hfm hfz (by omega) (by omega)⟩
theorem op_rate (h : LI ws t) (ht : t < 1000) {a b : Int} (a1 : -2147483648 ≤ a) (a2 : a < 2147483648) (b1 : -2147483648 ≤ b) (b2 : b < 2147483648) : OP l tX9_rate tX10_rate [.int (I a), .int (I b)] ws t := by
  obtain ⟨S, ver, wv, fA, fM, hw, hC, hK, hM, hok, hfm, hfz, hv, hwv⟩ := h
  have hv0 : 0 ≤ ver := by
    obtain ⟨pv, tv, -, -, -, -, x1, x2, x3, x4, x5, x6, x7, x8, x9⟩ := id hC
    exact x8
  refine xM.mono (w_rate hC hK.2.2.2.1 hw hv0 (by omega) a1 a2 b1 b2) (fun r n1 u hu => ?_)
  obtain ⟨rfl, rfl, hC1, hR1, hq1⟩ := hu
  have hM1 := hM.keep (ws' := u) (fun q hh => hq1 q (by omega) (by omega))
  refine ⟨rfl, _, rfl, hM1.obj, ?_⟩
  obtain ⟨k1, k2, ⟨f, k3⟩, -, k5⟩ := hK
  have hK1 : KC u S ver fA := ⟨k1.kp (fun q a b => hq1 q (by omega) (by omega)), (hq1 _ (by omega) (by omega)).trans k2, ⟨f, k3.kp (fun q a b => hq1 q (by omega) (by omega))⟩, hR1, k5.keep (fun q a b => hq1 q (by omega) (by omega))⟩
  refine xM.mono (v_rate hM1.1 hM1.2.1 hw (by omega) a1 a2 b1 b2) (fun r2 n2 u2 hu2 => ?_)
  obtain ⟨rfl, rfl, hC2, hR2, hq2⟩ := hu2
  exact ⟨rfl, rfl, LI.fin hw hC1 hK1 ⟨hC2, hR2, (hq2 _ (by omega) (by omega) (by omega)).trans hM1.2.2⟩ (fun q hh => hq2 q (by omega) (by omega) (by omega)) hok hfm hfz (by omega) (by omega)⟩
theorem op_bottleneck (h : LI ws t) (ht : t < 1000) {a : Int} (a1 : -2147483648 ≤ a) (a2 : a < 2147483648) : OP l tX9_bottleneck tX10_bottleneck [.int (I a)] ws t := by
  obtain ⟨S, ver, wv, fA, fM, hw, hC, hK, hM, hok, hfm, hfz, hv, hwv⟩ := h
  have hv0 : 0 ≤ ver := by
    obtain ⟨pv, tv, -, -, -, -, x1, x2, x3, x4, x5, x6, x7, x8, x9⟩ := id hC
    exact x8
  refine xM.mono (w_bottleneck hC hK.2.2.2.1 hw hv0 (by omega) a1 a2) (fun r n1 u hu => ?_)
  obtain ⟨rfl, rfl, hC1, hR1, hq1⟩ := hu
  have hM1 := hM.keep (ws' := u) (fun q hh => hq1 q (by omega) (by omega))
  refine ⟨rfl, _, rfl, hM1.obj, ?_⟩
  obtain ⟨k1, k2, ⟨f, k3⟩, -, k5⟩ := hK
  have hK1 : KC u S ver fA := ⟨k1.kp (fun q a b => hq1 q (by omega) (by omega)), (hq1 _ (by omega) (by omega)).trans k2, ⟨f, k3.kp (fun q a b => hq1 q (by omega) (by omega))⟩, hR1, k5.keep (fun q a b => hq1 q (by omega) (by omega))⟩
  refine xM.mono (v_bottleneck hM1.1 hM1.2.1 hw (by omega) a1 a2) (fun r2 n2 u2 hu2 => ?_)
  obtain ⟨rfl, rfl, hC2, hR2, hq2⟩ := hu2
  exact ⟨rfl, rfl, LI.fin hw hC1 hK1 ⟨hC2, hR2, (hq2 _ (by omega) (by omega) (by omega)).trans hM1.2.2⟩ (fun q hh => hq2 q (by omega) (by omega) (by omega)) hok hfm hfz (by omega) (by omega)⟩
theorem op_more (h : LI ws t) (ht : t < 1000) {a : Int} (a1 : -2147483648 ≤ a) (a2 : a < 2147483648) : OP l tX9_more tX10_more [.int (I a)] ws t := by
  obtain ⟨S, ver, wv, fA, fM, hw, hC, hK, hM, hok, hfm, hfz, hv, hwv⟩ := h
  refine xM.mono (w_more hC hK.2.2.2.2 hw (by omega) a1 a2) (fun r n1 u hu => ?_)
  obtain ⟨rfl, rfl, hC1, hX1, hq1⟩ := hu
  have hM1 := hM.keep (ws' := u) (fun q hh => hq1 q (by omega) (by omega) (by omega))
  refine ⟨rfl, _, rfl, hM1.obj, ?_⟩
  obtain ⟨k1, k2, ⟨f, k3⟩, k4, -⟩ := hK
  have hK1 : KC u S ver fA := ⟨k1.kp (fun q a b => hq1 q (by omega) (by omega) (by omega)), (hq1 _ (by omega) (by omega) (by omega)).trans k2, ⟨f, k3.kp (fun q a b => hq1 q (by omega) (by omega) (by omega))⟩, k4.kp hw (fun q a b => hq1 q (by omega) (by omega) (by omega)), hX1⟩
  refine xM.mono (v_more hM1.1 hw (by omega) a1 a2) (fun r2 n2 u2 hu2 => ?_)
  obtain ⟨rfl, rfl, hC2, hq2⟩ := hu2
  exact ⟨rfl, rfl, LI.fin hw hC1 hK1 (⟨hC2, hM1.2.1.keep (fun q a b => hq2 q (by omega) (by omega) (by omega) (by omega)), (hq2 _ (by omega) (by omega) (by omega) (by omega)).trans hM1.2.2⟩) (fun q hh => hq2 q (by omega) (by omega) (by omega) (by omega)) hok hfm hfz (by omega) (by omega)⟩
theorem op_attempted (h : LI ws t) (ht : t < 1000) {a : Int} (a1 : -2147483648 ≤ a) (a2 : a < 2147483648) : OP l tX9_attempted tX10_attempted [.int (I a)] ws t := by
  obtain ⟨S, ver, wv, fA, fM, hw, hC, hK, hM, hok, hfm, hfz, hv, hwv⟩ := h
  obtain ⟨k1, k2, ⟨f, k3⟩, k4, k5⟩ := hK
  refine xM.mono (w_attempted hC hw k2 k3 hok (by omega) a1 a2) (fun r n1 u hu => ?_)
  obtain ⟨rfl, rfl, hC1, hL1, hq1⟩ := hu
  have hM1 := hM.keep (ws' := u) (fun q hh => hq1 q (by omega) (by omega))
  refine ⟨rfl, _, rfl, hM1.obj, ?_⟩
  have hb : S.ng ≤ 6 := hw.2.2.1
  have hK1 : KC u S ver fA := ⟨k1.kp (fun q a b => hq1 q (by omega) (by omega)), (hq1 _ (by omega) (by omega)).trans k2, hL1, k4.kp hw (fun q a b => hq1 q (by omega) (by omega)), k5.keep (fun q a b => hq1 q (by omega) (by omega))⟩
  refine xM.mono (v_attempted hM1.1 hw hM1.2.2 (fun g hg => by rw [hfm g hg]; exact hok g (by omega)) (by omega) a1 a2) (fun r2 n2 u2 hu2 => ?_)
  obtain ⟨rfl, rfl, rfl⟩ := hu2
  exact ⟨rfl, by rw [spAtt_congr hfm], LI.fin hw hC1 hK1 hM1 (fun q hh => rfl) hok hfm hfz (by omega) (by omega)⟩
theorem op_cut (h : LI ws t) (ht : t < 1000) : OP l tX9_cut tX10_cut [] ws t := by
  obtain ⟨S, ver, wv, fA, fM, hw, hC, hK, hM, hok, hfm, hfz, hv, hwv⟩ := h
  obtain ⟨pv, tv, hO, hN, -⟩ := id hC
  refine xM.mono (w_cut hO hN hw (by omega)) (fun r n1 u hu => ?_)
  obtain ⟨rfl, rfl, rfl⟩ := hu
  refine ⟨rfl, _, rfl, hM.obj, ?_⟩
  obtain ⟨bw, bs, m1, m2, m3⟩ := hM.1
  refine xM.mono (v_cut m1 hw (by omega)) (fun r2 n2 u2 hu2 => ?_)
  obtain ⟨rfl, rfl, rfl⟩ := hu2
  exact ⟨rfl, rfl, LI.fin hw hC hK hM (fun q hh => rfl) hok hfm hfz (by omega) (by omega)⟩
theorem op_count (h : LI ws t) (ht : t < 1000) {a : Int} (a1 : -2147483648 ≤ a) (a2 : a < 2147483648) : OP l tX9_count tX10_count [.int (I a)] ws t := by
  obtain ⟨S, ver, wv, fA, fM, hw, hC, hK, hM, hok, hfm, hfz, hv, hwv⟩ := h
  obtain ⟨pv, tv, hO, hN, -⟩ := id hC
  refine xM.mono (w_count hO hN hw (by omega) a1 a2) (fun r n1 u hu => ?_)
  obtain ⟨rfl, rfl, rfl⟩ := hu
  refine ⟨rfl, _, rfl, hM.obj, ?_⟩
  obtain ⟨bw, bs, m1, m2, m3⟩ := hM.1
  refine xM.mono (v_count m1 hw a1 a2) (fun r2 n2 u2 hu2 => ?_)
  obtain ⟨rfl, rfl, rfl⟩ := hu2
  exact ⟨rfl, rfl, LI.fin hw hC hK hM (fun q hh => rfl) hok hfm hfz (by omega) (by omega)⟩
theorem op_attempt (h : LI ws t) (ht : t < 1000) {a b : Int} (a1 : -2147483648 ≤ a) (a2 : a < 2147483648) (b1 : -2147483648 ≤ b) (b2 : b < 2147483648) : OP l tX9_attempt tX10_attempt [.int (I a), .int (I b)] ws t := by
  obtain ⟨S, ver, wv, fA, fM, hw, hC, hK, hM, hok, hfm, hfz, hv, hwv⟩ := h
  obtain ⟨pv, tv, hO, hN, -⟩ := id hC
  obtain ⟨k1, k2, k3, k4, k5⟩ := id hK
  have hb : S.ng ≤ 6 := hw.2.2.1
  refine xM.mono (w_attempt hO hN hw (by omega) k2 a1 a2 b1 b2) (fun r n1 u hu => ?_)
  obtain ⟨rfl, ⟨hc, rfl, rfl⟩ | ⟨hc, rfl, rfl⟩⟩ := hu
  · refine ⟨rfl, _, rfl, hM.obj, ?_⟩
    obtain ⟨bw, bs, m1, m2, m3⟩ := hM.1
    refine xM.mono (v_attempt m1 hw (by omega) hM.2.2 a1 a2 b1 b2) (fun r2 n2 u2 hu2 => ?_)
    obtain ⟨rfl, ⟨hc2, rfl, rfl⟩ | ⟨hc2, rfl, rfl⟩⟩ := hu2
    · exact ⟨rfl, rfl, LI.fin hw hC hK hM (fun q hh => rfl) hok hfm hfz (by omega) (by omega)⟩
    · exact absurd hc2 hc
  · have hM1 := hM.keep (ws' := xup ws 104 (0, .inl (ra 6 (fu fA a.toNat b)))) (fun q hh => xup_ne _ _ (by omega))
    refine ⟨rfl, _, rfl, hM1.obj, ?_⟩
    obtain ⟨bw, bs, m1, m2, m3⟩ := hM1.1
    refine xM.mono (v_attempt m1 hw (by omega) hM1.2.2 a1 a2 b1 b2) (fun r2 n2 u2 hu2 => ?_)
    obtain ⟨rfl, ⟨hc2, rfl, rfl⟩ | ⟨hc2, rfl, rfl⟩⟩ := hu2
    · exact absurd hc hc2
    · refine ⟨rfl, by rw [hfm _ (by omega)], ?_⟩
      have hC1 := hC.keep (ws' := xup ws 104 (0, .inl (ra 6 (fu fA a.toNat b)))) (fun q hh => xup_ne _ _ (by omega))
      obtain ⟨f, k3⟩ := k3
      have hK1 : KC (xup ws 104 (0, .inl (ra 6 (fu fA a.toNat b)))) S ver (fu fA a.toNat b) := ⟨k1.kp (fun q a b => xup_ne _ _ (by omega)), xup_self _ _ _, ⟨f, k3.kp (fun q a b => xup_ne _ _ (by omega))⟩, k4.kp hw (fun q a b => xup_ne _ _ (by omega)), k5.keep (fun q a b => xup_ne _ _ (by omega))⟩
      refine LI.fin (fM := fu fM a.toNat b) hw hC1 hK1 ?_ (fun q hh => xup_ne _ _ (by omega)) (fun g hg => ?_) (fun g hg => ?_) (fun g hg1 hg2 => ?_) (by omega) (by omega)
      · obtain ⟨s1, s2, s3⟩ := hM1
        obtain ⟨bw, bs, m1, m2, ⟨fc, fk, fl, s4, s5, s6⟩⟩ := s1
        exact ⟨⟨bw, bs, m1.keep (fun q a b => xup_ne _ _ (by omega)), m2.keep (fun q a b => xup_ne _ _ (by omega)), ⟨fc, fk, fl, (xup_ne _ _ (by omega)).trans s4, (xup_ne _ _ (by omega)).trans s5, (xup_ne _ _ (by omega)).trans s6⟩⟩, s2.keep (fun q a b => xup_ne _ _ (by omega)), xup_self _ _ _⟩
      · by_cases e : g = a.toNat
        · subst e; rw [fu_s]; omega
        · rw [fu_n _ _ e]; exact hok g hg
      · by_cases e : g = a.toNat
        · subst e; rw [fu_s, fu_s]
        · rw [fu_n _ _ e, fu_n _ _ e]; exact hfm g hg
      · rw [fu_n _ _ (by omega)]; exact hfz g hg1 hg2
theorem op_node (h : LI ws t) (ht : t < 1000) : OP l tX9_node tX10_node [] ws t := by
  obtain ⟨S, ver, wv, fA, fM, hw, hC, hK, hM, hok, hfm, hfz, hv, hwv⟩ := h
  obtain ⟨pv, tv, hO, hN, -, -, -, -, -, -, -, -, -, x8, x9⟩ := id hC
  refine xM.mono (w_node hO hN hw) (fun r n1 u hu => ?_)
  obtain ⟨rfl, ⟨hc, rfl, rfl⟩ | ⟨hc, rfl, hN1, hq1⟩⟩ := hu
  · refine ⟨rfl, _, rfl, hM.obj, ?_⟩
    obtain ⟨bw, bs, m1, m2, m3⟩ := hM.1
    refine xM.mono (v_node m1 hw) (fun r2 n2 u2 hu2 => ?_)
    obtain ⟨rfl, ⟨hc2, rfl, rfl⟩ | hc2⟩ := hu2
    · exact ⟨rfl, rfl, LI.fin hw hC hK hM (fun q hh => rfl) hok hfm hfz (by omega) (by omega)⟩
    · omega
  · have hM1 := hM.keep (ws' := u) (fun q hh => hq1 q (by omega))
    refine ⟨rfl, _, rfl, hM1.obj, ?_⟩
    obtain ⟨bw, bs, m1, m2, m3⟩ := hM1.1
    refine xM.mono (v_node m1 hw) (fun r2 n2 u2 hu2 => ?_)
    obtain ⟨rfl, ⟨hc2, rfl, rfl⟩ | ⟨hc2, rfl, hD2, hq2⟩⟩ := hu2
    · omega
    · refine ⟨rfl, rfl, ?_⟩
      have hC1 : PC u (putNode S) (ver + 1) wv := hC.chg hN1 hq1 (Or.inr ⟨rfl, rfl, (fun g => WS_congr rfl rfl rfl rfl rfl rfl g)⟩) (by omega) (by omega)
      have hK1 : KC u (putNode S) (ver + 1) fA := hK.chg (fun q hh => hq1 q (by omega))
      exact LI.fin (WF_node hw hc) hC1 hK1 (hM1.chg hD2 ((m2.keep (fun q a b => hq2 q (by omega))).cg rfl (fun g => WS_congr rfl rfl rfl rfl rfl rfl g)) ((hq2 _ (by omega)).trans hM1.2.2) (fun q hh => hq2 q (by omega))) (fun q hh => hq2 q (by omega)) hok hfm hfz (by omega) (by omega)
theorem op_capacity (h : LI ws t) (ht : t < 1000) {a b : Int} (a1 : -2147483648 ≤ a) (a2 : a < 2147483648) (b1 : -2147483648 ≤ b) (b2 : b < 2147483648) : OP l tX9_capacity tX10_capacity [.int (I a), .int (I b)] ws t := by
  obtain ⟨S, ver, wv, fA, fM, hw, hC, hK, hM, hok, hfm, hfz, hv, hwv⟩ := h
  obtain ⟨pv, tv, hO, hN, -, -, -, -, -, -, -, -, -, x8, x9⟩ := id hC
  refine xM.mono (w_capacity hO hN hw (by omega) a1 a2 b1 b2) (fun r n1 u hu => ?_)
  obtain ⟨rfl, ⟨hc, rfl, rfl⟩ | ⟨hc, rfl, hN1, hq1⟩⟩ := hu
  · refine ⟨rfl, _, rfl, hM.obj, ?_⟩
    obtain ⟨bw, bs, m1, m2, m3⟩ := hM.1
    refine xM.mono (v_capacity m1 hw (by omega) a1 a2 b1 b2) (fun r2 n2 u2 hu2 => ?_)
    obtain ⟨rfl, ⟨hc2, rfl, rfl⟩ | hc2⟩ := hu2
    · exact ⟨rfl, rfl, LI.fin hw hC hK hM (fun q hh => rfl) hok hfm hfz (by omega) (by omega)⟩
    · exact absurd hc2.1 hc
  · have hM1 := hM.keep (ws' := u) (fun q hh => hq1 q (by omega))
    refine ⟨rfl, _, rfl, hM1.obj, ?_⟩
    obtain ⟨bw, bs, m1, m2, m3⟩ := hM1.1
    refine xM.mono (v_capacity m1 hw (by omega) a1 a2 b1 b2) (fun r2 n2 u2 hu2 => ?_)
    obtain ⟨rfl, ⟨hc2, rfl, rfl⟩ | ⟨hc2, rfl, hD2, hq2⟩⟩ := hu2
    · exact absurd hc hc2
    · refine ⟨rfl, rfl, ?_⟩
      have hC1 : PC u (putF S 2 a.toNat b) (ver + 1) wv := hC.chg hN1 hq1 (Or.inr ⟨rfl, rfl, (fun g => WS_congr rfl rfl rfl rfl rfl rfl g)⟩) (by omega) (by omega)
      have hK1 : KC u (putF S 2 a.toNat b) (ver + 1) fA := hK.chg (fun q hh => hq1 q (by omega))
      exact LI.fin (WF_cap hw hc.2.1 hc.2.2) hC1 hK1 (hM1.chg hD2 ((m2.keep (fun q a b => hq2 q (by omega))).cg rfl (fun g => WS_congr rfl rfl rfl rfl rfl rfl g)) ((hq2 _ (by omega)).trans hM1.2.2) (fun q hh => hq2 q (by omega))) (fun q hh => hq2 q (by omega)) hok hfm hfz (by omega) (by omega)
theorem op_demand (h : LI ws t) (ht : t < 1000) {a b : Int} (a1 : -2147483648 ≤ a) (a2 : a < 2147483648) (b1 : -2147483648 ≤ b) (b2 : b < 2147483648) : OP l tX9_demand tX10_demand [.int (I a), .int (I b)] ws t := by
  obtain ⟨S, ver, wv, fA, fM, hw, hC, hK, hM, hok, hfm, hfz, hv, hwv⟩ := h
  obtain ⟨pv, tv, hO, hN, -, -, -, -, -, -, -, -, -, x8, x9⟩ := id hC
  refine xM.mono (w_demand hO hN hw (by omega) a1 a2 b1 b2) (fun r n1 u hu => ?_)
  obtain ⟨rfl, ⟨hc, rfl, rfl⟩ | ⟨hc, rfl, hN1, hq1⟩⟩ := hu
  · refine ⟨rfl, _, rfl, hM.obj, ?_⟩
    obtain ⟨bw, bs, m1, m2, m3⟩ := hM.1
    refine xM.mono (v_demand m1 hw (by omega) a1 a2 b1 b2) (fun r2 n2 u2 hu2 => ?_)
    obtain ⟨rfl, ⟨hc2, rfl, rfl⟩ | hc2⟩ := hu2
    · exact ⟨rfl, rfl, LI.fin hw hC hK hM (fun q hh => rfl) hok hfm hfz (by omega) (by omega)⟩
    · exact absurd hc2.1 hc
  · have hM1 := hM.keep (ws' := u) (fun q hh => hq1 q (by omega))
    refine ⟨rfl, _, rfl, hM1.obj, ?_⟩
    obtain ⟨bw, bs, m1, m2, m3⟩ := hM1.1
    refine xM.mono (v_demand m1 hw (by omega) a1 a2 b1 b2) (fun r2 n2 u2 hu2 => ?_)
    obtain ⟨rfl, ⟨hc2, rfl, rfl⟩ | ⟨hc2, rfl, hD2, hq2⟩⟩ := hu2
    · exact absurd hc hc2
    · refine ⟨rfl, rfl, ?_⟩
      have hC1 : PC u (putF S 6 a.toNat b) (ver + 1) wv := hC.chg hN1 hq1 (Or.inr ⟨rfl, rfl, (fun g => WS_congr rfl rfl rfl rfl rfl rfl g)⟩) (by omega) (by omega)
      have hK1 : KC u (putF S 6 a.toNat b) (ver + 1) fA := hK.chg (fun q hh => hq1 q (by omega))
      exact LI.fin (WF_dem hw hc.2.1 hc.2.2) hC1 hK1 (hM1.chg hD2 ((m2.keep (fun q a b => hq2 q (by omega))).cg rfl (fun g => WS_congr rfl rfl rfl rfl rfl rfl g)) ((hq2 _ (by omega)).trans hM1.2.2) (fun q hh => hq2 q (by omega))) (fun q hh => hq2 q (by omega)) hok hfm hfz (by omega) (by omega)
theorem op_worth (h : LI ws t) (ht : t < 1000) {a b : Int} (a1 : -2147483648 ≤ a) (a2 : a < 2147483648) (b1 : -2147483648 ≤ b) (b2 : b < 2147483648) : OP l tX9_worth tX10_worth [.int (I a), .int (I b)] ws t := by
  obtain ⟨S, ver, wv, fA, fM, hw, hC, hK, hM, hok, hfm, hfz, hv, hwv⟩ := h
  obtain ⟨pv, tv, hO, hN, -, -, -, -, -, -, -, -, -, x8, x9⟩ := id hC
  refine xM.mono (w_worth hO hN hw (by omega) a1 a2 b1 b2) (fun r n1 u hu => ?_)
  obtain ⟨rfl, ⟨hc, rfl, rfl⟩ | ⟨hc, rfl, hN1, hq1⟩⟩ := hu
  · refine ⟨rfl, _, rfl, hM.obj, ?_⟩
    obtain ⟨bw, bs, m1, m2, m3⟩ := hM.1
    refine xM.mono (v_worth m1 hw (by omega) a1 a2 b1 b2) (fun r2 n2 u2 hu2 => ?_)
    obtain ⟨rfl, ⟨hc2, rfl, rfl⟩ | hc2⟩ := hu2
    · exact ⟨rfl, rfl, LI.fin hw hC hK hM (fun q hh => rfl) hok hfm hfz (by omega) (by omega)⟩
    · exact absurd hc2.1 hc
  · have hM1 := hM.keep (ws' := u) (fun q hh => hq1 q (by omega))
    refine ⟨rfl, _, rfl, hM1.obj, ?_⟩
    obtain ⟨bw, bs, m1, m2, m3⟩ := hM1.1
    refine xM.mono (v_worth m1 hw (by omega) a1 a2 b1 b2) (fun r2 n2 u2 hu2 => ?_)
    obtain ⟨rfl, ⟨hc2, rfl, rfl⟩ | ⟨hc2, rfl, hD2, hq2⟩⟩ := hu2
    · exact absurd hc hc2
    · refine ⟨rfl, rfl, ?_⟩
      have hC1 : PC u (putF S 7 a.toNat b) (ver + 1) wv := hC.chg hN1 hq1 (Or.inr ⟨rfl, rfl, (fun g => WS_congr rfl rfl rfl rfl rfl rfl g)⟩) (by omega) (by omega)
      have hK1 : KC u (putF S 7 a.toNat b) (ver + 1) fA := hK.chg (fun q hh => hq1 q (by omega))
      exact LI.fin (WF_wor hw hc.2.1 hc.2.2) hC1 hK1 (hM1.chg hD2 ((m2.keep (fun q a b => hq2 q (by omega))).cg rfl (fun g => WS_congr rfl rfl rfl rfl rfl rfl g)) ((hq2 _ (by omega)).trans hM1.2.2) (fun q hh => hq2 q (by omega))) (fun q hh => hq2 q (by omega)) hok hfm hfz (by omega) (by omega)
theorem op_cost (h : LI ws t) (ht : t < 1000) {a b : Int} (a1 : -2147483648 ≤ a) (a2 : a < 2147483648) (b1 : -2147483648 ≤ b) (b2 : b < 2147483648) : OP l tX9_cost tX10_cost [.int (I a), .int (I b)] ws t := by
  obtain ⟨S, ver, wv, fA, fM, hw, hC, hK, hM, hok, hfm, hfz, hv, hwv⟩ := h
  obtain ⟨pv, tv, hO, hN, -, -, -, -, -, -, -, -, -, x8, x9⟩ := id hC
  refine xM.mono (w_cost hO hN hw (by omega) a1 a2 b1 b2) (fun r n1 u hu => ?_)
  obtain ⟨rfl, ⟨hc, rfl, rfl⟩ | ⟨hc, rfl, hN1, hq1⟩⟩ := hu
  · refine ⟨rfl, _, rfl, hM.obj, ?_⟩
    obtain ⟨bw, bs, m1, m2, m3⟩ := hM.1
    refine xM.mono (v_cost m1 hw m2 (by omega) a1 a2 b1 b2) (fun r2 n2 u2 hu2 => ?_)
    obtain ⟨rfl, ⟨hc2, rfl, rfl⟩ | hc2⟩ := hu2
    · exact ⟨rfl, rfl, LI.fin hw hC hK hM (fun q hh => rfl) hok hfm hfz (by omega) (by omega)⟩
    · exact absurd hc2.1 hc
  · have hM1 := hM.keep (ws' := u) (fun q hh => hq1 q (by omega))
    refine ⟨rfl, _, rfl, hM1.obj, ?_⟩
    obtain ⟨bw, bs, m1, m2, m3⟩ := hM1.1
    refine xM.mono (v_cost m1 hw m2 (by omega) a1 a2 b1 b2) (fun r2 n2 u2 hu2 => ?_)
    obtain ⟨rfl, ⟨hc2, rfl, rfl⟩ | ⟨hc2, rfl, hD2, hI2, hq2⟩⟩ := hu2
    · exact absurd hc hc2
    · refine ⟨rfl, rfl, ?_⟩
      have hC1 : PC u (putF S 3 a.toNat b) (ver + 1) (wv + 1) := hC.chg hN1 hq1 (Or.inl rfl) (by omega) (by omega)
      have hK1 : KC u (putF S 3 a.toNat b) (ver + 1) fA := hK.chg (fun q hh => hq1 q (by omega))
      exact LI.fin (WF_cost hw hc.2.1 hc.2.2) hC1 hK1 (hM1.chg hD2 (hI2) ((hq2 _ (by omega)).trans hM1.2.2) (fun q hh => hq2 q (by omega))) (fun q hh => hq2 q (by omega)) hok hfm hfz (by omega) (by omega)
theorem op_arc (h : LI ws t) (ht : t < 1000) {a b c k : Int} (a1 : -2147483648 ≤ a) (a2 : a < 2147483648) (b1 : -2147483648 ≤ b) (b2 : b < 2147483648) (c1 : -2147483648 ≤ c) (c2 : c < 2147483648) (k1 : -2147483648 ≤ k) (k2 : k < 2147483648) : OP l tX9_arc tX10_arc [.int (I a), .int (I b), .int (I c), .int (I k)] ws t := by
  obtain ⟨S, ver, wv, fA, fM, hw, hC, hK, hM, hok, hfm, hfz, hv, hwv⟩ := h
  obtain ⟨pv, tv, hO, hN, -, -, -, -, -, -, -, -, -, x8, x9⟩ := id hC
  refine xM.mono (w_arc hO hN hw (by omega) a1 a2 b1 b2 c1 c2 k1 k2) (fun r n1 u hu => ?_)
  obtain ⟨rfl, ⟨hc, rfl, rfl⟩ | ⟨hc, hc', rfl, rfl⟩ | ⟨hc, hc', rfl, hN1, hq1⟩⟩ := hu
  · refine ⟨rfl, _, rfl, hM.obj, ?_⟩
    obtain ⟨bw, bs, m1, m2, m3⟩ := hM.1
    have hX := hM
    refine xM.mono (v_arc m1 hw m2 (by omega) a1 a2 b1 b2 c1 c2 k1 k2) (fun r2 n2 u2 hu2 => ?_)
    obtain ⟨rfl, ⟨hc2, rfl, rfl⟩ | hc2 | hc2⟩ := hu2
    · exact ⟨rfl, rfl, LI.fin hw hC hK hM (fun q hh => rfl) hok hfm hfz (by omega) (by omega)⟩
    · exact absurd hc2.1 hc
    · exact absurd hc2.1 hc
  · refine ⟨rfl, _, rfl, hM.obj, ?_⟩
    obtain ⟨bw, bs, m1, m2, m3⟩ := hM.1
    have hX := hM
    refine xM.mono (v_arc m1 hw m2 (by omega) a1 a2 b1 b2 c1 c2 k1 k2) (fun r2 n2 u2 hu2 => ?_)
    obtain ⟨rfl, hc2 | ⟨hc2, hc3, rfl, rfl⟩ | hc2⟩ := hu2
    · exact absurd hc hc2.1
    · exact ⟨rfl, rfl, LI.fin hw hC hK hM (fun q hh => rfl) hok hfm hfz (by omega) (by omega)⟩
    · have := hc2.2.1
      omega
  · have hM1 := hM.keep (ws' := u) (fun q hh => hq1 q (by omega))
    refine ⟨rfl, _, rfl, hM1.obj, ?_⟩
    obtain ⟨bw, bs, m1, m2, m3⟩ := hM1.1
    have hX := hM1
    refine xM.mono (v_arc m1 hw m2 (by omega) a1 a2 b1 b2 c1 c2 k1 k2) (fun r2 n2 u2 hu2 => ?_)
    obtain ⟨rfl, hc2 | hc2 | ⟨hc2, hc3, rfl, hD2, hI2, hq2⟩⟩ := hu2
    · exact absurd hc hc2.1
    · have := hc2.2.1
      omega
    · refine ⟨rfl, rfl, ?_⟩
      have hC1 : PC u (putArc S a b c k) (ver + 1) (wv + 1) := hC.chg hN1 hq1 (Or.inl rfl) (by omega) (by omega)
      have hK1 : KC u (putArc S a b c k) (ver + 1) fA := hK.chg (fun q hh => hq1 q (by omega))
      exact LI.fin (WF_arc hw hc hc') hC1 hK1 (hM1.chg hD2 hI2 ((hq2 _ (by omega)).trans hM1.2.2) (fun q hh => hq2 q (by omega))) (fun q hh => hq2 q (by omega)) hok hfm hfz (by omega) (by omega)
theorem op_good (h : LI ws t) (ht : t < 1000) {a b c k : Int} (a1 : -2147483648 ≤ a) (a2 : a < 2147483648) (b1 : -2147483648 ≤ b) (b2 : b < 2147483648) (c1 : -2147483648 ≤ c) (c2 : c < 2147483648) (k1 : -2147483648 ≤ k) (k2 : k < 2147483648) : OP l tX9_good tX10_good [.int (I a), .int (I b), .int (I c), .int (I k)] ws t := by
  obtain ⟨S, ver, wv, fA, fM, hw, hC, hK, hM, hok, hfm, hfz, hv, hwv⟩ := h
  obtain ⟨pv, tv, hO, hN, -, -, -, -, -, -, -, -, -, x8, x9⟩ := id hC
  refine xM.mono (w_good hO hN hw (by omega) a1 a2 b1 b2 c1 c2 k1 k2) (fun r n1 u hu => ?_)
  obtain ⟨rfl, ⟨hc, rfl, rfl⟩ | ⟨hc, hc', rfl, rfl⟩ | ⟨hc, hc', rfl, hN1, hq1⟩⟩ := hu
  · refine ⟨rfl, _, rfl, hM.obj, ?_⟩
    obtain ⟨bw, bs, m1, m2, m3⟩ := hM.1
    have hX := hM
    refine xM.mono (v_good m1 hw m2 hX.2.2 (by omega) a1 a2 b1 b2 c1 c2 k1 k2) (fun r2 n2 u2 hu2 => ?_)
    obtain ⟨rfl, ⟨hc2, rfl, rfl⟩ | hc2 | hc2⟩ := hu2
    · exact ⟨rfl, rfl, LI.fin hw hC hK hM (fun q hh => rfl) hok hfm hfz (by omega) (by omega)⟩
    · exact absurd hc2.1 hc
    · exact absurd hc2.1 hc
  · refine ⟨rfl, _, rfl, hM.obj, ?_⟩
    obtain ⟨bw, bs, m1, m2, m3⟩ := hM.1
    have hX := hM
    refine xM.mono (v_good m1 hw m2 hX.2.2 (by omega) a1 a2 b1 b2 c1 c2 k1 k2) (fun r2 n2 u2 hu2 => ?_)
    obtain ⟨rfl, hc2 | ⟨hc2, hc3, rfl, rfl⟩ | hc2⟩ := hu2
    · exact absurd hc hc2.1
    · exact ⟨rfl, rfl, LI.fin hw hC hK hM (fun q hh => rfl) hok hfm hfz (by omega) (by omega)⟩
    · have := hc2.2.1
      omega
  · have hM1 := hM.keep (ws' := u) (fun q hh => hq1 q (by omega))
    refine ⟨rfl, _, rfl, hM1.obj, ?_⟩
    obtain ⟨bw, bs, m1, m2, m3⟩ := hM1.1
    have hX := hM1
    refine xM.mono (v_good m1 hw m2 hX.2.2 (by omega) a1 a2 b1 b2 c1 c2 k1 k2) (fun r2 n2 u2 hu2 => ?_)
    obtain ⟨rfl, hc2 | hc2 | ⟨hc2, hc3, rfl, hD2, hI2, hA2, hq2⟩⟩ := hu2
    · exact absurd hc hc2.1
    · have := hc2.2.1
      omega
    · refine ⟨rfl, rfl, ?_⟩
      have hC1 : PC u (putGood S a b c k) (ver + 1) (wv + 1) := hC.chg hN1 hq1 (Or.inl rfl) (by omega) (by omega)
      have hK1 : KC u (putGood S a b c k) (ver + 1) fA := hK.chg (fun q hh => hq1 q (by omega))
      exact LI.fin (WF_good hw hc hc') hC1 hK1 (hM1.chg hD2 hI2 hA2 (fun q hh => hq2 q (by omega))) (fun q hh => hq2 q (by omega)) hok (good_fm hfm hfz hc') (fun g hg1 hg2 => hfz g (Nat.le_of_succ_le hg1) hg2) (by omega) (by omega)
end OPS
