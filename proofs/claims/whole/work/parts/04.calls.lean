/-! CALLS -/
section XCALL
variable {l : Launch} {t : xT} {d mc ms : Nat} {Q : xP}
theorem xgood {y : xT} (h : Cond.code y.2.1 y.2.2.1 y.2.2.2.1 y.2.2.2.2 ∈ xTB) : GoodIn xTB (xws y) := by
  intro w hw
  rcases List.mem_cons.mp hw with rfl | hw
  · exact ⟨h, Or.inl rfl⟩
  · exact ⟨hw, good_of_word (List.mem_filter.mp hw).2⟩
theorem xblind {G : va_G} {tc : Nat → ClassId} {z n : Nat} {ws : xW} {As : List Value} : FrameBlind (va_Pc As (fun U => xR G tc z n ws U.heap ∧ xK G tc U)) := by
  intro a U g mk q
  exact ⟨q.1, q.2.1, xK.same (U := U.calling g mk a) rfl q.2.2⟩
theorem xcont {p : Program} {e : Env} {R : Room} {s : State} {m : MethodId} {args : Array Value} {below : List Frame} {meth : Method} {c : Code} {H : Heap} {locs : List Loc} {cells slots cc cs pc z : Nat} {Z : State → Prop} {ls : Array Slot} {st0 rest : List Value} {G : va_G} {tc : Nat → ClassId} {Q' : xP} {a : Array Value}
    (hr : va_Run p l e R s m args below meth c H locs cells slots cc cs (F0 m pc ls st0) rest (xQ G tc z Q' a) (fun q => z ≤ q)) (hS : va_S (fun q => z ≤ q) s.heap H locs)
    (kk : ∀ (r : Option Value) (n : Nat) (ws : xW) (H1 : Heap) (locs1 : List Loc), Q' r n ws → xR G tc z n ws H1 → va_S (fun q => z ≤ q) s.heap H1 locs1 → W p l e R s m args below meth c H1 locs1 (cells + cc) (slots + cs) Z (F0 m (pc + 3) ls ((r.map (xv z)).toList ++ rest))) : W p l e R s m args below meth c H locs cells slots Z (F0 m pc ls st0) := by
  intro T hT X
  obtain ⟨v, st₀, t, T', L, h0, X', hL, e1, e2, ⟨⟨r, n, ws, hv, hp, hb⟩, hz, hk⟩, st⟩ := hr T hT X
  cases hv
  rw [h0] at hz hk
  rw [← e1] at hb hz hk
  obtain ⟨t2, a1, b1⟩ := kk r n ws T'.heap (locs ++ L) hp hb ⟨Nat.le_trans hS.1 hz, fun q h1 h2 => by rw [hk q (Nat.lt_of_lt_of_le h1 hS.1) h2]; exact hS.2.1 q h1 h2, fun q hq => by
      rcases List.mem_append.mp hq with h | h
      · exact hS.2.2 q h
      · exact hL q h⟩ T' rfl X'
  exact ⟨t2, st t2 a1, b1⟩
theorem xrest {z : Nat} {rest : List Value} (h : (rest.map fun v => v.category).sum ≤ 8) : ((rest.map (xv z)).map fun v => v.category).sum ≤ 8 := by
  rw [List.map_map]
  have : ((fun v => v.category) ∘ xv z) = fun v : Value => v.category := by funext v; exact xv_cat z v
  rw [this]; exact h
theorem xres {z : Nat} {r : Option Value} {rest : List Value} : (r.map (xv z)).toList ++ rest.map (xv z) = (r.toList ++ rest).map (xv z) := by cases r <;> rfl
/-- a call of a method on an object -/
theorem xcallV {y : xT} {np idx dc cc cs pc kc ks n b : Nat} {L : xL} {As rest st vs : List Value} {ws : xW} {Q' : xP} (hcls : t.2.1.cls = xnm t.1) (hy : xMo y np) (hl : xCV t.1 idx y) (hdec : decode t.2.2.1 pc = .ok (.invokevirtual idx, 3))
    (hst : st = As.reverse ++ .ref b :: rest) (hnp : As.length = np) (hw : ws b = some (y.1, .inr (.inr (.inr vs)))) (hci : y.1 < 11) (hrest : (rest.map fun v => v.category).sum ≤ 8) (hd : dc + 1 ≤ d) (hkc : cc ≤ kc) (hks : cs ≤ ks)
    (hM : xM l y dc cc cs (.ref b :: As) n ws Q') (k : ∀ r n' ws', Q' r n' ws' → xX l t d mc ms Q (kc - cc) (ks - cs) (pc + 3) L (r.toList ++ rest) n' ws') : xX l t d mc ms Q kc ks pc L st n ws := by
  intro G tc z p e s m args below meth c H locs cells slots ls hC hR hS hl2 hk1 hk2
  obtain ⟨hx, hb, hr, hml, hown, hts, hlocks, hnm, hK, hz⟩ := id hC
  obtain ⟨hcode, hini, hmh, hpar, hmx, hpl, hyc⟩ := hy
  subst hst
  rw [hcls] at hown
  have cw : CallW (xrm d mc ms) s args (xnm t.1) y.2.1.cls idx y.2.1 y.2.2.1 y.2.2.2.1 y.2.2.2.2 (xws y) (xrm dc cc cs) cc cs np := ⟨callB_of np hts (xgood hcode) rfl rfl rfl (hts _ hini) (hts _ hl.1) ⟨hmh.1, hmh.2, hpar⟩ ⟨hd, by show 8 + (y.2.2.2.1 + 11) + 48 * dc ≤ 48 * d; omega⟩, hts _ hl.2.1, hts _ hl.2.2⟩
  obtain ⟨rr, hrr, -, cellB, g1, g2, g3, -⟩ := hR.2 b _ hw
  obtain ⟨C, T, N, ty, hc, -, -, -, -, -, hC0, -⟩ := xcls _ hci
  cases hc.symm.trans hrr
  have hfc := (hK.1.1 _ _ hrr).2.1
  refine xcont (va_runV (As := As.map (xv z)) (rest := rest.map (xv z)) (b := z + b) (C := y.2.1.cls) ⟨hx, hb, hml, hown, hts⟩ (hM G tc z) cw ⟨xblind, ⟨cellB, g1, by rw [g3]; rfl, by rw [g2, hyc, ← hC0]; exact hfc⟩, fun U hU hW => ⟨rfl, by rw [hU]; exact hR, hK.warm hW⟩⟩ rfl (by rw [List.length_map]; exact hnp) hl2.1 (by simp [xv]) (lv_room (xrest hrest)) hdec ⟨by show cells + cc ≤ mc; omega, by show slots + cs ≤ ms; omega⟩) hS (fun r n' ws' H1 locs1 hq hR1 hS1 => ?_)
  rw [xres]
  exact k r n' ws' hq G tc z p e s m args below meth c H1 locs1 _ _ ls hC hR1 hS1 hl2 (by omega) (by omega)
/-- a call of a static method of the same class -/
theorem xcallS {y : xT} {np idx dc cc cs pc kc ks n : Nat} {L : xL} {As rest st : List Value} {ws : xW} {Q' : xP} (hcls : t.2.1.cls = xnm t.1) (hy : xMo y np) (hl : xCS t.1 idx y) (hdec : decode t.2.2.1 pc = .ok (.invokestatic idx, 3))
    (hst : st = As.reverse ++ rest) (hnp : As.length = np) (hrest : (rest.map fun v => v.category).sum ≤ 8) (hd : dc + 1 ≤ d) (hkc : cc ≤ kc) (hks : cs ≤ ks)
    (hM : xM l y dc cc cs As n ws Q') (k : ∀ r n' ws', Q' r n' ws' → xX l t d mc ms Q (kc - cc) (ks - cs) (pc + 3) L (r.toList ++ rest) n' ws') : xX l t d mc ms Q kc ks pc L st n ws := by
  intro G tc z p e s m args below meth c H locs cells slots ls hC hR hS hl2 hk1 hk2
  obtain ⟨hx, hb, hr, hml, hown, hts, hlocks, hnm, hK, hz⟩ := id hC
  obtain ⟨hcode, hini, hmh, hpar, hmx, hpl, hyc⟩ := hy
  subst hst
  rw [hcls] at hown
  have cw : CallB (xrm d mc ms) s args (xnm t.1) idx y.2.1 y.2.2.1 y.2.2.2.1 y.2.2.2.2 (xws y) (xrm dc cc cs) cc cs np ∧ (Cond.static y.2.1).before args s = true := ⟨callB_of np hts (xgood hcode) rfl rfl rfl (hts _ hini) (hts _ hl.1) ⟨hmh.1, hmh.2, hpar⟩ ⟨hd, by show 8 + (y.2.2.2.1 + 11) + 48 * dc ≤ 48 * d; omega⟩, hts _ hl.2⟩
  refine xcont (va_runS (As := As.map (xv z)) (rest := rest.map (xv z)) ⟨hx, hb, hml, hown, hts⟩ (hM G tc z) cw ⟨xblind, fun U hU hW => ⟨rfl, by rw [hU]; exact hR, hK.warm hW⟩⟩ rfl (by rw [List.length_map]; exact hnp) hl2.1 (by simp) (lv_room (xrest hrest)) hdec ⟨by show cells + cc ≤ mc; omega, by show slots + cs ≤ ms; omega⟩) hS (fun r n' ws' H1 locs1 hq hR1 hS1 => ?_)
  rw [xres]
  exact k r n' ws' hq G tc z p e s m args below meth c H1 locs1 _ _ ls hC hR1 hS1 hl2 (by omega) (by omega)
/-- a call of a constructor -/
theorem xcallI {y : xT} {np idx dc cc cs pc kc ks n b : Nat} {L : xL} {As rest st : List Value} {ws : xW} {Q' : xP} (hcls : t.2.1.cls = xnm t.1) (hy : xMo y np) (hyn : y.2.1.name = "<init>") (hyr : y.2.2.2.2 = none) (hl : xCI t.1 idx y) (hdec : decode t.2.2.1 pc = .ok (.invokespecial idx, 3))
    (hst : st = As.reverse ++ .ref b :: rest) (hnp : As.length = np) (hrest : (rest.map fun v => v.category).sum ≤ 8) (hd : dc + 1 ≤ d) (hkc : cc ≤ kc) (hks : cs ≤ ks)
    (hM : xM l y dc cc cs (.ref b :: As) n ws Q') (k : ∀ r n' ws', Q' r n' ws' → xX l t d mc ms Q (kc - cc) (ks - cs) (pc + 3) L (r.toList ++ rest) n' ws') : xX l t d mc ms Q kc ks pc L st n ws := by
  intro G tc z p e s m args below meth c H locs cells slots ls hC hR hS hl2 hk1 hk2
  obtain ⟨hx, hb, hr, hml, hown, hts, hlocks, hnm, hK, hz⟩ := id hC
  obtain ⟨hcode, hini, hmh, hpar, hmx, hpl, hyc⟩ := hy
  subst hst
  rw [hcls] at hown
  have hcode0 := hcode
  rw [hyr] at hcode
  have cw : CallB (xrm d mc ms) s args (xnm t.1) idx y.2.1 y.2.2.1 y.2.2.2.1 none (xws y) (xrm dc cc cs) cc cs np ∧ y.2.1.name = "<init>" ∧ (Cond.instanceMethod y.2.1).before args s = true := ⟨callB_of (ws' := xTB) np hts (xgood hcode0) (by unfold xws; rw [hyr]) rfl rfl (hts _ hini) (hts _ hl.1) ⟨hmh.1, hmh.2, hpar⟩ ⟨hd, by show 8 + (y.2.2.2.1 + 11) + 48 * dc ≤ 48 * d; omega⟩, hyn, hts _ hl.2⟩
  refine xcont (va_runI (As := As.map (xv z)) (rest := rest.map (xv z)) (b := z + b) ⟨hx, hb, hml, hown, hts⟩ (hM G tc z) cw ⟨xblind, fun U hU hW => ⟨rfl, by rw [hU]; exact hR, hK.warm hW⟩⟩ rfl (by rw [List.length_map]; exact hnp) hl2.1 (by simp [xv]) (lv_room (xrest hrest)) hdec ⟨by show cells + cc ≤ mc; omega, by show slots + cs ≤ ms; omega⟩) hS (fun r n' ws' H1 locs1 hq hR1 hS1 => ?_)
  rw [xres]
  exact k r n' ws' hq G tc z p e s m args below meth c H1 locs1 _ _ ls hC hR1 hS1 hl2 (by omega) (by omega)
/-- a call of a nest mate's private static method -/
theorem xcallSN {y : xT} {np idx dc cc cs pc kc ks n : Nat} {L : xL} {As rest st : List Value} {ws : xW} {Q' : xP} {host : String} (hcls : t.2.1.cls = xnm t.1) (hy : xMo y np) (hl : xCN t.1 idx y host) (hsta : Cond.static y.2.1 ∈ xTB) (hdec : decode t.2.2.1 pc = .ok (.invokestatic idx, 3))
    (hst : st = As.reverse ++ rest) (hnp : As.length = np) (hrest : (rest.map fun v => v.category).sum ≤ 8) (hd : dc + 1 ≤ d) (hkc : cc ≤ kc) (hks : cs ≤ ks)
    (hM : xM l y dc cc cs As n ws Q') (k : ∀ r n' ws', Q' r n' ws' → xX l t d mc ms Q (kc - cc) (ks - cs) (pc + 3) L (r.toList ++ rest) n' ws') : xX l t d mc ms Q kc ks pc L st n ws := by
  intro G tc z p e s m args below meth c H locs cells slots ls hC hR hS hl2 hk1 hk2
  obtain ⟨hx, hb, hr, hml, hown, hts, hlocks, hnm, hK, hz⟩ := id hC
  obtain ⟨hcode, hini, hmh, hpar, hmx, hpl, hyc⟩ := hy
  subst hst
  rw [hcls] at hown
  have cw := va_cnB (R := xrm d mc ms) (args := args) (s := s) (rm := xrm dc cc cs) (mc := cc) (ms := cs) np hts (xgood hcode) rfl rfl rfl (hK.2.2 _ hl) (hts _ hini) ⟨hmh.1, hmh.2, hpar⟩ ⟨hd, by show 8 + (y.2.2.2.1 + 11) + 48 * dc ≤ 48 * d; omega⟩
  refine xcont (va_runSN (As := As.map (xv z)) (rest := rest.map (xv z)) ⟨hx, hb, hml, hown, hts⟩ (hM G tc z) ⟨cw, hts _ hsta, trivial⟩ ⟨xblind, fun U hU hW => ⟨rfl, by rw [hU]; exact hR, hK.warm hW⟩⟩ rfl (by rw [List.length_map]; exact hnp) hl2.1 (by simp) (lv_room (xrest hrest)) hdec ⟨by show cells + cc ≤ mc; omega, by show slots + cs ≤ ms; omega⟩) hS (fun r n' ws' H1 locs1 hq hR1 hS1 => ?_)
  rw [xres]
  exact k r n' ws' hq G tc z p e s m args below meth c H1 locs1 _ _ ls hC hR1 hS1 hl2 (by omega) (by omega)
/-- a call of a nest mate's private constructor -/
theorem xcallIN {y : xT} {np idx dc cc cs pc kc ks n b : Nat} {L : xL} {As rest st : List Value} {ws : xW} {Q' : xP} {host : String} (hcls : t.2.1.cls = xnm t.1) (hy : xMo y np) (hyn : y.2.1.name = "<init>") (hyr : y.2.2.2.2 = none) (hl : xCN t.1 idx y host) (hsta : Cond.instanceMethod y.2.1 ∈ xTB) (hdec : decode t.2.2.1 pc = .ok (.invokespecial idx, 3))
    (hst : st = As.reverse ++ .ref b :: rest) (hnp : As.length = np) (hrest : (rest.map fun v => v.category).sum ≤ 8) (hd : dc + 1 ≤ d) (hkc : cc ≤ kc) (hks : cs ≤ ks)
    (hM : xM l y dc cc cs (.ref b :: As) n ws Q') (k : ∀ r n' ws', Q' r n' ws' → xX l t d mc ms Q (kc - cc) (ks - cs) (pc + 3) L (r.toList ++ rest) n' ws') : xX l t d mc ms Q kc ks pc L st n ws := by
  intro G tc z p e s m args below meth c H locs cells slots ls hC hR hS hl2 hk1 hk2
  obtain ⟨hx, hb, hr, hml, hown, hts, hlocks, hnm, hK, hz⟩ := id hC
  obtain ⟨hcode, hini, hmh, hpar, hmx, hpl, hyc⟩ := hy
  subst hst
  rw [hcls] at hown
  have cw := va_cnB (R := xrm d mc ms) (args := args) (s := s) (rm := xrm dc cc cs) (mc := cc) (ms := cs) (bytes := y.2.2.1) (maxL := y.2.2.2.1) (ret := none) (ws := xws y) (ws' := xTB) np hts (xgood hcode) (by unfold xws; rw [hyr]) rfl rfl (hK.2.2 _ hl) (hts _ hini) ⟨hmh.1, hmh.2, hpar⟩ ⟨hd, by show 8 + (y.2.2.2.1 + 11) + 48 * dc ≤ 48 * d; omega⟩
  refine xcont (va_runIN (As := As.map (xv z)) (rest := rest.map (xv z)) (b := z + b) ⟨hx, hb, hml, hown, hts⟩ (hM G tc z) ⟨cw, hyn, hts _ hsta⟩ ⟨xblind, fun U hU hW => ⟨rfl, by rw [hU]; exact hR, hK.warm hW⟩⟩ rfl (by rw [List.length_map]; exact hnp) hl2.1 (by simp [xv]) (lv_room (xrest hrest)) hdec ⟨by show cells + cc ≤ mc; omega, by show slots + cs ≤ ms; omega⟩) hS (fun r n' ws' H1 locs1 hq hR1 hS1 => ?_)
  rw [xres]
  exact k r n' ws' hq G tc z p e s m args below meth c H1 locs1 _ _ ls hC hR1 hS1 hl2 (by omega) (by omega)
/-- Object's constructor -/
theorem xcallO {idx pc kc ks n b : Nat} {L : xL} {rest : List Value} {ws : xW} (hcls : t.2.1.cls = xnm t.1) (hl : Cond.methodLink (xnm t.1) idx objectInit ∈ xTB) (hdec : decode t.2.2.1 pc = .ok (.invokespecial idx, 3)) (hd : 1 ≤ d) (hrest : (rest.map fun v => v.category).sum ≤ 8)
    (k : xX l t d mc ms Q kc ks (pc + 3) L rest n ws) : xX l t d mc ms Q kc ks pc L (.ref b :: rest) n ws := by
  intro G tc z p e s m args below meth c H locs cells slots ls hC hR hS hl2 hk1 hk2
  obtain ⟨hx, hb, hr, hml, hown, hts, hlocks, hnm, hK, hz⟩ := id hC
  rw [hcls] at hown
  have hw := xrest (z := z) hrest
  refine W.objInit hx hb hown (hts _ hl) (hts _ xob1) (hts _ xob2) rfl (by rw [hml]; exact hl2.1) rfl hdec (by show 1 ≤ d; exact hd) (by have := lv_room (m := m) (pc := pc) (ls := ls) (rest := []) hw; show 2 * 0 + _ + 12 ≤ 48 * d; omega) ?_
  exact k G tc z p e s m args below meth c H locs cells slots ls hC hR hS hl2 hk1 hk2
/-- Math.min -/
theorem xcallMin {idx pc kc ks n : Nat} {L : xL} {rest : List Value} {ws : xW} {x y : Int32} (hcls : t.2.1.cls = xnm t.1) (hl : Cond.methodLink (xnm t.1) idx Lib.Math.min.name ∈ xTB) (hdec : decode t.2.2.1 pc = .ok (.invokestatic idx, 3)) (hd : 1 ≤ d) (hrest : (rest.map fun v => v.category).sum ≤ 8)
    (k : xX l t d mc ms Q kc ks (pc + 3) L (.int (if y < x then y else x) :: rest) n ws) : xX l t d mc ms Q kc ks pc L (.int y :: .int x :: rest) n ws := by
  intro G tc z p e s m args below meth c H locs cells slots ls hC hR hS hl2 hk1 hk2
  obtain ⟨hx, hb, hr, hml, hown, hts, hlocks, hnm, hK, hz⟩ := id hC
  rw [hcls] at hown
  have hw := xrest (z := z) hrest
  exact va_mmin hx hb (hml.trans hl2.1.symm) hown (hts _ hl) (hts _ xmin1) (hts _ xmin2) (hts _ xmin3) (by show 1 ≤ d; exact hd) (by show _ + 13 ≤ 48 * d; omega) (by show cells ≤ mc; omega) (by show slots ≤ ms; omega) hdec (k G tc z p e s m args below meth c H locs cells slots ls hC hR hS hl2 hk1 hk2)
/-- a table switch -/
theorem xswitch {dflt lo hi : Int} {offs : Array Int} {len pc kc ks n : Nat} {L : xL} {rest : List Value} {ws : xW} {x : Int32} (hdec : decode t.2.2.1 pc = .ok (.tableswitch dflt lo hi offs, len)) (hsz : (offs.size : Int) = hi - lo + 1) (hd : 0 ≤ (pc : Int) + dflt) (ho : ∀ (j : Nat) (off : Int), offs[j]? = some off → 0 ≤ (pc : Int) + off)
    (kin : ∀ (j : Nat) (off : Int), offs[j]? = some off → x.toInt = lo + j → xX l t d mc ms Q kc ks (xtgt pc off) L rest n ws) (kout : (x.toInt < lo ∨ hi < x.toInt) → xX l t d mc ms Q kc ks (xtgt pc dflt) L rest n ws) : xX l t d mc ms Q kc ks pc L (.int x :: rest) n ws := by
  intro G tc z p e s m args below meth c H locs cells slots ls hC hR hS hl2 hk1 hk2
  obtain ⟨hx, hb, hr, hml, hown, hts, hlocks, hnm, hK, hz⟩ := id hC
  by_cases h : x.toInt < lo ∨ hi < x.toInt
  · exact lv_tableOut hx hb hdec h (by unfold xtgt; omega) (kout h G tc z p e s m args below meth c H locs cells slots ls hC hR hS hl2 hk1 hk2)
  · have h1 : ¬ x.toInt < lo := fun q => h (Or.inl q)
    have h2 : ¬ hi < x.toInt := fun q => h (Or.inr q)
    have hlt : (x.toInt - lo).toNat < offs.size := by omega
    have hof := Array.getElem?_eq_getElem hlt
    have hp := ho _ _ hof
    exact lv_tableIn hx hb hdec h1 h2 hof (by unfold xtgt; omega) (kin _ _ hof (by omega) G tc z p e s m args below meth c H locs cells slots ls hC hR hS hl2 hk1 hk2)
end XCALL
