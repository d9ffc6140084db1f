/-! THE ABSTRACT MACHINE: worlds are functions from places to typed cells; the cell of place p stands at address z + p; every method's contract (xM) and every point of a walk (xX) speaks of places alone. -/
abbrev xE : Type := Nat × (List Int32 ⊕ List Int64 ⊕ List (Option Nat) ⊕ List Value)
abbrev xW : Type := Nat → Option xE
abbrev xL : Type := List (Nat × Value)
def xv (z : Nat) : Value → Value
  | .ref p => .ref (z + p)
  | v => v
def xrf (z : Nat) : Option Nat → Value
  | none => .null
  | some p => .ref (z + p)
def xrv : Option Nat → Value
  | none => .null
  | some p => .ref p
theorem xv_rv (z : Nat) (o : Option Nat) : xv z (xrv o) = xrf z o := by cases o <;> rfl
theorem xv_cat (z : Nat) (v : Value) : (xv z v).category = v.category := by cases v <;> rfl
def xup (ws : xW) (p : Nat) (c : xE) : xW := fun q => if q = p then some c else ws q
theorem xup_self (ws : xW) (p : Nat) (c : xE) : xup ws p c p = some c := by simp [xup]
theorem xup_ne (ws : xW) {p q : Nat} (c : xE) (h : q ≠ p) : xup ws p c q = ws q := by simp [xup, h]
theorem xup_xup (ws : xW) (p : Nat) (c d : xE) : xup (xup ws p c) p d = xup ws p d := by
  funext q; by_cases h : q = p <;> simp [xup, h]
theorem xup_id {ws : xW} {p : Nat} {c : xE} (h : ws p = some c) : xup ws p c = ws := by
  funext q; by_cases hq : q = p
  · subst hq; simp [xup, h]
  · simp [xup, hq]
theorem xup_comm (ws : xW) {p q : Nat} (c d : xE) (h : p ≠ q) : xup (xup ws p c) q d = xup (xup ws q d) p c := by
  funext r; by_cases h1 : r = p <;> by_cases h2 : r = q <;> simp [xup, h1, h2]
  · subst h1; exact absurd h2 h
  · subst h1; simp [h]
  · subst h2; simp [Ne.symm h]
/-- a cell of the heap -/
def xat (G : va_G) (tc : Nat → ClassId) (z a : Nat) (c : xE) (H : Heap) : Prop := match c.2 with
  | .inl l => H[a]? = some (arrV (tc c.1) l.length (fun j => .int (l.getD j 0)))
  | .inr (.inl l) => H[a]? = some (arrV (tc c.1) l.length (fun j => .long (l.getD j 0)))
  | .inr (.inr (.inl l)) => H[a]? = some (arrV (tc c.1) l.length (fun j => xrf z (l.getD j none)))
  | .inr (.inr (.inr vs)) => ∃ r : vw_C, vwCl[c.1]? = some r ∧ vs.length = r.2.2 ∧ t_OB a (G.1 c.1) r.2.2 (G.2 c.1) H (fun k => xv z (vs.getD k .null))
def xR (G : va_G) (tc : Nat → ClassId) (z n : Nat) (ws : xW) (H : Heap) : Prop := H.size = z + n ∧ ∀ (p : Nat) (c : xE), ws p = some c → xat G tc z (z + p) c H
theorem xat.kept {G : va_G} {tc : Nat → ClassId} {z a : Nat} {c : xE} {H H1 : Heap} (h : xat G tc z a c H) (hq : H1[a]? = H[a]?) : xat G tc z a c H1 := by
  obtain ⟨k, l | l | l | vs⟩ := c
  · exact hq.trans h
  · exact hq.trans h
  · exact hq.trans h
  · obtain ⟨r, h1, h2, h3⟩ := h
    exact ⟨r, h1, h2, h3.kept hq⟩
theorem xat.lt {G : va_G} {tc : Nat → ClassId} {z a : Nat} {c : xE} {H : Heap} (h : xat G tc z a c H) : a < H.size := by
  obtain ⟨k, l | l | l | vs⟩ := c
  · exact (Array.getElem?_eq_some_iff.mp h).1
  · exact (Array.getElem?_eq_some_iff.mp h).1
  · exact (Array.getElem?_eq_some_iff.mp h).1
  · obtain ⟨r, h1, h2, cell, h3, -⟩ := h
    exact (Array.getElem?_eq_some_iff.mp h3).1
theorem xR.set {G : va_G} {tc : Nat → ClassId} {z n p : Nat} {ws : xW} {c : xE} {H H1 : Heap} (h : xR G tc z n ws H) (hs : H1.size = H.size) (hq : ∀ q : Nat, q ≠ z + p → H1[q]? = H[q]?) (hc : xat G tc z (z + p) c H1) : xR G tc z n (xup ws p c) H1 := by
  refine ⟨hs.trans h.1, fun q d hd => ?_⟩
  by_cases e : q = p
  · subst e
    rw [xup_self] at hd
    cases hd
    exact hc
  · rw [xup_ne _ _ e] at hd
    exact (h.2 q d hd).kept (hq (z + q) (by omega))
theorem xR.push {G : va_G} {tc : Nat → ClassId} {z n : Nat} {ws : xW} {c : xE} {H H1 : Heap} (h : xR G tc z n ws H) (hs : H1.size = H.size + 1) (hq : ∀ q : Nat, q < H.size → H1[q]? = H[q]?) (hc : xat G tc z H.size c H1) : xR G tc z (n + 1) (xup ws n c) H1 := by
  refine ⟨by rw [hs, h.1]; omega, fun q d hd => ?_⟩
  by_cases e : q = n
  · subst e
    rw [xup_self] at hd
    cases hd
    rw [h.1] at hc
    exact hc
  · rw [xup_ne _ _ e] at hd
    exact (h.2 q d hd).kept (hq _ (h.2 q d hd).lt)
/-- array classes by number: int, boolean, long, Way, WayList, Fraction -/
def xtys (tc : Nat → ClassId) : List (ClassId × FieldType) := [(tc 0, .int), (tc 1, .boolean), (tc 2, .long), (tc 3, .object RX6), (tc 4, .object RX7), (tc 5, .object RX2)]
def xAOs : List String := [RX6, RX7, RX2]
def xK (G : va_G) (tc : Nat → ClassId) (U : State) : Prop := va_K G vwCl (xtys tc) U ∧ (∀ C ∈ xAOs, va_AO C U) ∧ ∀ q ∈ xnest, va_Nw (.methodLinkNest q.1 q.2.1 q.2.2.1 q.2.2.2) U
theorem xK.warm {G : va_G} {tc : Nat → ClassId} {s U : State} (hW : s.WarmedH U.vm) (h : xK G tc s) : xK G tc U :=
  ⟨va_K.moved hW.alike h.1, fun C hC => va_AO.moved hW.alike (h.2.1 C hC), fun q hq => va_Nw.warmM hW (h.2.2 q hq)⟩
theorem xK.same {G : va_G} {tc : Nat → ClassId} {s U : State} (hv : s.vm = U.vm) (h : xK G tc s) : xK G tc U :=
  ⟨va_K.moved (by rw [hv]; exact Vm.Alike.refl U.vm) h.1, fun C hC => va_AO.moved (by rw [hv]; exact Vm.Alike.refl U.vm) (h.2.1 C hC), fun q hq => va_Nw.same rfl hv (h.2.2 q hq)⟩
def xws (t : xT) : List Cond := .code t.2.1 t.2.2.1 t.2.2.2.1 t.2.2.2.2 :: xTB
def xrm (d mc ms : Nat) : Room := { frames := d, cells := mc, slots := ms, locals := 48 * d }
abbrev xP : Type := Option Value → Nat → xW → Prop
def xQ (G : va_G) (tc : Nat → ClassId) (z : Nat) (Q : xP) : Array Value → State → Outcome → State → Prop := fun _ st o t => (∃ (r : Option Value) (n : Nat) (ws : xW), o = .returned (r.map (xv z)) ∧ Q r n ws ∧ xR G tc z n ws t.heap) ∧ va_F (fun q => z ≤ q) st t
/-- a method's contract at the world ws of n cells, depth d below it, mc cells of ms slots made -/
def xM (l : Launch) (t : xT) (d mc ms : Nat) (As : List Value) (n : Nat) (ws : xW) (Q : xP) : Prop := ∀ (G : va_G) (tc : Nat → ClassId) (z : Nat), Met l t.2.1 (xws t) (xrm d mc ms) (va_Pc (As.map (xv z)) (fun U => xR G tc z n ws U.heap ∧ xK G tc U)) (xQ G tc z Q) mc ms (fun q => z ≤ q)
def xC (t : xT) (G : va_G) (tc : Nat → ClassId) (z : Nat) (p : Program) (s : State) (m : MethodId) (args : Array Value) (meth : Method) (c : Code) : Prop :=
  p.tables.exec = Jvm.exec ∧ c.code = t.2.2.1 ∧ meth.sig.returnType = t.2.2.2.2 ∧ c.maxLocals = t.2.2.2.1 ∧ s.vm.findClass t.2.1.cls = some m.cls ∧ (∀ w ∈ xTB, w.before args s = true) ∧ meth.locks = false ∧ meth.name = t.2.1.name ∧ xK G tc s ∧ z ≤ s.heap.size
/-- a point of a walk: program counter, locals, stack, world; kc cells and ks slots may still be made -/
def xX (l : Launch) (t : xT) (d mc ms : Nat) (Q : xP) (kc ks pc : Nat) (L : xL) (st : List Value) (n : Nat) (ws : xW) : Prop :=
  ∀ (G : va_G) (tc : Nat → ClassId) (z : Nat) (p : Program) (e : Env) (s : State) (m : MethodId) (args : Array Value) (below : List Frame) (meth : Method) (c : Code) (H : Heap) (locs : List Loc) (cells slots : Nat) (ls : Array Slot),
    xC t G tc z p s m args meth c → xR G tc z n ws H → va_S (fun q => z ≤ q) s.heap H locs → lv_has ls t.2.2.2.1 (L.map fun q => (q.1, xv z q.2)) → cells + kc ≤ mc → slots + ks ≤ ms →
    W p l e (xrm d mc ms) s m args below meth c H locs cells slots (MQ below (xQ G tc z Q) args s mc ms (fun q => z ≤ q)) (F0 m pc ls (st.map (xv z)))
theorem xargs (z : Nat) : ∀ (vs : List Value) (i : Nat), lv_args i (vs.map (xv z)) = (lv_args i vs).map fun q => (q.1, xv z q.2)
  | [], i => rfl
  | v :: vs, i => by
    simp only [List.map_cons, lv_args, xv_cat]
    rw [xargs z vs]
theorem xsl_len (z : Nat) : ∀ (vs : List Value), (lg_sl (vs.map (xv z))).length = (lg_sl vs).length
  | [] => rfl
  | v :: vs => by
    have ih := xsl_len z vs
    simp only [lg_sl, List.map_cons, List.flatMap_cons, List.length_append, xv_cat] at ih ⊢
    by_cases h : v.category = 2
    · simp only [h, if_pos]; rw [ih]; rfl
    · simp only [if_neg h]; rw [ih]; rfl
theorem xM.of {l : Launch} {t : xT} {d mc ms : Nat} {As : List Value} {n : Nat} {ws : xW} {Q : xP} (hy : plainName t.2.1.cls = true) (hlen : (lg_sl As).length ≤ t.2.2.2.1) (h : xX l t d mc ms Q mc ms 0 (lv_args 0 As) [] n ws) : xM l t d mc ms As n ws Q := by
  intro G tc z
  refine Met.ofW (cc := t.2.2.1) (maxL := t.2.2.2.1) (ret := t.2.2.2.2) hy rfl ?_
  intro p e s m args below meth c s₁ B hml hv
  obtain ⟨rfl, hR, hK⟩ := hv
  have hts : ∀ w ∈ xws t, w.before _ s = true := atoms_spec (ws := xws t) B.pre
  have hown : s.vm.findClass t.2.1.cls = some m.cls := findClass_of_methodNamed B.named
  have hnm : meth.name = t.2.1.name := (name_of_methodNamed B.named B.method).1
  have hl := lv_entry (As.map (xv z)) (n := t.2.2.2.1) (by rw [xsl_len]; exact hlen)
  rw [lg_entry_eq]
  rw [xargs] at hl
  exact h G tc z p e s m _ below meth c s.heap [] 0 0 _ ⟨B.exec, B.bytes, B.returns, hml, hown, fun w hw => hts w (List.mem_cons_of_mem _ hw), B.notSynchronized, hnm, hK, by rw [hR.1]; exact Nat.le_add_right _ _⟩ hR va_S.rf hl (by omega) (by omega)
theorem xM.mono {l : Launch} {t : xT} {d mc ms : Nat} {As : List Value} {n : Nat} {ws : xW} {Q Q' : xP} (h : xM l t d mc ms As n ws Q) (hq : ∀ r k u, Q r k u → Q' r k u) : xM l t d mc ms As n ws Q' := by
  intro G tc z p e ha hc hk s m args below hf happ hP hK
  obtain ⟨k, o, h1, h2, h3, ⟨⟨r, n1, u, e1, e2, e3⟩, hF⟩, L, h5⟩ := h G tc z p e ha hc hk s m args below hf happ hP hK
  exact ⟨k, o, h1, h2, h3, ⟨⟨r, n1, u, e1, hq _ _ _ e2, e3⟩, hF⟩, L, h5⟩
/-! THE STEPS of the abstract machine -/
def xl (L : xL) (i : Nat) : Option Value := (L.find? (fun q => q.1 == i)).map (fun q => q.2)
def xst (L : xL) (i : Nat) (v : Value) : xL := (i, v) :: L.filter (fun q => !(q.1 == i) && !(q.1 + 1 == i && q.2.category == 2))
def xst2 (L : xL) (i : Nat) (v : Value) : xL := (i, v) :: L.filter (fun q => !(q.1 == i) && (!(q.1 == i + 1) && !(q.1 + 1 == i && q.2.category == 2)))
theorem xl_at {ls : Array Slot} {nL z i : Nat} {L : xL} {v : Value} (h : lv_has ls nL (L.map fun q => (q.1, xv z q.2))) (hv : xl L i = some v) : ls[i]? = some (.val (xv z v)) := by
  unfold xl at hv
  cases hf : L.find? (fun q => q.1 == i) with
  | none => rw [hf] at hv; cases hv
  | some q =>
    rw [hf] at hv
    cases hv
    have h1 := List.find?_some hf
    have h2 : q.1 = i := by simpa using h1
    have h3 := h.2.2 (q.1, xv z q.2) (List.mem_map.mpr ⟨q, List.mem_of_find?_eq_some hf, rfl⟩)
    rw [← h2]
    exact h3
theorem xst_map (z : Nat) (L : xL) (i : Nat) (v : Value) : (xst L i v).map (fun q => (q.1, xv z q.2)) = (i, xv z v) :: (L.map fun q => (q.1, xv z q.2)).filter (fun q => !(q.1 == i) && !(q.1 + 1 == i && q.2.category == 2)) := by
  simp only [xst, List.map_cons, List.filter_map]
  congr 2
  apply List.filter_congr
  intro q _
  simp [xv_cat]
theorem xst2_map (z : Nat) (L : xL) (i : Nat) (v : Value) : (xst2 L i v).map (fun q => (q.1, xv z q.2)) = (i, xv z v) :: (L.map fun q => (q.1, xv z q.2)).filter (fun q => !(q.1 == i) && (!(q.1 == i + 1) && !(q.1 + 1 == i && q.2.category == 2))) := by
  simp only [xst2, List.map_cons, List.filter_map]
  congr 2
  apply List.filter_congr
  intro q _
  simp [xv_cat]
def xcn (c : ClassFile.Cond) (x y : Int32) : Prop := match c with
  | .eq => x = y
  | .ne => ¬ x = y
  | .lt => x < y
  | .ge => y ≤ x
  | .gt => y < x
  | .le => x ≤ y
def xlen : Instr → Nat
  | .bipush _ => 2 | .sipush _ => 3 | .iload _ => 2 | .lload _ => 2 | .aload _ => 2 | .istore _ => 2 | .lstore _ => 2 | .astore _ => 2 | .iinc _ _ => 3
  | .ifCond _ _ => 3 | .if_icmp _ _ => 3 | .goto _ => 3 | .getfield _ => 3 | .putfield _ => 3 | .new _ => 3 | .newarray _ => 2 | .anewarray _ => 3
  | _ => 1
abbrev xO : Type := Instr × Nat × Nat
def xtgt (pc : Nat) (off : Int) : Nat := ((pc : Int) + off).toNat
def xret (rt : Option FieldType) (x : Int32) : Prop := match rt with
  | some .int => True
  | some .boolean => x = 0 ∨ x = 1
  | _ => False
/-- the kind of a field: 0 int, 1 long, 2 reference -/
def xfit (a b : Nat) (v : Value) : Prop := match v with
  | .int _ => xtc a b = 0
  | .long _ => xtc a b = 1
  | .ref _ => xtc a b = 2
  | _ => False
def xdf (a : Nat) : List Value := (xtcs.getD a []).map fun k => match k with | 0 => .int 0 | 1 => .long 0 | _ => .null
def xnk (t : ArrayType) : Option Nat := match t with | .int => some 0 | .boolean => some 1 | .long => some 2 | _ => none
abbrev xKt : Type := Nat → Nat → xL → List Value → Nat → xW → Prop
abbrev xXt : Type := Nat → Nat → Nat → xL → List Value → Nat → xW → Prop
def xs (X : xXt) (Q : xP) (rt : Option FieldType) (K : xKt) (op : xO) (pc kc ks : Nat) (L : xL) (st : List Value) (n : Nat) (ws : xW) : Prop :=
  match op.1 with
  | .iconst v => K kc ks L (.int (Int32.ofInt v) :: st) n ws
  | .bipush v => K kc ks L (.int (Int8.ofInt v).toInt32 :: st) n ws
  | .sipush v => K kc ks L (.int (Int16.ofInt v).toInt32 :: st) n ws
  | .lconst v => K kc ks L (.long (Int64.ofNat (v : Nat)) :: st) n ws
  | .iload_n i => match xl L i with | some (.int x) => K kc ks L (.int x :: st) n ws | _ => False
  | .iload i => match xl L i with | some (.int x) => K kc ks L (.int x :: st) n ws | _ => False
  | .lload_n i => match xl L i with | some (.long x) => K kc ks L (.long x :: st) n ws | _ => False
  | .lload i => match xl L i with | some (.long x) => K kc ks L (.long x :: st) n ws | _ => False
  | .aload_n i => match xl L i with | some (.ref x) => K kc ks L (.ref x :: st) n ws | _ => False
  | .aload i => match xl L i with | some (.ref x) => K kc ks L (.ref x :: st) n ws | _ => False
  | .istore_n i => match st with | .int x :: r => K kc ks (xst L i (.int x)) r n ws | _ => False
  | .istore i => match st with | .int x :: r => K kc ks (xst L i (.int x)) r n ws | _ => False
  | .lstore_n i => match st with | .long x :: r => K kc ks (xst2 L i (.long x)) r n ws | _ => False
  | .lstore i => match st with | .long x :: r => K kc ks (xst2 L i (.long x)) r n ws | _ => False
  | .astore_n i => match st with | .ref x :: r => K kc ks (xst L i (.ref x)) r n ws | _ => False
  | .astore i => match st with | .ref x :: r => K kc ks (xst L i (.ref x)) r n ws | _ => False
  | .iinc i v => match xl L i with | some (.int x) => K kc ks (xst L i (.int (x + Int32.ofInt v))) st n ws | _ => False
  | .iadd => match st with | .int y :: .int x :: r => K kc ks L (.int (x + y) :: r) n ws | _ => False
  | .isub => match st with | .int y :: .int x :: r => K kc ks L (.int (x - y) :: r) n ws | _ => False
  | .imul => match st with | .int y :: .int x :: r => K kc ks L (.int (x * y) :: r) n ws | _ => False
  | .iand => match st with | .int y :: .int x :: r => K kc ks L (.int (x &&& y) :: r) n ws | _ => False
  | .ior => match st with | .int y :: .int x :: r => K kc ks L (.int (x ||| y) :: r) n ws | _ => False
  | .ixor => match st with | .int y :: .int x :: r => K kc ks L (.int (x ^^^ y) :: r) n ws | _ => False
  | .ishl => match st with | .int y :: .int x :: r => K kc ks L (.int (x <<< (y &&& 31)) :: r) n ws | _ => False
  | .ishr => match st with | .int y :: .int x :: r => K kc ks L (.int (x >>> (y &&& 31)) :: r) n ws | _ => False
  | .ineg => match st with | .int x :: r => K kc ks L (.int (-x) :: r) n ws | _ => False
  | .ladd => match st with | .long y :: .long x :: r => K kc ks L (.long (x + y) :: r) n ws | _ => False
  | .lsub => match st with | .long y :: .long x :: r => K kc ks L (.long (x - y) :: r) n ws | _ => False
  | .lmul => match st with | .long y :: .long x :: r => K kc ks L (.long (x * y) :: r) n ws | _ => False
  | .ldiv => match st with | .long y :: .long x :: r => ¬ y = 0 ∧ K kc ks L (.long (x / y) :: r) n ws | _ => False
  | .lrem => match st with | .long y :: .long x :: r => ¬ y = 0 ∧ K kc ks L (.long (x - x / y * y) :: r) n ws | _ => False
  | .lcmp => match st with | .long y :: .long x :: r => K kc ks L (.int (lg_cmp x y) :: r) n ws | _ => False
  | .i2l => match st with | .int x :: r => K kc ks L (.long x.toInt64 :: r) n ws | _ => False
  | .l2i => match st with | .long x :: r => K kc ks L (.int x.toInt32 :: r) n ws | _ => False
  | .dup => match st with | v :: r => v.category = 1 ∧ K kc ks L (v :: v :: r) n ws | _ => False
  | .dup_x1 => match st with | v :: w :: r => v.category = 1 ∧ w.category = 1 ∧ K kc ks L (v :: w :: v :: r) n ws | _ => False
  | .dup2 => match st with | v :: w :: r => v.category = 1 ∧ w.category = 1 ∧ K kc ks L (v :: w :: v :: w :: r) n ws | _ => False
  | .ifCond c off => match st with | .int x :: r => (xcn c x 0 → X kc ks op.2.1 L r n ws) ∧ (¬ xcn c x 0 → K kc ks L r n ws) | _ => False
  | .if_icmp c off => match st with | .int y :: .int x :: r => (xcn c x y → X kc ks op.2.1 L r n ws) ∧ (¬ xcn c x y → K kc ks L r n ws) | _ => False
  | .goto off => X kc ks op.2.1 L st n ws
  | .ireturn => match st with | [.int x] => xret rt x ∧ Q (some (.int x)) n ws | _ => False
  | .lreturn => match st with | [.long x] => rt = some .long ∧ Q (some (.long x)) n ws | _ => False
  | .return_ => match st with | [] => rt = none ∧ Q none n ws | _ => False
  | .getfield _ => match st with
    | .ref p :: r => match ws p with
      | some (c, .inr (.inr (.inr vs))) => c = op.2.1 ∧ match vs[op.2.2]? with | some v => K kc ks L (v :: r) n ws | none => False
      | _ => False
    | _ => False
  | .putfield _ => match st with
    | v :: .ref p :: r => match ws p with
      | some (c, .inr (.inr (.inr vs))) => c = op.2.1 ∧ xfit op.2.1 op.2.2 v ∧ op.2.2 < vs.length ∧ K kc ks L r n (xup ws p (c, .inr (.inr (.inr (vs.set op.2.2 v)))))
      | _ => False
    | _ => False
  | .iaload => match st with
    | .int i :: .ref p :: r => match ws p with
      | some (c, .inl l) => c = 0 ∧ vp_in i l.length ∧ K kc ks L (.int (l.getD i.toNatClampNeg 0) :: r) n ws
      | _ => False
    | _ => False
  | .baload => match st with
    | .int i :: .ref p :: r => match ws p with
      | some (c, .inl l) => c = 1 ∧ vp_in i l.length ∧ K kc ks L (.int (l.getD i.toNatClampNeg 0) :: r) n ws
      | _ => False
    | _ => False
  | .laload => match st with
    | .int i :: .ref p :: r => match ws p with
      | some (c, .inr (.inl l)) => c = 2 ∧ vp_in i l.length ∧ K kc ks L (.long (l.getD i.toNatClampNeg 0) :: r) n ws
      | _ => False
    | _ => False
  | .aaload => match st with
    | .int i :: .ref p :: r => match ws p with
      | some (c, .inr (.inr (.inl l))) => (c = 3 ∨ c = 4 ∨ c = 5) ∧ vp_in i l.length ∧ K kc ks L (xrv (l.getD i.toNatClampNeg none) :: r) n ws
      | _ => False
    | _ => False
  | .iastore => match st with
    | .int x :: .int i :: .ref p :: r => match ws p with
      | some (c, .inl l) => c = 0 ∧ vp_in i l.length ∧ K kc ks L r n (xup ws p (c, .inl (l.set i.toNatClampNeg x)))
      | _ => False
    | _ => False
  | .bastore => match st with
    | .int x :: .int i :: .ref p :: r => match ws p with
      | some (c, .inl l) => c = 1 ∧ (x = 0 ∨ x = 1) ∧ vp_in i l.length ∧ K kc ks L r n (xup ws p (c, .inl (l.set i.toNatClampNeg x)))
      | _ => False
    | _ => False
  | .lastore => match st with
    | .long x :: .int i :: .ref p :: r => match ws p with
      | some (c, .inr (.inl l)) => c = 2 ∧ vp_in i l.length ∧ K kc ks L r n (xup ws p (c, .inr (.inl (l.set i.toNatClampNeg x))))
      | _ => False
    | _ => False
  | .aastore => match st with
    | .ref v :: .int i :: .ref p :: r => match ws p with
      | some (c, .inr (.inr (.inl l))) => (c = 3 ∨ c = 4 ∨ c = 5) ∧ vp_in i l.length ∧ (∃ vs, ws v = some (xelt c, .inr (.inr (.inr vs)))) ∧ K kc ks L r n (xup ws p (c, .inr (.inr (.inl (l.set i.toNatClampNeg (some v))))))
      | _ => False
    | _ => False
  | .arraylength => match st with
    | .ref p :: r => match ws p with
      | some (c, .inl l) => c = 0 ∧ K kc ks L (.int (Int32.ofNat l.length) :: r) n ws
      | _ => False
    | _ => False
  | .newarray t => match st with
    | .int k :: r => match xnk t with
      | some j => ¬ k < 0 ∧ k.toNatClampNeg ≤ 1000 ∧ 1 ≤ kc ∧ k.toNatClampNeg ≤ ks ∧ K (kc - 1) (ks - k.toNatClampNeg) L (.ref n :: r) (n + 1) (xup ws n (j, if j = 2 then .inr (.inl (List.replicate k.toNatClampNeg 0)) else .inl (List.replicate k.toNatClampNeg 0)))
      | none => False
    | _ => False
  | .anewarray _ => match st with
    | .int k :: r => ¬ k < 0 ∧ k.toNatClampNeg ≤ 1000 ∧ 1 ≤ kc ∧ k.toNatClampNeg ≤ ks ∧ K (kc - 1) (ks - k.toNatClampNeg) L (.ref n :: r) (n + 1) (xup ws n (op.2.1, .inr (.inr (.inl (List.replicate k.toNatClampNeg none)))))
    | _ => False
  | .new _ => 1 ≤ kc ∧ (xdf op.2.1).length ≤ ks ∧ K (kc - 1) (ks - (xdf op.2.1).length) L (.ref n :: st) (n + 1) (xup ws n (op.2.1, .inr (.inr (.inr (xdf op.2.1)))))
  | _ => False
/-- a stretch of instructions -/
def xb (X : xXt) (Q : xP) (rt : Option FieldType) : List xO → Nat → xKt
  | [], pc => fun kc ks L st n ws => X kc ks pc L st n ws
  | op :: r, pc => fun kc ks L st n ws => xs X Q rt (xb X Q rt r (pc + xlen op.1)) op pc kc ks L st n ws
/-- what a program looks at of an instruction: links of fields and classes, locals' bounds, targets -/
def xlk (o maxL : Nat) (ini : Bool) (pc : Nat) (op : xO) : Bool := match op.1 with
  | .istore_n i => decide ((i : Nat) < maxL)
  | .istore i => decide (i < maxL)
  | .lstore_n i => decide ((i : Nat) + 1 < maxL)
  | .lstore i => decide (i + 1 < maxL)
  | .astore_n i => decide ((i : Nat) < maxL)
  | .astore i => decide (i < maxL)
  | .iinc i _ => decide (i < maxL)
  | .ifCond _ off => decide ((pc : Int) + off = (op.2.1 : Int))
  | .if_icmp _ off => decide ((pc : Int) + off = (op.2.1 : Int))
  | .goto off => decide ((pc : Int) + off = (op.2.1 : Int))
  | .getfield idx => decide ((o, idx, op.2.1, op.2.2) ∈ xflt)
  | .putfield idx => decide ((o, idx, op.2.1, op.2.2) ∈ xflt) && (!xfin op.2.1 op.2.2 || (ini && decide (op.2.1 = o)))
  | .new idx => decide ((o, idx, op.2.1) ∈ xnwt)
  | .anewarray idx => decide ((o, idx, op.2.1) ∈ xant)
  | _ => true
def xchk (o maxL : Nat) (ini : Bool) (cc : ByteArray) : List xO → Nat → Bool
  | [], _ => true
  | op :: r, pc => decide (decode cc pc = .ok (op.1, xlen op.1)) && xlk o maxL ini pc op && xchk o maxL ini cc r (pc + xlen op.1)
section XS
variable {l : Launch} {t : xT} {d mc ms : Nat} {Q : xP}
theorem xfl_get {z : Nat} {vs : List Value} {k : Nat} {v : Value} (h : vs[k]? = some v) : xv z (vs.getD k .null) = xv z v := by
  rw [List.getD_eq_getElem?_getD, h]; rfl
theorem xgetI {l : List Int32} (i x : Nat) (v : Int32) (h : i < l.length) : (l.set i v).getD x 0 = if x = i then v else l.getD x 0 := by
  by_cases e : x = i
  · subst e; simp [List.getD_eq_getElem?_getD, h]
  · simp [List.getD_eq_getElem?_getD, e, List.getElem?_set_ne (Ne.symm e)]
theorem xgetL {l : List Int64} (i x : Nat) (v : Int64) (h : i < l.length) : (l.set i v).getD x 0 = if x = i then v else l.getD x 0 := by
  by_cases e : x = i
  · subst e; simp [List.getD_eq_getElem?_getD, h]
  · simp [List.getD_eq_getElem?_getD, e, List.getElem?_set_ne (Ne.symm e)]
theorem xgetO {l : List (Option Nat)} (i x : Nat) (v : Option Nat) (h : i < l.length) : (l.set i v).getD x none = if x = i then v else l.getD x none := by
  by_cases e : x = i
  · subst e; simp [List.getD_eq_getElem?_getD, h]
  · simp [List.getD_eq_getElem?_getD, e, List.getElem?_set_ne (Ne.symm e)]
theorem xgetV {l : List Value} (i x : Nat) (v : Value) (h : i < l.length) : (l.set i v).getD x .null = if x = i then v else l.getD x .null := by
  by_cases e : x = i
  · subst e; simp [List.getD_eq_getElem?_getD, h]
  · simp [List.getD_eq_getElem?_getD, e, List.getElem?_set_ne (Ne.symm e)]
theorem vp_lt {i : Int32} {n : Nat} (h : vp_in i n) : i.toNatClampNeg < n := Nat.not_le.mp fun q => h (Or.inr q)
theorem xtypI {G : va_G} {tc : Nat → ClassId} {s : State} (h : xK G tc s) (k : Nat) {ty : FieldType} (hk : (xtys tc)[k]? = some (tc k, ty)) : ArrOfT s (tc k) ty := (h.1.2 k _ hk).1
set_option maxHeartbeats 4000000 in
theorem xs_ok {op : xO} {pc kc ks n : Nat} {L : xL} {st : List Value} {ws : xW} (hcls : t.2.1.cls = xnm t.1) (hdec : decode t.2.2.1 pc = .ok (op.1, xlen op.1)) (hlk : xlk t.1 t.2.2.2.1 (t.2.1.name == "<init>") pc op = true)
    (X : xXt) (hXX : ∀ kc ks pc L st n ws, X kc ks pc L st n ws → xX l t d mc ms Q kc ks pc L st n ws) (K : xKt) (hKX : ∀ kc ks L st n ws, K kc ks L st n ws → xX l t d mc ms Q kc ks (pc + xlen op.1) L st n ws) (h : xs X Q t.2.2.2.2 K op pc kc ks L st n ws) : xX l t d mc ms Q kc ks pc L st n ws := by
  intro G tc z p e s m args below meth c H locs cells slots ls hC hR hS hl hk1 hk2
  obtain ⟨hx, hb, hr, hml, hown, hts, hlocks, hnm, hK, hz⟩ := id hC
  obtain ⟨i, a, b⟩ := op
  cases i
  case iconst v => exact lv_iconst hx hb hdec rfl (hKX _ _ _ _ _ _ h G tc z p e s m args below meth c H locs cells slots ls hC hR hS hl hk1 hk2)
  case bipush v => exact lv_bipush hx hb hdec rfl (hKX _ _ _ _ _ _ h G tc z p e s m args below meth c H locs cells slots ls hC hR hS hl hk1 hk2)
  case sipush v => exact lv_sipush hx hb hdec rfl (hKX _ _ _ _ _ _ h G tc z p e s m args below meth c H locs cells slots ls hC hR hS hl hk1 hk2)
  case lconst v => exact lv_lconst hx hb hdec rfl (hKX _ _ _ _ _ _ h G tc z p e s m args below meth c H locs cells slots ls hC hR hS hl hk1 hk2)
  case iload_n i =>
    dsimp only [xs] at h
    split at h
    · next x hv => exact lv_iload_n hx hb hdec rfl (xl_at hl hv) (hKX _ _ _ _ _ _ h G tc z p e s m args below meth c H locs cells slots ls hC hR hS hl hk1 hk2)
    · exact h.elim
  case iload i =>
    dsimp only [xs] at h
    split at h
    · next x hv => exact lv_iload hx hb hdec (xl_at hl hv) (hKX _ _ _ _ _ _ h G tc z p e s m args below meth c H locs cells slots ls hC hR hS hl hk1 hk2)
    · exact h.elim
  case lload_n i =>
    dsimp only [xs] at h
    split at h
    · next x hv => exact lv_lload_n hx hb hdec rfl (xl_at hl hv) (hKX _ _ _ _ _ _ h G tc z p e s m args below meth c H locs cells slots ls hC hR hS hl hk1 hk2)
    · exact h.elim
  case lload i =>
    dsimp only [xs] at h
    split at h
    · next x hv => exact lv_lload hx hb hdec (xl_at hl hv) (hKX _ _ _ _ _ _ h G tc z p e s m args below meth c H locs cells slots ls hC hR hS hl hk1 hk2)
    · exact h.elim
  case aload_n i =>
    dsimp only [xs] at h
    split at h
    · next x hv => exact lv_aload_n hx hb hdec rfl (xl_at hl hv) (hKX _ _ _ _ _ _ h G tc z p e s m args below meth c H locs cells slots ls hC hR hS hl hk1 hk2)
    · exact h.elim
  case aload i =>
    dsimp only [xs] at h
    split at h
    · next x hv => exact lv_aload hx hb hdec (xl_at hl hv) (hKX _ _ _ _ _ _ h G tc z p e s m args below meth c H locs cells slots ls hC hR hS hl hk1 hk2)
    · exact h.elim
  case istore_n i =>
    dsimp only [xs] at h
    split at h
    · next x r => exact lv_istore_n hx hb hdec rfl hl (of_decide_eq_true hlk) (xst_map z L i (.int x)).symm (fun ls hl => hKX _ _ _ _ _ _ h G tc z p e s m args below meth c H locs cells slots ls hC hR hS hl hk1 hk2)
    · exact h.elim
  case istore i =>
    dsimp only [xs] at h
    split at h
    · next x r => exact lv_istore hx hb hdec hl (of_decide_eq_true hlk) (xst_map z L i (.int x)).symm (fun ls hl => hKX _ _ _ _ _ _ h G tc z p e s m args below meth c H locs cells slots ls hC hR hS hl hk1 hk2)
    · exact h.elim
  case lstore_n i =>
    dsimp only [xs] at h
    split at h
    · next x r => exact lv_lstore_n hx hb hdec rfl hl (of_decide_eq_true hlk) (xst2_map z L i (.long x)).symm (fun ls hl => hKX _ _ _ _ _ _ h G tc z p e s m args below meth c H locs cells slots ls hC hR hS hl hk1 hk2)
    · exact h.elim
  case lstore i =>
    dsimp only [xs] at h
    split at h
    · next x r => exact lv_lstore hx hb hdec hl (of_decide_eq_true hlk) (xst2_map z L i (.long x)).symm (fun ls hl => hKX _ _ _ _ _ _ h G tc z p e s m args below meth c H locs cells slots ls hC hR hS hl hk1 hk2)
    · exact h.elim
  case astore_n i =>
    dsimp only [xs] at h
    split at h
    · next x r => exact lv_astore_n hx hb hdec rfl hl (of_decide_eq_true hlk) (xst_map z L i (.ref x)).symm (fun ls hl => hKX _ _ _ _ _ _ h G tc z p e s m args below meth c H locs cells slots ls hC hR hS hl hk1 hk2)
    · exact h.elim
  case astore i =>
    dsimp only [xs] at h
    split at h
    · next x r => exact lv_astore hx hb hdec hl (of_decide_eq_true hlk) (xst_map z L i (.ref x)).symm (fun ls hl => hKX _ _ _ _ _ _ h G tc z p e s m args below meth c H locs cells slots ls hC hR hS hl hk1 hk2)
    · exact h.elim
  case iinc i v =>
    dsimp only [xs] at h
    split at h
    · next x hv =>
      unfold xl at hv
      cases hf : L.find? (fun q => q.1 == i) with
      | none => rw [hf] at hv; cases hv
      | some q =>
        rw [hf] at hv
        obtain ⟨q1, q2⟩ := q
        cases hv
        have h2 : q1 = i := by simpa using List.find?_some hf
        subst h2
        obtain ⟨k, hk⟩ := List.getElem?_of_mem (List.mem_of_find?_eq_some hf)
        exact lv_iinc (k := k) hx hb hdec hl (by rw [List.getElem?_map, hk]; rfl) rfl (of_decide_eq_true hlk) (xst_map z L q1 (.int (x + Int32.ofInt v))).symm (fun ls hl => hKX _ _ _ _ _ _ h G tc z p e s m args below meth c H locs cells slots ls hC hR hS hl hk1 hk2)
    · exact h.elim
  case iadd =>
    dsimp only [xs] at h
    split at h
    · exact lv_iadd hx hb hdec (hKX _ _ _ _ _ _ h G tc z p e s m args below meth c H locs cells slots ls hC hR hS hl hk1 hk2)
    · exact h.elim
  case isub =>
    dsimp only [xs] at h
    split at h
    · exact lv_isub hx hb hdec (hKX _ _ _ _ _ _ h G tc z p e s m args below meth c H locs cells slots ls hC hR hS hl hk1 hk2)
    · exact h.elim
  case imul =>
    dsimp only [xs] at h
    split at h
    · exact lv_imul hx hb hdec (hKX _ _ _ _ _ _ h G tc z p e s m args below meth c H locs cells slots ls hC hR hS hl hk1 hk2)
    · exact h.elim
  case iand =>
    dsimp only [xs] at h
    split at h
    · exact lv_iand hx hb hdec (hKX _ _ _ _ _ _ h G tc z p e s m args below meth c H locs cells slots ls hC hR hS hl hk1 hk2)
    · exact h.elim
  case ior =>
    dsimp only [xs] at h
    split at h
    · exact lv_ior hx hb hdec (hKX _ _ _ _ _ _ h G tc z p e s m args below meth c H locs cells slots ls hC hR hS hl hk1 hk2)
    · exact h.elim
  case ixor =>
    dsimp only [xs] at h
    split at h
    · exact lv_ixor hx hb hdec (hKX _ _ _ _ _ _ h G tc z p e s m args below meth c H locs cells slots ls hC hR hS hl hk1 hk2)
    · exact h.elim
  case ishl =>
    dsimp only [xs] at h
    split at h
    · exact lv_ishl hx hb hdec (hKX _ _ _ _ _ _ h G tc z p e s m args below meth c H locs cells slots ls hC hR hS hl hk1 hk2)
    · exact h.elim
  case ishr =>
    dsimp only [xs] at h
    split at h
    · exact lv_ishr hx hb hdec (hKX _ _ _ _ _ _ h G tc z p e s m args below meth c H locs cells slots ls hC hR hS hl hk1 hk2)
    · exact h.elim
  case ineg =>
    dsimp only [xs] at h
    split at h
    · exact lv_ineg hx hb hdec (hKX _ _ _ _ _ _ h G tc z p e s m args below meth c H locs cells slots ls hC hR hS hl hk1 hk2)
    · exact h.elim
  case ladd =>
    dsimp only [xs] at h
    split at h
    · exact lv_ladd hx hb hdec (hKX _ _ _ _ _ _ h G tc z p e s m args below meth c H locs cells slots ls hC hR hS hl hk1 hk2)
    · exact h.elim
  case lsub =>
    dsimp only [xs] at h
    split at h
    · exact lv_lsub hx hb hdec (hKX _ _ _ _ _ _ h G tc z p e s m args below meth c H locs cells slots ls hC hR hS hl hk1 hk2)
    · exact h.elim
  case lmul =>
    dsimp only [xs] at h
    split at h
    · exact lv_lmul hx hb hdec (hKX _ _ _ _ _ _ h G tc z p e s m args below meth c H locs cells slots ls hC hR hS hl hk1 hk2)
    · exact h.elim
  case ldiv =>
    dsimp only [xs] at h
    split at h
    · exact lv_ldiv hx hb hdec h.1 (hKX _ _ _ _ _ _ h.2 G tc z p e s m args below meth c H locs cells slots ls hC hR hS hl hk1 hk2)
    · exact h.elim
  case lrem =>
    dsimp only [xs] at h
    split at h
    · exact lv_lrem hx hb hdec h.1 (hKX _ _ _ _ _ _ h.2 G tc z p e s m args below meth c H locs cells slots ls hC hR hS hl hk1 hk2)
    · exact h.elim
  case lcmp =>
    dsimp only [xs] at h
    split at h
    · exact W.lcmp hx hb hdec (hKX _ _ _ _ _ _ h G tc z p e s m args below meth c H locs cells slots ls hC hR hS hl hk1 hk2)
    · exact h.elim
  case i2l =>
    dsimp only [xs] at h
    split at h
    · exact lv_i2l hx hb hdec rfl (hKX _ _ _ _ _ _ h G tc z p e s m args below meth c H locs cells slots ls hC hR hS hl hk1 hk2)
    · exact h.elim
  case l2i =>
    dsimp only [xs] at h
    split at h
    · exact lv_l2i hx hb hdec rfl (hKX _ _ _ _ _ _ h G tc z p e s m args below meth c H locs cells slots ls hC hR hS hl hk1 hk2)
    · exact h.elim
  case dup =>
    dsimp only [xs] at h
    split at h
    · exact lv_dup hx hb hdec (by rw [xv_cat]; exact h.1) (hKX _ _ _ _ _ _ h.2 G tc z p e s m args below meth c H locs cells slots ls hC hR hS hl hk1 hk2)
    · exact h.elim
  case dup_x1 =>
    dsimp only [xs] at h
    split at h
    · exact lv_dup_x1 hx hb hdec (by rw [xv_cat]; exact h.1) (by rw [xv_cat]; exact h.2.1) (hKX _ _ _ _ _ _ h.2.2 G tc z p e s m args below meth c H locs cells slots ls hC hR hS hl hk1 hk2)
    · exact h.elim
  case dup2 =>
    dsimp only [xs] at h
    split at h
    · exact lv_dup2_11 hx hb hdec (by rw [xv_cat]; exact h.1) (by rw [xv_cat]; exact h.2.1) (hKX _ _ _ _ _ _ h.2.2 G tc z p e s m args below meth c H locs cells slots ls hC hR hS hl hk1 hk2)
    · exact h.elim
  case ifCond c0 off =>
    dsimp only [xs] at h
    split at h
    · have ht := of_decide_eq_true hlk
      cases c0
      · exact lv_if_eq hx hb hdec ht (fun q => hXX _ _ _ _ _ _ _ (h.1 q) G tc z p e s m args below meth c H locs cells slots ls hC hR hS hl hk1 hk2) (fun q => hKX _ _ _ _ _ _ (h.2 q) G tc z p e s m args below meth c H locs cells slots ls hC hR hS hl hk1 hk2)
      · exact lv_if_ne hx hb hdec ht (fun q => hXX _ _ _ _ _ _ _ (h.1 q) G tc z p e s m args below meth c H locs cells slots ls hC hR hS hl hk1 hk2) (fun q => hKX _ _ _ _ _ _ (h.2 (fun w => w q)) G tc z p e s m args below meth c H locs cells slots ls hC hR hS hl hk1 hk2)
      all_goals first | exact lv_if_lt hx hb hdec ht (fun q => hXX _ _ _ _ _ _ _ (h.1 q) G tc z p e s m args below meth c H locs cells slots ls hC hR hS hl hk1 hk2) (fun q => hKX _ _ _ _ _ _ (h.2 q) G tc z p e s m args below meth c H locs cells slots ls hC hR hS hl hk1 hk2) | exact lv_if_ge hx hb hdec ht (fun q => hXX _ _ _ _ _ _ _ (h.1 q) G tc z p e s m args below meth c H locs cells slots ls hC hR hS hl hk1 hk2) (fun q => hKX _ _ _ _ _ _ (h.2 q) G tc z p e s m args below meth c H locs cells slots ls hC hR hS hl hk1 hk2) | exact lv_if_gt hx hb hdec ht (fun q => hXX _ _ _ _ _ _ _ (h.1 q) G tc z p e s m args below meth c H locs cells slots ls hC hR hS hl hk1 hk2) (fun q => hKX _ _ _ _ _ _ (h.2 q) G tc z p e s m args below meth c H locs cells slots ls hC hR hS hl hk1 hk2) | exact lv_if_le hx hb hdec ht (fun q => hXX _ _ _ _ _ _ _ (h.1 q) G tc z p e s m args below meth c H locs cells slots ls hC hR hS hl hk1 hk2) (fun q => hKX _ _ _ _ _ _ (h.2 q) G tc z p e s m args below meth c H locs cells slots ls hC hR hS hl hk1 hk2)
    · exact h.elim
  case if_icmp c0 off =>
    dsimp only [xs] at h
    split at h
    · have ht := of_decide_eq_true hlk
      cases c0
      · exact lv_icmp_eq hx hb hdec ht (fun q => hXX _ _ _ _ _ _ _ (h.1 q) G tc z p e s m args below meth c H locs cells slots ls hC hR hS hl hk1 hk2) (fun q => hKX _ _ _ _ _ _ (h.2 q) G tc z p e s m args below meth c H locs cells slots ls hC hR hS hl hk1 hk2)
      · exact lv_icmp_ne hx hb hdec ht (fun q => hXX _ _ _ _ _ _ _ (h.1 q) G tc z p e s m args below meth c H locs cells slots ls hC hR hS hl hk1 hk2) (fun q => hKX _ _ _ _ _ _ (h.2 (fun w => w q)) G tc z p e s m args below meth c H locs cells slots ls hC hR hS hl hk1 hk2)
      all_goals first | exact lv_icmp_lt hx hb hdec ht (fun q => hXX _ _ _ _ _ _ _ (h.1 q) G tc z p e s m args below meth c H locs cells slots ls hC hR hS hl hk1 hk2) (fun q => hKX _ _ _ _ _ _ (h.2 q) G tc z p e s m args below meth c H locs cells slots ls hC hR hS hl hk1 hk2) | exact lv_icmp_ge hx hb hdec ht (fun q => hXX _ _ _ _ _ _ _ (h.1 q) G tc z p e s m args below meth c H locs cells slots ls hC hR hS hl hk1 hk2) (fun q => hKX _ _ _ _ _ _ (h.2 q) G tc z p e s m args below meth c H locs cells slots ls hC hR hS hl hk1 hk2) | exact lv_icmp_gt hx hb hdec ht (fun q => hXX _ _ _ _ _ _ _ (h.1 q) G tc z p e s m args below meth c H locs cells slots ls hC hR hS hl hk1 hk2) (fun q => hKX _ _ _ _ _ _ (h.2 q) G tc z p e s m args below meth c H locs cells slots ls hC hR hS hl hk1 hk2) | exact lv_icmp_le hx hb hdec ht (fun q => hXX _ _ _ _ _ _ _ (h.1 q) G tc z p e s m args below meth c H locs cells slots ls hC hR hS hl hk1 hk2) (fun q => hKX _ _ _ _ _ _ (h.2 q) G tc z p e s m args below meth c H locs cells slots ls hC hR hS hl hk1 hk2)
    · exact h.elim
  case goto off =>
    exact lv_goto hx hb hdec (of_decide_eq_true hlk) (hXX _ _ _ _ _ _ _ h G tc z p e s m args below meth c H locs cells slots ls hC hR hS hl hk1 hk2)
  case ireturn =>
    dsimp only [xs] at h
    split at h
    · next x =>
      refine W.widen (k := mc) (n := ms) (by omega) (by omega) ?_
      have hq : ∀ t' : State, t'.heap = H → s.WarmedH t'.vm → xQ G tc z Q args s (.returned (some (.int x))) t' := fun t' ht' hW => ⟨⟨some (.int x), n, ws, rfl, h.2, by rw [ht']; exact hR⟩, hS.F ht'⟩
      have h1 := h.1
      unfold xret at h1
      split at h1
      · next e1 => exact W.iret hx hb (by rw [hr]; exact e1) hq hS.2.2 hdec
      · next e1 => exact W.zret (ty := .boolean) hx hb (by rw [hr]; exact e1) (by rcases h1 with rfl | rfl <;> rfl) hq hS.2.2 hdec
      · exact h1.elim
    · exact h.elim
  case lreturn =>
    dsimp only [xs] at h
    split at h
    · next x =>
      refine W.widen (k := mc) (n := ms) (by omega) (by omega) ?_
      exact W.lret hx hb (by rw [hr]; exact h.1) (fun t' ht' hW => ⟨⟨some (.long x), n, ws, rfl, h.2, by rw [ht']; exact hR⟩, hS.F ht'⟩) hS.2.2 hdec
    · exact h.elim
  case return_ =>
    dsimp only [xs] at h
    split at h
    · refine W.widen (k := mc) (n := ms) (by omega) (by omega) ?_
      exact W.vret hx hb (by rw [hr]; exact h.1) (fun t' ht' hW => ⟨⟨none, n, ws, rfl, h.2, by rw [ht']; exact hR⟩, hS.F ht'⟩) hS.2.2 hdec
    · exact h.elim
  case getfield idx =>
    dsimp only [xs] at h
    split at h
    · next q r =>
      split at h
      · next c1 vs hw =>
        obtain ⟨rfl, h⟩ := h
        split at h
        · next v hv =>
          obtain ⟨ha, hb2, hlink⟩ := xflt_ok _ (of_decide_eq_true hlk)
          obtain ⟨C, T, N, ty, hc, hin, hty, hnm2, hlen, hk0, hC0, hins, hini, hdcl⟩ := xcls _ ha
          obtain ⟨rr, hrr, hvl, hob⟩ := hR.2 q _ hw
          cases hc.symm.trans hrr
          obtain ⟨cell, q1, q2, q3, q4⟩ := hob
          obtain ⟨hSl, hfc, kC, hkC, hkind⟩ := hK.1.1 _ _ hc
          have hbN : b < N := by rw [← hlen]; exact hb2
          obtain ⟨cf, kf, fi, f, hi, hsl⟩ := hSl b hbN
          have hli := hlink _ hc
          dsimp only at hli hi
          rw [hdcl b hbN] at hi
          refine W.getf hx hb (own := t.2.1.cls) hown (by rw [hcls]; exact hts _ hli) hi (u_facts hfc hkC (u_lays hts hin hbN) (by rw [hdcl b hbN]; exact hi)).1 q1 (by rw [q3]; exact fun h => by cases h) (v := xv z v) ?_ rfl rfl hdec (hKX _ _ _ _ _ _ h G tc z p e s m args below meth c H locs cells slots ls hC hR hS hl hk1 hk2)
          rw [hsl, q4 b hbN]
          congr 1
          exact xfl_get hv
        · exact h.elim
      · exact h.elim
    · exact h.elim
  case putfield idx =>
    dsimp only [xs] at h
    split at h
    · next v q r =>
      split at h
      · next c1 vs hw =>
        obtain ⟨rfl, hfit, hbl, h⟩ := h
        try dsimp only at hfit hbl h
        have hlk2 := Bool.and_eq_true_iff.mp hlk
        obtain ⟨ha, hb2, hlink⟩ := xflt_ok _ (of_decide_eq_true hlk2.1)
        obtain ⟨C, T, N, ty, hc, hin, hty, hnm2, hlen, hk0, hC0, hins, hini, hdcl⟩ := xcls _ ha
        obtain ⟨rr, hrr, hvl, hob⟩ := hR.2 q _ hw
        cases hc.symm.trans hrr
        obtain ⟨cell, q1, q2, q3, q4⟩ := hob
        have hap := va_apart (own := t.2.1.cls) hts hin ty hty hnm2 hK.1 hc
        obtain ⟨hSl, hfc, kC, hkC, hkind⟩ := hK.1.1 _ _ hc
        have hbN : b < N := by rw [← hlen]; exact hb2
        obtain ⟨cf, kf, fi, f, hi, hsl⟩ := hSl b hbN
        have hli := hlink _ hc
        dsimp only at hli hi
        have hst := (u_facts hfc hkC (u_lays hts hin hbN) hi).1
        have hnf : narrow (ty b) (xv z v) = xv z v ∧ fits (ty b) (xv z v) = true := by
          cases v with
          | int x =>
            rcases hk0 b hbN with ⟨e1, e2⟩ | ⟨e1, e2⟩ | ⟨e1, e2⟩
            · rw [e2]; exact ⟨rfl, rfl⟩
            · exact absurd (hfit.symm.trans e1) (by decide)
            · exact absurd (hfit.symm.trans e1) (by decide)
          | long x =>
            rcases hk0 b hbN with ⟨e1, e2⟩ | ⟨e1, e2⟩ | ⟨e1, e2⟩
            · exact absurd (hfit.symm.trans e1) (by decide)
            · rw [e2]; exact ⟨rfl, rfl⟩
            · exact absurd (hfit.symm.trans e1) (by decide)
          | ref x =>
            rcases hk0 b hbN with ⟨e1, e2⟩ | ⟨e1, e2⟩ | ⟨e1, e2⟩
            · exact absurd (hfit.symm.trans e1) (by decide)
            · exact absurd (hfit.symm.trans e1) (by decide)
            · rcases e2 with ⟨D, e2⟩ | ⟨D, e2⟩ <;> rw [e2] <;> exact ⟨rfl, rfl⟩
          | _ => exact hfit.elim
        have hsee : ∀ (H1 : Heap), H1[z + q]? = some (cell.setSlot (G.2 c1 b) (xv z v)) → xat G tc z (z + q) (c1, .inr (.inr (.inr (vs.set b v)))) H1 := by
          intro H1 e1
          refine ⟨_, hc, by rw [List.length_set]; exact hvl, ?_⟩
          refine t_OB.to ⟨_, e1, q2, q3, t_set q4 hap hbN (xv z v)⟩ (fun j hj => ?_)
          rw [xgetV _ _ _ hbl]
          by_cases ej : j = b <;> simp [updV, ej]
        by_cases hfin : (T b).2.2.2 = true
        · have hfi2 : xfin c1 b = true := by unfold xfin; rw [hc]; exact hfin
          have h2 := hlk2.2
          rw [hfi2] at h2
          simp only [Bool.not_true, Bool.false_or, Bool.and_eq_true, decide_eq_true_eq, beq_iff_eq] at h2
          have hlay := hts _ (hin _ (u_in_lay hbN))
          unfold u_lay at hlay
          rw [if_pos hfin] at hlay
          have hcf : m.cls = cf := by
            obtain ⟨_, _, c', _, _, _, -, -, hf', -, -, -, hown2, -⟩ := Cond.laysFinal_spec hlay
            have e1 : c' = cf := by have := hi.symm.trans hf'; simp at this; exact this.1.symm
            rw [hdcl b hbN, hC0, h2.2, ← hcls] at hown2
            rw [← e1]; exact Option.some.inj (hown.symm.trans hown2)
          have h6 := u_fits hfc hkC hkind (Or.inr hlay) hi (hty b hbN) hnf.1 hnf.2
          rw [hdcl b hbN] at hi
          refine W.putFinK hx hb hown (by rw [hcls]; exact hts _ hli) hi hst hcf (by rw [hnm]; exact h2.1) (by rw [q2]; exact h6) q1 q3 (by rw [hsl]; exact k2_hasslot (q4 b hbN)) rfl rfl hdec fun H1 e1 z1 oq => ?_
          rw [hsl] at e1 ⊢
          exact hKX _ _ _ _ _ _ h G tc z p e s m args below meth c H1 _ cells slots ls hC (hR.set z1 oq (hsee H1 e1)) (hS.put z1 oq (Nat.le_add_right _ _)) hl hk1 hk2
        · have hlay := hts _ (hin _ (u_in_lay hbN))
          unfold u_lay at hlay
          rw [if_neg hfin] at hlay
          have h6 := u_store hfc hkC hkind hlay hi (hty b hbN) hnf.1 hnf.2
          rw [hdcl b hbN] at hi
          refine W.putK hx hb (f := f) ⟨hown, (by rw [hcls]; exact hts _ hli), ⟨_, _, _, hi⟩, hst⟩ (by rw [q2]; exact h6) q1 q3 (by rw [hsl]; exact k2_hasslot (q4 b hbN)) rfl rfl hdec fun H1 e1 z1 oq => ?_
          rw [hsl] at e1 ⊢
          exact hKX _ _ _ _ _ _ h G tc z p e s m args below meth c H1 _ cells slots ls hC (hR.set z1 oq (hsee H1 e1)) (hS.put z1 oq (Nat.le_add_right _ _)) hl hk1 hk2
      · exact h.elim
    · exact h.elim
  case iaload =>
    dsimp only [xs] at h
    split at h
    · next i q r =>
      split at h
      · next c1 l1 hw =>
        obtain ⟨rfl, hin, h⟩ := h
        exact W.iald (v := .int (l1.getD i.toNatClampNeg 0)) hx hb (hR.2 q _ hw) (xtypI hK 0 rfl _ _) (fun q => by cases q) (by show ¬ (i < 0 ∨ (arrV _ _ _).slots.size ≤ _); rw [arrV_size]; exact hin) (by show (arrV _ _ _).slots[_]? = _; rw [arrV_read _ _ (vp_lt hin)]) rfl rfl hdec (hKX _ _ _ _ _ _ h G tc z p e s m args below meth c H locs cells slots ls hC hR hS hl hk1 hk2)
      · exact h.elim
    · exact h.elim
  case baload =>
    dsimp only [xs] at h
    split at h
    · next i q r =>
      split at h
      · next c1 l1 hw =>
        obtain ⟨rfl, hin, h⟩ := h
        exact W.zald (v := .int (l1.getD i.toNatClampNeg 0)) hx hb (hR.2 q _ hw) (xtypI hK 1 rfl _ _) (fun q => by cases q) (by show ¬ (i < 0 ∨ (arrV _ _ _).slots.size ≤ _); rw [arrV_size]; exact hin) (by show (arrV _ _ _).slots[_]? = _; rw [arrV_read _ _ (vp_lt hin)]) rfl rfl hdec (hKX _ _ _ _ _ _ h G tc z p e s m args below meth c H locs cells slots ls hC hR hS hl hk1 hk2)
      · exact h.elim
    · exact h.elim
  case laload =>
    dsimp only [xs] at h
    split at h
    · next i q r =>
      split at h
      · next c1 l1 hw =>
        obtain ⟨rfl, hin, h⟩ := h
        exact W.lald (v := .long (l1.getD i.toNatClampNeg 0)) hx hb (hR.2 q _ hw) (xtypI hK 2 rfl _ _) (fun q => by cases q) (by show ¬ (i < 0 ∨ (arrV _ _ _).slots.size ≤ _); rw [arrV_size]; exact hin) (by show (arrV _ _ _).slots[_]? = _; rw [arrV_read _ _ (vp_lt hin)]) rfl rfl hdec (hKX _ _ _ _ _ _ h G tc z p e s m args below meth c H locs cells slots ls hC hR hS hl hk1 hk2)
      · exact h.elim
    · exact h.elim
  case aaload =>
    dsimp only [xs] at h
    split at h
    · next i q r =>
      split at h
      · next c1 l1 hw =>
        obtain ⟨hc1, hin, h⟩ := h
        obtain ⟨D, hD⟩ : ∃ D : String, ArrOfT s (tc c1) (.object D) := by
          rcases hc1 with rfl | rfl | rfl
          · exact ⟨_, xtypI hK 3 rfl⟩
          · exact ⟨_, xtypI hK 4 rfl⟩
          · exact ⟨_, xtypI hK 5 rfl⟩
        exact W.aald (v := xrf z (l1.getD i.toNatClampNeg none)) (ty := .object D) hx hb (hR.2 q _ hw) (hD _ _) rfl (fun q => by cases q) (by show ¬ (i < 0 ∨ (arrV _ _ _).slots.size ≤ _); rw [arrV_size]; exact hin) (by show (arrV _ _ _).slots[_]? = _; rw [arrV_read _ _ (vp_lt hin)]) rfl rfl hdec (by rw [← xv_rv]; exact hKX _ _ _ _ _ _ h G tc z p e s m args below meth c H locs cells slots ls hC hR hS hl hk1 hk2)
      · exact h.elim
    · exact h.elim
  case iastore =>
    dsimp only [xs] at h
    split at h
    · next x i q r =>
      split at h
      · next c1 l1 hw =>
        obtain ⟨rfl, hin, h⟩ := h
        refine W.iast hx hb (hR.2 q _ hw) (xtypI hK 0 rfl _ _) (fun q => by cases q) (by show ¬ (i < 0 ∨ (arrV _ _ _).slots.size ≤ _); rw [arrV_size]; exact hin) rfl rfl hdec fun H1 e1 z1 oq => ?_
        refine hKX _ _ _ _ _ _ h G tc z p e s m args below meth c H1 _ cells slots ls hC (hR.set z1 oq ?_) (hS.put z1 oq (Nat.le_add_right _ _)) hl hk1 hk2
        show H1[z + q]? = _
        rw [e1, arrV_store, List.length_set]
        congr 2
        funext j
        rw [xgetI _ _ _ (vp_lt hin)]
        by_cases ej : j = i.toNatClampNeg <;> simp [updV, ej]
      · exact h.elim
    · exact h.elim
  case bastore =>
    dsimp only [xs] at h
    split at h
    · next x i q r =>
      split at h
      · next c1 l1 hw =>
        obtain ⟨rfl, hx01, hin, h⟩ := h
        refine W.zast hx hb (hR.2 q _ hw) (xtypI hK 1 rfl _ _) (fun q => by cases q) (by show ¬ (i < 0 ∨ (arrV _ _ _).slots.size ≤ _); rw [arrV_size]; exact hin) rfl rfl hdec fun H1 e1 z1 oq => ?_
        refine hKX _ _ _ _ _ _ h G tc z p e s m args below meth c H1 _ cells slots ls hC (hR.set z1 oq ?_) (hS.put z1 oq (Nat.le_add_right _ _)) hl hk1 hk2
        show H1[z + q]? = _
        have hn : narrow .boolean (.int x) = .int x := by rcases hx01 with rfl | rfl <;> rfl
        rw [e1, hn, arrV_store, List.length_set]
        congr 2
        funext j
        rw [xgetI _ _ _ (vp_lt hin)]
        by_cases ej : j = i.toNatClampNeg <;> simp [updV, ej]
      · exact h.elim
    · exact h.elim
  case lastore =>
    dsimp only [xs] at h
    split at h
    · next x i q r =>
      split at h
      · next c1 l1 hw =>
        obtain ⟨rfl, hin, h⟩ := h
        refine W.last hx hb (hR.2 q _ hw) (xtypI hK 2 rfl _ _) (fun q => by cases q) (by show ¬ (i < 0 ∨ (arrV _ _ _).slots.size ≤ _); rw [arrV_size]; exact hin) rfl rfl hdec fun H1 e1 z1 oq => ?_
        refine hKX _ _ _ _ _ _ h G tc z p e s m args below meth c H1 _ cells slots ls hC (hR.set z1 oq ?_) (hS.put z1 oq (Nat.le_add_right _ _)) hl hk1 hk2
        show H1[z + q]? = _
        rw [e1, arrV_store, List.length_set]
        congr 2
        funext j
        rw [xgetL _ _ _ (vp_lt hin)]
        by_cases ej : j = i.toNatClampNeg <;> simp [updV, ej]
      · exact h.elim
    · exact h.elim
  case aastore =>
    dsimp only [xs] at h
    split at h
    · next v i q r =>
      split at h
      · next c1 l1 hw =>
        obtain ⟨hc1, hin, ⟨vs, hv⟩, h⟩ := h
        obtain ⟨rr, hrr, -, cellV, g1, g2, g3, -⟩ := hR.2 v _ hv
        have hcl := (hK.1.1 _ _ hrr).2
        obtain ⟨kC, hkC, -⟩ := hcl.2
        obtain ⟨kA, k1, k2⟩ : ∃ kA : Class, s.vm.classes[tc c1]? = some kA ∧ kA.kind = .array (G.1 (xelt c1)) (.object rr.1) := by
          rcases hc1 with rfl | rfl | rfl
          · obtain ⟨kA, comp, k1, k2, k3, -⟩ := (hK.1.2 3 _ rfl).2
            cases hrr
            have : comp = G.1 (xelt 3) := Option.some.inj (k3.symm.trans hcl.1)
            subst this
            exact ⟨kA, k1, k2⟩
          · obtain ⟨kA, comp, k1, k2, k3, -⟩ := (hK.1.2 4 _ rfl).2
            cases hrr
            have : comp = G.1 (xelt 4) := Option.some.inj (k3.symm.trans hcl.1)
            subst this
            exact ⟨kA, k1, k2⟩
          · obtain ⟨kA, comp, k1, k2, k3, -⟩ := (hK.1.2 5 _ rfl).2
            cases hrr
            have : comp = G.1 (xelt 5) := Option.some.inj (k3.symm.trans hcl.1)
            subst this
            exact ⟨kA, k1, k2⟩
        have h0 : ¬ i < 0 := fun q => hin (Or.inl q)
        refine W.aast hx hb (hR.2 q _ hw) (fun q h => by cases h) (fun h => by cases h) k1 k2 rfl hkC ⟨h0, by show _ < (arrV _ _ _).slots.size; rw [arrV_size]; exact vp_lt hin⟩ g1 (fun q h => by rw [g3] at h; cases h) (by rw [g2]; exact hkC) (by rw [g2]; exact va_assign hcl) rfl rfl hdec fun H1 e1 z1 oq => ?_
        refine hKX _ _ _ _ _ _ h G tc z p e s m args below meth c H1 _ cells slots ls hC (hR.set z1 oq ?_) (hS.put z1 oq (Nat.le_add_right _ _)) hl hk1 hk2
        show H1[z + q]? = _
        rw [e1, arrV_store, List.length_set]
        congr 2
        funext j
        rw [xgetO _ _ _ (vp_lt hin)]
        by_cases ej : j = i.toNatClampNeg <;> simp [updV, ej, xrf]
      · exact h.elim
    · exact h.elim
  case arraylength =>
    dsimp only [xs] at h
    split at h
    · next q r =>
      split at h
      · next c1 l1 hw =>
        obtain ⟨rfl, h⟩ := h
        exact W.alen (n := Int32.ofNat l1.length) hx hb (hR.2 q _ hw) (xtypI hK 0 rfl _ _) (by rw [arrV_size]) rfl rfl hdec (hKX _ _ _ _ _ _ h G tc z p e s m args below meth c H locs cells slots ls hC hR hS hl hk1 hk2)
      · exact h.elim
    · exact h.elim
  case newarray ty =>
    dsimp only [xs] at h
    split at h
    · next k r =>
      split at h
      · next j hj =>
        obtain ⟨hk, hk0, hc1, hs1, h⟩ := h
        have key : ∀ (FT : FieldType) (f : Nat → Value), newarray.typeOf ty = FT → (xtys tc)[j]? = some (tc j, FT) → Cond.arrayClass FT ∈ xTB → va_RA s (tc j) FT → (s.vm.findClass ("[" ++ FT.toString) = some (tc j)) → componentBytes FT ≤ 8 → (∀ (H1 : Heap), H1[z + n]? = some (arrV (tc j) k.toNatClampNeg (fun _ => defaultValue FT)) → xat G tc z (z + n) (j, if j = 2 then .inr (.inl (List.replicate k.toNatClampNeg 0)) else .inl (List.replicate k.toNatClampNeg 0)) H1) → W p l e (xrm d mc ms) s m args below meth c H locs cells slots (MQ below (xQ G tc z Q) args s mc ms (fun q => z ≤ q)) (F0 m pc ls (List.map (xv z) (.int k :: r))) := by
          intro FT f hFT htys hac hRA hfind hcb hat
          subst hFT
          refine va_newaK hx hb (hts _ hac) rfl hdec rfl hk rfl (by have := Nat.mul_le_mul hk0 hcb; omega) (by show cells + 1 ≤ mc; omega) (by show slots + _ ≤ ms; omega) rfl fun H1 cA e1 z1 o1 hAr hNm => ?_
          have hcA : cA = tc j := Option.some.inj (hNm.symm.trans hfind)
          subst hcA
          rw [hR.1] at e1
          have := hKX _ _ _ _ _ _ h G tc z p e s m args below meth c H1 locs (cells + 1) (slots + k.toNatClampNeg) ls hC (hR.push z1 o1 (by rw [hR.1]; exact hat H1 e1)) ⟨Nat.le_trans hS.1 (by omega), fun q h1 h2 => (o1 q (Nat.lt_of_lt_of_le h1 hS.1)).trans (hS.2.1 q h1 h2), hS.2.2⟩ hl (by omega) (by omega)
          rw [show H.size = z + n from hR.1]
          exact this
        have hrep : ∀ (a : Nat), (fun j => Value.int ((List.replicate a (0 : Int32)).getD j 0)) = fun _ => Value.int 0 := by
          intro a; funext j; by_cases hj : j < a <;> simp [List.getD_eq_getElem?_getD, List.getElem?_replicate, hj]
        have hrepL : ∀ (a : Nat), (fun j => Value.long ((List.replicate a (0 : Int64)).getD j 0)) = fun _ => Value.long 0 := by
          intro a; funext j; by_cases hj : j < a <;> simp [List.getD_eq_getElem?_getD, List.getElem?_replicate, hj]
        cases ty <;> first | (cases hj; done) | skip
        · cases hj
          exact key .boolean (fun _ => .int 0) rfl rfl xac_boolean (hK.1.2 1 _ rfl).2 (hK.1.2 1 _ rfl).2 (by decide) (fun H1 e1 => by
            show H1[z + n]? = some (arrV (tc 1) (List.replicate k.toNatClampNeg (0 : Int32)).length (fun j => Value.int ((List.replicate k.toNatClampNeg (0 : Int32)).getD j 0)))
            rw [e1, hrep, List.length_replicate]; rfl)
        · cases hj
          exact key .int (fun _ => .int 0) rfl rfl xac_int (hK.1.2 0 _ rfl).2 (hK.1.2 0 _ rfl).2 (by decide) (fun H1 e1 => by
            show H1[z + n]? = some (arrV (tc 0) (List.replicate k.toNatClampNeg (0 : Int32)).length (fun j => Value.int ((List.replicate k.toNatClampNeg (0 : Int32)).getD j 0)))
            rw [e1, hrep, List.length_replicate]; rfl)
        · cases hj
          exact key .long (fun _ => .long 0) rfl rfl xac_long (hK.1.2 2 _ rfl).2 (hK.1.2 2 _ rfl).2 (by decide) (fun H1 e1 => by
            show H1[z + n]? = some (arrV (tc 2) (List.replicate k.toNatClampNeg (0 : Int64)).length (fun j => Value.long ((List.replicate k.toNatClampNeg (0 : Int64)).getD j 0)))
            rw [e1, hrepL, List.length_replicate]; rfl)
      · exact h.elim
    · exact h.elim
  case anewarray idx =>
    dsimp only [xs] at h
    split at h
    · next k r =>
      obtain ⟨hk, hk0, hc1, hs1, h⟩ := h
      obtain ⟨hk3, hlink⟩ := xant_ok _ (of_decide_eq_true hlk)
      try dsimp only at hk3 hlink
      have hao : va_AO (xnm (xelt a)) s := by
        rcases hk3 with e | e | e <;> rw [e] <;> exact hK.2.1 _ (by decide +kernel)
      have hfind : s.vm.findClass ("[" ++ (FieldType.object (xnm (xelt a))).toString) = some (tc a) := by
        rcases hk3 with e | e | e <;> rw [e]
        · obtain ⟨kA, comp, k1, k2, k3, k4⟩ := (hK.1.2 3 _ rfl).2; exact k4
        · obtain ⟨kA, comp, k1, k2, k3, k4⟩ := (hK.1.2 4 _ rfl).2; exact k4
        · obtain ⟨kA, comp, k1, k2, k3, k4⟩ := (hK.1.2 5 _ rfl).2; exact k4
      refine W.anew hx hb hown (by rw [hcls]; exact hts _ hlink) (va_AO.use hao) rfl hdec rfl hk (by omega) (by show cells + 1 ≤ mc; omega) (by show slots + _ ≤ ms; omega) fun cA kA comp f1 f2 f3 f4 => ?_
      have hcA : cA = tc a := Option.some.inj (f1.symm.trans hfind)
      subst hcA
      generalize hH1 : H.push ({ cls := tc a, slots := Array.replicate k.toNatClampNeg .null, vm := .none } : Cell) = H1
      have z1 : H1.size = H.size + 1 := by rw [← hH1, Array.size_push]
      have e1 : H1[H.size]? = some (arrV (tc a) k.toNatClampNeg (fun _ => .null)) := by rw [← hH1, Array.getElem?_push_size, ← arrV_new]
      have o1 : ∀ q : Nat, q < H.size → H1[q]? = H[q]? := fun q hq => by rw [← hH1, Array.getElem?_push, if_neg (Nat.ne_of_lt hq)]
      have hrep : (fun j => xrf z ((List.replicate k.toNatClampNeg (none : Option Nat)).getD j none)) = fun _ => Value.null := by
        funext j; by_cases hj : j < k.toNatClampNeg <;> simp [List.getD_eq_getElem?_getD, List.getElem?_replicate, hj, xrf]
      have := hKX _ _ _ _ _ _ h G tc z p e s m args below meth c H1 locs (cells + 1) (slots + k.toNatClampNeg) ls hC (hR.push z1 o1 (by
        show H1[H.size]? = some (arrV (tc a) (List.replicate k.toNatClampNeg (none : Option Nat)).length (fun j => xrf z ((List.replicate k.toNatClampNeg (none : Option Nat)).getD j none)))
        rw [e1, hrep, List.length_replicate])) ⟨Nat.le_trans hS.1 (by omega), fun q h1 h2 => (o1 q (Nat.lt_of_lt_of_le h1 hS.1)).trans (hS.2.1 q h1 h2), hS.2.2⟩ hl (by omega) (by omega)
      rw [show H.size = z + n from hR.1]
      exact this
    · exact h.elim
  case new idx =>
    obtain ⟨hc1, hs1, h⟩ := h
    obtain ⟨ha, hlink⟩ := xnwt_ok _ (of_decide_eq_true hlk)
    try dsimp only at ha hlink hs1 h
    obtain ⟨C, T, N, ty, hc, hin, hty, hnm2, hlen, hk0, hC0, hins, hini, hdcl⟩ := xcls _ ha
    have hKn := hK.1.1 _ _ hc
    have hxl : (xdf a).length = N := by rw [← hlen]; simp [xdf]
    rw [hxl] at hs1 h
    refine W.newcK hx hb hown (by rw [hcls, hC0]; exact hts _ hlink) (hts _ hins) (hts _ hini) rfl hdec (by show cells + 1 ≤ mc; omega) (by show slots + N ≤ ms; omega) hKn.2.1 rfl fun H1 kC hkC e1 z1 o1 => ?_
    have hbo := u_born ty hts hin hKn hkC e1 hty
    have := hKX _ _ _ _ _ _ h G tc z p e s m args below meth c H1 locs (cells + 1) (slots + N) ls hC (hR.push z1 o1 ⟨_, hc, hxl, hbo.to (fun k hk => by
      have hxt : (xdf a).getD k .null = match xtc a k with | 0 => Value.int 0 | 1 => Value.long 0 | _ => Value.null := by
        have hk2 : k < (xtcs.getD a []).length := by rw [hlen]; exact hk
        unfold xdf xtc
        rw [List.getD_eq_getElem?_getD, List.getElem?_map, List.getD_eq_getElem?_getD (l := xtcs.getD a []), List.getElem?_eq_getElem hk2]
        rfl
      show defaultValue (ty k) = xv z ((xdf a).getD k .null)
      rw [hxt]
      rcases hk0 k hk with ⟨e1, e2⟩ | ⟨e1, e2⟩ | ⟨e1, e2⟩
      · rw [e1, e2]; rfl
      · rw [e1, e2]; rfl
      · rw [e1]; rcases e2 with ⟨D, e2⟩ | ⟨D, e2⟩ <;> rw [e2] <;> rfl)⟩) ⟨Nat.le_trans hS.1 (by omega), fun q h1 h2 => (o1 q (Nat.lt_of_lt_of_le h1 hS.1)).trans (hS.2.1 q h1 h2), hS.2.2⟩ hl (by omega) (by omega)
    rw [show H.size = z + n from hR.1]
    exact this
  all_goals exact h.elim
theorem xgoX (hcls : t.2.1.cls = xnm t.1) (X : xXt) (hXX : ∀ kc ks pc L st n ws, X kc ks pc L st n ws → xX l t d mc ms Q kc ks pc L st n ws) : ∀ (ops : List xO) (pc kc ks : Nat) (L : xL) (st : List Value) (n : Nat) (ws : xW), xchk t.1 t.2.2.2.1 (t.2.1.name == "<init>") t.2.2.1 ops pc = true → xb X Q t.2.2.2.2 ops pc kc ks L st n ws → xX l t d mc ms Q kc ks pc L st n ws
  | [], pc, kc, ks, L, st, n, ws, _, h => hXX _ _ _ _ _ _ _ h
  | op :: r, pc, kc, ks, L, st, n, ws, hc, h => by
    have h1 := Bool.and_eq_true_iff.mp hc
    have h2 := Bool.and_eq_true_iff.mp h1.1
    exact xs_ok hcls (of_decide_eq_true h2.1) h2.2 X hXX _ (fun kc ks L st n ws q => xgoX hcls X hXX r _ kc ks L st n ws h1.2 q) h
/-- the block of a table at a program counter -/
def xlook (T : List (Nat × List xO)) (pc : Nat) : Option (List xO) := match T with
  | [] => none
  | (a, o) :: T => if a = pc then some o else xlook T pc
/-- several blocks: a table of blocks, as many as k in a row -/
def xN (T : List (Nat × List xO)) (B : xXt) (Q : xP) (rt : Option FieldType) : Nat → xXt
  | 0 => B
  | k + 1 => fun kc ks pc L st n ws => match xlook T pc with
    | some ops => xb (xN T B Q rt k) Q rt ops pc kc ks L st n ws
    | none => B kc ks pc L st n ws
def xTok (t : xT) (T : List (Nat × List xO)) : Bool := T.all fun q => xchk t.1 t.2.2.2.1 (t.2.1.name == "<init>") t.2.2.1 q.2 q.1
theorem xlook_in {pc : Nat} {o : List xO} : ∀ {T : List (Nat × List xO)}, xlook T pc = some o → (pc, o) ∈ T
  | [], h => by cases h
  | (a, o2) :: T, h => by
    unfold xlook at h
    by_cases e : a = pc
    · rw [if_pos e] at h; cases h; subst e; exact List.mem_cons_self
    · rw [if_neg e] at h; exact List.mem_cons_of_mem _ (xlook_in h)
theorem xN_ok (hcls : t.2.1.cls = xnm t.1) {T : List (Nat × List xO)} (hT : xTok t T = true) : ∀ (k kc ks pc : Nat) (L : xL) (st : List Value) (n : Nat) (ws : xW), xN T (xX l t d mc ms Q) Q t.2.2.2.2 k kc ks pc L st n ws → xX l t d mc ms Q kc ks pc L st n ws
  | 0, kc, ks, pc, L, st, n, ws, h => h
  | k + 1, kc, ks, pc, L, st, n, ws, h => by
    unfold xN at h
    split at h
    · next ops ho => exact xgoX hcls _ (fun kc ks pc L st n ws q => xN_ok hcls hT k kc ks pc L st n ws q) ops pc kc ks L st n ws (List.all_eq_true.mp hT _ (xlook_in ho)) h
    · exact h
end XS
