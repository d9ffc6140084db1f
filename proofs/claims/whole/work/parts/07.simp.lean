/-- the int of an integer -/
def I (x : Int) : Int32 := Int32.ofInt x
theorem x_iconst {X : xXt} {Q : xP} {rt : Option FieldType} {K : xKt} {a b pc kc ks n : Nat} {L : xL} {ws : xW} {st r : List Value} {v : Int} : xs X Q rt K (.iconst v, a, b) pc kc ks L st n ws = (K kc ks L (.int (I v) :: st) n ws) := rfl
theorem x_bipush {X : xXt} {Q : xP} {rt : Option FieldType} {K : xKt} {a b pc kc ks n : Nat} {L : xL} {ws : xW} {st r : List Value} {v : Int} : xs X Q rt K (.bipush v, a, b) pc kc ks L st n ws = (K kc ks L (.int (Int8.ofInt v).toInt32 :: st) n ws) := rfl
theorem x_sipush {X : xXt} {Q : xP} {rt : Option FieldType} {K : xKt} {a b pc kc ks n : Nat} {L : xL} {ws : xW} {st r : List Value} {v : Int} : xs X Q rt K (.sipush v, a, b) pc kc ks L st n ws = (K kc ks L (.int (Int16.ofInt v).toInt32 :: st) n ws) := rfl
theorem x_lconst {X : xXt} {Q : xP} {rt : Option FieldType} {K : xKt} {a b pc kc ks n : Nat} {L : xL} {ws : xW} {st r : List Value} {v : Fin 2} : xs X Q rt K (.lconst v, a, b) pc kc ks L st n ws = (K kc ks L (.long (Int64.ofNat (v : Nat)) :: st) n ws) := rfl
theorem x_iload_n {X : xXt} {Q : xP} {rt : Option FieldType} {K : xKt} {a b pc kc ks n : Nat} {L : xL} {ws : xW} {st r : List Value} {i : Fin 4} : xs X Q rt K (.iload_n i, a, b) pc kc ks L st n ws = (match xl L i with | some (.int x) => K kc ks L (.int x :: st) n ws | _ => False) := rfl
theorem x_iload {X : xXt} {Q : xP} {rt : Option FieldType} {K : xKt} {a b pc kc ks n : Nat} {L : xL} {ws : xW} {st r : List Value} {i : Nat} : xs X Q rt K (.iload i, a, b) pc kc ks L st n ws = (match xl L i with | some (.int x) => K kc ks L (.int x :: st) n ws | _ => False) := rfl
theorem x_lload_n {X : xXt} {Q : xP} {rt : Option FieldType} {K : xKt} {a b pc kc ks n : Nat} {L : xL} {ws : xW} {st r : List Value} {i : Fin 4} : xs X Q rt K (.lload_n i, a, b) pc kc ks L st n ws = (match xl L i with | some (.long x) => K kc ks L (.long x :: st) n ws | _ => False) := rfl
theorem x_lload {X : xXt} {Q : xP} {rt : Option FieldType} {K : xKt} {a b pc kc ks n : Nat} {L : xL} {ws : xW} {st r : List Value} {i : Nat} : xs X Q rt K (.lload i, a, b) pc kc ks L st n ws = (match xl L i with | some (.long x) => K kc ks L (.long x :: st) n ws | _ => False) := rfl
theorem x_aload_n {X : xXt} {Q : xP} {rt : Option FieldType} {K : xKt} {a b pc kc ks n : Nat} {L : xL} {ws : xW} {st r : List Value} {i : Fin 4} : xs X Q rt K (.aload_n i, a, b) pc kc ks L st n ws = (match xl L i with | some (.ref x) => K kc ks L (.ref x :: st) n ws | _ => False) := rfl
theorem x_aload {X : xXt} {Q : xP} {rt : Option FieldType} {K : xKt} {a b pc kc ks n : Nat} {L : xL} {ws : xW} {st r : List Value} {i : Nat} : xs X Q rt K (.aload i, a, b) pc kc ks L st n ws = (match xl L i with | some (.ref x) => K kc ks L (.ref x :: st) n ws | _ => False) := rfl
theorem x_istore_n {X : xXt} {Q : xP} {rt : Option FieldType} {K : xKt} {a b pc kc ks n : Nat} {L : xL} {ws : xW} {st r : List Value} {i : Fin 4} {x : Int32} : xs X Q rt K (.istore_n i, a, b) pc kc ks L (.int x :: r) n ws = (K kc ks (xst L i (.int x)) r n ws) := rfl
theorem x_istore {X : xXt} {Q : xP} {rt : Option FieldType} {K : xKt} {a b pc kc ks n : Nat} {L : xL} {ws : xW} {st r : List Value} {i : Nat} {x : Int32} : xs X Q rt K (.istore i, a, b) pc kc ks L (.int x :: r) n ws = (K kc ks (xst L i (.int x)) r n ws) := rfl
theorem x_lstore_n {X : xXt} {Q : xP} {rt : Option FieldType} {K : xKt} {a b pc kc ks n : Nat} {L : xL} {ws : xW} {st r : List Value} {i : Fin 4} {x : Int64} : xs X Q rt K (.lstore_n i, a, b) pc kc ks L (.long x :: r) n ws = (K kc ks (xst2 L i (.long x)) r n ws) := rfl
theorem x_lstore {X : xXt} {Q : xP} {rt : Option FieldType} {K : xKt} {a b pc kc ks n : Nat} {L : xL} {ws : xW} {st r : List Value} {i : Nat} {x : Int64} : xs X Q rt K (.lstore i, a, b) pc kc ks L (.long x :: r) n ws = (K kc ks (xst2 L i (.long x)) r n ws) := rfl
theorem x_astore_n {X : xXt} {Q : xP} {rt : Option FieldType} {K : xKt} {a b pc kc ks n : Nat} {L : xL} {ws : xW} {st r : List Value} {i : Fin 4} {x : Nat} : xs X Q rt K (.astore_n i, a, b) pc kc ks L (.ref x :: r) n ws = (K kc ks (xst L i (.ref x)) r n ws) := rfl
theorem x_astore {X : xXt} {Q : xP} {rt : Option FieldType} {K : xKt} {a b pc kc ks n : Nat} {L : xL} {ws : xW} {st r : List Value} {i : Nat} {x : Nat} : xs X Q rt K (.astore i, a, b) pc kc ks L (.ref x :: r) n ws = (K kc ks (xst L i (.ref x)) r n ws) := rfl
theorem x_iinc {X : xXt} {Q : xP} {rt : Option FieldType} {K : xKt} {a b pc kc ks n : Nat} {L : xL} {ws : xW} {st r : List Value} {i : Nat} {v : Int} : xs X Q rt K (.iinc i v, a, b) pc kc ks L st n ws = (match xl L i with | some (.int x) => K kc ks (xst L i (.int (x + I v))) st n ws | _ => False) := rfl
theorem x_iadd {X : xXt} {Q : xP} {rt : Option FieldType} {K : xKt} {a b pc kc ks n : Nat} {L : xL} {ws : xW} {st r : List Value} {x y : Int32} : xs X Q rt K (.iadd, a, b) pc kc ks L (.int y :: .int x :: r) n ws = (K kc ks L (.int (x + y) :: r) n ws) := rfl
theorem x_isub {X : xXt} {Q : xP} {rt : Option FieldType} {K : xKt} {a b pc kc ks n : Nat} {L : xL} {ws : xW} {st r : List Value} {x y : Int32} : xs X Q rt K (.isub, a, b) pc kc ks L (.int y :: .int x :: r) n ws = (K kc ks L (.int (x - y) :: r) n ws) := rfl
theorem x_imul {X : xXt} {Q : xP} {rt : Option FieldType} {K : xKt} {a b pc kc ks n : Nat} {L : xL} {ws : xW} {st r : List Value} {x y : Int32} : xs X Q rt K (.imul, a, b) pc kc ks L (.int y :: .int x :: r) n ws = (K kc ks L (.int (x * y) :: r) n ws) := rfl
theorem x_iand {X : xXt} {Q : xP} {rt : Option FieldType} {K : xKt} {a b pc kc ks n : Nat} {L : xL} {ws : xW} {st r : List Value} {x y : Int32} : xs X Q rt K (.iand, a, b) pc kc ks L (.int y :: .int x :: r) n ws = (K kc ks L (.int (x &&& y) :: r) n ws) := rfl
theorem x_ior {X : xXt} {Q : xP} {rt : Option FieldType} {K : xKt} {a b pc kc ks n : Nat} {L : xL} {ws : xW} {st r : List Value} {x y : Int32} : xs X Q rt K (.ior, a, b) pc kc ks L (.int y :: .int x :: r) n ws = (K kc ks L (.int (x ||| y) :: r) n ws) := rfl
theorem x_ixor {X : xXt} {Q : xP} {rt : Option FieldType} {K : xKt} {a b pc kc ks n : Nat} {L : xL} {ws : xW} {st r : List Value} {x y : Int32} : xs X Q rt K (.ixor, a, b) pc kc ks L (.int y :: .int x :: r) n ws = (K kc ks L (.int (x ^^^ y) :: r) n ws) := rfl
theorem x_ishl {X : xXt} {Q : xP} {rt : Option FieldType} {K : xKt} {a b pc kc ks n : Nat} {L : xL} {ws : xW} {st r : List Value} {x y : Int32} : xs X Q rt K (.ishl, a, b) pc kc ks L (.int y :: .int x :: r) n ws = (K kc ks L (.int (x <<< (y &&& 31)) :: r) n ws) := rfl
theorem x_ishr {X : xXt} {Q : xP} {rt : Option FieldType} {K : xKt} {a b pc kc ks n : Nat} {L : xL} {ws : xW} {st r : List Value} {x y : Int32} : xs X Q rt K (.ishr, a, b) pc kc ks L (.int y :: .int x :: r) n ws = (K kc ks L (.int (x >>> (y &&& 31)) :: r) n ws) := rfl
theorem x_ineg {X : xXt} {Q : xP} {rt : Option FieldType} {K : xKt} {a b pc kc ks n : Nat} {L : xL} {ws : xW} {st r : List Value} {x : Int32} : xs X Q rt K (.ineg, a, b) pc kc ks L (.int x :: r) n ws = (K kc ks L (.int (-x) :: r) n ws) := rfl
theorem x_ladd {X : xXt} {Q : xP} {rt : Option FieldType} {K : xKt} {a b pc kc ks n : Nat} {L : xL} {ws : xW} {st r : List Value} {x y : Int64} : xs X Q rt K (.ladd, a, b) pc kc ks L (.long y :: .long x :: r) n ws = (K kc ks L (.long (x + y) :: r) n ws) := rfl
theorem x_lsub {X : xXt} {Q : xP} {rt : Option FieldType} {K : xKt} {a b pc kc ks n : Nat} {L : xL} {ws : xW} {st r : List Value} {x y : Int64} : xs X Q rt K (.lsub, a, b) pc kc ks L (.long y :: .long x :: r) n ws = (K kc ks L (.long (x - y) :: r) n ws) := rfl
theorem x_lmul {X : xXt} {Q : xP} {rt : Option FieldType} {K : xKt} {a b pc kc ks n : Nat} {L : xL} {ws : xW} {st r : List Value} {x y : Int64} : xs X Q rt K (.lmul, a, b) pc kc ks L (.long y :: .long x :: r) n ws = (K kc ks L (.long (x * y) :: r) n ws) := rfl
theorem x_ldiv {X : xXt} {Q : xP} {rt : Option FieldType} {K : xKt} {a b pc kc ks n : Nat} {L : xL} {ws : xW} {st r : List Value} {x y : Int64} : xs X Q rt K (.ldiv, a, b) pc kc ks L (.long y :: .long x :: r) n ws = (¬ y = 0 ∧ K kc ks L (.long (x / y) :: r) n ws) := rfl
theorem x_lrem {X : xXt} {Q : xP} {rt : Option FieldType} {K : xKt} {a b pc kc ks n : Nat} {L : xL} {ws : xW} {st r : List Value} {x y : Int64} : xs X Q rt K (.lrem, a, b) pc kc ks L (.long y :: .long x :: r) n ws = (¬ y = 0 ∧ K kc ks L (.long (x - x / y * y) :: r) n ws) := rfl
theorem x_lcmp {X : xXt} {Q : xP} {rt : Option FieldType} {K : xKt} {a b pc kc ks n : Nat} {L : xL} {ws : xW} {st r : List Value} {x y : Int64} : xs X Q rt K (.lcmp, a, b) pc kc ks L (.long y :: .long x :: r) n ws = (K kc ks L (.int (lg_cmp x y) :: r) n ws) := rfl
theorem x_i2l {X : xXt} {Q : xP} {rt : Option FieldType} {K : xKt} {a b pc kc ks n : Nat} {L : xL} {ws : xW} {st r : List Value} {x : Int32} : xs X Q rt K (.i2l, a, b) pc kc ks L (.int x :: r) n ws = (K kc ks L (.long x.toInt64 :: r) n ws) := rfl
theorem x_l2i {X : xXt} {Q : xP} {rt : Option FieldType} {K : xKt} {a b pc kc ks n : Nat} {L : xL} {ws : xW} {st r : List Value} {x : Int64} : xs X Q rt K (.l2i, a, b) pc kc ks L (.long x :: r) n ws = (K kc ks L (.int x.toInt32 :: r) n ws) := rfl
theorem x_dup {X : xXt} {Q : xP} {rt : Option FieldType} {K : xKt} {a b pc kc ks n : Nat} {L : xL} {ws : xW} {st r : List Value} {v : Value} : xs X Q rt K (.dup, a, b) pc kc ks L (v :: r) n ws = (v.category = 1 ∧ K kc ks L (v :: v :: r) n ws) := rfl
theorem x_dup_x1 {X : xXt} {Q : xP} {rt : Option FieldType} {K : xKt} {a b pc kc ks n : Nat} {L : xL} {ws : xW} {st r : List Value} {v w : Value} : xs X Q rt K (.dup_x1, a, b) pc kc ks L (v :: w :: r) n ws = (v.category = 1 ∧ w.category = 1 ∧ K kc ks L (v :: w :: v :: r) n ws) := rfl
theorem x_dup2 {X : xXt} {Q : xP} {rt : Option FieldType} {K : xKt} {a b pc kc ks n : Nat} {L : xL} {ws : xW} {st r : List Value} {v w : Value} : xs X Q rt K (.dup2, a, b) pc kc ks L (v :: w :: r) n ws = (v.category = 1 ∧ w.category = 1 ∧ K kc ks L (v :: w :: v :: w :: r) n ws) := rfl
theorem x_if_eq {X : xXt} {Q : xP} {rt : Option FieldType} {K : xKt} {a b pc kc ks n : Nat} {L : xL} {ws : xW} {st r : List Value} {x : Int32} {off : Int} : xs X Q rt K (.ifCond .eq off, a, b) pc kc ks L (.int x :: r) n ws = ((x = I 0 → X kc ks a L r n ws) ∧ (¬ (x = I 0) → K kc ks L r n ws)) := rfl
theorem x_if_ne {X : xXt} {Q : xP} {rt : Option FieldType} {K : xKt} {a b pc kc ks n : Nat} {L : xL} {ws : xW} {st r : List Value} {x : Int32} {off : Int} : xs X Q rt K (.ifCond .ne off, a, b) pc kc ks L (.int x :: r) n ws = ((¬ x = I 0 → X kc ks a L r n ws) ∧ (¬ (¬ x = I 0) → K kc ks L r n ws)) := rfl
theorem x_if_lt {X : xXt} {Q : xP} {rt : Option FieldType} {K : xKt} {a b pc kc ks n : Nat} {L : xL} {ws : xW} {st r : List Value} {x : Int32} {off : Int} : xs X Q rt K (.ifCond .lt off, a, b) pc kc ks L (.int x :: r) n ws = ((x < I 0 → X kc ks a L r n ws) ∧ (¬ (x < I 0) → K kc ks L r n ws)) := rfl
theorem x_if_ge {X : xXt} {Q : xP} {rt : Option FieldType} {K : xKt} {a b pc kc ks n : Nat} {L : xL} {ws : xW} {st r : List Value} {x : Int32} {off : Int} : xs X Q rt K (.ifCond .ge off, a, b) pc kc ks L (.int x :: r) n ws = ((I 0 ≤ x → X kc ks a L r n ws) ∧ (¬ (I 0 ≤ x) → K kc ks L r n ws)) := rfl
theorem x_if_gt {X : xXt} {Q : xP} {rt : Option FieldType} {K : xKt} {a b pc kc ks n : Nat} {L : xL} {ws : xW} {st r : List Value} {x : Int32} {off : Int} : xs X Q rt K (.ifCond .gt off, a, b) pc kc ks L (.int x :: r) n ws = ((I 0 < x → X kc ks a L r n ws) ∧ (¬ (I 0 < x) → K kc ks L r n ws)) := rfl
theorem x_if_le {X : xXt} {Q : xP} {rt : Option FieldType} {K : xKt} {a b pc kc ks n : Nat} {L : xL} {ws : xW} {st r : List Value} {x : Int32} {off : Int} : xs X Q rt K (.ifCond .le off, a, b) pc kc ks L (.int x :: r) n ws = ((x ≤ I 0 → X kc ks a L r n ws) ∧ (¬ (x ≤ I 0) → K kc ks L r n ws)) := rfl
theorem x_ic_eq {X : xXt} {Q : xP} {rt : Option FieldType} {K : xKt} {a b pc kc ks n : Nat} {L : xL} {ws : xW} {st r : List Value} {x y : Int32} {off : Int} : xs X Q rt K (.if_icmp .eq off, a, b) pc kc ks L (.int y :: .int x :: r) n ws = ((x = y → X kc ks a L r n ws) ∧ (¬ (x = y) → K kc ks L r n ws)) := rfl
theorem x_ic_ne {X : xXt} {Q : xP} {rt : Option FieldType} {K : xKt} {a b pc kc ks n : Nat} {L : xL} {ws : xW} {st r : List Value} {x y : Int32} {off : Int} : xs X Q rt K (.if_icmp .ne off, a, b) pc kc ks L (.int y :: .int x :: r) n ws = ((¬ x = y → X kc ks a L r n ws) ∧ (¬ (¬ x = y) → K kc ks L r n ws)) := rfl
theorem x_ic_lt {X : xXt} {Q : xP} {rt : Option FieldType} {K : xKt} {a b pc kc ks n : Nat} {L : xL} {ws : xW} {st r : List Value} {x y : Int32} {off : Int} : xs X Q rt K (.if_icmp .lt off, a, b) pc kc ks L (.int y :: .int x :: r) n ws = ((x < y → X kc ks a L r n ws) ∧ (¬ (x < y) → K kc ks L r n ws)) := rfl
theorem x_ic_ge {X : xXt} {Q : xP} {rt : Option FieldType} {K : xKt} {a b pc kc ks n : Nat} {L : xL} {ws : xW} {st r : List Value} {x y : Int32} {off : Int} : xs X Q rt K (.if_icmp .ge off, a, b) pc kc ks L (.int y :: .int x :: r) n ws = ((y ≤ x → X kc ks a L r n ws) ∧ (¬ (y ≤ x) → K kc ks L r n ws)) := rfl
theorem x_ic_gt {X : xXt} {Q : xP} {rt : Option FieldType} {K : xKt} {a b pc kc ks n : Nat} {L : xL} {ws : xW} {st r : List Value} {x y : Int32} {off : Int} : xs X Q rt K (.if_icmp .gt off, a, b) pc kc ks L (.int y :: .int x :: r) n ws = ((y < x → X kc ks a L r n ws) ∧ (¬ (y < x) → K kc ks L r n ws)) := rfl
theorem x_ic_le {X : xXt} {Q : xP} {rt : Option FieldType} {K : xKt} {a b pc kc ks n : Nat} {L : xL} {ws : xW} {st r : List Value} {x y : Int32} {off : Int} : xs X Q rt K (.if_icmp .le off, a, b) pc kc ks L (.int y :: .int x :: r) n ws = ((x ≤ y → X kc ks a L r n ws) ∧ (¬ (x ≤ y) → K kc ks L r n ws)) := rfl
theorem x_goto {X : xXt} {Q : xP} {rt : Option FieldType} {K : xKt} {a b pc kc ks n : Nat} {L : xL} {ws : xW} {st r : List Value} {off : Int} : xs X Q rt K (.goto off, a, b) pc kc ks L st n ws = (X kc ks a L st n ws) := rfl
theorem x_ireturn {X : xXt} {Q : xP} {rt : Option FieldType} {K : xKt} {a b pc kc ks n : Nat} {L : xL} {ws : xW} {st r : List Value} {x : Int32} : xs X Q rt K (.ireturn, a, b) pc kc ks L [.int x] n ws = (xret rt x ∧ Q (some (.int x)) n ws) := rfl
theorem x_lreturn {X : xXt} {Q : xP} {rt : Option FieldType} {K : xKt} {a b pc kc ks n : Nat} {L : xL} {ws : xW} {st r : List Value} {x : Int64} : xs X Q rt K (.lreturn, a, b) pc kc ks L [.long x] n ws = (rt = some .long ∧ Q (some (.long x)) n ws) := rfl
theorem x_return {X : xXt} {Q : xP} {rt : Option FieldType} {K : xKt} {a b pc kc ks n : Nat} {L : xL} {ws : xW} {st r : List Value} : xs X Q rt K (.return_, a, b) pc kc ks L [] n ws = (rt = none ∧ Q none n ws) := rfl
theorem x_getfield {X : xXt} {Q : xP} {rt : Option FieldType} {K : xKt} {a b pc kc ks n : Nat} {L : xL} {ws : xW} {st r : List Value} {i p : Nat} : xs X Q rt K (.getfield i, a, b) pc kc ks L (.ref p :: r) n ws = (match ws p with | some (c, .inr (.inr (.inr vs))) => c = a ∧ (match vs[b]? with | some v => K kc ks L (v :: r) n ws | none => False) | _ => False) := rfl
theorem x_putfield {X : xXt} {Q : xP} {rt : Option FieldType} {K : xKt} {a b pc kc ks n : Nat} {L : xL} {ws : xW} {st r : List Value} {i p : Nat} {v : Value} : xs X Q rt K (.putfield i, a, b) pc kc ks L (v :: .ref p :: r) n ws = (match ws p with | some (c, .inr (.inr (.inr vs))) => c = a ∧ xfit a b v ∧ b < vs.length ∧ K kc ks L r n (xup ws p (c, .inr (.inr (.inr (vs.set b v))))) | _ => False) := rfl
theorem x_iaload {X : xXt} {Q : xP} {rt : Option FieldType} {K : xKt} {a b pc kc ks n : Nat} {L : xL} {ws : xW} {st r : List Value} {i : Int32} {p : Nat} : xs X Q rt K (.iaload, a, b) pc kc ks L (.int i :: .ref p :: r) n ws = (match ws p with | some (c, .inl l) => c = 0 ∧ vp_in i l.length ∧ K kc ks L (.int (l.getD i.toNatClampNeg (I 0)) :: r) n ws | _ => False) := rfl
theorem x_baload {X : xXt} {Q : xP} {rt : Option FieldType} {K : xKt} {a b pc kc ks n : Nat} {L : xL} {ws : xW} {st r : List Value} {i : Int32} {p : Nat} : xs X Q rt K (.baload, a, b) pc kc ks L (.int i :: .ref p :: r) n ws = (match ws p with | some (c, .inl l) => c = 1 ∧ vp_in i l.length ∧ K kc ks L (.int (l.getD i.toNatClampNeg (I 0)) :: r) n ws | _ => False) := rfl
theorem x_laload {X : xXt} {Q : xP} {rt : Option FieldType} {K : xKt} {a b pc kc ks n : Nat} {L : xL} {ws : xW} {st r : List Value} {i : Int32} {p : Nat} : xs X Q rt K (.laload, a, b) pc kc ks L (.int i :: .ref p :: r) n ws = (match ws p with | some (c, .inr (.inl l)) => c = 2 ∧ vp_in i l.length ∧ K kc ks L (.long (l.getD i.toNatClampNeg 0) :: r) n ws | _ => False) := rfl
theorem x_aaload {X : xXt} {Q : xP} {rt : Option FieldType} {K : xKt} {a b pc kc ks n : Nat} {L : xL} {ws : xW} {st r : List Value} {i : Int32} {p : Nat} : xs X Q rt K (.aaload, a, b) pc kc ks L (.int i :: .ref p :: r) n ws = (match ws p with | some (c, .inr (.inr (.inl l))) => (c = 3 ∨ c = 4 ∨ c = 5) ∧ vp_in i l.length ∧ K kc ks L (xrv (l.getD i.toNatClampNeg none) :: r) n ws | _ => False) := rfl
theorem x_iastore {X : xXt} {Q : xP} {rt : Option FieldType} {K : xKt} {a b pc kc ks n : Nat} {L : xL} {ws : xW} {st r : List Value} {x i : Int32} {p : Nat} : xs X Q rt K (.iastore, a, b) pc kc ks L (.int x :: .int i :: .ref p :: r) n ws = (match ws p with | some (c, .inl l) => c = 0 ∧ vp_in i l.length ∧ K kc ks L r n (xup ws p (c, .inl (l.set i.toNatClampNeg x))) | _ => False) := rfl
theorem x_bastore {X : xXt} {Q : xP} {rt : Option FieldType} {K : xKt} {a b pc kc ks n : Nat} {L : xL} {ws : xW} {st r : List Value} {x i : Int32} {p : Nat} : xs X Q rt K (.bastore, a, b) pc kc ks L (.int x :: .int i :: .ref p :: r) n ws = (match ws p with | some (c, .inl l) => c = 1 ∧ (x = I 0 ∨ x = I 1) ∧ vp_in i l.length ∧ K kc ks L r n (xup ws p (c, .inl (l.set i.toNatClampNeg x))) | _ => False) := rfl
theorem x_lastore {X : xXt} {Q : xP} {rt : Option FieldType} {K : xKt} {a b pc kc ks n : Nat} {L : xL} {ws : xW} {st r : List Value} {x : Int64} {i : Int32} {p : Nat} : xs X Q rt K (.lastore, a, b) pc kc ks L (.long x :: .int i :: .ref p :: r) n ws = (match ws p with | some (c, .inr (.inl l)) => c = 2 ∧ vp_in i l.length ∧ K kc ks L r n (xup ws p (c, .inr (.inl (l.set i.toNatClampNeg x)))) | _ => False) := rfl
theorem x_aastore {X : xXt} {Q : xP} {rt : Option FieldType} {K : xKt} {a b pc kc ks n : Nat} {L : xL} {ws : xW} {st r : List Value} {i : Int32} {v p : Nat} : xs X Q rt K (.aastore, a, b) pc kc ks L (.ref v :: .int i :: .ref p :: r) n ws = (match ws p with | some (c, .inr (.inr (.inl l))) => (c = 3 ∨ c = 4 ∨ c = 5) ∧ vp_in i l.length ∧ (∃ vs, ws v = some (xelt c, .inr (.inr (.inr vs)))) ∧ K kc ks L r n (xup ws p (c, .inr (.inr (.inl (l.set i.toNatClampNeg (some v)))))) | _ => False) := rfl
theorem x_arraylength {X : xXt} {Q : xP} {rt : Option FieldType} {K : xKt} {a b pc kc ks n : Nat} {L : xL} {ws : xW} {st r : List Value} {p : Nat} : xs X Q rt K (.arraylength, a, b) pc kc ks L (.ref p :: r) n ws = (match ws p with | some (c, .inl l) => c = 0 ∧ K kc ks L (.int (I l.length) :: r) n ws | _ => False) := rfl
theorem x_newarray {X : xXt} {Q : xP} {rt : Option FieldType} {K : xKt} {a b pc kc ks n : Nat} {L : xL} {ws : xW} {st r : List Value} {t : ArrayType} {k : Int32} : xs X Q rt K (.newarray t, a, b) pc kc ks L (.int k :: r) n ws = (match xnk t with | some j => ¬ k < 0 ∧ k.toNatClampNeg ≤ 1000 ∧ 1 ≤ kc ∧ k.toNatClampNeg ≤ ks ∧ K (kc - 1) (ks - k.toNatClampNeg) L (.ref n :: r) (n + 1) (xup ws n (j, if j = 2 then .inr (.inl (List.replicate k.toNatClampNeg 0)) else .inl (List.replicate k.toNatClampNeg (I 0)))) | none => False) := rfl
theorem x_anewarray {X : xXt} {Q : xP} {rt : Option FieldType} {K : xKt} {a b pc kc ks n : Nat} {L : xL} {ws : xW} {st r : List Value} {i : Nat} {k : Int32} : xs X Q rt K (.anewarray i, a, b) pc kc ks L (.int k :: r) n ws = (¬ k < 0 ∧ k.toNatClampNeg ≤ 1000 ∧ 1 ≤ kc ∧ k.toNatClampNeg ≤ ks ∧ K (kc - 1) (ks - k.toNatClampNeg) L (.ref n :: r) (n + 1) (xup ws n (a, .inr (.inr (.inl (List.replicate k.toNatClampNeg none)))))) := rfl
theorem x_new {X : xXt} {Q : xP} {rt : Option FieldType} {K : xKt} {a b pc kc ks n : Nat} {L : xL} {ws : xW} {st r : List Value} {i : Nat} : xs X Q rt K (.new i, a, b) pc kc ks L st n ws = (1 ≤ kc ∧ (xdf a).length ≤ ks ∧ K (kc - 1) (ks - (xdf a).length) L (.ref n :: st) (n + 1) (xup ws n (a, .inr (.inr (.inr (xdf a)))))) := rfl
theorem xb_nil {X : xXt} {Q : xP} {rt : Option FieldType} {pc kc ks n : Nat} {L : xL} {st : List Value} {ws : xW} : xb X Q rt [] pc kc ks L st n ws = X kc ks pc L st n ws := rfl
theorem xb_cons {X : xXt} {Q : xP} {rt : Option FieldType} {i : Instr} {a b pc kc ks n : Nat} {L : xL} {st : List Value} {ws : xW} {r : List xO} : xb X Q rt ((i, a, b) :: r) pc kc ks L st n ws = xs X Q rt (xb X Q rt r (pc + xlen i)) (i, a, b) pc kc ks L st n ws := rfl
theorem xl_cons {j i : Nat} {v : Value} {L : xL} : xl ((j, v) :: L) i = if j = i then some v else xl L i := by
  unfold xl; by_cases h : j = i <;> simp [h]
def xdl (L : xL) (i : Nat) : xL := match L with
  | [] => []
  | (j, v) :: L => if j = i then xdl L i else if j + 1 = i ∧ v.category = 2 then xdl L i else (j, v) :: xdl L i
theorem xdl_eq (i : Nat) : ∀ L : xL, xdl L i = L.filter (fun q => !(q.1 == i) && !(q.1 + 1 == i && q.2.category == 2))
  | [] => rfl
  | (j, v) :: L => by
    unfold xdl
    rw [xdl_eq i L]
    by_cases h1 : j = i
    · simp [h1]
    · by_cases h2 : j + 1 = i <;> by_cases h3 : v.category = 2 <;> simp [h1, h2, h3]
theorem xst_def (L : xL) (i : Nat) (v : Value) : xst L i v = (i, v) :: xdl L i := by rw [xdl_eq]; rfl
theorem xdl_nil (i : Nat) : xdl [] i = [] := rfl
theorem xdl_int (j i : Nat) (x : Int32) (L : xL) : xdl ((j, .int x) :: L) i = if j = i then xdl L i else (j, .int x) :: xdl L i := by
  conv => lhs; unfold xdl
  by_cases h : j = i <;> simp [h, Value.category]
theorem xdl_ref (j i : Nat) (x : Nat) (L : xL) : xdl ((j, .ref x) :: L) i = if j = i then xdl L i else (j, .ref x) :: xdl L i := by
  conv => lhs; unfold xdl
  by_cases h : j = i <;> simp [h, Value.category]
theorem xdl_long (j i : Nat) (x : Int64) (L : xL) : xdl ((j, .long x) :: L) i = if j = i then xdl L i else if j + 1 = i then xdl L i else (j, .long x) :: xdl L i := by
  conv => lhs; unfold xdl
  by_cases h : j = i <;> by_cases h2 : j + 1 = i <;> simp [h, h2, Value.category]
theorem xst2_def (L : xL) (i : Nat) (v : Value) : xst2 L i v = (i, v) :: xdl (xdl L i) (i + 1) := by
  have : xdl (xdl L i) (i + 1) = L.filter (fun q => !(q.1 == i) && (!(q.1 == i + 1) && !(q.1 + 1 == i && q.2.category == 2))) := by
    rw [xdl_eq, xdl_eq, List.filter_filter]
    apply List.filter_congr
    intro q _
    by_cases h1 : q.1 = i
    · simp [h1]
    · have h2 : ¬ (q.1 + 1 = i + 1) := by omega
      have h4 : (q.1 == i) = false := by simpa using h1
      simp [h4]
  rw [this]; rfl
theorem xN_0 {T : List (Nat × List xO)} {B : xXt} {Q : xP} {rt : Option FieldType} {kc ks pc n : Nat} {L : xL} {st : List Value} {ws : xW} : xN T B Q rt 0 kc ks pc L st n ws = B kc ks pc L st n ws := rfl
theorem xN_s {T : List (Nat × List xO)} {B : xXt} {Q : xP} {rt : Option FieldType} {k kc ks pc n : Nat} {L : xL} {st : List Value} {ws : xW} : xN T B Q rt (k + 1) kc ks pc L st n ws = (match xlook T pc with | some ops => xb (xN T B Q rt k) Q rt ops pc kc ks L st n ws | none => B kc ks pc L st n ws) := rfl
theorem xlook_c {a pc : Nat} {o : List xO} {T : List (Nat × List xO)} : xlook ((a, o) :: T) pc = if a = pc then some o else xlook T pc := rfl
theorem xlook_n {pc : Nat} : xlook [] pc = none := rfl
theorem xrv_some (p : Nat) : xrv (some p) = .ref p := rfl
theorem xfit_int (a b : Nat) (x : Int32) : xfit a b (.int x) = (xtc a b = 0) := rfl
theorem xfit_long (a b : Nat) (x : Int64) : xfit a b (.long x) = (xtc a b = 1) := rfl
theorem xfit_ref (a b : Nat) (x : Nat) : xfit a b (.ref x) = (xtc a b = 2) := rfl
theorem cat_int (x : Int32) : (Value.int x).category = 1 := rfl
theorem cat_ref (x : Nat) : (Value.ref x).category = 1 := rfl
theorem cat_long (x : Int64) : (Value.long x).category = 2 := rfl
theorem xret_int (x : Int32) : xret (some .int) x = True := rfl
theorem xret_bool (x : Int32) : xret (some .boolean) x = (x = I 0 ∨ x = I 1) := rfl
theorem x_iload_0 {X : xXt} {Q : xP} {rt : Option FieldType} {K : xKt} {a b pc kc ks n : Nat} {L : xL} {ws : xW} {st r : List Value} : xs X Q rt K (.iload_n 0, a, b) pc kc ks L st n ws = (match xl L 0 with | some (.int x) => K kc ks L (.int x :: st) n ws | _ => False) := rfl
theorem x_iload_1 {X : xXt} {Q : xP} {rt : Option FieldType} {K : xKt} {a b pc kc ks n : Nat} {L : xL} {ws : xW} {st r : List Value} : xs X Q rt K (.iload_n 1, a, b) pc kc ks L st n ws = (match xl L 1 with | some (.int x) => K kc ks L (.int x :: st) n ws | _ => False) := rfl
theorem x_iload_2 {X : xXt} {Q : xP} {rt : Option FieldType} {K : xKt} {a b pc kc ks n : Nat} {L : xL} {ws : xW} {st r : List Value} : xs X Q rt K (.iload_n 2, a, b) pc kc ks L st n ws = (match xl L 2 with | some (.int x) => K kc ks L (.int x :: st) n ws | _ => False) := rfl
theorem x_iload_3 {X : xXt} {Q : xP} {rt : Option FieldType} {K : xKt} {a b pc kc ks n : Nat} {L : xL} {ws : xW} {st r : List Value} : xs X Q rt K (.iload_n 3, a, b) pc kc ks L st n ws = (match xl L 3 with | some (.int x) => K kc ks L (.int x :: st) n ws | _ => False) := rfl
theorem x_lload_0 {X : xXt} {Q : xP} {rt : Option FieldType} {K : xKt} {a b pc kc ks n : Nat} {L : xL} {ws : xW} {st r : List Value} : xs X Q rt K (.lload_n 0, a, b) pc kc ks L st n ws = (match xl L 0 with | some (.long x) => K kc ks L (.long x :: st) n ws | _ => False) := rfl
theorem x_lload_1 {X : xXt} {Q : xP} {rt : Option FieldType} {K : xKt} {a b pc kc ks n : Nat} {L : xL} {ws : xW} {st r : List Value} : xs X Q rt K (.lload_n 1, a, b) pc kc ks L st n ws = (match xl L 1 with | some (.long x) => K kc ks L (.long x :: st) n ws | _ => False) := rfl
theorem x_lload_2 {X : xXt} {Q : xP} {rt : Option FieldType} {K : xKt} {a b pc kc ks n : Nat} {L : xL} {ws : xW} {st r : List Value} : xs X Q rt K (.lload_n 2, a, b) pc kc ks L st n ws = (match xl L 2 with | some (.long x) => K kc ks L (.long x :: st) n ws | _ => False) := rfl
theorem x_lload_3 {X : xXt} {Q : xP} {rt : Option FieldType} {K : xKt} {a b pc kc ks n : Nat} {L : xL} {ws : xW} {st r : List Value} : xs X Q rt K (.lload_n 3, a, b) pc kc ks L st n ws = (match xl L 3 with | some (.long x) => K kc ks L (.long x :: st) n ws | _ => False) := rfl
theorem x_aload_0 {X : xXt} {Q : xP} {rt : Option FieldType} {K : xKt} {a b pc kc ks n : Nat} {L : xL} {ws : xW} {st r : List Value} : xs X Q rt K (.aload_n 0, a, b) pc kc ks L st n ws = (match xl L 0 with | some (.ref x) => K kc ks L (.ref x :: st) n ws | _ => False) := rfl
theorem x_aload_1 {X : xXt} {Q : xP} {rt : Option FieldType} {K : xKt} {a b pc kc ks n : Nat} {L : xL} {ws : xW} {st r : List Value} : xs X Q rt K (.aload_n 1, a, b) pc kc ks L st n ws = (match xl L 1 with | some (.ref x) => K kc ks L (.ref x :: st) n ws | _ => False) := rfl
theorem x_aload_2 {X : xXt} {Q : xP} {rt : Option FieldType} {K : xKt} {a b pc kc ks n : Nat} {L : xL} {ws : xW} {st r : List Value} : xs X Q rt K (.aload_n 2, a, b) pc kc ks L st n ws = (match xl L 2 with | some (.ref x) => K kc ks L (.ref x :: st) n ws | _ => False) := rfl
theorem x_aload_3 {X : xXt} {Q : xP} {rt : Option FieldType} {K : xKt} {a b pc kc ks n : Nat} {L : xL} {ws : xW} {st r : List Value} : xs X Q rt K (.aload_n 3, a, b) pc kc ks L st n ws = (match xl L 3 with | some (.ref x) => K kc ks L (.ref x :: st) n ws | _ => False) := rfl
theorem x_istore_0 {X : xXt} {Q : xP} {rt : Option FieldType} {K : xKt} {a b pc kc ks n : Nat} {L : xL} {ws : xW} {st r : List Value} {x : Int32} : xs X Q rt K (.istore_n 0, a, b) pc kc ks L (.int x :: r) n ws = (K kc ks (xst L 0 (.int x)) r n ws) := rfl
theorem x_istore_1 {X : xXt} {Q : xP} {rt : Option FieldType} {K : xKt} {a b pc kc ks n : Nat} {L : xL} {ws : xW} {st r : List Value} {x : Int32} : xs X Q rt K (.istore_n 1, a, b) pc kc ks L (.int x :: r) n ws = (K kc ks (xst L 1 (.int x)) r n ws) := rfl
theorem x_istore_2 {X : xXt} {Q : xP} {rt : Option FieldType} {K : xKt} {a b pc kc ks n : Nat} {L : xL} {ws : xW} {st r : List Value} {x : Int32} : xs X Q rt K (.istore_n 2, a, b) pc kc ks L (.int x :: r) n ws = (K kc ks (xst L 2 (.int x)) r n ws) := rfl
theorem x_istore_3 {X : xXt} {Q : xP} {rt : Option FieldType} {K : xKt} {a b pc kc ks n : Nat} {L : xL} {ws : xW} {st r : List Value} {x : Int32} : xs X Q rt K (.istore_n 3, a, b) pc kc ks L (.int x :: r) n ws = (K kc ks (xst L 3 (.int x)) r n ws) := rfl
theorem x_lstore_0 {X : xXt} {Q : xP} {rt : Option FieldType} {K : xKt} {a b pc kc ks n : Nat} {L : xL} {ws : xW} {st r : List Value} {x : Int64} : xs X Q rt K (.lstore_n 0, a, b) pc kc ks L (.long x :: r) n ws = (K kc ks (xst2 L 0 (.long x)) r n ws) := rfl
theorem x_lstore_1 {X : xXt} {Q : xP} {rt : Option FieldType} {K : xKt} {a b pc kc ks n : Nat} {L : xL} {ws : xW} {st r : List Value} {x : Int64} : xs X Q rt K (.lstore_n 1, a, b) pc kc ks L (.long x :: r) n ws = (K kc ks (xst2 L 1 (.long x)) r n ws) := rfl
theorem x_lstore_2 {X : xXt} {Q : xP} {rt : Option FieldType} {K : xKt} {a b pc kc ks n : Nat} {L : xL} {ws : xW} {st r : List Value} {x : Int64} : xs X Q rt K (.lstore_n 2, a, b) pc kc ks L (.long x :: r) n ws = (K kc ks (xst2 L 2 (.long x)) r n ws) := rfl
theorem x_lstore_3 {X : xXt} {Q : xP} {rt : Option FieldType} {K : xKt} {a b pc kc ks n : Nat} {L : xL} {ws : xW} {st r : List Value} {x : Int64} : xs X Q rt K (.lstore_n 3, a, b) pc kc ks L (.long x :: r) n ws = (K kc ks (xst2 L 3 (.long x)) r n ws) := rfl
theorem x_astore_0 {X : xXt} {Q : xP} {rt : Option FieldType} {K : xKt} {a b pc kc ks n : Nat} {L : xL} {ws : xW} {st r : List Value} {x : Nat} : xs X Q rt K (.astore_n 0, a, b) pc kc ks L (.ref x :: r) n ws = (K kc ks (xst L 0 (.ref x)) r n ws) := rfl
theorem x_astore_1 {X : xXt} {Q : xP} {rt : Option FieldType} {K : xKt} {a b pc kc ks n : Nat} {L : xL} {ws : xW} {st r : List Value} {x : Nat} : xs X Q rt K (.astore_n 1, a, b) pc kc ks L (.ref x :: r) n ws = (K kc ks (xst L 1 (.ref x)) r n ws) := rfl
theorem x_astore_2 {X : xXt} {Q : xP} {rt : Option FieldType} {K : xKt} {a b pc kc ks n : Nat} {L : xL} {ws : xW} {st r : List Value} {x : Nat} : xs X Q rt K (.astore_n 2, a, b) pc kc ks L (.ref x :: r) n ws = (K kc ks (xst L 2 (.ref x)) r n ws) := rfl
theorem x_astore_3 {X : xXt} {Q : xP} {rt : Option FieldType} {K : xKt} {a b pc kc ks n : Nat} {L : xL} {ws : xW} {st r : List Value} {x : Nat} : xs X Q rt K (.astore_n 3, a, b) pc kc ks L (.ref x :: r) n ws = (K kc ks (xst L 3 (.ref x)) r n ws) := rfl
theorem q_bipush_m3 : (Int8.ofInt (-3)).toInt32 = I (-3) := by decide
theorem q_bipush_m2 : (Int8.ofInt (-2)).toInt32 = I (-2) := by decide
theorem q_bipush_6 : (Int8.ofInt (6)).toInt32 = I (6) := by decide
theorem q_bipush_7 : (Int8.ofInt (7)).toInt32 = I (7) := by decide
theorem q_bipush_9 : (Int8.ofInt (9)).toInt32 = I (9) := by decide
theorem q_bipush_10 : (Int8.ofInt (10)).toInt32 = I (10) := by decide
theorem q_bipush_24 : (Int8.ofInt (24)).toInt32 = I (24) := by decide
theorem q_bipush_30 : (Int8.ofInt (30)).toInt32 = I (30) := by decide
theorem q_bipush_48 : (Int8.ofInt (48)).toInt32 = I (48) := by decide
theorem q_bipush_100 : (Int8.ofInt (100)).toInt32 = I (100) := by decide
theorem q_sipush_300 : (Int16.ofInt (300)).toInt32 = I (300) := by decide
theorem q_sipush_1000 : (Int16.ofInt (1000)).toInt32 = I (1000) := by decide
theorem q_sipush_24001 : (Int16.ofInt (24001)).toInt32 = I (24001) := by decide
theorem q_l0 : Int64.ofNat ((0 : Fin 2) : Nat) = 0 := by decide
theorem q_l1 : Int64.ofNat ((1 : Fin 2) : Nat) = 1 := by decide
theorem xtc_0_0 : xtc 0 0 = 2 := rfl
theorem xtc_0_1 : xtc 0 1 = 2 := rfl
theorem xtc_0_2 : xtc 0 2 = 2 := rfl
theorem xtc_0_3 : xtc 0 3 = 2 := rfl
theorem xtc_0_4 : xtc 0 4 = 2 := rfl
theorem xtc_0_5 : xtc 0 5 = 0 := rfl
theorem xtc_1_0 : xtc 1 0 = 2 := rfl
theorem xtc_1_1 : xtc 1 1 = 2 := rfl
theorem xtc_1_2 : xtc 1 2 = 2 := rfl
theorem xtc_2_0 : xtc 2 0 = 1 := rfl
theorem xtc_2_1 : xtc 2 1 = 1 := rfl
theorem xtc_3_0 : xtc 3 0 = 2 := rfl
theorem xtc_4_0 : xtc 4 0 = 0 := rfl
theorem xtc_4_1 : xtc 4 1 = 0 := rfl
theorem xtc_4_2 : xtc 4 2 = 0 := rfl
theorem xtc_4_3 : xtc 4 3 = 0 := rfl
theorem xtc_4_4 : xtc 4 4 = 0 := rfl
theorem xtc_4_5 : xtc 4 5 = 2 := rfl
theorem xtc_4_6 : xtc 4 6 = 2 := rfl
theorem xtc_4_7 : xtc 4 7 = 2 := rfl
theorem xtc_4_8 : xtc 4 8 = 2 := rfl
theorem xtc_4_9 : xtc 4 9 = 2 := rfl
theorem xtc_4_10 : xtc 4 10 = 2 := rfl
theorem xtc_4_11 : xtc 4 11 = 2 := rfl
theorem xtc_4_12 : xtc 4 12 = 2 := rfl
theorem xtc_5_0 : xtc 5 0 = 2 := rfl
theorem xtc_5_1 : xtc 5 1 = 0 := rfl
theorem xtc_5_2 : xtc 5 2 = 0 := rfl
theorem xtc_5_3 : xtc 5 3 = 2 := rfl
theorem xtc_5_4 : xtc 5 4 = 2 := rfl
theorem xtc_5_5 : xtc 5 5 = 2 := rfl
theorem xtc_5_6 : xtc 5 6 = 2 := rfl
theorem xtc_6_0 : xtc 6 0 = 0 := rfl
theorem xtc_6_1 : xtc 6 1 = 0 := rfl
theorem xtc_6_2 : xtc 6 2 = 2 := rfl
theorem xtc_7_0 : xtc 7 0 = 0 := rfl
theorem xtc_7_1 : xtc 7 1 = 2 := rfl
theorem xtc_8_0 : xtc 8 0 = 2 := rfl
theorem xtc_8_1 : xtc 8 1 = 2 := rfl
theorem xtc_8_2 : xtc 8 2 = 2 := rfl
theorem xtc_8_3 : xtc 8 3 = 0 := rfl
theorem xtc_9_0 : xtc 9 0 = 2 := rfl
theorem xtc_9_1 : xtc 9 1 = 2 := rfl
theorem xtc_9_2 : xtc 9 2 = 2 := rfl
theorem xtc_9_3 : xtc 9 3 = 2 := rfl
theorem xtc_9_4 : xtc 9 4 = 2 := rfl
theorem xtc_9_5 : xtc 9 5 = 2 := rfl
theorem xtc_9_6 : xtc 9 6 = 2 := rfl
theorem xtc_9_7 : xtc 9 7 = 2 := rfl
theorem xtc_9_8 : xtc 9 8 = 2 := rfl
theorem xtc_9_9 : xtc 9 9 = 0 := rfl
theorem xtc_10_0 : xtc 10 0 = 0 := rfl
theorem xtc_10_1 : xtc 10 1 = 0 := rfl
theorem xtc_10_2 : xtc 10 2 = 0 := rfl
theorem xtc_10_3 : xtc 10 3 = 2 := rfl
theorem xtc_10_4 : xtc 10 4 = 2 := rfl
theorem xtc_10_5 : xtc 10 5 = 2 := rfl
theorem xtc_10_6 : xtc 10 6 = 2 := rfl
theorem xtc_10_7 : xtc 10 7 = 0 := rfl
theorem xtc_10_8 : xtc 10 8 = 2 := rfl
theorem xtc_10_9 : xtc 10 9 = 2 := rfl
theorem xtc_10_10 : xtc 10 10 = 2 := rfl
theorem xtc_10_11 : xtc 10 11 = 2 := rfl
theorem xtc_10_12 : xtc 10 12 = 2 := rfl
theorem xtc_10_13 : xtc 10 13 = 2 := rfl
theorem xtc_10_14 : xtc 10 14 = 2 := rfl
theorem xtc_10_15 : xtc 10 15 = 2 := rfl
theorem xtc_10_16 : xtc 10 16 = 2 := rfl
theorem xtc_10_17 : xtc 10 17 = 2 := rfl
theorem xtc_10_18 : xtc 10 18 = 2 := rfl
theorem xtc_10_19 : xtc 10 19 = 2 := rfl
theorem xtc_10_20 : xtc 10 20 = 0 := rfl
theorem xtc_10_21 : xtc 10 21 = 0 := rfl
theorem xtc_10_22 : xtc 10 22 = 2 := rfl
theorem xtc_10_23 : xtc 10 23 = 2 := rfl
theorem xtc_10_24 : xtc 10 24 = 2 := rfl
theorem xtc_10_25 : xtc 10 25 = 2 := rfl
