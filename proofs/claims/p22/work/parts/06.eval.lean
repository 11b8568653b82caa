section PK
/-! a pure machine over numbered cells: what a method answers, as a function; 'callD d' goes at most d calls deep -/
def iI (n : Int) : Int32 := Int32.ofInt n
def jI (x : Int32) : Int := x.toInt
def iL (n : Int) : Int64 := Int64.ofInt n
def jL (x : Int64) : Int := x.toInt
/-- how many cells there are, how many slots they have; each cell's kind and size -/
abbrev pT : Type := (Nat × Nat) × (Nat → Nat × Nat)
/-- the numbers that cells hold; the references that cells hold -/
abbrev pM : Type := Nat → Int → Int
abbrev pF : Type := Nat → Int → Option Nat
/-- what a call comes to: a value or a throw; the world behind it -/
abbrev pR : Type := (Option Value ⊕ Nat) × pT × pM × pF
abbrev pG : Type := Nat × List Slot × List Value × pT × pM × pF
abbrev pK : Type := pC → List Value → pT → pM → pF → Option pR
def p_ty (T : pT) (a : Nat) : Nat × Nat := if a < 100 ∧ a ≠ 29 then p_roT a else T.2 a
def p_mv (M : pM) (a : Nat) (i : Int) : Int := if a < 100 ∧ a ≠ 29 then p_roM a i else M a i
def p_fv (F : pF) (a : Nat) (i : Int) : Option Nat := if a < 100 ∧ a ≠ 29 then p_roF a i else F a i
def u1 {α : Type} (f : Int → α) (i : Int) (v : α) : Int → α := fun j => if j = i then v else f j
def uA {α : Type} (M : Nat → Int → α) (a : Nat) (f : Int → α) : Nat → Int → α := fun b => if b = a then f else M b
def p_rv : Option Nat → Value
  | none => .null
  | some a => .ref a
def p_new (T : pT) (tag n : Nat) : pT := ((T.1.1 + 1, T.1.2 + n), fun b => if b = T.1.1 then (tag, n) else T.2 b)
def p_nx (pc : Nat) (L : List Slot) (st : List Value) (T : pT) (M : pM) (F : pF) : Option (pG ⊕ pR) := some (.inl (pc, L, st, T, M, F))
def p_sv1 (L : List Slot) (i : Nat) (v : Value) : Option (List Slot) := if i < L.length then some (L.set i (.val v)) else none
def p_sv2 (L : List Slot) (i : Nat) (v : Value) : Option (List Slot) := if i + 1 < L.length then some ((L.set i (.val v)).set (i + 1) .second) else none
def p_jmp (pc : Nat) (off : Int) : Nat := ((pc : Int) + off).toNat
def p_jok (pc : Nat) (off : Int) : Prop := 0 ≤ (pc : Int) + off
/-- loads and stores of locals -/
def p_ldI (L : List Slot) (i : Nat) : Option Value := match L[i]? with
  | some (.val (.int x)) => some (.int x)
  | _ => none
def p_ldA (L : List Slot) (i : Nat) : Option Value := match L[i]? with
  | some (.val (.ref x)) => some (.ref x)
  | _ => none
def p_ldL (L : List Slot) (i : Nat) : Option Value := match L[i]?, L[i + 1]? with
  | some (.val (.long x)), some .second => some (.long x)
  | _, _ => none
def p_ldD (L : List Slot) (i : Nat) : Option Value := match L[i]?, L[i + 1]? with
  | some (.val (.double x)), some .second => some (.double x)
  | _, _ => none
def p_ld (o : Option Value) (pc : Nat) (L : List Slot) (st : List Value) (T : pT) (M : pM) (F : pF) : Option (pG ⊕ pR) := match o with
  | some v => p_nx pc L (v :: st) T M F
  | none => none
def p_st (o : Option (List Slot)) (pc : Nat) (st : List Value) (T : pT) (M : pM) (F : pF) : Option (pG ⊕ pR) := match o with
  | some L => p_nx pc L st T M F
  | none => none
/-- a place within a row -/
def p_in (i : Int32) (n : Nat) : Prop := 0 ≤ jI i ∧ jI i < (n : Int)
/-- a condition on numbers -/
def p_cc (c : Jvm.ClassFile.Cond) (x y : Int32) : Prop := match c with
  | .eq => x = y
  | .ne => ¬ x = y
  | .lt => x < y
  | .ge => y ≤ x
  | .gt => y < x
  | .le => x ≤ y
noncomputable def p_if (c : Prop) (x y : Option (pG ⊕ pR)) : Option (pG ⊕ pR) := @ite _ c (Classical.propDecidable c) x y
noncomputable def p_br (c : Prop) (pc : Nat) (off : Int) (L : List Slot) (st : List Value) (T : pT) (M : pM) (F : pF) : Option (pG ⊕ pR) :=
  if 0 ≤ (pc : Int) + off then p_if c (p_nx (p_jmp pc off) L st T M F) (p_nx (pc + 3) L st T M F) else none
def pW (K a : Nat) (p : Nat × Nat) : Prop := 100 ≤ a ∧ p.1 = K
/-- what a receiver must be: the class above is met in a StringBuilder alone -/
def p_tag (k : Nat) : Nat := if k = 18 then 19 else 10 + k
/-- which handler takes it -/
def p_hnd (m : pC) (pc E : Nat) : Option Nat := (m.2.2.2.2.2.find? (fun h => decide (h.1 ≤ pc) && decide (pc < h.2.1) && decide (((p_c m.1).lookup h.2.2.2).map (fun q => (q.1, q.2.1)) = some (1, E)))).map (fun h => h.2.2.1)
def p_rz (ret : Option FieldType) (v : Int32) : Prop := match ret with
  | some .int => True
  | some .boolean => v = 0 ∨ v = 1
  | some .char => 0 ≤ jI v ∧ jI v < 65536
  | some .byte => -128 ≤ jI v ∧ jI v < 128
  | _ => False
/-- what comes of a call -/
def p_cb (o : Option pR) (m : pC) (pc : Nat) (L : List Slot) (st : List Value) : Option (pG ⊕ pR) := match o with
  | none => none
  | some (.inl v, T, M, F) => p_nx (pc + 3) L (v.toList ++ st) T M F
  | some (.inr E, T, M, F) => match p_hnd m pc E with
    | some h => p_nx h L [.ref (T.1.1 - 1)] T M F
    | none => none
noncomputable def p_inv (d : Nat) (m : pC) (call : pK) (pc : Nat) (kind idx : Nat) (L : List Slot) (st : List Value) (T : pT) (M : pM) (F : pF) : Option (pG ⊕ pR) :=
  match (p_m m.1).lookup idx with
  | none => none
  | some (k, y, n, _) =>
    match kind, k with
    | 0, 0 => if n ≤ st.length then p_if ((st.drop n).length ≤ 4) (p_cb (call y (st.take n).reverse T M F) m pc L (st.drop n)) none else none
    | 1, 1 => match st.drop n with
      | .ref a :: st' => p_if ((p_ty T a).1 = p_tag y.1 ∧ st'.length ≤ 4) (p_cb (call y (.ref a :: (st.take n).reverse) T M F) m pc L st') none
      | _ => none
    | 1, 6 => match st.drop n with
      | .ref a :: st' => p_if ((p_ty T a).1 = p_tag y.1 ∧ st'.length ≤ 4) (p_cb (call y (.ref a :: (st.take n).reverse) T M F) m pc L st') none
      | _ => none
    | 1, 9 => match st.drop n with
      | .ref a :: st' => p_if ((p_ty T a).1 = p_tag y.1 ∧ st'.length ≤ 4) (p_cb (call y (.ref a :: (st.take n).reverse) T M F) m pc L st') none
      | _ => none
    | 2, 2 => match st.drop n with
      | .ref a :: st' => p_if ((p_ty T a).1 = p_tag y.1 ∧ st'.length ≤ 4) (p_cb (call y (.ref a :: (st.take n).reverse) T M F) m pc L st') none
      | _ => none
    | 2, 7 => match st.drop n with
      | .ref a :: st' => p_if ((p_ty T a).1 = p_tag y.1 ∧ st'.length ≤ 4) (p_cb (call y (.ref a :: (st.take n).reverse) T M F) m pc L st') none
      | _ => none
    | 2, 3 => match st with
      | .ref a :: st' => p_if (pW (p_tag m.1) a (p_ty T a) ∧ st'.length ≤ 4) (p_nx (pc + 3) L st' T M F) none
      | _ => none
    | 1, 5 => match st with
      | .ref a :: st' => p_if (100 ≤ a ∧ (p_ty T a).1 = 5 ∧ st'.length ≤ 4) (p_nx (pc + 3) L (.ref T.1.1 :: st') (p_new T 5 (p_ty T a).2) (uA M T.1.1 (M a)) (uA F T.1.1 (fun _ => none))) none
      | _ => none
    | 0, 8 => match st with
      | .int n :: .int dp :: .ref b :: .int sp :: .ref a :: st' =>
          p_if (100 ≤ b ∧ a ≠ b ∧ ((p_ty T a).1 = 5 ∨ (p_ty T a).1 = 93 ∧ a < 100 ∧ a ≠ 29) ∧ (p_ty T b).1 = 5 ∧ 0 ≤ jI sp ∧ 0 ≤ jI dp ∧ 0 ≤ jI n ∧ jI sp + jI n ≤ (p_ty T a).2 ∧ jI dp + jI n ≤ (p_ty T b).2 ∧ st'.length ≤ 4)
            (p_nx (pc + 3) L st' T (uA M b (fun j => if jI dp ≤ j ∧ j < jI dp + jI n then p_mv M a (jI sp + (j - jI dp)) else M b j)) F) none
      | _ => none
    | 0, 4 => match st with
      | .int n :: .int dp :: .ref b :: .int sp :: .ref a :: st' =>
          p_if (100 ≤ a ∧ 100 ≤ b ∧ a ≠ b ∧ (p_ty T a).1 = 1 ∧ (p_ty T b).1 = 1 ∧ 0 ≤ jI sp ∧ 0 ≤ jI dp ∧ 0 ≤ jI n ∧ jI sp + jI n ≤ (p_ty T a).2 ∧ jI dp + jI n ≤ (p_ty T b).2 ∧ st'.length ≤ 4)
            (p_nx (pc + 3) L st' T (uA M b (fun j => if jI dp ≤ j ∧ j < jI dp + jI n then M a (jI sp + (j - jI dp)) else M b j)) F) none
      | _ => none
    | _, _ => none
/-- 'throw new E("text")' from its 'new' on -/
def p_at : List (Nat × Nat × Nat) := [(7, 58, 0), (7, 69, 1), (7, 89, 2)]
def p_thx (m : pC) (pc E i j : Nat) : Bool := p_str.any (fun q => decide (q.1 = p_cn m.1) && decide (q.2.1 = i)) && decide ((m.1, j, E) ∈ p_at) && m.2.2.2.2.2.all (fun h => !(decide (h.1 ≤ pc + 9) && decide (pc + 9 < h.2.1)))
def p_thr (m : pC) (cc : ByteArray) (pc E : Nat) : Bool := match decode cc (pc + 3), decode cc (pc + 4), decode cc (pc + 6), decode cc (pc + 9) with
  | .ok (.dup, 1), .ok (.ldc i, 2), .ok (.invokespecial j, 3), .ok (.athrow, 1) => p_thx m pc E i j
  | _, _, _, _ => false
noncomputable def p_one (d : Nat) (m : pC) (call : pK) (pc : Nat) (ins : Instr) (len : Nat) (L : List Slot) (st : List Value) (T : pT) (M : pM) (F : pF) : Option (pG ⊕ pR) :=
  match ins, len, st with
  | .iconst n, 1, st => p_nx (pc + 1) L (.int (iI n) :: st) T M F
  | .bipush n, 2, st => if -128 ≤ n ∧ n ≤ 127 then p_nx (pc + 2) L (.int (iI n) :: st) T M F else none
  | .sipush n, 3, st => if -32768 ≤ n ∧ n ≤ 32767 then p_nx (pc + 3) L (.int (iI n) :: st) T M F else none
  | .lconst n, 1, st => p_nx (pc + 1) L (.long (iL ((n : Nat) : Int)) :: st) T M F
  | .dconst n, 1, st => if (n : Nat) = 0 then p_nx (pc + 1) L (.double 0 :: st) T M F else none
  | .ldc idx, 2, st => match (p_q m.1).lookup idx with
    | some (0, v, _) => p_nx (pc + 2) L (.int (iI v) :: st) T M F
    | some (1, v, _) => p_nx (pc + 2) L (.ref v.toNat :: st) T M F
    | _ => none
  | .aconst_null, 1, st => p_nx (pc + 1) L (.null :: st) T M F
  | .ldc2_w idx, 3, st => match (p_k m.1).lookup idx with
    | some (v, _) => p_nx (pc + 3) L (.long (iL v) :: st) T M F
    | none => none
  | .iload i, 2, st => p_ld (p_ldI L i) (pc + 2) L st T M F
  | .iload_n i, 1, st => p_ld (p_ldI L i) (pc + 1) L st T M F
  | .aload i, 2, st => p_ld (p_ldA L i) (pc + 2) L st T M F
  | .aload_n i, 1, st => p_ld (p_ldA L i) (pc + 1) L st T M F
  | .lload i, 2, st => p_ld (p_ldL L i) (pc + 2) L st T M F
  | .lload_n i, 1, st => p_ld (p_ldL L i) (pc + 1) L st T M F
  | .dload i, 2, st => p_ld (p_ldD L i) (pc + 2) L st T M F
  | .dload_n i, 1, st => p_ld (p_ldD L i) (pc + 1) L st T M F
  | .istore i, 2, .int x :: st => p_st (p_sv1 L i (.int x)) (pc + 2) st T M F
  | .istore_n i, 1, .int x :: st => p_st (p_sv1 L i (.int x)) (pc + 1) st T M F
  | .astore i, 2, .ref x :: st => p_st (p_sv1 L i (.ref x)) (pc + 2) st T M F
  | .astore_n i, 1, .ref x :: st => p_st (p_sv1 L i (.ref x)) (pc + 1) st T M F
  | .lstore i, 2, .long x :: st => p_st (p_sv2 L i (.long x)) (pc + 2) st T M F
  | .lstore_n i, 1, .long x :: st => p_st (p_sv2 L i (.long x)) (pc + 1) st T M F
  | .dstore i, 2, .double x :: st => p_st (p_sv2 L i (.double x)) (pc + 2) st T M F
  | .dstore_n i, 1, .double x :: st => p_st (p_sv2 L i (.double x)) (pc + 1) st T M F
  | .iinc i n, 3, st => match L[i]? with
    | some (.val (.int x)) => p_nx (pc + 3) (L.set i (.val (.int (x + iI n)))) st T M F
    | _ => none
  | .dup, 1, v :: st => if v.category = 1 then p_nx (pc + 1) L (v :: v :: st) T M F else none
  | .dup_x1, 1, v :: w :: st => if v.category = 1 ∧ w.category = 1 then p_nx (pc + 1) L (v :: w :: v :: st) T M F else none
  | .pop, 1, v :: st => if v.category = 1 then p_nx (pc + 1) L st T M F else none
  | .iadd, 1, .int y :: .int x :: st => p_nx (pc + 1) L (.int (x + y) :: st) T M F
  | .isub, 1, .int y :: .int x :: st => p_nx (pc + 1) L (.int (x - y) :: st) T M F
  | .imul, 1, .int y :: .int x :: st => p_nx (pc + 1) L (.int (x * y) :: st) T M F
  | .iand, 1, .int y :: .int x :: st => p_nx (pc + 1) L (.int (x &&& y) :: st) T M F
  | .ior, 1, .int y :: .int x :: st => p_nx (pc + 1) L (.int (x ||| y) :: st) T M F
  | .ineg, 1, .int x :: st => p_nx (pc + 1) L (.int (-x) :: st) T M F
  | .idiv, 1, .int y :: .int x :: st => p_if (y = 0) none (p_nx (pc + 1) L (.int (x / y) :: st) T M F)
  | .irem, 1, .int y :: .int x :: st => p_if (y = 0) none (p_nx (pc + 1) L (.int (x - x / y * y) :: st) T M F)
  | .ishl, 1, .int y :: .int x :: st => p_nx (pc + 1) L (.int (x <<< (y &&& 31)) :: st) T M F
  | .ishr, 1, .int y :: .int x :: st => p_nx (pc + 1) L (.int (x >>> (y &&& 31)) :: st) T M F
  | .iushr, 1, .int y :: .int x :: st => p_nx (pc + 1) L (.int (x.toUInt32 >>> (y.toUInt32 &&& Int32.toUInt32 31)).toInt32 :: st) T M F
  | .i2c, 1, .int x :: st => p_nx (pc + 1) L (.int (x.toUInt32 % 65536).toInt32 :: st) T M F
  | .i2b, 1, .int x :: st => p_nx (pc + 1) L (.int x.toInt8.toInt32 :: st) T M F
  | .i2l, 1, .int x :: st => p_nx (pc + 1) L (.long x.toInt64 :: st) T M F
  | .l2i, 1, .long x :: st => p_nx (pc + 1) L (.int x.toInt32 :: st) T M F
  | .ladd, 1, .long y :: .long x :: st => p_nx (pc + 1) L (.long (x + y) :: st) T M F
  | .lmul, 1, .long y :: .long x :: st => p_nx (pc + 1) L (.long (x * y) :: st) T M F
  | .land, 1, .long y :: .long x :: st => p_nx (pc + 1) L (.long (x &&& y) :: st) T M F
  | .lor, 1, .long y :: .long x :: st => p_nx (pc + 1) L (.long (x ||| y) :: st) T M F
  | .lshl, 1, .int y :: .long x :: st => p_nx (pc + 1) L (.long (x <<< (y.toInt64 &&& 63)) :: st) T M F
  | .lshr, 1, .int y :: .long x :: st => p_nx (pc + 1) L (.long (x >>> (y.toInt64 &&& 63)) :: st) T M F
  | .lcmp, 1, .long y :: .long x :: st => p_nx (pc + 1) L (.int (lg_cmp x y) :: st) T M F
  | .i2d, 1, .int x :: st => p_nx (pc + 1) L (.double (FP.i2d x) :: st) T M F
  | .ddiv, 1, .double y :: .double x :: st => p_if (vf_n64 (FP.ddiv x y)) (p_nx (pc + 1) L (.double (FP.ddiv x y) :: st) T M F) none
  | .dcmp op, 1, .double y :: .double x :: st => p_nx (pc + 1) L (.int (Op.cmpValue (FP.dcmp x y) op) :: st) T M F
  | .ifCond c off, 3, .int x :: st => p_br (p_cc c x 0) pc off L st T M F
  | .if_icmp c off, 3, .int y :: .int x :: st => p_br (p_cc c x y) pc off L st T M F
  | .if_acmp .eq off, 3, .ref y :: .ref x :: st => p_if ((p_ty T x).1 = 12 ∧ (p_ty T y).1 = 12) (p_br (x = y) pc off L st T M F) none
  | .if_acmp .ne off, 3, .ref y :: .ref x :: st => p_if ((p_ty T x).1 = 12 ∧ (p_ty T y).1 = 12) (p_br (¬ x = y) pc off L st T M F) none
  | .ifnull off, 3, .ref x :: st => p_if ((p_ty T x).1 = 0) none (p_nx (pc + 3) L st T M F)
  | .ifnonnull off, 3, .ref x :: st => if 0 ≤ (pc : Int) + off then p_if ((p_ty T x).1 = 0) none (p_nx (p_jmp pc off) L st T M F) else none
  | .goto off, 3, st => if 0 ≤ (pc : Int) + off then p_nx (p_jmp pc off) L st T M F else none
  | .tableswitch df lo hi offs, _, .int x :: st => p_if (lo ≤ jI x ∧ jI x ≤ hi)
      (match offs[(jI x - lo).toNat]? with
        | some off => if 0 ≤ (pc : Int) + off then p_nx (p_jmp pc off) L st T M F else none
        | none => none)
      (if 0 ≤ (pc : Int) + df then p_nx (p_jmp pc df) L st T M F else none)
  | .getfield idx, 3, .ref a :: st => match (p_f m.1).lookup idx with
    | some (K, j, kd, _) => p_if ((p_ty T a).1 = K) (p_nx (pc + 3) L ((if kd = 2 then p_rv (p_fv F a j) else .int (iI (p_mv M a j))) :: st) T M F) none
    | none => none
  | .putfield idx, 3, .int x :: .ref a :: st => match (p_f m.1).lookup idx with
    | some (K, j, kd, _, nest, fin) => if ((!fin || (m.2.1.name == "<init>" && K == 10 + m.1 && nest == 0)) && K != 12) = false then none else if kd = 0 then p_if (100 ≤ a ∧ (p_ty T a).1 = K) (p_nx (pc + 3) L st T (uA M a (u1 (M a) j (jI x))) F) none
      else if kd = 1 then p_if (100 ≤ a ∧ (p_ty T a).1 = K ∧ (x = 0 ∨ x = 1)) (p_nx (pc + 3) L st T (uA M a (u1 (M a) j (jI x))) F) none
      else if kd = 3 then p_if (100 ≤ a ∧ (p_ty T a).1 = K ∧ -128 ≤ jI x ∧ jI x < 128) (p_nx (pc + 3) L st T (uA M a (u1 (M a) j (jI x))) F) none else none
    | none => none
  | .putfield idx, 3, .ref r :: .ref a :: st => match (p_f m.1).lookup idx with
    | some (K, j, kd, _, nest, fin) => if ((!fin || (m.2.1.name == "<init>" && K == 10 + m.1 && nest == 0)) && K != 12) = false then none else if kd = 2 then p_if (100 ≤ a ∧ (p_ty T a).1 = K) (p_nx (pc + 3) L st T M (uA F a (u1 (F a) j (some r)))) none else none
    | none => none
  | .getstatic idx, 3, st => match (p_s m.1).lookup idx with
    | some (0, v, _) => p_nx (pc + 3) L (.ref v :: st) T M F
    | some (1, v, _) => p_nx (pc + 3) L (.int (iI v) :: st) T M F
    | _ => none
  | .arraylength, 1, .ref a :: st => p_if ((p_ty T a).1 ∈ [1, 3, 4, 5, 6, 90, 91, 92, 93]) (p_nx (pc + 1) L (.int (iI (p_ty T a).2) :: st) T M F) none
  | .iaload, 1, .int i :: .ref a :: st => p_if ((p_ty T a).1 ∈ [1, 90, 92] ∧ p_in i (p_ty T a).2) (p_nx (pc + 1) L (.int (iI (p_mv M a (jI i))) :: st) T M F) none
  | .baload, 1, .int i :: .ref a :: st => p_if ((p_ty T a).1 ∈ [5, 93] ∧ p_in i (p_ty T a).2) (p_nx (pc + 1) L (.int (iI (p_mv M a (jI i))) :: st) T M F) none
  | .laload, 1, .int i :: .ref a :: st => p_if ((p_ty T a).1 = 3 ∧ p_in i (p_ty T a).2) (p_nx (pc + 1) L (.long (iL (p_mv M a (jI i))) :: st) T M F) none
  | .aaload, 1, .int i :: .ref a :: st => p_if ((p_ty T a).1 ∈ [4, 6, 91] ∧ p_in i (p_ty T a).2) (p_nx (pc + 1) L (p_rv (p_fv F a (jI i)) :: st) T M F) none
  | .iastore, 1, .int x :: .int i :: .ref a :: st => p_if (100 ≤ a ∧ (p_ty T a).1 = 1 ∧ p_in i (p_ty T a).2) (p_nx (pc + 1) L st T (uA M a (u1 (M a) (jI i) (jI x))) F) none
  | .bastore, 1, .int x :: .int i :: .ref a :: st => p_if (100 ≤ a ∧ (p_ty T a).1 = 5 ∧ p_in i (p_ty T a).2 ∧ -128 ≤ jI x ∧ jI x < 128) (p_nx (pc + 1) L st T (uA M a (u1 (M a) (jI i) (jI x))) F) none
  | .lastore, 1, .long x :: .int i :: .ref a :: st => p_if (100 ≤ a ∧ (p_ty T a).1 = 3 ∧ p_in i (p_ty T a).2) (p_nx (pc + 1) L st T (uA M a (u1 (M a) (jI i) (jL x))) F) none
  | .aastore, 1, .ref r :: .int i :: .ref a :: st => if m.1 = 10 then p_if (100 ≤ a ∧ (p_ty T a).1 = 6 ∧ p_in i (p_ty T a).2 ∧ (p_ty T r).1 = 21) (p_nx (pc + 1) L st T M (uA F a (u1 (F a) (jI i) (some r)))) none else p_if (100 ≤ a ∧ (p_ty T a).1 = 4 ∧ p_in i (p_ty T a).2 ∧ (p_ty T r).1 = 12) (p_nx (pc + 1) L st T M (uA F a (u1 (F a) (jI i) (some r)))) none
  | .newarray ty, 2, .int n :: st => match (match ty with
      | .int => some 1
      | .long => some 3
      | .byte => some 5
      | _ => (none : Option Nat)) with
    | some tag => p_if (0 ≤ jI n ∧ jI n ≤ 1000000) (p_nx (pc + 2) L (.ref T.1.1 :: st) (p_new T tag (jI n).toNat) (uA M T.1.1 (fun _ => 0)) (uA F T.1.1 (fun _ => none))) none
    | none => none
  | .anewarray idx, 3, .int n :: st => match (p_c m.1).lookup idx with
    | some (0, 2, _) => p_if (0 ≤ jI n ∧ jI n ≤ 1000000) (p_nx (pc + 3) L (.ref T.1.1 :: st) (p_new T 4 (jI n).toNat) (uA M T.1.1 (fun _ => 0)) (uA F T.1.1 (fun _ => none))) none
    | some (0, 11, _) => p_if (0 ≤ jI n ∧ jI n ≤ 1000000) (p_nx (pc + 3) L (.ref T.1.1 :: st) (p_new T 6 (jI n).toNat) (uA M T.1.1 (fun _ => 0)) (uA F T.1.1 (fun _ => none))) none
    | _ => none
  | .checkcast idx, 3, .ref a :: st => match (p_c m.1).lookup idx with
    | some (3, _) => p_if ((p_ty T a).1 = 5) (p_nx (pc + 3) L (.ref a :: st) T M F) none
    | _ => none
  | .new idx, 3, st => match (p_c m.1).lookup idx with
    | some (0, k, N, _) => if k = 2 then none else p_nx (pc + 3) L (.ref T.1.1 :: st) (p_new T (10 + k) N) (uA M T.1.1 (fun _ => 0)) (uA F T.1.1 (fun _ => none))
    | some (1, E, _) => if 6 ≤ d ∧ st.length ≤ 4 ∧ p_thr m m.2.2.1 pc E = true then some (.inr (.inr E, p_new T 0 6, uA M T.1.1 (fun _ => 0), uA F T.1.1 (fun _ => none))) else none
    | _ => none
  | .invokestatic idx, 3, st => p_inv d m call pc 0 idx L st T M F
  | .invokevirtual idx, 3, st => p_inv d m call pc 1 idx L st T M F
  | .invokespecial idx, 3, st => p_inv d m call pc 2 idx L st T M F
  | .ireturn, 1, [.int v] => p_if (p_rz m.2.2.2.2.1 v) (some (.inr (.inl (some (.int v)), T, M, F))) none
  | .lreturn, 1, [.long v] => if m.2.2.2.2.1 = some .long then some (.inr (.inl (some (.long v)), T, M, F)) else none
  | .dreturn, 1, [.double v] => if m.2.2.2.2.1 = some .double then some (.inr (.inl (some (.double v)), T, M, F)) else none
  | .areturn, 1, [.ref v] => match m.2.2.2.2.1 with
    | some (.object _) => p_if ((p_ty T v).1 = 0) none (some (.inr (.inl (some (.ref v)), T, M, F)))
    | some (.array _) => p_if ((p_ty T v).1 = 0) none (some (.inr (.inl (some (.ref v)), T, M, F)))
    | _ => none
  | .return_, 1, [] => if m.2.2.2.2.1 = none then some (.inr (.inl none, T, M, F)) else none
  | _, _, _ => none
noncomputable def p_step (d : Nat) (m : pC) (call : pK) (g : pG) : Option (pG ⊕ pR) := match decode m.2.2.1 g.1 with
  | .ok (ins, len) => p_one d m call g.1 ins len g.2.1 g.2.2.1 g.2.2.2.1 g.2.2.2.2.1 g.2.2.2.2.2
  | .error _ => none
noncomputable def p_run (d : Nat) (m : pC) (call : pK) : Nat → pG → Option pR
  | 0, _ => none
  | n + 1, g => match p_step d m call g with
    | none => none
    | some (.inr r) => some r
    | some (.inl g') => p_run d m call n g'
noncomputable def p_lim (f : Nat → Option pR) : Option pR := @dite _ (∃ n r, f n = some r) (Classical.propDecidable _) (fun h => f (Classical.choose h)) (fun _ => none)
def p_ent (m : pC) (as : List Value) : List Slot := lg_sl as ++ List.replicate (m.2.2.2.1 - (lg_sl as).length) Slot.unset
noncomputable def callD : Nat → pK
  | 0 => fun _ _ _ _ _ => none
  | d + 1 => fun m as T M F => if (lg_sl as).length ≤ m.2.2.2.1 then p_lim (fun n => p_run d m (callD d) n (0, p_ent m as, [], T, M, F)) else none
noncomputable def R (d : Nat) (m : pC) (pc : Nat) (L : List Slot) (st : List Value) (T : pT) (M : pM) (F : pF) : Option pR := p_lim (fun n => p_run d m (callD d) n (pc, L, st, T, M, F))
theorem p_run_mono {d : Nat} {m : pC} {call : pK} {r : pR} : ∀ (n : Nat) (g : pG), p_run d m call n g = some r → ∀ k, n ≤ k → p_run d m call k g = some r := by
  intro n
  induction n with
  | zero => intro g h; cases h
  | succ n ih =>
    intro g h k hk
    obtain ⟨k, rfl⟩ : ∃ k', k = k' + 1 := ⟨k - 1, by omega⟩
    rw [p_run] at h ⊢
    cases hs : p_step d m call g with
    | none => rw [hs] at h; cases h
    | some x =>
      rw [hs] at h
      cases x with
      | inr r' => exact h
      | inl g' => exact ih g' h k (by omega)
theorem p_lim_of {f : Nat → Option pR} {r : pR} (hm : ∀ n r, f n = some r → ∀ k, n ≤ k → f k = some r) {n : Nat} (h : f n = some r) : p_lim f = some r := by
  have he : ∃ n r, f n = some r := ⟨n, r, h⟩
  unfold p_lim
  rw [dif_pos he]
  obtain ⟨r', h'⟩ := Classical.choose_spec he
  rw [h']
  have a := hm _ _ h' (max n (Classical.choose he)) (Nat.le_max_right _ _)
  have b := hm _ _ h (max n (Classical.choose he)) (Nat.le_max_left _ _)
  rw [a] at b
  exact b
theorem p_lim_ex {f : Nat → Option pR} {r : pR} (h : p_lim f = some r) : ∃ n, f n = some r := by
  unfold p_lim at h
  by_cases he : ∃ n r, f n = some r
  · rw [dif_pos he] at h
    exact ⟨_, h⟩
  · rw [dif_neg he] at h
    cases h
theorem p_lim_congr {f g : Nat → Option pR} (hf : ∀ n r, f n = some r → ∀ k, n ≤ k → f k = some r) (hg : ∀ n r, g n = some r → ∀ k, n ≤ k → g k = some r) (h1 : ∀ n r, f n = some r → ∃ k, g k = some r) (h2 : ∀ n r, g n = some r → ∃ k, f k = some r) : p_lim f = p_lim g := by
  cases e : p_lim f with
  | some r =>
    obtain ⟨n, hn⟩ := p_lim_ex e
    obtain ⟨k, hk⟩ := h1 n r hn
    exact (p_lim_of hg hk).symm
  | none =>
    cases e2 : p_lim g with
    | none => rfl
    | some r =>
      obtain ⟨n, hn⟩ := p_lim_ex e2
      obtain ⟨k, hk⟩ := h2 n r hn
      rw [p_lim_of hf hk] at e
      cases e
theorem R_ex {d : Nat} {m : pC} {pc : Nat} {L : List Slot} {st : List Value} {T : pT} {M : pM} {F : pF} {r : pR} (h : R d m pc L st T M F = some r) : ∃ n, p_run d m (callD d) n (pc, L, st, T, M, F) = some r := p_lim_ex h
/-- what the next instruction makes of it -/
noncomputable def p_go (d : Nat) (m : pC) (o : Option (pG ⊕ pR)) : Option pR := match o with
  | none => none
  | some (.inr r) => some r
  | some (.inl g) => R d m g.1 g.2.1 g.2.2.1 g.2.2.2.1 g.2.2.2.2.1 g.2.2.2.2.2
theorem R_step (d : Nat) (m : pC) (pc : Nat) (L : List Slot) (st : List Value) (T : pT) (M : pM) (F : pF) : R d m pc L st T M F = p_go d m (p_step d m (callD d) (pc, L, st, T, M, F)) := by
  have hm : ∀ g : pG, ∀ n r, p_run d m (callD d) n g = some r → ∀ k, n ≤ k → p_run d m (callD d) k g = some r := fun g n r h => p_run_mono n g h
  cases hs : p_step d m (callD d) (pc, L, st, T, M, F) with
  | none =>
    show p_lim _ = none
    unfold p_lim
    rw [dif_neg]
    rintro ⟨n, r, h⟩
    cases n with
    | zero => cases h
    | succ n =>
      dsimp only at h
      rw [p_run, hs] at h
      cases h
  | some x =>
    cases x with
    | inr r =>
      refine p_lim_of (hm _) (n := 1) ?_
      rw [p_run, hs]
    | inl g =>
      refine p_lim_congr (hm _) (hm (g.1, g.2.1, g.2.2.1, g.2.2.2.1, g.2.2.2.2.1, g.2.2.2.2.2)) (fun n r h => ?_) (fun n r h => ⟨n + 1, ?_⟩)
      · cases n with
        | zero => cases h
        | succ n =>
          rw [p_run, hs] at h
          exact ⟨n, h⟩
      · rw [p_run, hs]
        exact h
theorem R_dec {d : Nat} {m : pC} {pc : Nat} {L : List Slot} {st : List Value} {T : pT} {M : pM} {F : pF} {ins : Instr} {len : Nat} (h : decode m.2.2.1 pc = .ok (ins, len)) : R d m pc L st T M F = p_go d m (p_one d m (callD d) pc ins len L st T M F) := by
  rw [R_step]
  show p_go d m (match decode m.2.2.1 pc with | .ok (ins, len) => _ | .error _ => none) = _
  rw [h]
theorem callD_succ (d : Nat) (m : pC) (as : List Value) (T : pT) (M : pM) (F : pF) (h : (lg_sl as).length ≤ m.2.2.2.1) : callD (d + 1) m as T M F = R d m 0 (p_ent m as) [] T M F := by
  show (if (lg_sl as).length ≤ m.2.2.2.1 then _ else none) = _
  rw [if_pos h]
  rfl
end PK
