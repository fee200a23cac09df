def shp (G : GT) (c : Nat) : Nat × Nat := if c < G.1 ∨ c = scrC ∨ c = patC then G.2.2.1 c else (9, 0)
def iOK (s : Nat × Nat) (j : Int32) : Prop := (s.1 = 1 ∨ s.1 = 5) ∧ vp_in j s.2
def jOK (s : Nat × Nat) (j : Int32) : Prop := (s.1 = 2 ∨ s.1 = 6) ∧ vp_in j s.2
def wOK (s : Nat × Nat) (t : Nat) (j : Int32) : Prop := s.1 = t ∧ vp_in j s.2
def lOK (s : Nat × Nat) : Prop := 1 ≤ s.1 ∧ s.1 ≤ 6
noncomputable def gteP (p : Prop) (r : RES) : RES := @ite RES p (Classical.propDecidable p) r none
def rtc (k : Nat) : Nat := match rty k with
  | none => 0
  | some .int => 1
  | some .boolean => 2
  | some .long => 3
  | some (.object _) => 4
  | some (.array _) => 4
  | _ => 9
def psh (v : Option Value) (st : List Value) : List Value := match v with
  | none => st
  | some x => x :: st
def entA : List Value → List Value
  | [] => []
  | .long x :: r => .long x :: nv :: entA r
  | v :: r => v :: entA r
def entL (y : Nat) (as : List Value) : List Value := entA as ++ List.replicate (mxl y - (entA as).length) nv
def fvl (G : GT) (I : IT) (c ci fk : Nat) : Value := match fty ci fk with
  | 2 => refV (G.2.2.2 c fk)
  | _ => .int (I c fk)
def newO (G : GT) (ci : Nat) : GT := (G.1 + 1, G.2.1 + nfs ci, up1 G.2.2.1 G.1 (0, ci), up1 G.2.2.2 G.1 (fun _ => none))
def newA (G : GT) (t N : Nat) : GT := (G.1 + 1, G.2.1 + N, up1 G.2.2.1 G.1 (t, N), up1 G.2.2.2 G.1 (fun _ => none))
def putR (G : GT) (c k v : Nat) : GT := (G.1, G.2.1, G.2.2.1, up2 G.2.2.2 c k (some v))
noncomputable def doGet (k pc : Nat) (e : Option (Nat × Nat)) (L st : List Value) (G : GT) (I : IT) (J : JT) : RES := match e, st with
  | some (ci, fk), .ref c :: r => gteP (shp G c = (0, ci)) (rN (pc + 3) L (fvl G I c ci fk :: r) G I J)
  | _, _ => none
noncomputable def doPut (k pc : Nat) (e : Option (Nat × Nat)) (L st : List Value) (G : GT) (I : IT) (J : JT) : RES := match e, st with
  | some (ci, fk), .int x :: .ref c :: r => gteP (shp G c = (0, ci) ∧ (fty ci fk = 0 ∨ (fty ci fk = 1 ∧ (x = 0 ∨ x = 1)))) (rN (pc + 3) L r G (up2 I c fk x) J)
  | some (ci, fk), .ref a :: .ref c :: r => gteP (shp G c = (0, ci) ∧ fty ci fk = 2 ∧ isCt k = true ∧ ocl k = ci) (rN (pc + 3) L r (putR G c fk a) I J)
  | _, _ => none
noncomputable def doNew (pc : Nat) (e : Option Nat) (L st : List Value) (G : GT) (I : IT) (J : JT) (E : Nat × Nat) : RES := match e with
  | some ci => gteP (G.1 + 1 ≤ E.1 ∧ G.2.1 + nfs ci ≤ E.2) (rN (pc + 3) L (.ref G.1 :: st) (newO G ci) (up1 I G.1 (fun _ => 0)) J)
  | none => none
noncomputable def doNewA (pc : Nat) (ty : ArrayType) (L st : List Value) (G : GT) (I : IT) (J : JT) (E : Nat × Nat) : RES := match ty, st with
  | .int, .int x :: r => gteP (¬ x < 0 ∧ x.toNatClampNeg ≤ 60000000 ∧ G.1 + 1 ≤ E.1 ∧ G.2.1 + x.toNatClampNeg ≤ E.2) (rN (pc + 2) L (.ref G.1 :: r) (newA G 1 x.toNatClampNeg) (up1 I G.1 (fun _ => 0)) J)
  | .boolean, .int x :: r => gteP (¬ x < 0 ∧ x.toNatClampNeg ≤ 60000000 ∧ G.1 + 1 ≤ E.1 ∧ G.2.1 + x.toNatClampNeg ≤ E.2) (rN (pc + 2) L (.ref G.1 :: r) (newA G 3 x.toNatClampNeg) (up1 I G.1 (fun _ => 0)) J)
  | .long, .int x :: r => gteP (¬ x < 0 ∧ x.toNatClampNeg ≤ 60000000 ∧ G.1 + 1 ≤ E.1 ∧ G.2.1 + x.toNatClampNeg ≤ E.2) (rN (pc + 2) L (.ref G.1 :: r) (newA G 2 x.toNatClampNeg) I (up1 J G.1 (fun _ => 0)))
  | _, _ => none
noncomputable def doNewQ (pc : Nat) (e : Option Nat) (L st : List Value) (G : GT) (I : IT) (J : JT) (E : Nat × Nat) : RES := match e, st with
  | some 2, .int x :: r => gteP (¬ x < 0 ∧ x.toNatClampNeg ≤ 60000000 ∧ G.1 + 1 ≤ E.1 ∧ G.2.1 + x.toNatClampNeg ≤ E.2) (rN (pc + 3) L (.ref G.1 :: r) (newA G 4 x.toNatClampNeg) I J)
  | _, _ => none
noncomputable def doV (y pc : Nat) (L st : List Value) (G : GT) : RES := match st.drop (npr y) with
  | .ref c :: r => gteP (shp G c = (0, ocl y) ∧ catS r ≤ 8) (rC y (.ref c :: (st.take (npr y)).reverse) (pc + 3) L r)
  | _ => none
noncomputable def doI (y pc : Nat) (L st : List Value) (G : GT) (E : Nat × Nat) : RES := match st.drop (npr y) with
  | .ref c :: r => gteP (catS r ≤ 8 ∧ G.1 + (mcs y).1 ≤ E.1 ∧ G.2.1 + (mcs y).2 ≤ E.2) (rC y (.ref c :: (st.take (npr y)).reverse) (pc + 3) L r)
  | _ => none
noncomputable def doS (y pc : Nat) (L st : List Value) : RES := gteP (npr y ≤ st.length ∧ catS (st.drop (npr y)) ≤ 8) (rC y (st.take (npr y)).reverse (pc + 3) L (st.drop (npr y)))
noncomputable def doCp (pc : Nat) (L st : List Value) (G : GT) (I : IT) (J : JT) : RES := match st with
  | .int n :: .int dp :: .ref b :: .int sp :: .ref a :: r => gteP ((shp G a).1 = 1 ∧ (shp G b).1 = 1 ∧ ¬ sp < 0 ∧ ¬ dp < 0 ∧ ¬ n < 0 ∧ sp.toNatClampNeg + n.toNatClampNeg ≤ (shp G a).2 ∧ dp.toNatClampNeg + n.toNatClampNeg ≤ (shp G b).2 ∧ catS r ≤ 8) (rN (pc + 3) L r G (up1 I b (va_cpy (I a) (I b) sp.toNatClampNeg dp.toNatClampNeg n.toNatClampNeg)) J)
  | _ => none
noncomputable def doInv (sort pc : Nat) (e : Option (Nat × Nat)) (L st : List Value) (G : GT) (I : IT) (J : JT) (E : Nat × Nat) : RES := match e with
  | some (kd, y) => match sort, kd with
    | 0, 0 => doV y pc L st G
    | 0, 1 => doV y pc L st G
    | 1, 2 => doS y pc L st
    | 1, 3 => doS y pc L st
    | 1, 7 => doCp pc L st G I J
    | 1, 8 => pop2 st (fun x y r => gteP (catS r ≤ 8) (rN (pc + 3) L (.int (if x < y then y else x) :: r) G I J))
    | 1, 9 => pop2 st (fun x y r => gteP (catS r ≤ 8) (rN (pc + 3) L (.int (if y < x then y else x) :: r) G I J))
    | 1, 10 => pop1 st (fun x r => gteP (catS r ≤ 8) (rN (pc + 3) L (.int (if 0 ≤ x then x else 0 - x) :: r) G I J))
    | 2, 4 => doI y pc L st G E
    | 2, 5 => doI y pc L st G E
    | 2, 6 => (match st with
      | .ref _ :: r => gteP (catS r ≤ 8) (rN (pc + 3) L r G I J)
      | _ => none)
    | _, _ => none
  | none => none
noncomputable def doAr (i : Instr) (pc : Nat) (L st : List Value) (G : GT) (I : IT) (J : JT) : RES := match i, st with
  | .iaload, .int j :: .ref c :: r => gteP (iOK (shp G c) j) (rN (pc + 1) L (.int (I c j.toNatClampNeg) :: r) G I J)
  | .laload, .int j :: .ref c :: r => gteP (jOK (shp G c) j) (rN (pc + 1) L (.long (J c j.toNatClampNeg) :: r) G I J)
  | .baload, .int j :: .ref c :: r => gteP (wOK (shp G c) 3 j) (rN (pc + 1) L (.int (I c j.toNatClampNeg) :: r) G I J)
  | .aaload, .int j :: .ref c :: r => gteP (wOK (shp G c) 4 j) (rN (pc + 1) L (refV (G.2.2.2 c j.toNatClampNeg) :: r) G I J)
  | .iastore, .int x :: .int j :: .ref c :: r => gteP (wOK (shp G c) 1 j) (rN (pc + 1) L r G (up2 I c j.toNatClampNeg x) J)
  | .lastore, .long x :: .int j :: .ref c :: r => gteP (wOK (shp G c) 2 j) (rN (pc + 1) L r G I (up2 J c j.toNatClampNeg x))
  | .bastore, .int x :: .int j :: .ref c :: r => gteP (wOK (shp G c) 3 j ∧ (x = 0 ∨ x = 1)) (rN (pc + 1) L r G (up2 I c j.toNatClampNeg x) J)
  | .aastore, .ref v :: .int j :: .ref c :: r => gteP (wOK (shp G c) 4 j ∧ shp G v = (0, 2)) (rN (pc + 1) L r (putR G c j.toNatClampNeg v) I J)
  | .arraylength, .ref c :: r => gteP (lOK (shp G c)) (rN (pc + 1) L (.int (Int32.ofNat (shp G c).2) :: r) G I J)
  | _, _ => none
noncomputable def doRet (i : Instr) (k : Nat) (st : List Value) (G : GT) (I : IT) (J : JT) (E : Nat × Nat) : RES := match i, st with
  | .ireturn, [.int v] => gteP (G.1 = E.1 ∧ G.2.1 = E.2 ∧ (rtc k = 1 ∨ (rtc k = 2 ∧ (v = 0 ∨ v = 1)))) (rR (some (.int v)) G I J)
  | .lreturn, [.long v] => gteP (G.1 = E.1 ∧ G.2.1 = E.2 ∧ rtc k = 3) (rR (some (.long v)) G I J)
  | .areturn, [.ref v] => gteP (G.1 = E.1 ∧ G.2.1 = E.2 ∧ rtc k = 4) (rR (some (.ref v)) G I J)
  | .areturn, [.null] => gteP (G.1 = E.1 ∧ G.2.1 = E.2 ∧ rtc k = 4) (rR (some .null) G I J)
  | .return_, [] => gteP (G.1 = E.1 ∧ G.2.1 = E.2 ∧ rtc k = 0) (rR none G I J)
  | _, _ => none
noncomputable def doLd (i : Instr) (pc : Nat) (L st : List Value) (G : GT) (I : IT) (J : JT) : RES := match i with
  | .iload_n n => ldI (nth L n) (fun x => rN (pc + 1) L (.int x :: st) G I J)
  | .iload n => ldI (nth L n) (fun x => rN (pc + 2) L (.int x :: st) G I J)
  | .lload_n n => ldJ (nth L n) (fun x => rN (pc + 1) L (.long x :: st) G I J)
  | .lload n => ldJ (nth L n) (fun x => rN (pc + 2) L (.long x :: st) G I J)
  | .aload_n n => ldA (nth L n) (fun x => rN (pc + 1) L (x :: st) G I J)
  | .aload n => ldA (nth L n) (fun x => rN (pc + 2) L (x :: st) G I J)
  | .istore_n n => pop1 st (fun x r => gteP (n < L.length) (rN (pc + 1) (setL L n (.int x)) r G I J))
  | .istore n => pop1 st (fun x r => gteP (n < L.length) (rN (pc + 2) (setL L n (.int x)) r G I J))
  | .lstore_n n => popJ st (fun x r => gteP (n + 1 < L.length) (rN (pc + 1) (setJ L n (.long x)) r G I J))
  | .lstore n => popJ st (fun x r => gteP (n + 1 < L.length) (rN (pc + 2) (setJ L n (.long x)) r G I J))
  | .astore_n n => (match st with
    | .ref x :: r => gteP (n < L.length) (rN (pc + 1) (setL L n (.ref x)) r G I J)
    | .null :: r => gteP (n < L.length) (rN (pc + 1) (setL L n .null) r G I J)
    | _ => none)
  | .astore n => (match st with
    | .ref x :: r => gteP (n < L.length) (rN (pc + 2) (setL L n (.ref x)) r G I J)
    | .null :: r => gteP (n < L.length) (rN (pc + 2) (setL L n .null) r G I J)
    | _ => none)
  | .iinc n c => ldI (nth L n) (fun x => gteP (n < L.length) (rN (pc + 3) (setL L n (.int (x + Int32.ofInt c))) st G I J))
  | _ => none
noncomputable def doOp (i : Instr) (k pc : Nat) (L st : List Value) (G : GT) (I : IT) (J : JT) : RES := match i with
  | .aconst_null => rN (pc + 1) L (.null :: st) G I J
  | .iconst n => rN (pc + 1) L (.int (Int32.ofInt n) :: st) G I J
  | .bipush n => rN (pc + 2) L (.int (Int8.ofInt n).toInt32 :: st) G I J
  | .sipush n => rN (pc + 3) L (.int (Int16.ofInt n).toInt32 :: st) G I J
  | .lconst n => rN (pc + 1) L (.long (Int64.ofNat n) :: st) G I J
  | .ldc x => (match ldcT (ocl k) x with
    | some v => rN (pc + 2) L (.int v :: st) G I J
    | none => none)
  | .ldc_w x => (match ldcT (ocl k) x with
    | some v => rN (pc + 3) L (.int v :: st) G I J
    | none => none)
  | .ldc2_w x => (match ldlT (ocl k) x with
    | some v => rN (pc + 3) L (.long v :: st) G I J
    | none => none)
  | .iadd => pop2 st (fun x y r => rN (pc + 1) L (.int (x + y) :: r) G I J)
  | .isub => pop2 st (fun x y r => rN (pc + 1) L (.int (x - y) :: r) G I J)
  | .imul => pop2 st (fun x y r => rN (pc + 1) L (.int (x * y) :: r) G I J)
  | .iand => pop2 st (fun x y r => rN (pc + 1) L (.int (x &&& y) :: r) G I J)
  | .ior => pop2 st (fun x y r => rN (pc + 1) L (.int (x ||| y) :: r) G I J)
  | .ixor => pop2 st (fun x y r => rN (pc + 1) L (.int (x ^^^ y) :: r) G I J)
  | .idiv => pop2 st (fun x y r => gteP (¬ y = 0) (rN (pc + 1) L (.int (x / y) :: r) G I J))
  | .irem => pop2 st (fun x y r => gteP (¬ y = 0) (rN (pc + 1) L (.int (x - x / y * y) :: r) G I J))
  | .ishl => pop2 st (fun x y r => rN (pc + 1) L (.int (x <<< (y &&& 31)) :: r) G I J)
  | .ishr => pop2 st (fun x y r => rN (pc + 1) L (.int (x >>> (y &&& 31)) :: r) G I J)
  | .iushr => pop2 st (fun x y r => rN (pc + 1) L (.int (x.toUInt32 >>> (y.toUInt32 &&& Int32.toUInt32 31)).toInt32 :: r) G I J)
  | .ineg => pop1 st (fun x r => rN (pc + 1) L (.int (-x) :: r) G I J)
  | .i2l => pop1 st (fun x r => rN (pc + 1) L (.long x.toInt64 :: r) G I J)
  | .l2i => popJ st (fun x r => rN (pc + 1) L (.int x.toInt32 :: r) G I J)
  | .ladd => popJJ st (fun x y r => rN (pc + 1) L (.long (x + y) :: r) G I J)
  | .lsub => popJJ st (fun x y r => rN (pc + 1) L (.long (x - y) :: r) G I J)
  | .lmul => popJJ st (fun x y r => rN (pc + 1) L (.long (x * y) :: r) G I J)
  | .land => popJJ st (fun x y r => rN (pc + 1) L (.long (x &&& y) :: r) G I J)
  | .lor => popJJ st (fun x y r => rN (pc + 1) L (.long (x ||| y) :: r) G I J)
  | .lxor => popJJ st (fun x y r => rN (pc + 1) L (.long (x ^^^ y) :: r) G I J)
  | .ldiv => popJJ st (fun x y r => gteP (¬ y = 0) (rN (pc + 1) L (.long (x / y) :: r) G I J))
  | .lrem => popJJ st (fun x y r => gteP (¬ y = 0) (rN (pc + 1) L (.long (x - x / y * y) :: r) G I J))
  | .lshl => popJI st (fun x y r => rN (pc + 1) L (.long (x <<< (y.toInt64 &&& 63)) :: r) G I J)
  | .lshr => popJI st (fun x y r => rN (pc + 1) L (.long (x >>> (y.toInt64 &&& 63)) :: r) G I J)
  | .lushr => popJI st (fun x y r => rN (pc + 1) L (.long (x.toUInt64 >>> (y.toInt64.toUInt64 &&& Int64.toUInt64 63)).toInt64 :: r) G I J)
  | .lcmp => popJJ st (fun x y r => rN (pc + 1) L (.int (lg_cmp x y) :: r) G I J)
  | _ => none
def brTo (t : Option Nat) (b : Bool) (f : Nat) (L st : List Value) (G : GT) (I : IT) (J : JT) : RES := match t with
  | some u => rN (if b = true then u else f) L st G I J
  | none => none
noncomputable def doBr (i : Instr) (pc : Nat) (L st : List Value) (G : GT) (I : IT) (J : JT) : RES := match i with
  | .ifCond c off => pop1 st (fun x r => brTo (tgtOf pc off) (cmpC c x 0) (pc + 3) L r G I J)
  | .if_icmp c off => pop2 st (fun x y r => brTo (tgtOf pc off) (cmpC c x y) (pc + 3) L r G I J)
  | .ifnull off => (match st with
    | .null :: r => goTo (tgtOf pc off) L r G I J
    | .ref _ :: r => rN (pc + 3) L r G I J
    | _ => none)
  | .ifnonnull off => (match st with
    | .ref _ :: r => goTo (tgtOf pc off) L r G I J
    | .null :: r => rN (pc + 3) L r G I J
    | _ => none)
  | .goto off => goTo (tgtOf pc off) L st G I J
  | .tableswitch dd lo hi offs => pop1 st (fun x r => if x.toInt < lo ∨ hi < x.toInt then goTo (tgtOf pc dd) L r G I J else goTo (match offs[(x.toInt - lo).toNat]? with
    | some off => tgtOf pc off
    | none => none) L r G I J)
  | .dup => (match st with
    | v :: r => gteP (v.category = 1) (rN (pc + 1) L (v :: v :: r) G I J)
    | _ => none)
  | .dup2 => (match st with
    | a :: b :: r => gteP (a.category = 1 ∧ b.category = 1) (rN (pc + 1) L (a :: b :: a :: b :: r) G I J)
    | _ => none)
  | .pop => (match st with
    | v :: r => gteP (v.category = 1) (rN (pc + 1) L r G I J)
    | _ => none)
  | _ => none
/-- which family an instruction is of, and its length (0: any) -/
def fam (i : Instr) : Nat × Nat := match i with
  | .iload_n _ | .lload_n _ | .aload_n _ | .istore_n _ | .lstore_n _ | .astore_n _ => (0, 1)
  | .iload _ | .lload _ | .aload _ | .istore _ | .lstore _ | .astore _ => (0, 2)
  | .iinc _ _ => (0, 3)
  | .aconst_null | .iconst _ | .lconst _ | .iadd | .isub | .imul | .iand | .ior | .ixor | .idiv | .irem | .ishl | .ishr | .iushr | .ineg | .i2l | .l2i | .ladd | .lsub | .lmul | .land | .lor | .lxor | .ldiv | .lrem | .lshl | .lshr | .lushr | .lcmp => (1, 1)
  | .bipush _ | .ldc _ => (1, 2)
  | .sipush _ | .ldc_w _ | .ldc2_w _ => (1, 3)
  | .ifCond _ _ | .if_icmp _ _ | .ifnull _ | .ifnonnull _ | .goto _ => (2, 3)
  | .tableswitch _ _ _ _ => (2, 0)
  | .dup | .dup2 | .pop => (2, 1)
  | .iaload | .laload | .baload | .aaload | .iastore | .lastore | .bastore | .aastore | .arraylength => (3, 1)
  | .ireturn | .lreturn | .areturn | .return_ => (4, 1)
  | .getfield _ => (5, 3)
  | .putfield _ => (6, 3)
  | .getstatic _ => (7, 3)
  | .new _ => (8, 3)
  | .newarray _ => (9, 2)
  | .anewarray _ => (10, 3)
  | .invokevirtual _ | .invokestatic _ | .invokespecial _ => (11, 3)
  | _ => (99, 99)
noncomputable def ins1 (k pc : Nat) (i : Instr) (L st : List Value) (G : GT) (I : IT) (J : JT) (E : Nat × Nat) : RES := match (fam i).1 with
  | 0 => doLd i pc L st G I J
  | 1 => doOp i k pc L st G I J
  | 2 => doBr i pc L st G I J
  | 3 => doAr i pc L st G I J
  | 4 => doRet i k st G I J E
  | _ => match i with
    | .getfield x => doGet k pc (fldT (ocl k) x) L st G I J
    | .putfield x => doPut k pc (fldT (ocl k) x) L st G I J
    | .getstatic x => if ocl k = 6 ∧ x = 256 then rN (pc + 3) L (.ref patC :: st) G I J else none
    | .new x => doNew pc (newT (ocl k) x) L st G I J E
    | .newarray ty => doNewA pc ty L st G I J E
    | .anewarray x => doNewQ pc (newT (ocl k) x) L st G I J E
    | .invokevirtual x => doInv 0 pc (calT (ocl k) x) L st G I J E
    | .invokestatic x => doInv 1 pc (calT (ocl k) x) L st G I J E
    | .invokespecial x => doInv 2 pc (calT (ocl k) x) L st G I J E
    | _ => none
def lenOK (i : Instr) (len : Nat) : Bool := (fam i).2 == 0 || (fam i).2 == len
noncomputable def stp (k pc : Nat) (L st : List Value) (G : GT) (I : IT) (J : JT) (E : Nat × Nat) : RES := match decode (byt k) pc with
  | .ok (i, len) => if lenOK i len then ins1 k pc i L st G I J E else none
  | .error _ => none
/-- what a step's outcome says, with P for the frame that goes on, C for calls, K for the end -/
def sP (C : Nat → List Value → GT → IT → JT → KT → Prop) (K : KT) (P : Nat → List Value → List Value → GT → IT → JT → Prop) (G : GT) (I : IT) (J : JT) (r : RES) : Prop := match r with
  | none => False
  | some (.inl (pc, L, st, G', I', J')) => P pc L st G' I' J'
  | some (.inr (.inl (v, G', I', J'))) => K v G' I' J'
  | some (.inr (.inr (y, as, pc, L, st))) => C y as G I J (fun v G' I' J' => P pc L (psh v st) G' I' J')
def AWF (C : Nat → List Value → GT → IT → JT → KT → Prop) (E : Nat × Nat) (K : KT) (k pc : Nat) (L st : List Value) (G : GT) (I : IT) (J : JT) : Prop :=
  ∀ P : Nat → List Value → List Value → GT → IT → JT → Prop, (∀ pc L st G I J, sP C K P G I J (stp k pc L st G I J E) → P pc L st G I J) → P pc L st G I J
def okA : List Value → Bool
  | [] => true
  | .int _ :: r => okA r
  | .long _ :: r => okA r
  | .ref _ :: r => okA r
  | .null :: r => okA r
  | _ => false
def ACall : Nat → Nat → List Value → GT → IT → JT → KT → Prop
  | 0 => fun _ _ _ _ _ _ => False
  | d + 1 => fun y as G I J K => (okA as = true ∧ (entA as).length ≤ mxl y) ∧ AWF (ACall d) (G.1 + (mcs y).1, G.2.1 + (mcs y).2) K y 0 (entL y as) [] G I J
def AW (d : Nat) (E : Nat × Nat) (K : KT) (k pc : Nat) (L st : List Value) (G : GT) (I : IT) (J : JT) : Prop := AWF (ACall d) E K k pc L st G I J
theorem sP_mono {C : Nat → List Value → GT → IT → JT → KT → Prop} (hC : ∀ y as G I J (K K' : KT), (∀ v G I J, K v G I J → K' v G I J) → C y as G I J K → C y as G I J K') {K K' : KT} (hK : ∀ v G I J, K v G I J → K' v G I J) {P P' : Nat → List Value → List Value → GT → IT → JT → Prop} (hP : ∀ pc L st G I J, P pc L st G I J → P' pc L st G I J) {G : GT} {I : IT} {J : JT} {r : RES} (h : sP C K P G I J r) : sP C K' P' G I J r := by
  unfold sP at h ⊢
  match r, h with
  | some (.inl (pc, L, st, G', I', J')), h => exact hP _ _ _ _ _ _ h
  | some (.inr (.inl (v, G', I', J'))), h => exact hK _ _ _ _ h
  | some (.inr (.inr (y, as, pc, L, st))), h => exact hC _ _ _ _ _ _ _ (fun v G I J q => hP _ _ _ _ _ _ q) h
theorem AWF_mono {C : Nat → List Value → GT → IT → JT → KT → Prop} (hC : ∀ y as G I J (K K' : KT), (∀ v G I J, K v G I J → K' v G I J) → C y as G I J K → C y as G I J K') {E : Nat × Nat} {K K' : KT} (hK : ∀ v G I J, K v G I J → K' v G I J) {k pc : Nat} {L st : List Value} {G : GT} {I : IT} {J : JT} (h : AWF C E K k pc L st G I J) : AWF C E K' k pc L st G I J := by
  intro P hP
  exact h P (fun pc L st G I J q => hP _ _ _ _ _ _ (sP_mono hC hK (fun _ _ _ _ _ _ z => z) q))
theorem ACall_mono : ∀ (d y : Nat) (as : List Value) (G : GT) (I : IT) (J : JT) (K K' : KT), (∀ v G I J, K v G I J → K' v G I J) → ACall d y as G I J K → ACall d y as G I J K' := by
  intro d
  induction d with
  | zero => intro y as G I J K K' _ h; exact h
  | succ d ih => intro y as G I J K K' hK h; exact ⟨h.1, AWF_mono ih hK h.2⟩
theorem AWF_unfold {C : Nat → List Value → GT → IT → JT → KT → Prop} (hC : ∀ y as G I J (K K' : KT), (∀ v G I J, K v G I J → K' v G I J) → C y as G I J K → C y as G I J K') {E : Nat × Nat} {K : KT} {k pc : Nat} {L st : List Value} {G : GT} {I : IT} {J : JT} : AWF C E K k pc L st G I J ↔ sP C K (AWF C E K k) G I J (stp k pc L st G I J E) := by
  constructor
  · intro h
    refine h (fun pc L st G I J => sP C K (AWF C E K k) G I J (stp k pc L st G I J E)) ?_
    intro pc L st G I J q
    refine sP_mono hC (fun _ _ _ _ z => z) ?_ q
    intro pc L st G I J z P hP
    exact hP _ _ _ _ _ _ (sP_mono hC (fun _ _ _ _ z => z) (fun pc L st G I J w => w P hP) z)
  · intro h P hP
    exact hP _ _ _ _ _ _ (sP_mono hC (fun _ _ _ _ z => z) (fun pc L st G I J w => w P hP) h)
theorem AW_unfold {d : Nat} {E : Nat × Nat} {K : KT} {k pc : Nat} {L st : List Value} {G : GT} {I : IT} {J : JT} : AW d E K k pc L st G I J ↔ sP (ACall d) K (AW d E K k) G I J (stp k pc L st G I J E) := AWF_unfold (ACall_mono d)
theorem AW_mono {d : Nat} {E : Nat × Nat} {K K' : KT} (hK : ∀ v G I J, K v G I J → K' v G I J) {k pc : Nat} {L st : List Value} {G : GT} {I : IT} {J : JT} (h : AW d E K k pc L st G I J) : AW d E K' k pc L st G I J := AWF_mono (ACall_mono d) hK h
theorem ACall_entry {d y : Nat} {as : List Value} {G : GT} {I : IT} {J : JT} {K : KT} : ACall (d + 1) y as G I J K ↔ (okA as = true ∧ (entA as).length ≤ mxl y) ∧ AW d (G.1 + (mcs y).1, G.2.1 + (mcs y).2) K y 0 (entL y as) [] G I J := Iff.rfl
/-- more depth does no harm -/
theorem sP_deep {C C' : Nat → List Value → GT → IT → JT → KT → Prop} (hC : ∀ y as G I J K, C y as G I J K → C' y as G I J K) {K : KT} {P : Nat → List Value → List Value → GT → IT → JT → Prop} {G : GT} {I : IT} {J : JT} {r : RES} (q : sP C K P G I J r) : sP C' K P G I J r := by
  unfold sP at q ⊢
  match r, q with
  | some (.inl (pc, L, st, G', I', J')), q => exact q
  | some (.inr (.inl (v, G', I', J'))), q => exact q
  | some (.inr (.inr (y, as, pc, L, st))), q => exact hC _ _ _ _ _ _ q
theorem AWF_deep {C C' : Nat → List Value → GT → IT → JT → KT → Prop} (hC : ∀ y as G I J K, C y as G I J K → C' y as G I J K) {E : Nat × Nat} {K : KT} {k pc : Nat} {L st : List Value} {G : GT} {I : IT} {J : JT} (h : AWF C E K k pc L st G I J) : AWF C' E K k pc L st G I J := by
  intro P hP
  exact h P (fun pc L st G I J q => hP _ _ _ _ _ _ (sP_deep hC q))
theorem ACall_deep {d y : Nat} {as : List Value} {G : GT} {I : IT} {J : JT} {K : KT} (h : ACall d y as G I J K) : ACall (d + 1) y as G I J K := by
  induction d generalizing y as G I J K with
  | zero => exact absurd h (by simp [ACall])
  | succ d ih => exact ⟨h.1, AWF_deep (C := ACall d) (fun y as G I J K q => ih q) h.2⟩
theorem gteP_pos {p : Prop} {r : RES} (h : p) : gteP p r = r := by unfold gteP; exact if_pos h
theorem sP_gte {C : Nat → List Value → GT → IT → JT → KT → Prop} {K : KT} {P : Nat → List Value → List Value → GT → IT → JT → Prop} {G : GT} {I : IT} {J : JT} {p : Prop} {r : RES} : sP C K P G I J (gteP p r) ↔ p ∧ sP C K P G I J r := by
  unfold gteP
  by_cases h : p
  · rw [if_pos h]; exact ⟨fun q => ⟨h, q⟩, fun q => q.2⟩
  · rw [if_neg h]; exact ⟨fun q => absurd q (by simp [sP]), fun q => absurd q.1 h⟩
