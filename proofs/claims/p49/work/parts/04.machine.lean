/-! THE SMALL MACHINE: a pure reading of the bytecode over a heap of numbers; 'E' is the least predicate closed under its steps. Names below 1000 are things that are only read. -/
abbrev Mu : Type := Nat × (Nat → Nat × Nat) × (Nat → Nat → Int32) × (Nat → Nat → Int64) × (Nat → Nat → Option Nat)
def mX (μ : Mu) : Nat := μ.1
def mS (μ : Mu) (a : Nat) : Nat × Nat := μ.2.1 a
def mI (μ : Mu) (a k : Nat) : Int32 := μ.2.2.1 a k
def mJ (μ : Mu) (a k : Nat) : Int64 := μ.2.2.2.1 a k
def mR (μ : Mu) (a k : Nat) : Option Nat := μ.2.2.2.2 a k
def uI (μ : Mu) (a k : Nat) (v : Int32) : Mu := (μ.1, μ.2.1, (fun b j => if b = a ∧ j = k then v else μ.2.2.1 b j), μ.2.2.2.1, μ.2.2.2.2)
def uA (μ : Mu) (a : Nat) (f : Nat → Int32) : Mu := (μ.1, μ.2.1, (fun b j => if b = a then f j else μ.2.2.1 b j), μ.2.2.2.1, μ.2.2.2.2)
def uJ (μ : Mu) (a k : Nat) (v : Int64) : Mu := (μ.1, μ.2.1, μ.2.2.1, (fun b j => if b = a ∧ j = k then v else μ.2.2.2.1 b j), μ.2.2.2.2)
def uR (μ : Mu) (a k : Nat) (v : Option Nat) : Mu := (μ.1, μ.2.1, μ.2.2.1, μ.2.2.2.1, (fun b j => if b = a ∧ j = k then v else μ.2.2.2.2 b j))
def uX (μ : Mu) (n : Nat) : Mu := (n, μ.2)
/-- a new thing of kind k, n places, at the next name -/
def uN (μ : Mu) (k n : Nat) : Mu := (μ.1 + 1, (fun b => if b = μ.1 then (k, n) else μ.2.1 b), (fun b j => if b = μ.1 then 0 else μ.2.2.1 b j), (fun b j => if b = μ.1 then 0 else μ.2.2.2.1 b j), (fun b j => if b = μ.1 then none else μ.2.2.2.2 b j))
abbrev LV : Type := List (Option Value)
abbrev Out : Type := Option (Option Value)
abbrev Po : Type := Out → Mu → Prop
def onR (o : Option Nat) (P : Nat → Prop) : Prop := match o with | some b => P b | none => False
def pV (st : List Value) (f : Value → List Value → Prop) : Prop := match st with | v :: r => f v r | [] => False
def pI (st : List Value) (f : Int32 → List Value → Prop) : Prop := match st with | .int x :: r => f x r | _ => False
def pL (st : List Value) (f : Int64 → List Value → Prop) : Prop := match st with | .long x :: r => f x r | _ => False
def pD (st : List Value) (f : UInt64 → List Value → Prop) : Prop := match st with | .double x :: r => f x r | _ => False
def pA (st : List Value) (f : Nat → List Value → Prop) : Prop := match st with | .ref x :: r => f x r | _ => False
def lI (ls : LV) (i : Nat) (f : Int32 → Prop) : Prop := match ls.getD i none with | some (.int x) => f x | _ => False
def lA (ls : LV) (i : Nat) (f : Nat → Prop) : Prop := match ls.getD i none with | some (.ref x) => f x | _ => False
def lL (ls : LV) (i : Nat) (f : Int64 → Prop) : Prop := match ls.getD i none with | some (.long x) => f x | _ => False
def lD (ls : LV) (i : Nat) (f : UInt64 → Prop) : Prop := match ls.getD i none with | some (.double x) => f x | _ => False
def fixL (o : Option Value) : Option Value := match o with | some (.long _) => none | some (.double _) => none | o => o
/-- a store of one slot; in a method with longs or doubles among its locals (w) a half that it hits is forgotten -/
def sL1 (w : Bool) (ls : LV) (i : Nat) (v : Value) : LV := match w with
  | false => ls.set i (some v)
  | true => (match i with | 0 => ls | k + 1 => ls.set k (fixL (ls.getD k none))).set i (some v)
def sL2 (ls : LV) (i : Nat) (v : Value) : LV := ((match i with | 0 => ls | k + 1 => ls.set k (fixL (ls.getD k none))).set i (some v)).set (i + 1) none
def oki (i L : Nat) (P : Prop) : Prop := match Nat.blt i L with | true => P | false => False
def tgt (pc : Nat) (off : Int) (f : Nat → Prop) : Prop := match (pc : Int) + off with | .ofNat t => f t | .negSucc _ => False
def cnd (c : ClassFile.Cond) (x y : Int32) : Prop := match c with | .eq => x = y | .ne => ¬ x = y | .lt => x < y | .ge => y ≤ x | .gt => y < x | .le => x ≤ y
/-- the branch in which a condition has been met, or not -/
def brn (c : ClassFile.Cond) (x y : Int32) (A B : Prop) : Prop := match c with
  | .eq => (x = y → A) ∧ (¬ x = y → B)
  | .ne => (x = y → B) ∧ (¬ x = y → A)
  | .lt => (x < y → A) ∧ (¬ x < y → B)
  | .ge => (y ≤ x → A) ∧ (¬ y ≤ x → B)
  | .gt => (y < x → A) ∧ (¬ y < x → B)
  | .le => (x ≤ y → A) ∧ (¬ x ≤ y → B)
def tsw (pc : Nat) (d lo hi : Int) (offs : Array Int) (x : Int32) (f : Nat → Prop) : Prop :=
  (x.toInt < lo ∨ hi < x.toInt → tgt pc d f) ∧ (¬ x.toInt < lo → ¬ hi < x.toInt → match offs[(x.toInt - lo).toNat]? with | some off => tgt pc off f | none => False)
/-- what a small type keeps -/
def okT (ty : FieldType) (v : Int32) : Prop := match ty with | .int => True | .boolean => v = 0 ∨ v = 1 | .byte => v.toInt8.toInt32 = v | .char => (v.toUInt32 % 65536).toInt32 = v | _ => False
/-- pure steps of the operand stack -/
def sop (ins : Instr) (st : List Value) (f : List Value → Prop) : Prop := match ins with
  | .iconst k => f (.int (Int32.ofInt k) :: st)
  | .bipush k => f (.int (Int8.ofInt k).toInt32 :: st)
  | .sipush k => f (.int (Int16.ofInt k).toInt32 :: st)
  | .lconst k => f (.long (Int64.ofNat k) :: st)
  | .dconst k => match k with | 0 => f (.double FP.dconst0 :: st) | _ => False
  | .aconst_null => f (.null :: st)
  | .iadd => pI st fun y r => pI r fun x r => f (.int (x + y) :: r)
  | .isub => pI st fun y r => pI r fun x r => f (.int (x - y) :: r)
  | .imul => pI st fun y r => pI r fun x r => f (.int (x * y) :: r)
  | .iand => pI st fun y r => pI r fun x r => f (.int (x &&& y) :: r)
  | .ior => pI st fun y r => pI r fun x r => f (.int (x ||| y) :: r)
  | .idiv => pI st fun y r => pI r fun x r => ¬ y = 0 ∧ f (.int (x / y) :: r)
  | .irem => pI st fun y r => pI r fun x r => ¬ y = 0 ∧ f (.int (x - x / y * y) :: r)
  | .ineg => pI st fun x r => f (.int (-x) :: r)
  | .ishl => pI st fun y r => pI r fun x r => f (.int (x <<< (y &&& 31)) :: r)
  | .ishr => pI st fun y r => pI r fun x r => f (.int (x >>> (y &&& 31)) :: r)
  | .iushr => pI st fun y r => pI r fun x r => f (.int (x.toUInt32 >>> (y.toUInt32 &&& Int32.toUInt32 31)).toInt32 :: r)
  | .ladd => pL st fun y r => pL r fun x r => f (.long (x + y) :: r)
  | .lmul => pL st fun y r => pL r fun x r => f (.long (x * y) :: r)
  | .lrem => pL st fun y r => pL r fun x r => ¬ y = 0 ∧ f (.long (x - x / y * y) :: r)
  | .lcmp => pL st fun y r => pL r fun x r => f (.int (lg_cmp x y) :: r)
  | .i2l => pI st fun x r => f (.long x.toInt64 :: r)
  | .l2i => pL st fun x r => f (.int x.toInt32 :: r)
  | .i2b => pI st fun x r => f (.int x.toInt8.toInt32 :: r)
  | .i2c => pI st fun x r => f (.int (x.toUInt32 % 65536).toInt32 :: r)
  | .i2d => pI st fun x r => f (.double (FP.i2d x) :: r)
  | .ddiv => pD st fun y r => pD r fun x r => vf_n64 (FP.ddiv x y) ∧ f (.double (FP.ddiv x y) :: r)
  | .dcmp op => pD st fun y r => pD r fun x r => f (.int (Op.cmpValue (FP.dcmp x y) op) :: r)
  | .dup => pV st fun v r => match v with | .int x => f (.int x :: .int x :: r) | .ref x => f (.ref x :: .ref x :: r) | _ => False
  | .pop => pV st fun v r => match v with | .int _ => f r | .ref _ => f r | _ => False
  | .dup_x1 => pI st fun x r => pA r fun y r => f (.int x :: .ref y :: .int x :: r)
  | .dup2 => pI st fun x r => pA r fun y r => f (.int x :: .ref y :: .int x :: .ref y :: r)
  | _ => False
def isSop (ins : Instr) : Bool := match ins with
  | .iconst _ | .bipush _ | .sipush _ | .lconst _ | .dconst _ | .aconst_null | .iadd | .isub | .imul | .iand | .ior | .idiv | .irem | .ineg | .ishl | .ishr | .iushr | .ladd | .lmul | .lrem | .lcmp | .i2l | .l2i | .i2b | .i2c | .i2d | .ddiv | .dcmp _ | .dup | .pop | .dup_x1 | .dup2 => true
  | _ => false
/-- the length that an instruction has -/
def ilen (ins : Instr) (n : Nat) : Bool := match ins with
  | .bipush _ | .iload _ | .aload _ | .lload _ | .dload _ | .istore _ | .astore _ | .lstore _ | .dstore _ | .newarray _ | .ldc _ => n == 2
  | .sipush _ | .iinc _ _ | .ifCond _ _ | .if_icmp _ _ | .ifnonnull _ | .checkcast _ | .goto _ | .getfield _ | .putfield _ | .getstatic _ | .new _ | .anewarray _ | .ldc_w _ | .ldc2_w _ | .invokevirtual _ | .invokespecial _ | .invokestatic _ => n == 3
  | .tableswitch _ _ _ _ => true
  | _ => n == 1
abbrev uad (u v : Nat × Nat) : Nat × Nat := (u.1 + v.1, u.2 + v.2)
def ule (u v : Nat × Nat) : Prop := u.1 ≤ v.1 ∧ u.2 ≤ v.2
def ent (args : List Value) (n : Nat) : LV := args.map some ++ List.replicate (n - args.length) none
/-- behind a call -/
def kC (X : List Value → Mu → Prop) (rest : List Value) (T : Mu → Prop) : Po := fun o μ => match o with
  | some (some v) => X (v :: rest) μ
  | some none => X rest μ
  | none => T μ
theorem kC_v (X : List Value → Mu → Prop) (rest : List Value) (T : Mu → Prop) (v : Value) (μ : Mu) : kC X rest T (some (some v)) μ = X (v :: rest) μ := rfl
theorem kC_n (X : List Value → Mu → Prop) (rest : List Value) (T : Mu → Prop) (μ : Mu) : kC X rest T (some none) μ = X rest μ := rfl
theorem kC_t (X : List Value → Mu → Prop) (rest : List Value) (T : Mu → Prop) (μ : Mu) : kC X rest T none μ = T μ := rfl
/-- what becomes of a throw that comes at pc: to the handler, or out -/
def thr (M : MI) (Q : Po) (X : Nat → LV → List Value → Mu → Nat × Nat → Prop) (pc : Nat) (ls : LV) (u : Nat × Nat) (μ : Mu) : Prop := match mi_hd M with
  | some (f, t, _, h, k) => f ≤ pc ∧ pc < t ∧ ls.getD k none = none ∧ X h ls [] μ u
  | none => mi_th M = true ∧ ule u (mi_al M) ∧ Q none μ
/-- "throw new E(text)", as it stands in the code -/
def thc (M : MI) (pc : Nat) : Prop := ∃ (i k : Nat), mi_n M = 17 ∧ decode (mi_c M) (pc + 3) = .ok (.dup, 1) ∧ ((decode (mi_c M) (pc + 4) = .ok (.ldc i, 2) ∧ decode (mi_c M) (pc + 6) = .ok (.invokespecial 210, 3) ∧ decode (mi_c M) (pc + 9) = .ok (.athrow, 1)) ∨ (decode (mi_c M) (pc + 4) = .ok (.ldc_w i, 3) ∧ decode (mi_c M) (pc + 7) = .ok (.invokespecial 210, 3) ∧ decode (mi_c M) (pc + 10) = .ok (.athrow, 1))) ∧ kres (mi_n M) i = some (.inr k)
/-- a final field is written in its class's constructor alone -/
def pfo (M : MI) (ci k : Nat) : Bool := !(ffin ci k) || ((mi_y M).name == "<init>" && rkl.getD (mi_n M) 99 == ci)
/-- the receiver of a virtual call is of the class that the method names -/
def rcv (j : Nat) (st : List Value) (μ : Mu) : Prop := match st.drop (mi_na (minfo j) - 1) with | .ref a :: _ => mS μ a = (rkd j, cnf (rkd j)) | _ => False
/-- the receiver of a constructor is a thing -/
def rcq (j : Nat) (st : List Value) : Prop := match st.drop (mi_na (minfo j) - 1) with | .ref _ :: _ => True | _ => False
section Step
variable (ev : Nat → List Value → Mu → Po → Prop) (M : MI) (Q : Po) (X : Nat → LV → List Value → Mu → Nat × Nat → Prop)
/-- the law's own methods; those of String -/
def isL (M : MI) : Bool := mi_n M == 19
def isS (M : MI) : Bool := mi_n M == 0
def chg (M : MI) (μ μ2 : Mu) (u al : Nat × Nat) : Nat × Nat := match isL M with
  | true => if mX μ2 = mX μ then u else uad u al
  | false => uad u al
/-- a method has room for what it calls -/
def hok (M : MI) (j : Nat) : Prop := (mi_ht (minfo j)).1 + 1 ≤ (mi_ht M).1 ∧ 8 + (mi_L (minfo j) + 11) + (mi_ht (minfo j)).2 ≤ (mi_ht M).2
def cal (j : Nat) (pc : Nat) (ls : LV) (st : List Value) (μ : Mu) (u : Nat × Nat) : Prop :=
  (((st.drop (mi_na (minfo j))).map fun v => v.category).sum ≤ 8) ∧ (mi_na (minfo j) ≤ st.length ∧ hok M j) ∧ ule (uad u (mi_al (minfo j))) (mi_al M) ∧
  ev j (st.take (mi_na (minfo j))).reverse μ (kC (fun s2 μ2 => X (pc + 3) ls s2 μ2 (chg M μ μ2 u (mi_al (minfo j)))) (st.drop (mi_na (minfo j))) (thr M Q X pc ls (uad u (mi_al (minfo j)))))
def inv (idx : Nat) (kind : Nat) (pc : Nat) (ls : LV) (st : List Value) (μ : Mu) (u : Nat × Nat) : Prop := match mres (mi_n M) idx with
  | some (k, j) => match kind, k with
    | 2, 9 => pA st fun _ r => (r.map fun v => v.category).sum ≤ 8 ∧ X (pc + 3) ls r μ u
    | 1, 10 => pI st fun n r => pI r fun dp r => pA r fun a r => pI r fun sp r => pA r fun b r => 1000 ≤ a ∧ (r.map fun v => v.category).sum ≤ 8 ∧ ((mS μ a).1 = 20 ∧ (mS μ b).1 = 20 ∨ (mS μ a).1 = 21 ∧ (mS μ b).1 = 21) ∧ (match isS M with | true => ∀ i, i < (mS μ b).2 → (mI μ b i).toInt8.toInt32 = mI μ b i | false => 1000 ≤ b) ∧ ¬ sp < 0 ∧ ¬ dp < 0 ∧ ¬ n < 0 ∧ sp.toNatClampNeg + n.toNatClampNeg ≤ (mS μ b).2 ∧ dp.toNatClampNeg + n.toNatClampNeg ≤ (mS μ a).2 ∧ X (pc + 3) ls r (uA μ a (va_cpy (mI μ b) (mI μ a) sp.toNatClampNeg dp.toNatClampNeg n.toNatClampNeg)) u
    | 0, 14 => pA st fun a r => (r.map fun v => v.category).sum ≤ 8 ∧ mi_n M = 5 ∧ 1000 ≤ a ∧ (mS μ a).1 = 21 ∧ ule (uad u (1, (mS μ a).2)) (mi_al M) ∧ X (pc + 3) ls (.ref (mX μ) :: r) (uA (uN μ 21 (mS μ a).2) (mX μ) (mI μ a)) (uad u (1, (mS μ a).2))
    | 0, 15 => rcv j st μ ∧ cal ev M Q X j pc ls st μ u
    | 1, 12 => pI st fun y r => pI r fun x r => (r.map fun v => v.category).sum ≤ 8 ∧ X (pc + 3) ls (.int (if x < y then y else x) :: r) μ u
    | 1, 13 => pI st fun y r => pI r fun x r => (r.map fun v => v.category).sum ≤ 8 ∧ X (pc + 3) ls (.int (if y < x then y else x) :: r) μ u
    | 1, 1 => cal ev M Q X j pc ls st μ u
    | 1, 4 => cal ev M Q X j pc ls st μ u
    | 1, 8 => cal ev M Q X j pc ls st μ u
    | 1, 11 => cal ev M Q X j pc ls st μ u
    | 2, 2 => rcq j st ∧ cal ev M Q X j pc ls st μ u
    | 2, 3 => rcq j st ∧ cal ev M Q X j pc ls st μ u
    | 0, 0 => rcv j st μ ∧ cal ev M Q X j pc ls st μ u
    | 0, 5 => rcv j st μ ∧ cal ev M Q X j pc ls st μ u
    | 0, 7 => rcv j st μ ∧ cal ev M Q X j pc ls st μ u
    | 2, 6 => rcv j st μ ∧ cal ev M Q X j pc ls st μ u
    | _, _ => False
  | none => False
def getf (ci k : Nat) (a : Nat) (pc : Nat) (ls : LV) (r : List Value) (μ : Mu) (u : Nat × Nat) : Prop := mS μ a = (ci, cnf ci) ∧ (match fref ci k with
  | true => onR (mR μ a k) fun b => X (pc + 3) ls (.ref b :: r) μ u
  | false => X (pc + 3) ls (.int (mI μ a k) :: r) μ u)
def putf (ci k : Nat) (a : Nat) (v : Value) (pc : Nat) (ls : LV) (r : List Value) (μ : Mu) (u : Nat × Nat) : Prop := mS μ a = (ci, cnf ci) ∧ 1000 ≤ a ∧ (match fref ci k, v with
  | true, .ref b => X (pc + 3) ls r (uR μ a k (some b)) u
  | false, .int x => okT (fty ci k) x ∧ X (pc + 3) ls r (uI μ a k x) u
  | _, _ => False)
def stp (ins : Instr) (n : Nat) (pc : Nat) (ls : LV) (st : List Value) (μ : Mu) (u : Nat × Nat) : Prop := match ins with
  | .iload i => lI ls i fun x => X (pc + n) ls (.int x :: st) μ u
  | .iload_n i => lI ls i.val fun x => X (pc + n) ls (.int x :: st) μ u
  | .aload i => lA ls i fun x => X (pc + n) ls (.ref x :: st) μ u
  | .aload_n i => lA ls i.val fun x => X (pc + n) ls (.ref x :: st) μ u
  | .lload i => lL ls i fun x => X (pc + n) ls (.long x :: st) μ u
  | .lload_n i => lL ls i.val fun x => X (pc + n) ls (.long x :: st) μ u
  | .dload i => lD ls i fun x => X (pc + n) ls (.double x :: st) μ u
  | .dload_n i => lD ls i.val fun x => X (pc + n) ls (.double x :: st) μ u
  | .istore i => pI st fun x r => oki i (mi_L M) <| X (pc + n) (sL1 (mi_w M) ls i (.int x)) r μ u
  | .istore_n i => pI st fun x r => oki i.val (mi_L M) <| X (pc + n) (sL1 (mi_w M) ls i.val (.int x)) r μ u
  | .astore i => pA st fun x r => oki i (mi_L M) <| X (pc + n) (sL1 (mi_w M) ls i (.ref x)) r μ u
  | .astore_n i => pA st fun x r => oki i.val (mi_L M) <| X (pc + n) (sL1 (mi_w M) ls i.val (.ref x)) r μ u
  | .lstore i => pL st fun x r => mi_w M = true ∧ oki (i + 1) (mi_L M) (X (pc + n) (sL2 ls i (.long x)) r μ u)
  | .lstore_n i => pL st fun x r => mi_w M = true ∧ oki (i.val + 1) (mi_L M) (X (pc + n) (sL2 ls i.val (.long x)) r μ u)
  | .dstore i => pD st fun x r => mi_w M = true ∧ oki (i + 1) (mi_L M) (X (pc + n) (sL2 ls i (.double x)) r μ u)
  | .dstore_n i => pD st fun x r => mi_w M = true ∧ oki (i.val + 1) (mi_L M) (X (pc + n) (sL2 ls i.val (.double x)) r μ u)
  | .iinc i k => lI ls i fun x => X (pc + n) (ls.set i (some (.int (x + Int32.ofInt k)))) st μ u
  | .ifCond c off => pI st fun x r => tgt pc off fun t => brn c x 0 (X t ls r μ u) (X (pc + 3) ls r μ u)
  | .if_icmp c off => pI st fun y r => pI r fun x r => tgt pc off fun t => brn c x y (X t ls r μ u) (X (pc + 3) ls r μ u)
  | .ifnonnull off => pA st fun _ r => tgt pc off fun t => X t ls r μ u
  | .checkcast idx => pA st fun a r => (mi_n M = 5 ∧ idx = 311 ∧ 1000 ≤ a ∧ (mS μ a).1 = 21) ∧ X (pc + 3) ls (.ref a :: r) μ u
  | .goto off => tgt pc off fun t => X t ls st μ u
  | .tableswitch d lo hi offs => pI st fun x r => tsw pc d lo hi offs x fun t => X t ls r μ u
  | .getfield idx => pA st fun a r => match fres (mi_n M) idx with | some (ci, k) => getf X ci k a pc ls r μ u | none => False
  | .putfield idx => pV st fun v r => pA r fun a r => match fres (mi_n M) idx with | some (ci, k) => (match pfo M ci k with | true => putf X ci k a v pc ls r μ u | false => False) | none => False
  | .iaload => pI st fun i r => pA r fun a r => (mS μ a).1 = 20 ∧ vp_in i (mS μ a).2 ∧ X (pc + n) ls (.int (mI μ a i.toNatClampNeg) :: r) μ u
  | .baload => pI st fun i r => pA r fun a r => (match isL M with | true => (mS μ a).1 = 25 ∧ 1000 ≤ a | false => (mS μ a).1 = 21) ∧ vp_in i (mS μ a).2 ∧ X (pc + n) ls (.int (mI μ a i.toNatClampNeg) :: r) μ u
  | .aaload => pI st fun i r => pA r fun a r => (match isL M with | true => (mS μ a).1 = 26 | false => (mS μ a).1 = 23 ∨ (mS μ a).1 = 24) ∧ 1000 ≤ a ∧ vp_in i (mS μ a).2 ∧ onR (mR μ a i.toNatClampNeg) fun b => X (pc + n) ls (.ref b :: r) μ u
  | .iastore => pI st fun x r => pI r fun i r => pA r fun a r => (mS μ a).1 = 20 ∧ 1000 ≤ a ∧ vp_in i (mS μ a).2 ∧ X (pc + n) ls r (uI μ a i.toNatClampNeg x) u
  | .bastore => pI st fun x r => pI r fun i r => pA r fun a r => match isL M with
    | true => (mS μ a).1 = 25 ∧ 1000 ≤ a ∧ vp_in i (mS μ a).2 ∧ (x = 0 ∨ x = 1) ∧ X (pc + n) ls r (uI μ a i.toNatClampNeg x) u
    | false => (mS μ a).1 = 21 ∧ 1000 ≤ a ∧ vp_in i (mS μ a).2 ∧ X (pc + n) ls r (uI μ a i.toNatClampNeg x.toInt8.toInt32) u
  | .aastore => pA st fun v r => pI r fun i r => pA r fun a r => (match isL M with | true => (mS μ a).1 = 26 ∧ v < 1000 ∧ (mS μ v).1 = 0 | false => ((mS μ a).1 = 23 ∧ mS μ v = (7, cnf 7) ∨ (mS μ a).1 = 24 ∧ mS μ v = (9, cnf 9)) ∧ 1000 ≤ v) ∧ 1000 ≤ a ∧ vp_in i (mS μ a).2 ∧ X (pc + n) ls r (uR μ a i.toNatClampNeg (some v)) u
  | .arraylength => pA st fun a r => (20 ≤ (mS μ a).1 ∧ (mS μ a).1 ≤ 24) ∧ X (pc + n) ls (.int (Int32.ofNat (mS μ a).2) :: r) μ u
  | .new idx => match cres (mi_n M) idx with
    | some ci => (match ci with
      | 100 => mi_th M = true ∧ st = [] ∧ ule (uad u (1, 6)) (mi_al M) ∧ thc M pc ∧ ∀ x, mX μ ≤ x → Q none (uX μ x)
      | ci => ule (uad u (1, cnf ci)) (mi_al M) ∧ X (pc + 3) ls (.ref (mX μ) :: st) (uN μ ci (cnf ci)) (uad u (1, cnf ci)))
    | none => False
  | .newarray ty => pI st fun k r => ¬ k < 0 ∧ k.toNatClampNeg ≤ 60000000 ∧ ule (uad u (1, k.toNatClampNeg)) (mi_al M) ∧ (match ty with
    | .int => X (pc + n) ls (.ref (mX μ) :: r) (uN μ 20 k.toNatClampNeg) (uad u (1, k.toNatClampNeg))
    | .byte => X (pc + n) ls (.ref (mX μ) :: r) (uN μ 21 k.toNatClampNeg) (uad u (1, k.toNatClampNeg))
    | .boolean => X (pc + n) ls (.ref (mX μ) :: r) (uN μ 25 k.toNatClampNeg) (uad u (1, k.toNatClampNeg))
    | _ => False)
  | .anewarray idx => pI st fun k r => ¬ k < 0 ∧ k.toNatClampNeg ≤ 60000000 ∧ ule (uad u (1, k.toNatClampNeg)) (mi_al M) ∧ (match cres (mi_n M) idx with
    | some 7 => X (pc + n) ls (.ref (mX μ) :: r) (uN μ 23 k.toNatClampNeg) (uad u (1, k.toNatClampNeg))
    | some 9 => X (pc + n) ls (.ref (mX μ) :: r) (uN μ 24 k.toNatClampNeg) (uad u (1, k.toNatClampNeg))
    | some 0 => X (pc + n) ls (.ref (mX μ) :: r) (uN μ 26 k.toNatClampNeg) (uad u (1, k.toNatClampNeg))
    | _ => False)
  | .ldc idx => match kres (mi_n M) idx with | some (.inl v) => X (pc + n) ls (.int v :: st) μ u | some (.inr a) => X (pc + n) ls (.ref a :: st) μ u | none => False
  | .ldc_w idx => match kres (mi_n M) idx with | some (.inl v) => X (pc + n) ls (.int v :: st) μ u | some (.inr a) => X (pc + n) ls (.ref a :: st) μ u | none => False
  | .ldc2_w idx => match lres (mi_n M) idx with | some v => X (pc + n) ls (.long v :: st) μ u | none => False
  | .getstatic idx => match sres (mi_n M) idx with | some k => X (pc + n) ls (sval k :: st) μ u ∧ (k = 3 → X (pc + n) ls (.null :: st) μ u) | none => False
  | .invokevirtual idx => inv ev M Q X idx 0 pc ls st μ u
  | .invokestatic idx => inv ev M Q X idx 1 pc ls st μ u
  | .invokespecial idx => inv ev M Q X idx 2 pc ls st μ u
  | .ireturn => pI st fun v r => r = [] ∧ ule u (mi_al M) ∧ (match mi_rt M with | some ty => okT ty v ∧ Q (some (some (.int v))) μ | none => False)
  | .areturn => pA st fun a r => r = [] ∧ ule u (mi_al M) ∧ (match mi_rt M with | some (.object _) => Q (some (some (.ref a))) μ | some (.array _) => Q (some (some (.ref a))) μ | _ => False)
  | .dreturn => pD st fun v r => r = [] ∧ ule u (mi_al M) ∧ mi_rt M = some .double ∧ Q (some (some (.double v))) μ
  | .return_ => st = [] ∧ ule u (mi_al M) ∧ mi_rt M = none ∧ Q (some none) μ
  | ins => sop ins st fun r => X (pc + n) ls r μ u
def Clo : Prop := ∀ (pc : Nat) (ls : LV) (st : List Value) (μ : Mu) (u : Nat × Nat), (∃ (ins : Instr) (n : Nat), decode (mi_c M) pc = .ok (ins, n) ∧ ilen ins n = true ∧ stp ev M Q X ins n pc ls st μ u) → X pc ls st μ u
end Step
def E (ev : Nat → List Value → Mu → Po → Prop) (M : MI) (pc : Nat) (ls : LV) (st : List Value) (μ : Mu) (u : Nat × Nat) (Q : Po) : Prop := ∀ X, Clo ev M Q X → X pc ls st μ u
def Ev : Nat → Nat → List Value → Mu → Po → Prop
  | 0 => fun _ _ _ _ => False
  | d + 1 => fun j args μ Q => args.length = mi_na (minfo j) ∧ (∀ v ∈ args, v.category = 1) ∧ E (Ev d) (minfo j) 0 (ent args (mi_L (minfo j))) [] μ (0, 0) Q
/-! the steps are monotone, so E is a fixed point -/
theorem onR_mono {o : Option Nat} {P P' : Nat → Prop} (h : ∀ b, P b → P' b) : onR o P → onR o P' := by
  unfold onR; split
  · exact h _
  · exact id
theorem pV_mono {st : List Value} {f g : Value → List Value → Prop} (h : ∀ x r, f x r → g x r) : pV st f → pV st g := by
  unfold pV; split
  · exact h _ _
  · exact id
theorem pI_mono {st : List Value} {f g : Int32 → List Value → Prop} (h : ∀ x r, f x r → g x r) : pI st f → pI st g := by
  unfold pI; split
  · exact h _ _
  · exact id
theorem pL_mono {st : List Value} {f g : Int64 → List Value → Prop} (h : ∀ x r, f x r → g x r) : pL st f → pL st g := by
  unfold pL; split
  · exact h _ _
  · exact id
theorem pD_mono {st : List Value} {f g : UInt64 → List Value → Prop} (h : ∀ x r, f x r → g x r) : pD st f → pD st g := by
  unfold pD; split
  · exact h _ _
  · exact id
theorem pA_mono {st : List Value} {f g : Nat → List Value → Prop} (h : ∀ x r, f x r → g x r) : pA st f → pA st g := by
  unfold pA; split
  · exact h _ _
  · exact id
theorem lI_mono {ls : LV} {i : Nat} {f g : Int32 → Prop} (h : ∀ x, f x → g x) : lI ls i f → lI ls i g := by
  unfold lI; split
  · exact h _
  · exact id
theorem lA_mono {ls : LV} {i : Nat} {f g : Nat → Prop} (h : ∀ x, f x → g x) : lA ls i f → lA ls i g := by
  unfold lA; split
  · exact h _
  · exact id
theorem lL_mono {ls : LV} {i : Nat} {f g : Int64 → Prop} (h : ∀ x, f x → g x) : lL ls i f → lL ls i g := by
  unfold lL; split
  · exact h _
  · exact id
theorem lD_mono {ls : LV} {i : Nat} {f g : UInt64 → Prop} (h : ∀ x, f x → g x) : lD ls i f → lD ls i g := by
  unfold lD; split
  · exact h _
  · exact id
theorem oki_mono {i L : Nat} {P P' : Prop} (h : P → P') : oki i L P → oki i L P' := by
  unfold oki; split
  · exact h
  · exact id
theorem tgt_mono {pc : Nat} {off : Int} {f g : Nat → Prop} (h : ∀ x, f x → g x) : tgt pc off f → tgt pc off g := by
  unfold tgt; split
  · exact h _
  · exact id
theorem brn_mono {c : ClassFile.Cond} {x y : Int32} {A B A' B' : Prop} (h : A → A') (k : B → B') : brn c x y A B → brn c x y A' B' := by
  unfold brn; split <;> exact fun q => ⟨fun z => by first | exact h (q.1 z) | exact k (q.1 z), fun z => by first | exact k (q.2 z) | exact h (q.2 z)⟩
theorem tsw_mono {pc : Nat} {d lo hi : Int} {offs : Array Int} {x : Int32} {f g : Nat → Prop} (h : ∀ x, f x → g x) : tsw pc d lo hi offs x f → tsw pc d lo hi offs x g := by
  intro q
  refine ⟨fun z => tgt_mono h (q.1 z), fun z1 z2 => ?_⟩
  have := q.2 z1 z2
  split at this
  · exact tgt_mono h this
  · exact this.elim
theorem sop_mono {ins : Instr} {st : List Value} {f g : List Value → Prop} (h : ∀ r, f r → g r) : sop ins st f → sop ins st g := by
  unfold sop
  split <;> first
    | exact h _
    | exact id
    | (split <;> first | exact h _ | exact id)
    | exact pI_mono fun _ _ => pI_mono fun _ _ => h _
    | exact pI_mono fun _ _ => pI_mono fun _ _ => And.imp_right (h _)
    | exact pI_mono fun _ _ => h _
    | exact pL_mono fun _ _ => pL_mono fun _ _ => h _
    | exact pL_mono fun _ _ => pL_mono fun _ _ => And.imp_right (h _)
    | exact pL_mono fun _ _ => h _
    | exact pD_mono fun _ _ => pD_mono fun _ _ => h _
    | exact pD_mono fun _ _ => pD_mono fun _ _ => And.imp_right (h _)
    | exact pI_mono fun _ _ => pA_mono fun _ _ => h _
    | (refine pV_mono fun _ _ => ?_; split <;> first | exact h _ | exact id)
section Mono
variable {ev ev' : Nat → List Value → Mu → Po → Prop} {M : MI} {Q Q' : Po} {X Y : Nat → LV → List Value → Mu → Nat × Nat → Prop}
theorem kC_mono {X Y : List Value → Mu → Prop} {r : List Value} {T T' : Mu → Prop} (h : ∀ s μ, X s μ → Y s μ) (hT : ∀ μ, T μ → T' μ) (o : Out) (μ : Mu) : kC X r T o μ → kC Y r T' o μ := by
  unfold kC; split
  · exact h _ _
  · exact h _ _
  · exact hT _
theorem thr_mono (hQ : ∀ o μ, Q o μ → Q' o μ) (h : ∀ pc ls st μ u, X pc ls st μ u → Y pc ls st μ u) {pc : Nat} {ls : LV} {u : Nat × Nat} (μ : Mu) : thr M Q X pc ls u μ → thr M Q' Y pc ls u μ := by
  unfold thr; split
  · exact fun q => ⟨q.1, q.2.1, q.2.2.1, h _ _ _ _ _ q.2.2.2⟩
  · exact fun q => ⟨q.1, q.2.1, hQ _ _ q.2.2⟩
theorem cal_mono (he : ∀ j a μ (q q' : Po), (∀ o μ, q o μ → q' o μ) → ev j a μ q → ev' j a μ q') (hQ : ∀ o μ, Q o μ → Q' o μ) (h : ∀ pc ls st μ u, X pc ls st μ u → Y pc ls st μ u) {j pc : Nat} {ls : LV} {st : List Value} {μ : Mu} {u : Nat × Nat} : cal ev M Q X j pc ls st μ u → cal ev' M Q' Y j pc ls st μ u :=
  fun q => ⟨q.1, q.2.1, q.2.2.1, he _ _ _ _ _ (kC_mono (fun _ _ => h _ _ _ _ _) (thr_mono hQ h)) q.2.2.2⟩
theorem inv_mono (he : ∀ j a μ (q q' : Po), (∀ o μ, q o μ → q' o μ) → ev j a μ q → ev' j a μ q') (hQ : ∀ o μ, Q o μ → Q' o μ) (h : ∀ pc ls st μ u, X pc ls st μ u → Y pc ls st μ u) {idx kind pc : Nat} {ls : LV} {st : List Value} {μ : Mu} {u : Nat × Nat} : inv ev M Q X idx kind pc ls st μ u → inv ev' M Q' Y idx kind pc ls st μ u := by
  unfold inv; split
  · split
    all_goals first
      | exact pA_mono fun _ _ => And.imp_right (h _ _ _ _ _)
      | exact pI_mono fun _ _ => pI_mono fun _ _ => pA_mono fun _ _ => pI_mono fun _ _ => pA_mono fun _ _ q => ⟨q.1, q.2.1, q.2.2.1, q.2.2.2.1, q.2.2.2.2.1, q.2.2.2.2.2.1, q.2.2.2.2.2.2.1, q.2.2.2.2.2.2.2.1, q.2.2.2.2.2.2.2.2.1, h _ _ _ _ _ q.2.2.2.2.2.2.2.2.2⟩
      | exact pI_mono fun _ _ => pI_mono fun _ _ => And.imp_right (h _ _ _ _ _)
      | exact pA_mono fun _ _ q => ⟨q.1, q.2.1, q.2.2.1, q.2.2.2.1, q.2.2.2.2.1, h _ _ _ _ _ q.2.2.2.2.2⟩
      | exact cal_mono he hQ h
      | exact And.imp_right (cal_mono he hQ h)
      | exact id
  · exact id
theorem getf_mono (h : ∀ pc ls st μ u, X pc ls st μ u → Y pc ls st μ u) {ci k a pc : Nat} {ls : LV} {r : List Value} {μ : Mu} {u : Nat × Nat} : getf X ci k a pc ls r μ u → getf Y ci k a pc ls r μ u := by
  unfold getf
  refine And.imp_right ?_
  split
  · exact onR_mono fun _ => h _ _ _ _ _
  · exact h _ _ _ _ _
theorem putf_mono (h : ∀ pc ls st μ u, X pc ls st μ u → Y pc ls st μ u) {ci k a pc : Nat} {v : Value} {ls : LV} {r : List Value} {μ : Mu} {u : Nat × Nat} : putf X ci k a v pc ls r μ u → putf Y ci k a v pc ls r μ u := by
  unfold putf
  refine And.imp_right (And.imp_right ?_)
  split
  · exact h _ _ _ _ _
  · exact And.imp_right (h _ _ _ _ _)
  · exact id
set_option maxHeartbeats 4000000 in
theorem stp_mono (he : ∀ j a μ (q q' : Po), (∀ o μ, q o μ → q' o μ) → ev j a μ q → ev' j a μ q') (hQ : ∀ o μ, Q o μ → Q' o μ) (h : ∀ pc ls st μ u, X pc ls st μ u → Y pc ls st μ u) {ins : Instr} {n pc : Nat} {ls : LV} {st : List Value} {μ : Mu} {u : Nat × Nat} : stp ev M Q X ins n pc ls st μ u → stp ev' M Q' Y ins n pc ls st μ u := by
  have h0 : ∀ pc ls st μ u, X pc ls st μ u → Y pc ls st μ u := h
  unfold stp
  split
  case _ => exact lI_mono fun _ => h _ _ _ _ _
  case _ => exact lI_mono fun _ => h _ _ _ _ _
  case _ => exact lA_mono fun _ => h _ _ _ _ _
  case _ => exact lA_mono fun _ => h _ _ _ _ _
  case _ => exact lL_mono fun _ => h _ _ _ _ _
  case _ => exact lL_mono fun _ => h _ _ _ _ _
  case _ => exact lD_mono fun _ => h _ _ _ _ _
  case _ => exact lD_mono fun _ => h _ _ _ _ _
  case _ => exact pI_mono fun _ _ => oki_mono (h _ _ _ _ _)
  case _ => exact pI_mono fun _ _ => oki_mono (h _ _ _ _ _)
  case _ => exact pA_mono fun _ _ => oki_mono (h _ _ _ _ _)
  case _ => exact pA_mono fun _ _ => oki_mono (h _ _ _ _ _)
  case _ => exact pL_mono fun _ _ => And.imp_right (oki_mono (h _ _ _ _ _))
  case _ => exact pL_mono fun _ _ => And.imp_right (oki_mono (h _ _ _ _ _))
  case _ => exact pD_mono fun _ _ => And.imp_right (oki_mono (h _ _ _ _ _))
  case _ => exact pD_mono fun _ _ => And.imp_right (oki_mono (h _ _ _ _ _))
  case _ => exact lI_mono fun _ => h _ _ _ _ _
  case _ => exact pI_mono fun _ _ => tgt_mono fun _ => brn_mono (h _ _ _ _ _) (h _ _ _ _ _)
  case _ => exact pI_mono fun _ _ => pI_mono fun _ _ => tgt_mono fun _ => brn_mono (h _ _ _ _ _) (h _ _ _ _ _)
  case _ => exact pA_mono fun _ _ => tgt_mono fun _ => h _ _ _ _ _
  case _ => exact pA_mono fun _ _ => And.imp_right (h _ _ _ _ _)
  case _ => exact tgt_mono fun _ => h _ _ _ _ _
  case _ => exact pI_mono fun _ _ => tsw_mono fun _ => h _ _ _ _ _
  case _ =>
    refine pA_mono fun _ _ => ?_
    split
    · exact getf_mono h
    · exact id
  case _ =>
    refine pV_mono fun _ _ => pA_mono fun _ _ => ?_
    split
    · split
      · exact putf_mono h
      · exact id
    · exact id
  case _ => exact pI_mono fun _ _ => pA_mono fun _ _ q => ⟨q.1, q.2.1, h _ _ _ _ _ q.2.2⟩
  case _ => exact pI_mono fun _ _ => pA_mono fun _ _ q => ⟨q.1, q.2.1, h _ _ _ _ _ q.2.2⟩
  case _ => exact pI_mono fun _ _ => pA_mono fun _ _ q => ⟨q.1, q.2.1, q.2.2.1, onR_mono (fun _ => h _ _ _ _ _) q.2.2.2⟩
  case _ => exact pI_mono fun _ _ => pI_mono fun _ _ => pA_mono fun _ _ q => ⟨q.1, q.2.1, q.2.2.1, h _ _ _ _ _ q.2.2.2⟩
  case _ =>
    refine pI_mono fun _ _ => pI_mono fun _ _ => pA_mono fun _ _ q => ?_
    generalize isL M = b at q ⊢
    cases b
    · exact ⟨q.1, q.2.1, q.2.2.1, h _ _ _ _ _ q.2.2.2⟩
    · exact ⟨q.1, q.2.1, q.2.2.1, q.2.2.2.1, h _ _ _ _ _ q.2.2.2.2⟩
  case _ => exact pA_mono fun _ _ => pI_mono fun _ _ => pA_mono fun _ _ q => ⟨q.1, q.2.1, q.2.2.1, h _ _ _ _ _ q.2.2.2⟩
  case _ => exact pA_mono fun _ _ => And.imp_right (h _ _ _ _ _)
  case _ =>
    split
    · split
      · exact fun q => ⟨q.1, q.2.1, q.2.2.1, q.2.2.2.1, fun x hx => hQ _ _ (q.2.2.2.2 x hx)⟩
      · exact And.imp_right (h _ _ _ _ _)
    · exact id
  case _ =>
    refine pI_mono fun _ _ q => ⟨q.1, q.2.1, q.2.2.1, ?_⟩
    have q3 := q.2.2.2
    split at q3
    · exact h _ _ _ _ _ q3
    · exact h _ _ _ _ _ q3
    · exact h _ _ _ _ _ q3
    · exact q3.elim
  case _ =>
    refine pI_mono fun _ _ q => ⟨q.1, q.2.1, q.2.2.1, ?_⟩
    have q3 := q.2.2.2
    split at q3
    · exact h _ _ _ _ _ q3
    · exact h _ _ _ _ _ q3
    · exact h _ _ _ _ _ q3
    · exact q3.elim
  case _ =>
    split
    · exact h _ _ _ _ _
    · exact h _ _ _ _ _
    · exact id
  case _ =>
    split
    · exact h _ _ _ _ _
    · exact h _ _ _ _ _
    · exact id
  case _ =>
    split
    · exact h _ _ _ _ _
    · exact id
  case _ =>
    split
    · exact fun q => ⟨h _ _ _ _ _ q.1, fun z => h _ _ _ _ _ (q.2 z)⟩
    · exact id
  case _ => exact inv_mono he hQ h
  case _ => exact inv_mono he hQ h
  case _ => exact inv_mono he hQ h
  case _ =>
    refine pI_mono fun _ _ q => ⟨q.1, q.2.1, ?_⟩
    have q3 := q.2.2
    split at q3
    · exact ⟨q3.1, hQ _ _ q3.2⟩
    · exact q3.elim
  case _ =>
    refine pA_mono fun _ _ q => ⟨q.1, q.2.1, ?_⟩
    have q3 := q.2.2
    split at q3
    · exact hQ _ _ q3
    · exact hQ _ _ q3
    · exact q3.elim
  case _ => exact pD_mono fun _ _ q => ⟨q.1, q.2.1, q.2.2.1, hQ _ _ q.2.2.2⟩
  case _ => exact fun q => ⟨q.1, q.2.1, q.2.2.1, hQ _ _ q.2.2.2⟩
  case _ => exact sop_mono fun _ => h _ _ _ _ _
theorem E_mono (he : ∀ j a μ (q q' : Po), (∀ o μ, q o μ → q' o μ) → ev j a μ q → ev' j a μ q') (hQ : ∀ o μ, Q o μ → Q' o μ) {pc : Nat} {ls : LV} {st : List Value} {μ : Mu} {u : Nat × Nat} (h : E ev M pc ls st μ u Q) : E ev' M pc ls st μ u Q' := by
  intro X hX
  exact h X fun pc ls st μ u ⟨ins, n, h1, h2, h3⟩ => hX pc ls st μ u ⟨ins, n, h1, h2, stp_mono he hQ (fun _ _ _ _ _ => id) h3⟩
end Mono
theorem Ev_mono : ∀ (d : Nat) (j : Nat) (a : List Value) (μ : Mu) (q q' : Po), (∀ o μ, q o μ → q' o μ) → Ev d j a μ q → Ev d j a μ q'
  | 0, _, _, _, _, _, _, h => h
  | d + 1, _, _, _, _, _, hq, h => ⟨h.1, h.2.1, E_mono (Ev_mono d) hq h.2.2⟩
theorem E_intro {d : Nat} {M : MI} {Q : Po} {pc : Nat} {ls : LV} {st : List Value} {μ : Mu} {u : Nat × Nat} {ins : Instr} {n : Nat} (h1 : decode (mi_c M) pc = .ok (ins, n)) (h2 : ilen ins n = true) (h3 : stp (Ev d) M Q (fun pc ls st μ u => E (Ev d) M pc ls st μ u Q) ins n pc ls st μ u) : E (Ev d) M pc ls st μ u Q := by
  intro X hX
  exact hX pc ls st μ u ⟨ins, n, h1, h2, stp_mono (Ev_mono d) (fun _ _ => id) (fun _ _ _ _ _ h => h X hX) h3⟩
theorem E_step {d : Nat} {M : MI} {Q : Po} {pc : Nat} {ls : LV} {st : List Value} {μ : Mu} {u : Nat × Nat} {ins : Instr} {n : Nat} (h1 : decode (mi_c M) pc = .ok (ins, n)) (h2 : ilen ins n = true) : E (Ev d) M pc ls st μ u Q ↔ stp (Ev d) M Q (fun pc ls st μ u => E (Ev d) M pc ls st μ u Q) ins n pc ls st μ u := by
  refine ⟨fun h => ?_, E_intro h1 h2⟩
  have h9 := h (fun pc ls st μ u => ∃ (ins : Instr) (n : Nat), decode (mi_c M) pc = .ok (ins, n) ∧ ilen ins n = true ∧ stp (Ev d) M Q (fun pc ls st μ u => E (Ev d) M pc ls st μ u Q) ins n pc ls st μ u)
    fun pc ls st μ u ⟨ins, n, g1, g2, g3⟩ => ⟨ins, n, g1, g2, stp_mono (Ev_mono d) (fun _ _ => id) (fun _ _ _ _ _ ⟨i2, n2, k1, k2, k3⟩ => E_intro k1 k2 k3) g3⟩
  obtain ⟨i2, n2, g1, g2, g3⟩ := h9
  rw [h1] at g1
  injection g1 with e
  injection e with e1 e2
  subst e1; subst e2
  exact g3
