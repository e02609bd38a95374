/-! ===== one instruction, told as what must hold for what comes behind it (k) ===== -/
abbrev aK : Type := Nat → List aV → List aV → aG → aM → Prop
abbrev aQ : Type := Option aV → aG → aM → Prop
def pI (S : List aV) (f : Int → List aV → Prop) : Prop := match S with
  | .inl x :: S' => f x S'
  | _ => False
def pL (S : List aV) (f : Int → List aV → Prop) : Prop := match S with
  | .inr (.inl x) :: S' => f x S'
  | _ => False
def pR (S : List aV) (f : Option Nat → List aV → Prop) : Prop := match S with
  | .inr (.inr (.inl r)) :: S' => f r S'
  | _ => False
def pA (S : List aV) (f : Nat → List aV → Prop) : Prop := match S with
  | .inr (.inr (.inl (some a))) :: S' => f a S'
  | _ => False
def isI (v : aV) : Prop := match v with
  | .inl _ => True
  | _ => False
def isA (v : aV) : Prop := match v with
  | .inr (.inr (.inl (some _))) => True
  | _ => False
def incV (v : aV) (c : Int) : aV := match v with
  | .inl x => vI (x + c)
  | w => w
theorem pI_c (x : Int) (S : List aV) (f : Int → List aV → Prop) : pI (vI x :: S) f = f x S := rfl
theorem pL_c (x : Int) (S : List aV) (f : Int → List aV → Prop) : pL (vL x :: S) f = f x S := rfl
theorem pR_c (x : Option Nat) (S : List aV) (f : Option Nat → List aV → Prop) : pR (vR x :: S) f = f x S := rfl
theorem pA_c (x : Nat) (S : List aV) (f : Nat → List aV → Prop) : pA (vR (some x) :: S) f = f x S := rfl
theorem isI_c (x : Int) : isI (vI x) = True := rfl
theorem isL_c (x : Int) : isL (vL x) = True := rfl
theorem isL_i (x : Int) : isL (vI x) = False := rfl
theorem isL_r (x : Option Nat) : isL (vR x) = False := rfl
theorem isL_j : isL vJ = False := rfl
theorem isA_c (x : Nat) : isA (vR (some x)) = True := rfl
theorem inc_c (x c : Int) : incV (vI x) c = vI (x + c) := rfl
def stO (L : List aV) (a : Nat) : Prop := a = 0 ∨ ¬ isL (L.getD (a - 1) vJ)
def inA (G : aG) (r kd : Nat) (i : Int) : Prop := ∃ n : Nat, isArr G r kd n ∧ 0 ≤ w32 i ∧ w32 i < n
def fV (d : Nat) (x : Int) (r : Option Nat) : aV := match d with
  | 0 => vI x
  | 1 => vL x
  | 2 => vR r
  | _ => vI x
def cZ (c : Jvm.ClassFile.Cond) (x y : Int) : Prop := match c with
  | .eq => x = y
  | .ne => ¬ x = y
  | .lt => x < y
  | .ge => y ≤ x
  | .gt => y < x
  | .le => x ≤ y
def sw (x : Int) (P : Nat → Prop) (d : Nat) : List (Int × Nat) → Prop
  | [] => P d
  | q :: r => (x = q.1 → P q.2) ∧ (¬ x = q.1 → sw x P d r)
/-- N rows of K numbers: the outer cell q, the rows r 0 .. -/
def gNN (G : aG) (q : Nat) (r : Nat → Nat) (N K : Nat) : aG := (G.1 ++ q :: (List.range N).map r, (fun x => if x = q then .inr (5, N) else if x ∈ (List.range N).map r then .inr (0, K) else G.2.1 x), (fun x => if x = q then (fun j => if j < N then some (r j) else none) else if x ∈ (List.range N).map r then (fun _ => none) else G.2.2 x))
def mNN (M : aM) (q : Nat) (r : Nat → Nat) (N : Nat) : aM := fun x => if x = q ∨ x ∈ (List.range N).map r then (fun _ => 0) else M x
theorem ex_bAnd : ∃ f : Int → Int → Int, ∀ x y, f x y = (Int32.ofInt x &&& Int32.ofInt y).toInt := ⟨fun x y => (Int32.ofInt x &&& Int32.ofInt y).toInt, fun _ _ => rfl⟩
noncomputable def bAnd : Int → Int → Int := Classical.choose ex_bAnd
theorem bAnd_eq (x y : Int) : bAnd x y = (Int32.ofInt x &&& Int32.ofInt y).toInt := Classical.choose_spec ex_bAnd x y
theorem o_bAnd (x y : Int) : Int32.ofInt (bAnd x y) = Int32.ofInt x &&& Int32.ofInt y := by rw [bAnd_eq]; exact o32_b _
theorem ex_bOr : ∃ f : Int → Int → Int, ∀ x y, f x y = (Int32.ofInt x ||| Int32.ofInt y).toInt := ⟨fun x y => (Int32.ofInt x ||| Int32.ofInt y).toInt, fun _ _ => rfl⟩
noncomputable def bOr : Int → Int → Int := Classical.choose ex_bOr
theorem bOr_eq (x y : Int) : bOr x y = (Int32.ofInt x ||| Int32.ofInt y).toInt := Classical.choose_spec ex_bOr x y
theorem o_bOr (x y : Int) : Int32.ofInt (bOr x y) = Int32.ofInt x ||| Int32.ofInt y := by rw [bOr_eq]; exact o32_b _
theorem ex_bXor : ∃ f : Int → Int → Int, ∀ x y, f x y = (Int32.ofInt x ^^^ Int32.ofInt y).toInt := ⟨fun x y => (Int32.ofInt x ^^^ Int32.ofInt y).toInt, fun _ _ => rfl⟩
noncomputable def bXor : Int → Int → Int := Classical.choose ex_bXor
theorem bXor_eq (x y : Int) : bXor x y = (Int32.ofInt x ^^^ Int32.ofInt y).toInt := Classical.choose_spec ex_bXor x y
theorem o_bXor (x y : Int) : Int32.ofInt (bXor x y) = Int32.ofInt x ^^^ Int32.ofInt y := by rw [bXor_eq]; exact o32_b _
theorem ex_bShl : ∃ f : Int → Int → Int, ∀ x y, f x y = (Int32.ofInt x <<< (Int32.ofInt y &&& 31)).toInt := ⟨fun x y => (Int32.ofInt x <<< (Int32.ofInt y &&& 31)).toInt, fun _ _ => rfl⟩
noncomputable def bShl : Int → Int → Int := Classical.choose ex_bShl
theorem bShl_eq (x y : Int) : bShl x y = (Int32.ofInt x <<< (Int32.ofInt y &&& 31)).toInt := Classical.choose_spec ex_bShl x y
theorem o_bShl (x y : Int) : Int32.ofInt (bShl x y) = Int32.ofInt x <<< (Int32.ofInt y &&& 31) := by rw [bShl_eq]; exact o32_b _
theorem ex_bShr : ∃ f : Int → Int → Int, ∀ x y, f x y = (Int32.ofInt x >>> (Int32.ofInt y &&& 31)).toInt := ⟨fun x y => (Int32.ofInt x >>> (Int32.ofInt y &&& 31)).toInt, fun _ _ => rfl⟩
noncomputable def bShr : Int → Int → Int := Classical.choose ex_bShr
theorem bShr_eq (x y : Int) : bShr x y = (Int32.ofInt x >>> (Int32.ofInt y &&& 31)).toInt := Classical.choose_spec ex_bShr x y
theorem o_bShr (x y : Int) : Int32.ofInt (bShr x y) = Int32.ofInt x >>> (Int32.ofInt y &&& 31) := by rw [bShr_eq]; exact o32_b _
theorem ex_bUsh : ∃ f : Int → Int → Int, ∀ x y, f x y = (((Int32.ofInt x).toUInt32 >>> ((Int32.ofInt y).toUInt32 &&& Int32.toUInt32 31)).toInt32).toInt := ⟨fun x y => (((Int32.ofInt x).toUInt32 >>> ((Int32.ofInt y).toUInt32 &&& Int32.toUInt32 31)).toInt32).toInt, fun _ _ => rfl⟩
noncomputable def bUsh : Int → Int → Int := Classical.choose ex_bUsh
theorem bUsh_eq (x y : Int) : bUsh x y = (((Int32.ofInt x).toUInt32 >>> ((Int32.ofInt y).toUInt32 &&& Int32.toUInt32 31)).toInt32).toInt := Classical.choose_spec ex_bUsh x y
theorem o_bUsh (x y : Int) : Int32.ofInt (bUsh x y) = ((Int32.ofInt x).toUInt32 >>> ((Int32.ofInt y).toUInt32 &&& Int32.toUInt32 31)).toInt32 := by rw [bUsh_eq]; exact o32_b _
theorem ex_lAnd : ∃ f : Int → Int → Int, ∀ x y, f x y = (Int64.ofInt x &&& Int64.ofInt y).toInt := ⟨fun x y => (Int64.ofInt x &&& Int64.ofInt y).toInt, fun _ _ => rfl⟩
noncomputable def lAnd : Int → Int → Int := Classical.choose ex_lAnd
theorem lAnd_eq (x y : Int) : lAnd x y = (Int64.ofInt x &&& Int64.ofInt y).toInt := Classical.choose_spec ex_lAnd x y
theorem o_lAnd (x y : Int) : Int64.ofInt (lAnd x y) = Int64.ofInt x &&& Int64.ofInt y := by rw [lAnd_eq]; exact o64_b _
theorem ex_lOr : ∃ f : Int → Int → Int, ∀ x y, f x y = (Int64.ofInt x ||| Int64.ofInt y).toInt := ⟨fun x y => (Int64.ofInt x ||| Int64.ofInt y).toInt, fun _ _ => rfl⟩
noncomputable def lOr : Int → Int → Int := Classical.choose ex_lOr
theorem lOr_eq (x y : Int) : lOr x y = (Int64.ofInt x ||| Int64.ofInt y).toInt := Classical.choose_spec ex_lOr x y
theorem o_lOr (x y : Int) : Int64.ofInt (lOr x y) = Int64.ofInt x ||| Int64.ofInt y := by rw [lOr_eq]; exact o64_b _
theorem ex_lXor : ∃ f : Int → Int → Int, ∀ x y, f x y = (Int64.ofInt x ^^^ Int64.ofInt y).toInt := ⟨fun x y => (Int64.ofInt x ^^^ Int64.ofInt y).toInt, fun _ _ => rfl⟩
noncomputable def lXor : Int → Int → Int := Classical.choose ex_lXor
theorem lXor_eq (x y : Int) : lXor x y = (Int64.ofInt x ^^^ Int64.ofInt y).toInt := Classical.choose_spec ex_lXor x y
theorem o_lXor (x y : Int) : Int64.ofInt (lXor x y) = Int64.ofInt x ^^^ Int64.ofInt y := by rw [lXor_eq]; exact o64_b _
theorem ex_lShl : ∃ f : Int → Int → Int, ∀ x y, f x y = (Int64.ofInt x <<< ((Int32.ofInt y).toInt64 &&& 63)).toInt := ⟨fun x y => (Int64.ofInt x <<< ((Int32.ofInt y).toInt64 &&& 63)).toInt, fun _ _ => rfl⟩
noncomputable def lShl : Int → Int → Int := Classical.choose ex_lShl
theorem lShl_eq (x y : Int) : lShl x y = (Int64.ofInt x <<< ((Int32.ofInt y).toInt64 &&& 63)).toInt := Classical.choose_spec ex_lShl x y
theorem o_lShl (x y : Int) : Int64.ofInt (lShl x y) = Int64.ofInt x <<< ((Int32.ofInt y).toInt64 &&& 63) := by rw [lShl_eq]; exact o64_b _
theorem ex_lShr : ∃ f : Int → Int → Int, ∀ x y, f x y = (Int64.ofInt x >>> ((Int32.ofInt y).toInt64 &&& 63)).toInt := ⟨fun x y => (Int64.ofInt x >>> ((Int32.ofInt y).toInt64 &&& 63)).toInt, fun _ _ => rfl⟩
noncomputable def lShr : Int → Int → Int := Classical.choose ex_lShr
theorem lShr_eq (x y : Int) : lShr x y = (Int64.ofInt x >>> ((Int32.ofInt y).toInt64 &&& 63)).toInt := Classical.choose_spec ex_lShr x y
theorem o_lShr (x y : Int) : Int64.ofInt (lShr x y) = Int64.ofInt x >>> ((Int32.ofInt y).toInt64 &&& 63) := by rw [lShr_eq]; exact o64_b _
def step (Γ : aR) (ρ mi : Nat) (Q : aQ) (i : Instr) (a b d : Nat) (c : Int) (t : List (Int × Nat)) (κ : Nat) (L S : List aV) (G : aG) (M : aM) (k : aK) : Prop := match i with
  | .iconst _ => k κ L (vI c :: S) G M
  | .bipush _ => k κ L (vI c :: S) G M
  | .sipush _ => k κ L (vI c :: S) G M
  | .ldc _ => k κ L (vI c :: S) G M
  | .ldc_w _ => k κ L (vI c :: S) G M
  | .lconst _ => k κ L (vL c :: S) G M
  | .ldc2_w _ => k κ L (vL c :: S) G M
  | .iload_n _ => isI (L.getD a vJ) ∧ k κ L (L.getD a vJ :: S) G M
  | .iload _ => isI (L.getD a vJ) ∧ k κ L (L.getD a vJ :: S) G M
  | .lload_n _ => isL (L.getD a vJ) ∧ k κ L (L.getD a vJ :: S) G M
  | .lload _ => isL (L.getD a vJ) ∧ k κ L (L.getD a vJ :: S) G M
  | .aload_n _ => isA (L.getD a vJ) ∧ k κ L (L.getD a vJ :: S) G M
  | .aload _ => isA (L.getD a vJ) ∧ k κ L (L.getD a vJ :: S) G M
  | .istore_n _ => pI S fun x S => stO L a ∧ k κ (L.set a (vI x)) S G M
  | .istore _ => pI S fun x S => stO L a ∧ k κ (L.set a (vI x)) S G M
  | .lstore_n _ => pL S fun x S => stO L a ∧ k κ ((L.set a (vL x)).set (a + 1) vJ) S G M
  | .lstore _ => pL S fun x S => stO L a ∧ k κ ((L.set a (vL x)).set (a + 1) vJ) S G M
  | .astore_n _ => pA S fun x S => stO L a ∧ k κ (L.set a (vR (some x))) S G M
  | .astore _ => pA S fun x S => stO L a ∧ k κ (L.set a (vR (some x))) S G M
  | .iinc _ _ => isI (L.getD a vJ) ∧ stO L a ∧ k κ (L.set a (incV (L.getD a vJ) c)) S G M
  | .iadd => pI S fun y S => pI S fun x S => k κ L (vI (x + y) :: S) G M
  | .isub => pI S fun y S => pI S fun x S => k κ L (vI (x - y) :: S) G M
  | .imul => pI S fun y S => pI S fun x S => k κ L (vI (x * y) :: S) G M
  | .idiv => pI S fun y S => pI S fun x S => ¬ w32 y = 0 ∧ k κ L (vI (tD (w32 x) (w32 y)) :: S) G M
  | .irem => pI S fun y S => pI S fun x S => ¬ w32 y = 0 ∧ k κ L (vI (tM (w32 x) (w32 y)) :: S) G M
  | .iand => pI S fun y S => pI S fun x S => k κ L (vI (bAnd x y) :: S) G M
  | .ior => pI S fun y S => pI S fun x S => k κ L (vI (bOr x y) :: S) G M
  | .ixor => pI S fun y S => pI S fun x S => k κ L (vI (bXor x y) :: S) G M
  | .ishl => pI S fun y S => pI S fun x S => k κ L (vI (bShl x y) :: S) G M
  | .ishr => pI S fun y S => pI S fun x S => k κ L (vI (bShr x y) :: S) G M
  | .iushr => pI S fun y S => pI S fun x S => k κ L (vI (bUsh x y) :: S) G M
  | .ladd => pL S fun y S => pL S fun x S => k κ L (vL (x + y) :: S) G M
  | .lmul => pL S fun y S => pL S fun x S => k κ L (vL (x * y) :: S) G M
  | .ldiv => pL S fun y S => pL S fun x S => ¬ w64 y = 0 ∧ k κ L (vL (tD (w64 x) (w64 y)) :: S) G M
  | .lrem => pL S fun y S => pL S fun x S => ¬ w64 y = 0 ∧ k κ L (vL (tM (w64 x) (w64 y)) :: S) G M
  | .land => pL S fun y S => pL S fun x S => k κ L (vL (lAnd x y) :: S) G M
  | .lor => pL S fun y S => pL S fun x S => k κ L (vL (lOr x y) :: S) G M
  | .lxor => pL S fun y S => pL S fun x S => k κ L (vL (lXor x y) :: S) G M
  | .lshl => pI S fun y S => pL S fun x S => k κ L (vL (lShl x y) :: S) G M
  | .lshr => pI S fun y S => pL S fun x S => k κ L (vL (lShr x y) :: S) G M
  | .lcmp => pL S fun y S => pL S fun x S => k κ L (vI (lcmpI x y) :: S) G M
  | .i2l => pI S fun x S => k κ L (vL (w32 x) :: S) G M
  | .l2i => pL S fun x S => k κ L (vI x :: S) G M
  | .i2c => pI S fun x S => k κ L (vI (x % 65536) :: S) G M
  | .dup => (match S with
    | v :: S' => ¬ isL v ∧ k κ L (v :: v :: S') G M
    | _ => False)
  | .pop => (match S with
    | v :: S' => ¬ isL v ∧ k κ L S' G M
    | _ => False)
  | .dup2 => (match S with
    | v :: w :: S' => ¬ isL v ∧ ¬ isL w ∧ k κ L (v :: w :: v :: w :: S') G M
    | _ => False)
  | .iaload => pI S fun j S => pA S fun r S => (match b with
    | 0 => inA G r 0 j ∧ k κ L (vI (M r (w32 j).toNat) :: S) G M
    | _ => ∃ (n : Nat) (f : Nat → Int), (r, n, f) ∈ Γ.1 ∧ 0 ≤ w32 j ∧ w32 j < n ∧ k κ L (vI (f (w32 j).toNat) :: S) G M)
  | .caload => pI S fun j S => pA S fun r S => inA G r 2 j ∧ k κ L (vI (M r (w32 j).toNat) :: S) G M
  | .baload => pI S fun j S => pA S fun r S => inA G r 3 j ∧ k κ L (vI (M r (w32 j).toNat) :: S) G M
  | .laload => pI S fun j S => pA S fun r S => inA G r 1 j ∧ k κ L (vL (M r (w32 j).toNat) :: S) G M
  | .aaload => pI S fun j S => pA S fun r S => inA G r d j ∧ k κ L (vR (gR G r (w32 j).toNat) :: S) G M
  | .iastore => pI S fun x S => pI S fun j S => pA S fun r S => inA G r 0 j ∧ k κ L S G (wr M r (w32 j).toNat x)
  | .castore => pI S fun x S => pI S fun j S => pA S fun r S => inA G r 2 j ∧ k κ L S G (wr M r (w32 j).toNat (x % 65536))
  | .bastore => pI S fun x S => pI S fun j S => pA S fun r S => inA G r 3 j ∧ (x = 0 ∨ x = 1) ∧ k κ L S G (wr M r (w32 j).toNat x)
  | .lastore => pL S fun x S => pI S fun j S => pA S fun r S => inA G r 1 j ∧ k κ L S G (wr M r (w32 j).toNat x)
  | .aastore => pA S fun x S => pI S fun j S => pA S fun r S => inA G r 4 j ∧ isObj G x 4 ∧ k κ L S (gW G r (w32 j).toNat (some x)) M
  | .arraylength => pA S fun r S => (match a with
    | 0 => isArr G r d b ∧ k κ L (vI (b : Int) :: S) G M
    | _ => ∃ (n : Nat) (f : Nat → Int), (r, n, f) ∈ Γ.1 ∧ k κ L (vI (n : Int) :: S) G M)
  | .getfield _ => pA S fun r S => isObj G r a ∧ k κ L (fV d (M r b) (gR G r b) :: S) G M
  | .putfield _ => (match d with
    | 0 => pI S fun x S => pA S fun r S => isObj G r a ∧ k κ L S G (wr M r b x)
    | 1 => pL S fun x S => pA S fun r S => isObj G r a ∧ k κ L S G (wr M r b x)
    | 2 => pR S fun x S => pA S fun r S => isObj G r a ∧ k κ L S (gW G r b x) M
    | _ => pI S fun x S => pA S fun r S => isObj G r a ∧ (x = 0 ∨ x = 1) ∧ k κ L S G (wr M r b x))
  | .getstatic _ => k κ L (vR (some (Γ.2 a)) :: S) G M
  | .new _ => 1 ≤ κ ∧ ∀ q : Nat, q ∉ gA G → k (κ - 1) L (vR (some q) :: S) (gN G q (.inl a)) (mN0 M q)
  | .newarray _ => pI S fun n S => 0 ≤ w32 n ∧ w32 n ≤ 1100 ∧ 1 ≤ κ ∧ ∀ q : Nat, q ∉ gA G → k (κ - 1) L (vR (some q) :: S) (gN G q (.inr (d, (w32 n).toNat))) (mN0 M q)
  | .anewarray _ => pI S fun n S => 0 ≤ w32 n ∧ w32 n ≤ 1100 ∧ 1 ≤ κ ∧ ∀ q : Nat, q ∉ gA G → k (κ - 1) L (vR (some q) :: S) (gN G q (.inr (4, (w32 n).toNat))) (mN0 M q)
  | .goto _ => WP Γ ρ κ mi a L S G M Q
  | .ifCond o _ => pI S fun x S => (cZ o (w32 x) 0 → WP Γ ρ κ mi a L S G M Q) ∧ (¬ cZ o (w32 x) 0 → k κ L S G M)
  | .if_icmp o _ => pI S fun y S => pI S fun x S => (cZ o (w32 x) (w32 y) → WP Γ ρ κ mi a L S G M Q) ∧ (¬ cZ o (w32 x) (w32 y) → k κ L S G M)
  | .tableswitch _ _ _ _ => pI S fun x S => sw (w32 x) (fun pc => WP Γ ρ κ mi pc L S G M Q) a t
  | .lookupswitch _ _ => pI S fun x S => sw (w32 x) (fun pc => WP Γ ρ κ mi pc L S G M Q) a t
  | .ireturn => (match S with
    | [.inl x] => (b = 0 ∨ x = 0 ∨ x = 1) ∧ Q (some (vI x)) G M
    | _ => False)
  | .lreturn => (match S with
    | [.inr (.inl x)] => Q (some (vL x)) G M
    | _ => False)
  | .return_ => (match S with
    | [] => Q none G M
    | _ => False)
  | .invokevirtual _ => 1 ≤ ρ ∧ b ≤ S.length ∧ S.length ≤ b + 4 ∧ pA (S.take b).reverse (fun r _ => isObj G r d) ∧ WPm Γ (ρ - 1) 0 a (S.take b).reverse G M (fun v G' M' => k κ L (v.toList ++ S.drop b) G' M')
  | .invokestatic _ => (match d with
    | 0 => 1 ≤ ρ ∧ b ≤ S.length ∧ S.length ≤ b + 4 ∧ WPm Γ (ρ - 1) 0 a (S.take b).reverse G M (fun v G' M' => k κ L (v.toList ++ S.drop b) G' M')
    | _ => 1 ≤ ρ ∧ pI S fun n S => pI S fun dp S => pA S fun q S => pI S fun sp S => pA S fun r S => S.length ≤ 4 ∧ (∃ n0 n1 : Nat, isArr G r 0 n0 ∧ isArr G q 0 n1 ∧ 0 ≤ w32 sp ∧ 0 ≤ w32 dp ∧ 0 ≤ w32 n ∧ w32 sp + w32 n ≤ n0 ∧ w32 dp + w32 n ≤ n1) ∧ k κ L S G (va_up M q (va_cpy (M r) (M q) (w32 sp).toNat (w32 dp).toNat (w32 n).toNat)))
  | .invokespecial _ => (match d with
    | 0 => 1 ≤ ρ ∧ pA S fun _ S => S.length ≤ 4 ∧ k κ L S G M
    | _ => 1 ≤ ρ ∧ c.toNat ≤ κ ∧ b ≤ S.length ∧ S.length ≤ b + 4 ∧ pA (S.take b).reverse (fun r _ => isObj G r (d - 1)) ∧ WPm Γ (ρ - 1) c.toNat a (S.take b).reverse G M (fun v G' M' => k (κ - c.toNat) L (v.toList ++ S.drop b) G' M'))
  | _ => False
/-- an instruction with what its numbers mean: length; a, b, d, c; a switch's ways -/
abbrev El : Type := Instr × Nat × Nat × Nat × Nat × Int × List (Int × Nat)
def vcb (Γ : aR) (ρ mi : Nat) (Q : aQ) (nx : Nat) : List El → Nat → List aV → List aV → aG → aM → Prop
  | [], κ, L, S, G, M => WP Γ ρ κ mi nx L S G M Q
  | e :: r, κ, L, S, G, M => step Γ ρ mi Q e.1 e.2.2.1 e.2.2.2.1 e.2.2.2.2.1 e.2.2.2.2.2.1 e.2.2.2.2.2.2 κ L S G M (vcb Γ ρ mi Q nx r)
