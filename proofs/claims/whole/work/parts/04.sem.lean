/-! ===== what a state is: values, the world's shape G, its numbers M, the cells that are only read (Γ) ===== -/
abbrev aV : Type := Int ⊕ (Int ⊕ (Option Nat ⊕ Unit))
abbrev vI (x : Int) : aV := Sum.inl x
abbrev vL (x : Int) : aV := Sum.inr (Sum.inl x)
abbrev vR (r : Option Nat) : aV := Sum.inr (Sum.inr (Sum.inl r))
abbrev vJ : aV := Sum.inr (Sum.inr (Sum.inr ()))
def cV (v : aV) : Value := match v with
  | .inl x => .int (Int32.ofInt x)
  | .inr (.inl x) => .long (Int64.ofInt x)
  | .inr (.inr (.inl r)) => va_rf r
  | .inr (.inr (.inr _)) => .null
def isL (v : aV) : Prop := match v with
  | .inr (.inl _) => True
  | _ => False
theorem ex_w32 : ∃ f : Int → Int, ∀ x, f x = (x + 2147483648) % 4294967296 - 2147483648 := ⟨fun x => (x + 2147483648) % 4294967296 - 2147483648, fun _ => rfl⟩
noncomputable def w32 : Int → Int := Classical.choose ex_w32
theorem w32_eq (x : Int) : w32 x = (x + 2147483648) % 4294967296 - 2147483648 := Classical.choose_spec ex_w32 x
theorem ex_w64 : ∃ f : Int → Int, ∀ x, f x = (x + 9223372036854775808) % 18446744073709551616 - 9223372036854775808 := ⟨fun x => (x + 9223372036854775808) % 18446744073709551616 - 9223372036854775808, fun _ => rfl⟩
noncomputable def w64 : Int → Int := Classical.choose ex_w64
theorem w64_eq (x : Int) : w64 x = (x + 9223372036854775808) % 18446744073709551616 - 9223372036854775808 := Classical.choose_spec ex_w64 x
theorem ex_tD : ∃ f : Int → Int → Int, ∀ x y, f x y = Int.tdiv x y := ⟨fun x y => Int.tdiv x y, fun _ _ => rfl⟩
noncomputable def tD : Int → Int → Int := Classical.choose ex_tD
theorem tD_eq (x y : Int) : tD x y = Int.tdiv x y := Classical.choose_spec ex_tD x y
theorem ex_tM : ∃ f : Int → Int → Int, ∀ x y, f x y = Int.tmod x y := ⟨fun x y => Int.tmod x y, fun _ _ => rfl⟩
noncomputable def tM : Int → Int → Int := Classical.choose ex_tM
theorem tM_eq (x y : Int) : tM x y = Int.tmod x y := Classical.choose_spec ex_tM x y
/-- the world's shape: its addresses, what each is (a class's object; an array of a kind and a length), its references -/
abbrev aG : Type := List Nat × (Nat → Nat ⊕ (Nat × Nat)) × (Nat → Nat → Option Nat)
abbrev aM : Type := Nat → Nat → Int
/-- what is only read: arrays (address, length, numbers), the addresses of the statics -/
abbrev aR : Type := List (Nat × Nat × (Nat → Int)) × (Nat → Nat)
def gA (G : aG) : List Nat := G.1
def gT (G : aG) : Nat → Nat ⊕ (Nat × Nat) := G.2.1
def gR (G : aG) : Nat → Nat → Option Nat := G.2.2
def isObj (G : aG) (a ci : Nat) : Prop := a ∈ gA G ∧ gT G a = .inl ci
def isArr (G : aG) (a kd n : Nat) : Prop := a ∈ gA G ∧ gT G a = .inr (kd, n)
/-- a number written: cell a, place k -/
def wr (M : aM) (a k : Nat) (x : Int) : aM := va_up M a (va_up (M a) k x)
/-- a reference written -/
def gW (G : aG) (a k : Nat) (r : Option Nat) : aG := (G.1, G.2.1, va_up G.2.2 a (va_up (G.2.2 a) k r))
/-- a cell made -/
def gN (G : aG) (a : Nat) (t : Nat ⊕ (Nat × Nat)) : aG := (G.1 ++ [a], va_up G.2.1 a t, va_up G.2.2 a (fun _ => none))
def mN0 (M : aM) (a : Nat) : aM := va_up M a (fun _ => 0)
/-- the values of an object's fields -/
def cF1 (rf : Nat → Option Nat) (I : Nat → Int) (q : Nat × Nat) : Value := match q.1 with
  | 1 => .long (Int64.ofInt (I q.2))
  | 2 => va_rf (rf q.2)
  | _ => .int (Int32.ofInt (I q.2))
def cFs (ci : Nat) (rf : Nat → Option Nat) (I : Nat → Int) : List Value := (cK ci).zipIdx.map (cF1 rf I)
def cC (ca : Nat → ClassId) (t : Nat ⊕ (Nat × Nat)) (rf : Nat → Option Nat) (I : Nat → Int) : va_E := match t with
  | .inl ci => .inr (ci, cFs ci rf I)
  | .inr (0, n) => .inl (ca 0, n, .inl (fun j => Int32.ofInt (I j)))
  | .inr (1, n) => .inl (ca 1, n, .inr (.inl (fun j => Int64.ofInt (I j))))
  | .inr (2, n) => .inl (ca 2, n, .inl (fun j => Int32.ofInt (I j)))
  | .inr (3, n) => .inl (ca 3, n, .inl (fun j => Int32.ofInt (I j)))
  | .inr (4, n) => .inl (ca 4, n, .inr (.inr (.inr (.inr rf))))
  | .inr (_, n) => .inl (ca 5, n, .inr (.inr (.inr (.inr rf))))
def wl (ca : Nat → ClassId) (G : aG) (M : aM) : va_W := va_pl (gA G) (fun a => cC ca (gT G a) (gR G a) (M a))
def tysL (ca : Nat → ClassId) : List (ClassId × FieldType) := [(ca 0, .int), (ca 1, .long), (ca 2, .char), (ca 3, .boolean), (ca 4, .object RX4), (ca 5, .array .int)]
def Wd (D : va_G) (ca : Nat → ClassId) (G : aG) (M : aM) (A : Nat → Prop) (H : Heap) : Prop := va_P D vwCl (wl ca G M) H ∧ va_D A (wl ca G M)
/-- the tables' side facts that aren't passed on as words -/
def SF (s : State) : Prop := va_AO RX4 s ∧ (Cond.arrayOver (.array .int)).before #[] s = true ∧ ∀ q ∈ nE, va_Nw (.methodLinkNest (cN q.1) q.2.1 (mY q.2.2.2) RX9) s
def Ro (Γ : aR) (D : va_G) (ca : Nat → ClassId) (A : Nat → Prop) (s : State) : Prop := va_K D vwCl (tysL ca) s ∧ (∀ q ∈ Γ.1, va_T .int q.1 q.2.1 (fun j => .int (Int32.ofInt (q.2.2 j))) A s s.heap) ∧ (∀ k, k < 2 → va_Z RX2 (sN k) "[I" (.ref (Γ.2 k)) A s s.heap)
/-- the locals' values that are told (vJ: nothing is) -/
def lvL : Nat → List aV → List (Nat × Value)
  | _, [] => []
  | i, .inr (.inr (.inr _)) :: r => lvL (i + 1) r
  | i, v :: r => (i, cV v) :: lvL (i + 1) r
def lHas (ls : Array Slot) (n : Nat) (L : List aV) : Prop := lv_has ls n (lvL 0 L) ∧ L.length ≤ n
def CX (p : Program) (s : State) (m : MethodId) (args : Array Value) (meth : Method) (c : Code) (mi : Nat) (A : Nat → Prop) : Prop :=
  p.tables.exec = Jvm.exec ∧ c.code = mC mi ∧ c.maxLocals = mN mi ∧ s.vm.findClass (cN (mO mi)) = some m.cls ∧ (∀ w ∈ lw_g, w.before args s = true) ∧ (mKd mi = 2 → meth.name = "<init>") ∧ (∀ q : Nat, s.heap.size ≤ q → A q) ∧ SF s
def RetI (mi pc : Nat) (r : Option aV) : Prop := match r with
  | none => decode (mC mi) pc = .ok (.return_, 1) ∧ mR mi = none
  | some (.inl x) => decode (mC mi) pc = .ok (.ireturn, 1) ∧ (mR mi = some .int ∨ (mR mi = some .boolean ∧ (x = 0 ∨ x = 1)))
  | some (.inr (.inl _)) => decode (mC mi) pc = .ok (.lreturn, 1) ∧ mR mi = some .long
  | _ => False
/-- in method mi at pc, with these locals and stack, in this world: the method comes to its return, and Q holds there; at most κ cells are made, ρ frames -/
def WP (Γ : aR) (ρ κ mi pc : Nat) (L S : List aV) (G : aG) (M : aM) (Q : Option aV → aG → aM → Prop) : Prop :=
  ∀ (p : Program) (l : Launch) (e : Env) (R : Room) (s : State) (m : MethodId) (args : Array Value) (below : List Frame) (meth : Method) (c : Code) (D : va_G) (ca : Nat → ClassId) (A : Nat → Prop) (Z : State → Prop) (K Ks : Nat) (H : Heap) (locs : List Loc) (cells slots : Nat) (ls : Array Slot),
    CX p s m args meth c mi A → ρ ≤ R.frames → 64 * ρ ≤ R.locals → K ≤ R.cells → Ks ≤ R.slots → Ro Γ D ca A s →
    (∀ (pc' : Nat) (ls' : Array Slot) (H' : Heap) (locs' : List Loc) (r : Option aV) (G' : aG) (M' : aM), RetI mi pc' r → Q r G' M' → Wd D ca G' M' A H' → va_S A s.heap H' locs' → W p l e R s m args below meth c H' locs' K Ks Z (F0 m pc' ls' (r.toList.map cV))) →
    cells + κ ≤ K → slots + 1100 * κ ≤ Ks → Wd D ca G M A H → va_S A s.heap H locs → lHas ls (mN mi) L →
    W p l e R s m args below meth c H locs cells slots Z (F0 m pc ls (S.map cV))
def PcM (Γ : aR) (D : va_G) (ca : Nat → ClassId) (G : aG) (M : aM) (av : List aV) (sz : Nat) : Array Value → State → Prop :=
  va_Pc (av.map cV) (fun U => U.heap.size = sz ∧ Wd D ca G M (fun _ => True) U.heap ∧ Ro Γ D ca (va_A (wl ca G M) sz) U ∧ SF U)
def QcM (D : va_G) (ca : Nat → ClassId) (G : aG) (M : aM) (sz : Nat) (Q : Option aV → aG → aM → Prop) : Array Value → State → Outcome → State → Prop :=
  fun _ st oc t => (∃ (r : Option aV) (G' : aG) (M' : aM), oc = .returned (r.map cV) ∧ Q r G' M' ∧ Wd D ca G' M' (va_A (wl ca G M) sz) t.heap) ∧ va_F (va_A (wl ca G M) sz) st t
def mW (mi : Nat) : List Cond := Cond.code (mY mi) (mC mi) (mN mi) (mR mi) :: lw_g
def rmM (ρ κ : Nat) : Room := { frames := ρ, cells := κ, slots := 1100 * κ, locals := 64 * ρ }
/-- a call of mi with these arguments comes back, and Q holds then -/
def WPm (Γ : aR) (ρ κ mi : Nat) (av : List aV) (G : aG) (M : aM) (Q : Option aV → aG → aM → Prop) : Prop :=
  ∀ (l : Launch) (D : va_G) (ca : Nat → ClassId) (sz : Nat), Met l (mY mi) (mW mi) (rmM ρ κ) (PcM Γ D ca G M av sz) (QcM D ca G M sz Q) κ (1100 * κ) (va_A (wl ca G M) sz)
/-! ===== numbers ===== -/
theorem bm32 (x : Int) : x.bmod 4294967296 = w32 x := by
  simp only [w32_eq]
  rw [Int.bmod_def]
  omega
theorem bm64 (x : Int) : x.bmod 18446744073709551616 = w64 x := by
  simp only [w64_eq]
  rw [Int.bmod_def]
  omega
theorem o32_toInt (x : Int) : (Int32.ofInt x).toInt = w32 x := by rw [Int32.toInt_ofInt]; exact bm32 x
theorem o64_toInt (x : Int) : (Int64.ofInt x).toInt = w64 x := by rw [Int64.toInt_ofInt]; exact bm64 x
theorem o32_lt (x y : Int) : Int32.ofInt x < Int32.ofInt y ↔ w32 x < w32 y := by rw [Int32.lt_iff_toInt_lt, o32_toInt, o32_toInt]
theorem o32_le (x y : Int) : Int32.ofInt x ≤ Int32.ofInt y ↔ w32 x ≤ w32 y := by rw [Int32.le_iff_toInt_le, o32_toInt, o32_toInt]
theorem o32_eq (x y : Int) : Int32.ofInt x = Int32.ofInt y ↔ w32 x = w32 y := by rw [← Int32.toInt_inj, o32_toInt, o32_toInt]
theorem o64_lt (x y : Int) : Int64.ofInt x < Int64.ofInt y ↔ w64 x < w64 y := by rw [Int64.lt_iff_toInt_lt, o64_toInt, o64_toInt]
theorem o64_eq (x y : Int) : Int64.ofInt x = Int64.ofInt y ↔ w64 x = w64 y := by rw [← Int64.toInt_inj, o64_toInt, o64_toInt]
theorem o32_w (x : Int) : Int32.ofInt (w32 x) = Int32.ofInt x := by rw [o32_eq]; simp only [w32_eq]; omega
theorem o64_w (x : Int) : Int64.ofInt (w64 x) = Int64.ofInt x := by rw [o64_eq]; simp only [w64_eq]; omega
theorem o32_add (x y : Int) : Int32.ofInt (x + y) = Int32.ofInt x + Int32.ofInt y := Int32.ofInt_add x y
theorem o32_sub (x y : Int) : Int32.ofInt (x - y) = Int32.ofInt x - Int32.ofInt y := Int32.ofInt_sub x y
theorem o32_mul (x y : Int) : Int32.ofInt (x * y) = Int32.ofInt x * Int32.ofInt y := Int32.ofInt_mul x y
theorem o64_add (x y : Int) : Int64.ofInt (x + y) = Int64.ofInt x + Int64.ofInt y := Int64.ofInt_add x y
theorem o64_mul (x y : Int) : Int64.ofInt (x * y) = Int64.ofInt x * Int64.ofInt y := Int64.ofInt_mul x y
theorem o32_in (x : Int) (n : Nat) : vp_in (Int32.ofInt x) n ↔ 0 ≤ w32 x ∧ w32 x < n := by rw [vp_in_iff, o32_toInt]
theorem o32_cl (x : Int) : (Int32.ofInt x).toNatClampNeg = (w32 x).toNat := by
  show (Int32.ofInt x).toInt.toNat = _
  rw [o32_toInt]
theorem o32_0 : Int32.ofInt 0 = 0 := rfl
theorem o64_0 : Int64.ofInt 0 = 0 := rfl
theorem o32_div (x y : Int) : Int32.ofInt (tD (w32 x) (w32 y)) = Int32.ofInt x / Int32.ofInt y := by
  rw [tD_eq]
  rw [← Int32.toInt_inj, o32_toInt, Int32.toInt_div, o32_toInt, o32_toInt]
  exact (bm32 _).symm
theorem o64_div (x y : Int) : Int64.ofInt (tD (w64 x) (w64 y)) = Int64.ofInt x / Int64.ofInt y := by
  rw [tD_eq]
  rw [← Int64.toInt_inj, o64_toInt, Int64.toInt_div, o64_toInt, o64_toInt]
  exact (bm64 _).symm
theorem o32_rem (x y : Int) : Int32.ofInt (tM (w32 x) (w32 y)) = Int32.ofInt x - Int32.ofInt x / Int32.ofInt y * Int32.ofInt y := by
  rw [← o32_div, ← o32_w x, ← o32_w y, ← o32_mul, ← o32_sub, tM_eq, tD_eq]
  congr 1
  have h := Int.mul_tdiv_add_tmod (w32 x) (w32 y)
  rw [Int.mul_comm] at h
  omega
theorem o64_rem (x y : Int) : Int64.ofInt (tM (w64 x) (w64 y)) = Int64.ofInt x - Int64.ofInt x / Int64.ofInt y * Int64.ofInt y := by
  rw [← o64_div, ← o64_w x, ← o64_w y, ← o64_mul, ← Int64.ofInt_sub, tM_eq, tD_eq]
  congr 1
  have h := Int.mul_tdiv_add_tmod (w64 x) (w64 y)
  rw [Int.mul_comm] at h
  omega
theorem o32_b (x : Int32) : Int32.ofInt x.toInt = x := Int32.ofInt_toInt x
theorem o64_b (x : Int64) : Int64.ofInt x.toInt = x := Int64.ofInt_toInt x
theorem o32_i2l (x : Int) : (Int32.ofInt x).toInt64 = Int64.ofInt (w32 x) := by
  rw [← Int64.toInt_inj, Int32.toInt_toInt64, o32_toInt, o64_toInt]
  simp only [w64_eq, w32_eq]
  omega
theorem o64_l2i (x : Int) : (Int64.ofInt x).toInt32 = Int32.ofInt x := by
  rw [← Int32.toInt_inj, Int64.toInt_toInt32, o32_toInt, o64_toInt]
  show Int.bmod _ 4294967296 = _
  rw [bm32]
  simp only [w64_eq, w32_eq]
  omega
theorem o32_i2c (x : Int) : ((Int32.ofInt x).toUInt32 % 65536).toInt32 = Int32.ofInt (x % 65536) := by
  rw [pk_char]
  show Int32.ofNat _ = _
  rw [← Int32.toInt_inj, o32_toInt]
  have h : (Int32.ofInt x).toBitVec.toNat = (x % 4294967296).toNat := by
    show (BitVec.ofInt 32 x).toNat = _
    simp [BitVec.toNat_ofInt]
  rw [h]
  show (nI _).toInt = _
  rw [nI_toInt (by omega)]
  simp only [w32_eq]
  omega
noncomputable def lcmpI (x y : Int) : Int := if w64 x < w64 y then -1 else if w64 x = w64 y then 0 else 1
theorem o64_cmp (x y : Int) : lg_cmp (Int64.ofInt x) (Int64.ofInt y) = Int32.ofInt (lcmpI x y) := by
  unfold lg_cmp lcmpI
  simp only [gt_iff_lt, o64_lt, o64_eq]
  by_cases h1 : w64 y < w64 x
  · rw [if_pos h1, if_neg (by omega), if_neg (by omega)]
    rfl
  · rw [if_neg h1]
    by_cases h2 : w64 x = w64 y
    · rw [if_pos h2, if_neg (by omega), if_pos h2]
      rfl
    · rw [if_neg h2, if_pos (by omega)]
      rfl
