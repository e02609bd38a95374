/-! ===== numbers in range ===== -/
theorem w32_id {x : Int} (h1 : -2147483648 ≤ x) (h2 : x < 2147483648) : w32 x = x := by rw [w32_eq]; omega
theorem w32_n {n : Nat} (h : n < 2147483648) : w32 (n : Int) = (n : Int) := by rw [w32_eq]; omega
theorem w64_id {x : Int} (h1 : -9223372036854775808 ≤ x) (h2 : x < 9223372036854775808) : w64 x = x := by rw [w64_eq]; omega
theorem t_imp (a : Prop) : (True → a) = a := propext ⟨fun h => h trivial, fun h _ => h⟩
theorem f_imp (a : Prop) : (False → a) = True := propext ⟨fun _ => trivial, fun _ h => h.elim⟩
theorem tMn {a b : Nat} : tM (a : Int) (b : Int) = ((a % b : Nat) : Int) := tM_eq _ _
theorem tDn {a b : Nat} : tD (a : Int) (b : Int) = ((a / b : Nat) : Int) := tD_eq _ _
theorem one_ne_zero_nat : ¬ (1 : Nat) = 0 := by decide
theorem in_of {G : aG} {r kd n : Nat} {i : Int} (h : isArr G r kd n) (h0 : 0 ≤ i) (h1 : i < n) (hn : n < 2147483648) : inA G r kd i := ⟨n, h, by rw [w32_id (by omega) (by omega)]; exact h0, by rw [w32_id (by omega) (by omega)]; exact h1⟩
/-! ===== bits of natural numbers ===== -/
theorem oN {n : Nat} (h : n < 2147483648) : Int32.ofInt (n : Int) = nI n := by
  rw [← Int32.toInt_inj, o32_toInt, nI_toInt (by omega), w32_n h]
theorem nI_tI {n : Nat} (h : n < 2147483648) : (nI n).toInt = (n : Int) := nI_toInt (by omega)
theorem nI_and (a b : Nat) : nI a &&& nI b = nI (a &&& b) := by
  rw [← Int32.toBitVec_inj]
  show BitVec.ofNat 32 a &&& BitVec.ofNat 32 b = BitVec.ofNat 32 (a &&& b)
  rw [BitVec.ofNat_and]
theorem nI_or (a b : Nat) : nI a ||| nI b = nI (a ||| b) := by
  rw [← Int32.toBitVec_inj]
  show BitVec.ofNat 32 a ||| BitVec.ofNat 32 b = BitVec.ofNat 32 (a ||| b)
  rw [BitVec.ofNat_or]
theorem nI_xor (a b : Nat) : nI a ^^^ nI b = nI (a ^^^ b) := by
  rw [← Int32.toBitVec_inj]
  show BitVec.ofNat 32 a ^^^ BitVec.ofNat 32 b = BitVec.ofNat 32 (a ^^^ b)
  rw [BitVec.ofNat_xor]
theorem sh31 : ∀ n, n < 32 → ((nI n &&& 31).toBitVec.smod 32).toNat = n := by decide +kernel
theorem and_lt {a b : Nat} (h : a < 2147483648) : a &&& b < 2147483648 := Nat.lt_of_le_of_lt Nat.and_le_left h
theorem andI {a b : Nat} (ha : a < 2147483648) (hb : b < 2147483648) : bAnd (a : Int) (b : Int) = ((a &&& b : Nat) : Int) := by
  rw [bAnd_eq]
  rw [oN ha, oN hb, nI_and, nI_tI (and_lt ha)]
theorem orI {a b : Nat} (ha : a < 2147483648) (hb : b < 2147483648) : bOr (a : Int) (b : Int) = ((a ||| b : Nat) : Int) := by
  rw [bOr_eq]
  rw [oN ha, oN hb, nI_or, nI_tI (Nat.or_lt_two_pow (n := 31) ha hb)]
theorem xorI {a b : Nat} (ha : a < 2147483648) (hb : b < 2147483648) : bXor (a : Int) (b : Int) = ((a ^^^ b : Nat) : Int) := by
  rw [bXor_eq]
  rw [oN ha, oN hb, nI_xor, nI_tI (Nat.xor_lt_two_pow (n := 31) ha hb)]
theorem shrI {a p : Nat} (ha : a < 2147483648) (hp : p < 32) : bShr (a : Int) (p : Int) = ((a / 2 ^ p : Nat) : Int) := by
  rw [bShr_eq]
  rw [oN ha, oN (by omega), pk_shrN (by omega) _ p (sh31 p hp), nI_tI (Nat.lt_of_le_of_lt (Nat.div_le_self _ _) ha)]
theorem shlI {a p : Nat} (ha : a < 2147483648) (hp : p < 32) (h : a * 2 ^ p < 2147483648) : bShl (a : Int) (p : Int) = ((a * 2 ^ p : Nat) : Int) := by
  rw [bShl_eq]
  rw [oN ha, oN (by omega), pk_shlN _ p (sh31 p hp) (by omega), nI_tI h]
theorem and1I {a : Nat} (ha : a < 2147483648) : bAnd (a : Int) 1 = ((a % 2 : Nat) : Int) := by
  have h := andI (b := 1) ha (by decide)
  rw [Nat.and_one_is_mod] at h
  exact h
theorem shl1I {p : Nat} (hp : p < 31) : bShl 1 (p : Int) = ((2 ^ p : Nat) : Int) := by
  have h2 : 2 ^ p < 2147483648 := Nat.pow_lt_pow_right (n := 31) (a := 2) (by decide) hp
  have h := shlI (a := 1) (p := p) (by decide) (by omega) (by rw [Nat.one_mul]; exact h2)
  rw [Nat.one_mul] at h
  exact h
/-- bit p of a, as 0 or 1 -/
def bt (a p : Nat) : Nat := a / 2 ^ p % 2
theorem bt_t (a p : Nat) : bt a p = (a.testBit p).toNat := by
  unfold bt
  rw [Nat.toNat_testBit]
theorem bt_01 (a p : Nat) : bt a p = 0 ∨ bt a p = 1 := by unfold bt; omega
theorem div_lt31 {a p : Nat} (ha : a < 2147483648) : a / 2 ^ p < 2147483648 := Nat.lt_of_le_of_lt (Nat.div_le_self _ _) ha
/-- a >> p & 1, as the machine has it -/
theorem btI {a p : Nat} (ha : a < 2147483648) (hp : p < 32) : bAnd (bShr (a : Int) (p : Int)) 1 = ((bt a p : Nat) : Int) := by
  rw [shrI ha hp, and1I (div_lt31 ha)]
  rfl
