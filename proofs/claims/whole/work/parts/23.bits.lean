/-! ===== bitCount ===== -/
theorem ush31 : ∀ n, n < 32 → (((nI n).toUInt32 &&& Int32.toUInt32 31).toBitVec % 32).toNat = n := by decide +kernel
theorem ushI {a p : Nat} (ha : a < 2147483648) (hp : p < 32) : bUsh (a : Int) (p : Int) = ((a / 2 ^ p : Nat) : Int) := by
  rw [bUsh_eq, oN ha, oN (by omega), pk_ushrN (by omega) _ p (ush31 p hp), nI_tI (Nat.lt_of_le_of_lt (Nat.div_le_self _ _) ha)]
theorem ush1 {a : Nat} (ha : a < 2147483648) : bUsh (a : Int) 1 = ((a / 2 : Nat) : Int) := ushI (p := 1) ha (by decide)
theorem ush2 {a : Nat} (ha : a < 2147483648) : bUsh (a : Int) 2 = ((a / 4 : Nat) : Int) := ushI (p := 2) ha (by decide)
theorem ush4 {a : Nat} (ha : a < 2147483648) : bUsh (a : Int) 4 = ((a / 16 : Nat) : Int) := ushI (p := 4) ha (by decide)
theorem ush8 {a : Nat} (ha : a < 2147483648) : bUsh (a : Int) 8 = ((a / 256 : Nat) : Int) := ushI (p := 8) ha (by decide)
theorem ush16 {a : Nat} (ha : a < 2147483648) : bUsh (a : Int) 16 = ((a / 65536 : Nat) : Int) := ushI (p := 16) ha (by decide)
theorem and5 {a : Nat} (ha : a < 2147483648) : bAnd (a : Int) 1431655765 = ((a &&& 1431655765 : Nat) : Int) := andI (b := 1431655765) ha (by decide)
theorem and3 {a : Nat} (ha : a < 2147483648) : bAnd (a : Int) 858993459 = ((a &&& 858993459 : Nat) : Int) := andI (b := 858993459) ha (by decide)
theorem andF {a : Nat} (ha : a < 2147483648) : bAnd (a : Int) 252645135 = ((a &&& 252645135 : Nat) : Int) := andI (b := 252645135) ha (by decide)
theorem and63 {a : Nat} (ha : a < 2147483648) : bAnd (a : Int) 63 = ((a &&& 63 : Nat) : Int) := andI (b := 63) ha (by decide)
def bc1 (x : Nat) : Nat := x - (x / 2 &&& 1431655765)
def bc2 (x : Nat) : Nat := (x &&& 858993459) + (x / 4 &&& 858993459)
def bc3 (x : Nat) : Nat := x + x / 16 &&& 252645135
theorem bc_f : ∀ x, x < 64 → (x / 2 &&& 1431655765) ≤ x ∧ bc1 x < 64 ∧ bc2 (bc1 x) < 64 ∧ bc3 (bc2 (bc1 x)) < 64 ∧ (bc3 (bc2 (bc1 x)) + bc3 (bc2 (bc1 x)) / 256) < 64 ∧ (bc3 (bc2 (bc1 x)) + bc3 (bc2 (bc1 x)) / 256 + (bc3 (bc2 (bc1 x)) + bc3 (bc2 (bc1 x)) / 256) / 65536 &&& 63) = pop x := by decide +kernel
section BITS
variable {Γ : aR} {ρ κ : Nat} {G : aG} {M : aM} {Q : aQ}
theorem s_j_bitCount {x : Nat} (hx : x < 64) (hQ : Q (some (vI (pop x : Nat))) G M) : WPm Γ ρ 0 143 [vI x] G M Q := by
  obtain ⟨f1, f2, f3, f4, f5, f6⟩ := bc_f x hx
  refine WPm_of (L := [vI x]) 0 (by decide) (Nat.le_of_ble_eq_true rfl) rfl ?_
  refine blk bk_j_bitCount_0 ?_
  simp (disch := omega) only [vcb, step, ↓pI_c, ↓pL_c, ↓pR_c, ↓pA_c, isI_c, isL_c, isL_i, isL_r, isL_j, isA_c, inc_c, stO, fV, cZ, sw, List.getD_cons_zero, List.getD_cons_succ, List.set_cons_zero, List.set_cons_succ, List.take_succ_cons, List.take_zero, List.drop_succ_cons, List.drop_zero, List.reverse_cons, List.reverse_nil, List.nil_append, List.cons_append, List.append_nil, Option.toList_some, Option.toList_none, List.length_cons, List.length_nil, Nat.reduceAdd, Nat.reduceSub, Nat.reduceLeDiff, Nat.reduceEqDiff, Nat.add_eq, not_false_eq_true, not_true_eq_false, true_and, and_true, false_or, or_true, true_or, or_false, and_self, one_ne_zero_nat, w32_id, w32_n, Int.toNat_natCast, Int.reduceToNat, Nat.zero_add, Nat.zero_le, Nat.le_refl, Int.reduceEq, Int.reduceLT, Int.reduceLE, Int.reduceAdd, Int.reduceSub, Int.reduceMul, t_imp, f_imp, ush1, and5]
  have e1 : (x : Int) - ((x / 2 &&& 1431655765 : Nat) : Int) = ((bc1 x : Nat) : Int) := by unfold bc1; omega
  rw [e1]
  generalize bc1 x = y1 at *
  refine blk bk_j_bitCount_10 ?_
  simp (disch := omega) only [vcb, step, ↓pI_c, ↓pL_c, ↓pR_c, ↓pA_c, isI_c, isL_c, isL_i, isL_r, isL_j, isA_c, inc_c, stO, fV, cZ, sw, List.getD_cons_zero, List.getD_cons_succ, List.set_cons_zero, List.set_cons_succ, List.take_succ_cons, List.take_zero, List.drop_succ_cons, List.drop_zero, List.reverse_cons, List.reverse_nil, List.nil_append, List.cons_append, List.append_nil, Option.toList_some, Option.toList_none, List.length_cons, List.length_nil, Nat.reduceAdd, Nat.reduceSub, Nat.reduceLeDiff, Nat.reduceEqDiff, Nat.add_eq, not_false_eq_true, not_true_eq_false, true_and, and_true, false_or, or_true, true_or, or_false, and_self, one_ne_zero_nat, w32_id, w32_n, Int.toNat_natCast, Int.reduceToNat, Nat.zero_add, Nat.zero_le, Nat.le_refl, Int.reduceEq, Int.reduceLT, Int.reduceLE, Int.reduceAdd, Int.reduceSub, Int.reduceMul, t_imp, f_imp, ush2, and3]
  have h2 : (y1 &&& 858993459) ≤ y1 := Nat.and_le_left
  have e2 : ((y1 &&& 858993459 : Nat) : Int) + ((y1 / 4 &&& 858993459 : Nat) : Int) = ((bc2 y1 : Nat) : Int) := by unfold bc2; omega
  rw [e2]
  generalize bc2 y1 = y2 at *
  refine blk bk_j_bitCount_24 ?_
  simp (disch := omega) only [vcb, step, ↓pI_c, ↓pL_c, ↓pR_c, ↓pA_c, isI_c, isL_c, isL_i, isL_r, isL_j, isA_c, inc_c, stO, fV, cZ, sw, List.getD_cons_zero, List.getD_cons_succ, List.set_cons_zero, List.set_cons_succ, List.take_succ_cons, List.take_zero, List.drop_succ_cons, List.drop_zero, List.reverse_cons, List.reverse_nil, List.nil_append, List.cons_append, List.append_nil, Option.toList_some, Option.toList_none, List.length_cons, List.length_nil, Nat.reduceAdd, Nat.reduceSub, Nat.reduceLeDiff, Nat.reduceEqDiff, Nat.add_eq, not_false_eq_true, not_true_eq_false, true_and, and_true, false_or, or_true, true_or, or_false, and_self, one_ne_zero_nat, w32_id, w32_n, Int.toNat_natCast, Int.reduceToNat, Nat.zero_add, Nat.zero_le, Nat.le_refl, Int.reduceEq, Int.reduceLT, Int.reduceLE, Int.reduceAdd, Int.reduceSub, Int.reduceMul, t_imp, f_imp, ush4]
  have e3 : (y2 : Int) + ((y2 / 16 : Nat) : Int) = ((y2 + y2 / 16 : Nat) : Int) := by omega
  rw [e3, andF (by omega)]
  have e3' : ((y2 + y2 / 16 &&& 252645135 : Nat) : Int) = ((bc3 y2 : Nat) : Int) := rfl
  rw [e3']
  generalize bc3 y2 = y3 at *
  refine blk bk_j_bitCount_34 ?_
  simp (disch := omega) only [vcb, step, ↓pI_c, ↓pL_c, ↓pR_c, ↓pA_c, isI_c, isL_c, isL_i, isL_r, isL_j, isA_c, inc_c, stO, fV, cZ, sw, List.getD_cons_zero, List.getD_cons_succ, List.set_cons_zero, List.set_cons_succ, List.take_succ_cons, List.take_zero, List.drop_succ_cons, List.drop_zero, List.reverse_cons, List.reverse_nil, List.nil_append, List.cons_append, List.append_nil, Option.toList_some, Option.toList_none, List.length_cons, List.length_nil, Nat.reduceAdd, Nat.reduceSub, Nat.reduceLeDiff, Nat.reduceEqDiff, Nat.add_eq, not_false_eq_true, not_true_eq_false, true_and, and_true, false_or, or_true, true_or, or_false, and_self, one_ne_zero_nat, w32_id, w32_n, Int.toNat_natCast, Int.reduceToNat, Nat.zero_add, Nat.zero_le, Nat.le_refl, Int.reduceEq, Int.reduceLT, Int.reduceLE, Int.reduceAdd, Int.reduceSub, Int.reduceMul, t_imp, f_imp, ush8]
  have e4 : (y3 : Int) + ((y3 / 256 : Nat) : Int) = ((y3 + y3 / 256 : Nat) : Int) := by omega
  rw [e4]
  generalize y3 + y3 / 256 = y4 at *
  refine blk bk_j_bitCount_41 ?_
  simp (disch := omega) only [vcb, step, ↓pI_c, ↓pL_c, ↓pR_c, ↓pA_c, isI_c, isL_c, isL_i, isL_r, isL_j, isA_c, inc_c, stO, fV, cZ, sw, List.getD_cons_zero, List.getD_cons_succ, List.set_cons_zero, List.set_cons_succ, List.take_succ_cons, List.take_zero, List.drop_succ_cons, List.drop_zero, List.reverse_cons, List.reverse_nil, List.nil_append, List.cons_append, List.append_nil, Option.toList_some, Option.toList_none, List.length_cons, List.length_nil, Nat.reduceAdd, Nat.reduceSub, Nat.reduceLeDiff, Nat.reduceEqDiff, Nat.add_eq, not_false_eq_true, not_true_eq_false, true_and, and_true, false_or, or_true, true_or, or_false, and_self, one_ne_zero_nat, w32_id, w32_n, Int.toNat_natCast, Int.reduceToNat, Nat.zero_add, Nat.zero_le, Nat.le_refl, Int.reduceEq, Int.reduceLT, Int.reduceLE, Int.reduceAdd, Int.reduceSub, Int.reduceMul, t_imp, f_imp, ush16]
  have e5 : (y4 : Int) + ((y4 / 65536 : Nat) : Int) = ((y4 + y4 / 65536 : Nat) : Int) := by omega
  rw [e5]
  refine blk bk_j_bitCount_48 ?_
  simp (disch := omega) only [vcb, step, ↓pI_c, ↓pL_c, ↓pR_c, ↓pA_c, isI_c, isL_c, isL_i, isL_r, isL_j, isA_c, inc_c, stO, fV, cZ, sw, List.getD_cons_zero, List.getD_cons_succ, List.set_cons_zero, List.set_cons_succ, List.take_succ_cons, List.take_zero, List.drop_succ_cons, List.drop_zero, List.reverse_cons, List.reverse_nil, List.nil_append, List.cons_append, List.append_nil, Option.toList_some, Option.toList_none, List.length_cons, List.length_nil, Nat.reduceAdd, Nat.reduceSub, Nat.reduceLeDiff, Nat.reduceEqDiff, Nat.add_eq, not_false_eq_true, not_true_eq_false, true_and, and_true, false_or, or_true, true_or, or_false, and_self, one_ne_zero_nat, w32_id, w32_n, Int.toNat_natCast, Int.reduceToNat, Nat.zero_add, Nat.zero_le, Nat.le_refl, Int.reduceEq, Int.reduceLT, Int.reduceLE, Int.reduceAdd, Int.reduceSub, Int.reduceMul, t_imp, f_imp, and63]
  rw [f6]
  exact hQ
end BITS
