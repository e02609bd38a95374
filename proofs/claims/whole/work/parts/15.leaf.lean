/-! ===== what is told, how things are: shapes, data ===== -/
def rfA (G : aG) (a k : Nat) : Nat := (gR G a k).getD 0
/-- names, acts, room, rest, wolves; strength, first tired, marks; an act's month, name, tiring, harm -/
abbrev TD : Type := Nat × Nat × Nat × Nat × Nat × (Nat → Nat) × (Nat → Nat) × (Nat → Nat) × (Nat → Nat) × (Nat → Nat) × (Nat → Nat) × (Nat → Nat)
def tdN (t : TD) : Nat := t.1
def tdA (t : TD) : Nat := t.2.1
def tdRo (t : TD) : Nat := t.2.2.1
def tdRe (t : TD) : Nat := t.2.2.2.1
def tdW (t : TD) : Nat := t.2.2.2.2.1
def tdS (t : TD) : Nat → Nat := t.2.2.2.2.2.1
def tdF (t : TD) : Nat → Nat := t.2.2.2.2.2.2.1
def tdK (t : TD) : Nat → Nat := t.2.2.2.2.2.2.2.1
def tdM (t : TD) : Nat → Nat := t.2.2.2.2.2.2.2.2.1
def tdP (t : TD) : Nat → Nat := t.2.2.2.2.2.2.2.2.2.1
def tdT (t : TD) : Nat → Nat := t.2.2.2.2.2.2.2.2.2.2.1
def tdH (t : TD) : Nat → Nat := t.2.2.2.2.2.2.2.2.2.2.2
def TDok (t : TD) : Prop := tdN t ≤ 6 ∧ tdA t ≤ 10 ∧ 1 ≤ tdRo t ∧ tdRo t ≤ 4 ∧ 1 ≤ tdRe t ∧ tdRe t ≤ 9 ∧ tdW t ≤ 10 ∧ (∀ p, p < tdN t → 1 ≤ tdS t p ∧ tdS t p ≤ 30 ∧ tdF t p ≤ tdS t p ∧ tdK t p ≤ 31) ∧ (∀ a, a < tdA t → tdM t a < 12 ∧ tdP t a < tdN t ∧ 1 ≤ tdT t a ∧ tdT t a ≤ 9 ∧ 1 ≤ tdH t a ∧ tdH t a ≤ 9)
/-- month, who grazes, who is lost, what is met, all harm; tired -/
abbrev ND : Type := Nat × Nat × Nat × Nat × Nat × (Nat → Nat)
def ndM (n : ND) : Nat := n.1
def ndG (n : ND) : Nat := n.2.1
def ndL (n : ND) : Nat := n.2.2.1
def ndE (n : ND) : Nat := n.2.2.2.1
def ndH (n : ND) : Nat := n.2.2.2.2.1
def ndT (n : ND) : Nat → Nat := n.2.2.2.2.2
/-- a Told, a Now: the cells -/
def TS (G : aG) (t : Nat) : Prop := isObj G t 8 ∧ (gR G t 1 = some (rfA G t 1) ∧ isArr G (rfA G t 1) 0 6) ∧ (gR G t 2 = some (rfA G t 2) ∧ isArr G (rfA G t 2) 0 6) ∧ (gR G t 3 = some (rfA G t 3) ∧ isArr G (rfA G t 3) 0 6) ∧ (gR G t 5 = some (rfA G t 5) ∧ isArr G (rfA G t 5) 0 10) ∧ (gR G t 6 = some (rfA G t 6) ∧ isArr G (rfA G t 6) 0 10) ∧ (gR G t 7 = some (rfA G t 7) ∧ isArr G (rfA G t 7) 0 10) ∧ (gR G t 8 = some (rfA G t 8) ∧ isArr G (rfA G t 8) 0 10)
def NS (G : aG) (a : Nat) : Prop := isObj G a 4 ∧ gR G a 5 = some (rfA G a 5) ∧ isArr G (rfA G a 5) 0 6
/-- their numbers -/
def RT (G : aG) (M : aM) (t : Nat) (td : TD) : Prop := M t 0 = (tdN td : Int) ∧ M t 4 = (tdA td : Int) ∧ M t 9 = (tdRo td : Int) ∧ M t 10 = (tdRe td : Int) ∧ M t 11 = (tdW td : Int) ∧ (∀ p, p < tdN td → M (rfA G t 1) p = (tdS td p : Int) ∧ M (rfA G t 2) p = (tdF td p : Int) ∧ M (rfA G t 3) p = (tdK td p : Int)) ∧ (∀ a, a < tdA td → M (rfA G t 5) a = (tdM td a : Int) ∧ M (rfA G t 6) a = (tdP td a : Int) ∧ M (rfA G t 7) a = (tdT td a : Int) ∧ M (rfA G t 8) a = (tdH td a : Int))
def RN (G : aG) (M : aM) (a n : Nat) (nd : ND) : Prop := M a 0 = (ndM nd : Int) ∧ M a 1 = (ndG nd : Int) ∧ M a 2 = (ndL nd : Int) ∧ M a 3 = (ndE nd : Int) ∧ M a 4 = (ndH nd : Int) ∧ ∀ p, p < n → M (rfA G a 5) p = (ndT nd p : Int)
/-! ===== leaves: JDK, Now's reads ===== -/
section LEAF
variable {Γ : aR} {ρ κ : Nat} {G : aG} {M : aM} {Q : aQ}
theorem s_j_max {x y : Int} (hx1 : -2147483648 ≤ x) (hx2 : x < 2147483648) (hy1 : -2147483648 ≤ y) (hy2 : y < 2147483648) (hQ : Q (some (vI (if x < y then y else x))) G M) : WPm Γ ρ 0 145 [vI x, vI y] G M Q := by
  refine WPm_of (L := [vI x, vI y]) 0 (by decide) (Nat.le_of_ble_eq_true rfl) rfl ?_
  refine blk bk_j_max_0 ?_
  simp (disch := omega) only [vcb, step, pI, pL, pR, pA, lI, lG, lA, stO, isL, fV, cZ, sw, List.getD_cons_zero, List.getD_cons_succ, List.set_cons_zero, List.set_cons_succ, List.take_succ_cons, List.take_zero, List.drop_succ_cons, List.drop_zero, List.reverse_cons, List.reverse_nil, List.nil_append, List.cons_append, List.append_nil, Option.toList_some, Option.toList_none, List.length_cons, List.length_nil, Nat.reduceAdd, Nat.reduceSub, Nat.reduceLeDiff, Nat.reduceEqDiff, Nat.add_eq, not_false_eq_true, not_true_eq_false, true_and, and_true, false_or, or_true, true_or, or_false, and_self, one_ne_zero_nat, w32_id, w32_n, Int.toNat_natCast, Int.reduceToNat, Nat.zero_add, Nat.zero_le, Nat.le_refl, Int.reduceEq, Int.reduceLT, Int.reduceLE, Int.reduceAdd, Int.reduceSub, Int.reduceMul, t_imp, f_imp]
  refine ⟨fun h => ?_, fun h => ?_⟩
  · refine blk bk_j_max_9 ?_
    simp (disch := omega) only [vcb, step, pI, pL, pR, pA, lI, lG, lA, stO, isL, fV, cZ, sw, List.getD_cons_zero, List.getD_cons_succ, List.set_cons_zero, List.set_cons_succ, List.take_succ_cons, List.take_zero, List.drop_succ_cons, List.drop_zero, List.reverse_cons, List.reverse_nil, List.nil_append, List.cons_append, List.append_nil, Option.toList_some, Option.toList_none, List.length_cons, List.length_nil, Nat.reduceAdd, Nat.reduceSub, Nat.reduceLeDiff, Nat.reduceEqDiff, Nat.add_eq, not_false_eq_true, not_true_eq_false, true_and, and_true, false_or, or_true, true_or, or_false, and_self, one_ne_zero_nat, w32_id, w32_n, Int.toNat_natCast, Int.reduceToNat, Nat.zero_add, Nat.zero_le, Nat.le_refl, Int.reduceEq, Int.reduceLT, Int.reduceLE, Int.reduceAdd, Int.reduceSub, Int.reduceMul, t_imp, f_imp]
    refine blk bk_j_max_10 ?_
    simp (disch := omega) only [vcb, step, pI, pL, pR, pA, lI, lG, lA, stO, isL, fV, cZ, sw, List.getD_cons_zero, List.getD_cons_succ, List.set_cons_zero, List.set_cons_succ, List.take_succ_cons, List.take_zero, List.drop_succ_cons, List.drop_zero, List.reverse_cons, List.reverse_nil, List.nil_append, List.cons_append, List.append_nil, Option.toList_some, Option.toList_none, List.length_cons, List.length_nil, Nat.reduceAdd, Nat.reduceSub, Nat.reduceLeDiff, Nat.reduceEqDiff, Nat.add_eq, not_false_eq_true, not_true_eq_false, true_and, and_true, false_or, or_true, true_or, or_false, and_self, one_ne_zero_nat, w32_id, w32_n, Int.toNat_natCast, Int.reduceToNat, Nat.zero_add, Nat.zero_le, Nat.le_refl, Int.reduceEq, Int.reduceLT, Int.reduceLE, Int.reduceAdd, Int.reduceSub, Int.reduceMul, t_imp, f_imp]
    rw [if_pos h] at hQ
    exact hQ
  · refine blk bk_j_max_10 ?_
    simp (disch := omega) only [vcb, step, pI, pL, pR, pA, lI, lG, lA, stO, isL, fV, cZ, sw, List.getD_cons_zero, List.getD_cons_succ, List.set_cons_zero, List.set_cons_succ, List.take_succ_cons, List.take_zero, List.drop_succ_cons, List.drop_zero, List.reverse_cons, List.reverse_nil, List.nil_append, List.cons_append, List.append_nil, Option.toList_some, Option.toList_none, List.length_cons, List.length_nil, Nat.reduceAdd, Nat.reduceSub, Nat.reduceLeDiff, Nat.reduceEqDiff, Nat.add_eq, not_false_eq_true, not_true_eq_false, true_and, and_true, false_or, or_true, true_or, or_false, and_self, one_ne_zero_nat, w32_id, w32_n, Int.toNat_natCast, Int.reduceToNat, Nat.zero_add, Nat.zero_le, Nat.le_refl, Int.reduceEq, Int.reduceLT, Int.reduceLE, Int.reduceAdd, Int.reduceSub, Int.reduceMul, t_imp, f_imp]
    rw [if_neg h] at hQ
    exact hQ
theorem s_j_min {x y : Int} (hx1 : -2147483648 ≤ x) (hx2 : x < 2147483648) (hy1 : -2147483648 ≤ y) (hy2 : y < 2147483648) (hQ : Q (some (vI (if y < x then y else x))) G M) : WPm Γ ρ 0 146 [vI x, vI y] G M Q := by
  refine WPm_of (L := [vI x, vI y]) 0 (by decide) (Nat.le_of_ble_eq_true rfl) rfl ?_
  refine blk bk_j_min_0 ?_
  simp (disch := omega) only [vcb, step, pI, pL, pR, pA, lI, lG, lA, stO, isL, fV, cZ, sw, List.getD_cons_zero, List.getD_cons_succ, List.set_cons_zero, List.set_cons_succ, List.take_succ_cons, List.take_zero, List.drop_succ_cons, List.drop_zero, List.reverse_cons, List.reverse_nil, List.nil_append, List.cons_append, List.append_nil, Option.toList_some, Option.toList_none, List.length_cons, List.length_nil, Nat.reduceAdd, Nat.reduceSub, Nat.reduceLeDiff, Nat.reduceEqDiff, Nat.add_eq, not_false_eq_true, not_true_eq_false, true_and, and_true, false_or, or_true, true_or, or_false, and_self, one_ne_zero_nat, w32_id, w32_n, Int.toNat_natCast, Int.reduceToNat, Nat.zero_add, Nat.zero_le, Nat.le_refl, Int.reduceEq, Int.reduceLT, Int.reduceLE, Int.reduceAdd, Int.reduceSub, Int.reduceMul, t_imp, f_imp]
  refine ⟨fun h => ?_, fun h => ?_⟩
  · refine blk bk_j_min_9 ?_
    simp (disch := omega) only [vcb, step, pI, pL, pR, pA, lI, lG, lA, stO, isL, fV, cZ, sw, List.getD_cons_zero, List.getD_cons_succ, List.set_cons_zero, List.set_cons_succ, List.take_succ_cons, List.take_zero, List.drop_succ_cons, List.drop_zero, List.reverse_cons, List.reverse_nil, List.nil_append, List.cons_append, List.append_nil, Option.toList_some, Option.toList_none, List.length_cons, List.length_nil, Nat.reduceAdd, Nat.reduceSub, Nat.reduceLeDiff, Nat.reduceEqDiff, Nat.add_eq, not_false_eq_true, not_true_eq_false, true_and, and_true, false_or, or_true, true_or, or_false, and_self, one_ne_zero_nat, w32_id, w32_n, Int.toNat_natCast, Int.reduceToNat, Nat.zero_add, Nat.zero_le, Nat.le_refl, Int.reduceEq, Int.reduceLT, Int.reduceLE, Int.reduceAdd, Int.reduceSub, Int.reduceMul, t_imp, f_imp]
    refine blk bk_j_min_10 ?_
    simp (disch := omega) only [vcb, step, pI, pL, pR, pA, lI, lG, lA, stO, isL, fV, cZ, sw, List.getD_cons_zero, List.getD_cons_succ, List.set_cons_zero, List.set_cons_succ, List.take_succ_cons, List.take_zero, List.drop_succ_cons, List.drop_zero, List.reverse_cons, List.reverse_nil, List.nil_append, List.cons_append, List.append_nil, Option.toList_some, Option.toList_none, List.length_cons, List.length_nil, Nat.reduceAdd, Nat.reduceSub, Nat.reduceLeDiff, Nat.reduceEqDiff, Nat.add_eq, not_false_eq_true, not_true_eq_false, true_and, and_true, false_or, or_true, true_or, or_false, and_self, one_ne_zero_nat, w32_id, w32_n, Int.toNat_natCast, Int.reduceToNat, Nat.zero_add, Nat.zero_le, Nat.le_refl, Int.reduceEq, Int.reduceLT, Int.reduceLE, Int.reduceAdd, Int.reduceSub, Int.reduceMul, t_imp, f_imp]
    rw [if_pos h] at hQ
    exact hQ
  · refine blk bk_j_min_10 ?_
    simp (disch := omega) only [vcb, step, pI, pL, pR, pA, lI, lG, lA, stO, isL, fV, cZ, sw, List.getD_cons_zero, List.getD_cons_succ, List.set_cons_zero, List.set_cons_succ, List.take_succ_cons, List.take_zero, List.drop_succ_cons, List.drop_zero, List.reverse_cons, List.reverse_nil, List.nil_append, List.cons_append, List.append_nil, Option.toList_some, Option.toList_none, List.length_cons, List.length_nil, Nat.reduceAdd, Nat.reduceSub, Nat.reduceLeDiff, Nat.reduceEqDiff, Nat.add_eq, not_false_eq_true, not_true_eq_false, true_and, and_true, false_or, or_true, true_or, or_false, and_self, one_ne_zero_nat, w32_id, w32_n, Int.toNat_natCast, Int.reduceToNat, Nat.zero_add, Nat.zero_le, Nat.le_refl, Int.reduceEq, Int.reduceLT, Int.reduceLE, Int.reduceAdd, Int.reduceSub, Int.reduceMul, t_imp, f_imp]
    rw [if_neg h] at hQ
    exact hQ

theorem s_n_grazes {a p g : Nat} (ha : isObj G a 4) (hg : M a 1 = (g : Int)) (hg2 : g < 2147483648) (hp : p < 32) (hQ : Q (some (vI (bt g p : Nat))) G M) : WPm Γ ρ 0 21 [vR (some a), vI p] G M Q := by
  refine WPm_of (L := [vR (some a), vI p]) 0 (by decide) (Nat.le_of_ble_eq_true rfl) rfl ?_
  have h01 := bt_01 g p
  refine blk bk_n_grazes_0 ?_
  simp (disch := omega) only [vcb, step, pI, pL, pR, pA, lI, lG, lA, stO, isL, fV, cZ, sw, List.getD_cons_zero, List.getD_cons_succ, List.set_cons_zero, List.set_cons_succ, List.take_succ_cons, List.take_zero, List.drop_succ_cons, List.drop_zero, List.reverse_cons, List.reverse_nil, List.nil_append, List.cons_append, List.append_nil, Option.toList_some, Option.toList_none, List.length_cons, List.length_nil, Nat.reduceAdd, Nat.reduceSub, Nat.reduceLeDiff, Nat.reduceEqDiff, Nat.add_eq, not_false_eq_true, not_true_eq_false, true_and, and_true, false_or, or_true, true_or, or_false, and_self, one_ne_zero_nat, w32_id, w32_n, Int.toNat_natCast, Int.reduceToNat, Nat.zero_add, Nat.zero_le, Nat.le_refl, Int.reduceEq, Int.reduceLT, Int.reduceLE, Int.reduceAdd, Int.reduceSub, Int.reduceMul, t_imp, f_imp, ha, hg, btI]
  refine ⟨fun h => ?_, fun h => ?_⟩
  · refine blk bk_n_grazes_16 ?_
    simp (disch := omega) only [vcb, step, pI, pL, pR, pA, lI, lG, lA, stO, isL, fV, cZ, sw, List.getD_cons_zero, List.getD_cons_succ, List.set_cons_zero, List.set_cons_succ, List.take_succ_cons, List.take_zero, List.drop_succ_cons, List.drop_zero, List.reverse_cons, List.reverse_nil, List.nil_append, List.cons_append, List.append_nil, Option.toList_some, Option.toList_none, List.length_cons, List.length_nil, Nat.reduceAdd, Nat.reduceSub, Nat.reduceLeDiff, Nat.reduceEqDiff, Nat.add_eq, not_false_eq_true, not_true_eq_false, true_and, and_true, false_or, or_true, true_or, or_false, and_self, one_ne_zero_nat, w32_id, w32_n, Int.toNat_natCast, Int.reduceToNat, Nat.zero_add, Nat.zero_le, Nat.le_refl, Int.reduceEq, Int.reduceLT, Int.reduceLE, Int.reduceAdd, Int.reduceSub, Int.reduceMul, t_imp, f_imp]
    refine blk bk_n_grazes_17 ?_
    simp (disch := omega) only [vcb, step, pI, pL, pR, pA, lI, lG, lA, stO, isL, fV, cZ, sw, List.getD_cons_zero, List.getD_cons_succ, List.set_cons_zero, List.set_cons_succ, List.take_succ_cons, List.take_zero, List.drop_succ_cons, List.drop_zero, List.reverse_cons, List.reverse_nil, List.nil_append, List.cons_append, List.append_nil, Option.toList_some, Option.toList_none, List.length_cons, List.length_nil, Nat.reduceAdd, Nat.reduceSub, Nat.reduceLeDiff, Nat.reduceEqDiff, Nat.add_eq, not_false_eq_true, not_true_eq_false, true_and, and_true, false_or, or_true, true_or, or_false, and_self, one_ne_zero_nat, w32_id, w32_n, Int.toNat_natCast, Int.reduceToNat, Nat.zero_add, Nat.zero_le, Nat.le_refl, Int.reduceEq, Int.reduceLT, Int.reduceLE, Int.reduceAdd, Int.reduceSub, Int.reduceMul, t_imp, f_imp]
    rw [show (bt g p : Int) = 0 by omega] at hQ
    exact hQ
  · refine blk bk_n_grazes_17 ?_
    simp (disch := omega) only [vcb, step, pI, pL, pR, pA, lI, lG, lA, stO, isL, fV, cZ, sw, List.getD_cons_zero, List.getD_cons_succ, List.set_cons_zero, List.set_cons_succ, List.take_succ_cons, List.take_zero, List.drop_succ_cons, List.drop_zero, List.reverse_cons, List.reverse_nil, List.nil_append, List.cons_append, List.append_nil, Option.toList_some, Option.toList_none, List.length_cons, List.length_nil, Nat.reduceAdd, Nat.reduceSub, Nat.reduceLeDiff, Nat.reduceEqDiff, Nat.add_eq, not_false_eq_true, not_true_eq_false, true_and, and_true, false_or, or_true, true_or, or_false, and_self, one_ne_zero_nat, w32_id, w32_n, Int.toNat_natCast, Int.reduceToNat, Nat.zero_add, Nat.zero_le, Nat.le_refl, Int.reduceEq, Int.reduceLT, Int.reduceLE, Int.reduceAdd, Int.reduceSub, Int.reduceMul, t_imp, f_imp]
    rw [show (bt g p : Int) = 1 by omega] at hQ
    exact hQ

theorem s_n_isLost {a p g : Nat} (ha : isObj G a 4) (hg : M a 2 = (g : Int)) (hg2 : g < 2147483648) (hp : p < 32) (hQ : Q (some (vI (bt g p : Nat))) G M) : WPm Γ ρ 0 22 [vR (some a), vI p] G M Q := by
  refine WPm_of (L := [vR (some a), vI p]) 0 (by decide) (Nat.le_of_ble_eq_true rfl) rfl ?_
  have h01 := bt_01 g p
  refine blk bk_n_isLost_0 ?_
  simp (disch := omega) only [vcb, step, pI, pL, pR, pA, lI, lG, lA, stO, isL, fV, cZ, sw, List.getD_cons_zero, List.getD_cons_succ, List.set_cons_zero, List.set_cons_succ, List.take_succ_cons, List.take_zero, List.drop_succ_cons, List.drop_zero, List.reverse_cons, List.reverse_nil, List.nil_append, List.cons_append, List.append_nil, Option.toList_some, Option.toList_none, List.length_cons, List.length_nil, Nat.reduceAdd, Nat.reduceSub, Nat.reduceLeDiff, Nat.reduceEqDiff, Nat.add_eq, not_false_eq_true, not_true_eq_false, true_and, and_true, false_or, or_true, true_or, or_false, and_self, one_ne_zero_nat, w32_id, w32_n, Int.toNat_natCast, Int.reduceToNat, Nat.zero_add, Nat.zero_le, Nat.le_refl, Int.reduceEq, Int.reduceLT, Int.reduceLE, Int.reduceAdd, Int.reduceSub, Int.reduceMul, t_imp, f_imp, ha, hg, btI]
  refine ⟨fun h => ?_, fun h => ?_⟩
  · refine blk bk_n_isLost_16 ?_
    simp (disch := omega) only [vcb, step, pI, pL, pR, pA, lI, lG, lA, stO, isL, fV, cZ, sw, List.getD_cons_zero, List.getD_cons_succ, List.set_cons_zero, List.set_cons_succ, List.take_succ_cons, List.take_zero, List.drop_succ_cons, List.drop_zero, List.reverse_cons, List.reverse_nil, List.nil_append, List.cons_append, List.append_nil, Option.toList_some, Option.toList_none, List.length_cons, List.length_nil, Nat.reduceAdd, Nat.reduceSub, Nat.reduceLeDiff, Nat.reduceEqDiff, Nat.add_eq, not_false_eq_true, not_true_eq_false, true_and, and_true, false_or, or_true, true_or, or_false, and_self, one_ne_zero_nat, w32_id, w32_n, Int.toNat_natCast, Int.reduceToNat, Nat.zero_add, Nat.zero_le, Nat.le_refl, Int.reduceEq, Int.reduceLT, Int.reduceLE, Int.reduceAdd, Int.reduceSub, Int.reduceMul, t_imp, f_imp]
    refine blk bk_n_isLost_17 ?_
    simp (disch := omega) only [vcb, step, pI, pL, pR, pA, lI, lG, lA, stO, isL, fV, cZ, sw, List.getD_cons_zero, List.getD_cons_succ, List.set_cons_zero, List.set_cons_succ, List.take_succ_cons, List.take_zero, List.drop_succ_cons, List.drop_zero, List.reverse_cons, List.reverse_nil, List.nil_append, List.cons_append, List.append_nil, Option.toList_some, Option.toList_none, List.length_cons, List.length_nil, Nat.reduceAdd, Nat.reduceSub, Nat.reduceLeDiff, Nat.reduceEqDiff, Nat.add_eq, not_false_eq_true, not_true_eq_false, true_and, and_true, false_or, or_true, true_or, or_false, and_self, one_ne_zero_nat, w32_id, w32_n, Int.toNat_natCast, Int.reduceToNat, Nat.zero_add, Nat.zero_le, Nat.le_refl, Int.reduceEq, Int.reduceLT, Int.reduceLE, Int.reduceAdd, Int.reduceSub, Int.reduceMul, t_imp, f_imp]
    rw [show (bt g p : Int) = 0 by omega] at hQ
    exact hQ
  · refine blk bk_n_isLost_17 ?_
    simp (disch := omega) only [vcb, step, pI, pL, pR, pA, lI, lG, lA, stO, isL, fV, cZ, sw, List.getD_cons_zero, List.getD_cons_succ, List.set_cons_zero, List.set_cons_succ, List.take_succ_cons, List.take_zero, List.drop_succ_cons, List.drop_zero, List.reverse_cons, List.reverse_nil, List.nil_append, List.cons_append, List.append_nil, Option.toList_some, Option.toList_none, List.length_cons, List.length_nil, Nat.reduceAdd, Nat.reduceSub, Nat.reduceLeDiff, Nat.reduceEqDiff, Nat.add_eq, not_false_eq_true, not_true_eq_false, true_and, and_true, false_or, or_true, true_or, or_false, and_self, one_ne_zero_nat, w32_id, w32_n, Int.toNat_natCast, Int.reduceToNat, Nat.zero_add, Nat.zero_le, Nat.le_refl, Int.reduceEq, Int.reduceLT, Int.reduceLE, Int.reduceAdd, Int.reduceSub, Int.reduceMul, t_imp, f_imp]
    rw [show (bt g p : Int) = 1 by omega] at hQ
    exact hQ

theorem s_n_isMet {a p g : Nat} (ha : isObj G a 4) (hg : M a 3 = (g : Int)) (hg2 : g < 2147483648) (hp : p < 32) (hQ : Q (some (vI (bt g p : Nat))) G M) : WPm Γ ρ 0 23 [vR (some a), vI p] G M Q := by
  refine WPm_of (L := [vR (some a), vI p]) 0 (by decide) (Nat.le_of_ble_eq_true rfl) rfl ?_
  have h01 := bt_01 g p
  refine blk bk_n_isMet_0 ?_
  simp (disch := omega) only [vcb, step, pI, pL, pR, pA, lI, lG, lA, stO, isL, fV, cZ, sw, List.getD_cons_zero, List.getD_cons_succ, List.set_cons_zero, List.set_cons_succ, List.take_succ_cons, List.take_zero, List.drop_succ_cons, List.drop_zero, List.reverse_cons, List.reverse_nil, List.nil_append, List.cons_append, List.append_nil, Option.toList_some, Option.toList_none, List.length_cons, List.length_nil, Nat.reduceAdd, Nat.reduceSub, Nat.reduceLeDiff, Nat.reduceEqDiff, Nat.add_eq, not_false_eq_true, not_true_eq_false, true_and, and_true, false_or, or_true, true_or, or_false, and_self, one_ne_zero_nat, w32_id, w32_n, Int.toNat_natCast, Int.reduceToNat, Nat.zero_add, Nat.zero_le, Nat.le_refl, Int.reduceEq, Int.reduceLT, Int.reduceLE, Int.reduceAdd, Int.reduceSub, Int.reduceMul, t_imp, f_imp, ha, hg, btI]
  refine ⟨fun h => ?_, fun h => ?_⟩
  · refine blk bk_n_isMet_16 ?_
    simp (disch := omega) only [vcb, step, pI, pL, pR, pA, lI, lG, lA, stO, isL, fV, cZ, sw, List.getD_cons_zero, List.getD_cons_succ, List.set_cons_zero, List.set_cons_succ, List.take_succ_cons, List.take_zero, List.drop_succ_cons, List.drop_zero, List.reverse_cons, List.reverse_nil, List.nil_append, List.cons_append, List.append_nil, Option.toList_some, Option.toList_none, List.length_cons, List.length_nil, Nat.reduceAdd, Nat.reduceSub, Nat.reduceLeDiff, Nat.reduceEqDiff, Nat.add_eq, not_false_eq_true, not_true_eq_false, true_and, and_true, false_or, or_true, true_or, or_false, and_self, one_ne_zero_nat, w32_id, w32_n, Int.toNat_natCast, Int.reduceToNat, Nat.zero_add, Nat.zero_le, Nat.le_refl, Int.reduceEq, Int.reduceLT, Int.reduceLE, Int.reduceAdd, Int.reduceSub, Int.reduceMul, t_imp, f_imp]
    refine blk bk_n_isMet_17 ?_
    simp (disch := omega) only [vcb, step, pI, pL, pR, pA, lI, lG, lA, stO, isL, fV, cZ, sw, List.getD_cons_zero, List.getD_cons_succ, List.set_cons_zero, List.set_cons_succ, List.take_succ_cons, List.take_zero, List.drop_succ_cons, List.drop_zero, List.reverse_cons, List.reverse_nil, List.nil_append, List.cons_append, List.append_nil, Option.toList_some, Option.toList_none, List.length_cons, List.length_nil, Nat.reduceAdd, Nat.reduceSub, Nat.reduceLeDiff, Nat.reduceEqDiff, Nat.add_eq, not_false_eq_true, not_true_eq_false, true_and, and_true, false_or, or_true, true_or, or_false, and_self, one_ne_zero_nat, w32_id, w32_n, Int.toNat_natCast, Int.reduceToNat, Nat.zero_add, Nat.zero_le, Nat.le_refl, Int.reduceEq, Int.reduceLT, Int.reduceLE, Int.reduceAdd, Int.reduceSub, Int.reduceMul, t_imp, f_imp]
    rw [show (bt g p : Int) = 0 by omega] at hQ
    exact hQ
  · refine blk bk_n_isMet_17 ?_
    simp (disch := omega) only [vcb, step, pI, pL, pR, pA, lI, lG, lA, stO, isL, fV, cZ, sw, List.getD_cons_zero, List.getD_cons_succ, List.set_cons_zero, List.set_cons_succ, List.take_succ_cons, List.take_zero, List.drop_succ_cons, List.drop_zero, List.reverse_cons, List.reverse_nil, List.nil_append, List.cons_append, List.append_nil, Option.toList_some, Option.toList_none, List.length_cons, List.length_nil, Nat.reduceAdd, Nat.reduceSub, Nat.reduceLeDiff, Nat.reduceEqDiff, Nat.add_eq, not_false_eq_true, not_true_eq_false, true_and, and_true, false_or, or_true, true_or, or_false, and_self, one_ne_zero_nat, w32_id, w32_n, Int.toNat_natCast, Int.reduceToNat, Nat.zero_add, Nat.zero_le, Nat.le_refl, Int.reduceEq, Int.reduceLT, Int.reduceLE, Int.reduceAdd, Int.reduceSub, Int.reduceMul, t_imp, f_imp]
    rw [show (bt g p : Int) = 1 by omega] at hQ
    exact hQ
theorem s_n_bears {a t p b x y z : Nat} (hN : NS G a) (hT : TS G t) (hp : p < 6) (hb : b < 10) (hx : M (rfA G a 5) p = (x : Int)) (hy : M (rfA G t 7) b = (y : Int)) (hz : M (rfA G t 1) p = (z : Int)) (bx : x < 1000) (by' : y < 1000) (bz : z < 1000) (h1 : x + y ≤ z → Q (some (vI 1)) G M) (h0 : ¬ x + y ≤ z → Q (some (vI 0)) G M) : WPm Γ ρ 0 24 [vR (some a), vR (some t), vI p, vI b] G M Q := by
  refine WPm_of (L := [vR (some a), vR (some t), vI p, vI b]) 0 (by decide) (Nat.le_of_ble_eq_true rfl) rfl ?_
  have i1 : inA G (rfA G a 5) 0 (p : Int) := in_of hN.2.2 (by omega) (by omega) (by decide)
  have i2 : inA G (rfA G t 7) 0 (b : Int) := in_of hT.2.2.2.2.2.2.1.2 (by omega) (by omega) (by decide)
  have i3 : inA G (rfA G t 1) 0 (p : Int) := in_of hT.2.1.2 (by omega) (by omega) (by decide)
  refine blk bk_n_bears_0 ?_
  simp (disch := omega) only [vcb, step, pI, pL, pR, pA, lI, lG, lA, stO, isL, fV, cZ, sw, List.getD_cons_zero, List.getD_cons_succ, List.set_cons_zero, List.set_cons_succ, List.take_succ_cons, List.take_zero, List.drop_succ_cons, List.drop_zero, List.reverse_cons, List.reverse_nil, List.nil_append, List.cons_append, List.append_nil, Option.toList_some, Option.toList_none, List.length_cons, List.length_nil, Nat.reduceAdd, Nat.reduceSub, Nat.reduceLeDiff, Nat.reduceEqDiff, Nat.add_eq, not_false_eq_true, not_true_eq_false, true_and, and_true, false_or, or_true, true_or, or_false, and_self, one_ne_zero_nat, w32_id, w32_n, Int.toNat_natCast, Int.reduceToNat, Nat.zero_add, Nat.zero_le, Nat.le_refl, Int.reduceEq, Int.reduceLT, Int.reduceLE, Int.reduceAdd, Int.reduceSub, Int.reduceMul, t_imp, f_imp, hN.1, hT.1, hN.2.1, hT.2.2.2.2.2.2.1.1, hT.2.1.1, i1, i2, i3, hx, hy, hz]
  refine ⟨fun h => ?_, fun h => ?_⟩
  · refine blk bk_n_bears_26 ?_
    simp (disch := omega) only [vcb, step, pI, pL, pR, pA, lI, lG, lA, stO, isL, fV, cZ, sw, List.getD_cons_zero, List.getD_cons_succ, List.set_cons_zero, List.set_cons_succ, List.take_succ_cons, List.take_zero, List.drop_succ_cons, List.drop_zero, List.reverse_cons, List.reverse_nil, List.nil_append, List.cons_append, List.append_nil, Option.toList_some, Option.toList_none, List.length_cons, List.length_nil, Nat.reduceAdd, Nat.reduceSub, Nat.reduceLeDiff, Nat.reduceEqDiff, Nat.add_eq, not_false_eq_true, not_true_eq_false, true_and, and_true, false_or, or_true, true_or, or_false, and_self, one_ne_zero_nat, w32_id, w32_n, Int.toNat_natCast, Int.reduceToNat, Nat.zero_add, Nat.zero_le, Nat.le_refl, Int.reduceEq, Int.reduceLT, Int.reduceLE, Int.reduceAdd, Int.reduceSub, Int.reduceMul, t_imp, f_imp]
    refine blk bk_n_bears_27 ?_
    simp (disch := omega) only [vcb, step, pI, pL, pR, pA, lI, lG, lA, stO, isL, fV, cZ, sw, List.getD_cons_zero, List.getD_cons_succ, List.set_cons_zero, List.set_cons_succ, List.take_succ_cons, List.take_zero, List.drop_succ_cons, List.drop_zero, List.reverse_cons, List.reverse_nil, List.nil_append, List.cons_append, List.append_nil, Option.toList_some, Option.toList_none, List.length_cons, List.length_nil, Nat.reduceAdd, Nat.reduceSub, Nat.reduceLeDiff, Nat.reduceEqDiff, Nat.add_eq, not_false_eq_true, not_true_eq_false, true_and, and_true, false_or, or_true, true_or, or_false, and_self, one_ne_zero_nat, w32_id, w32_n, Int.toNat_natCast, Int.reduceToNat, Nat.zero_add, Nat.zero_le, Nat.le_refl, Int.reduceEq, Int.reduceLT, Int.reduceLE, Int.reduceAdd, Int.reduceSub, Int.reduceMul, t_imp, f_imp]
    exact h0 (by omega)
  · refine blk bk_n_bears_27 ?_
    simp (disch := omega) only [vcb, step, pI, pL, pR, pA, lI, lG, lA, stO, isL, fV, cZ, sw, List.getD_cons_zero, List.getD_cons_succ, List.set_cons_zero, List.set_cons_succ, List.take_succ_cons, List.take_zero, List.drop_succ_cons, List.drop_zero, List.reverse_cons, List.reverse_nil, List.nil_append, List.cons_append, List.append_nil, Option.toList_some, Option.toList_none, List.length_cons, List.length_nil, Nat.reduceAdd, Nat.reduceSub, Nat.reduceLeDiff, Nat.reduceEqDiff, Nat.add_eq, not_false_eq_true, not_true_eq_false, true_and, and_true, false_or, or_true, true_or, or_false, and_self, one_ne_zero_nat, w32_id, w32_n, Int.toNat_natCast, Int.reduceToNat, Nat.zero_add, Nat.zero_le, Nat.le_refl, Int.reduceEq, Int.reduceLT, Int.reduceLE, Int.reduceAdd, Int.reduceSub, Int.reduceMul, t_imp, f_imp]
    exact h1 (by omega)
theorem s_n_rest {a t p x r : Nat} (hρ : 1 ≤ ρ) (hN : NS G a) (hT : TS G t) (hp : p < 6) (hx : M (rfA G a 5) p = (x : Int)) (hr : M t 10 = (r : Int)) (bx : x < 1000) (br : r < 1000) (hQ : Q none G (wr M (rfA G a 5) p ((x - r : Nat) : Int))) : WPm Γ ρ 0 25 [vR (some a), vR (some t), vI p] G M Q := by
  refine WPm_of (L := [vR (some a), vR (some t), vI p]) 0 (by decide) (Nat.le_of_ble_eq_true rfl) rfl ?_
  have i1 : inA G (rfA G a 5) 0 (p : Int) := in_of hN.2.2 (by omega) (by omega) (by decide)
  refine blk bk_n_rest_0 ?_
  simp (disch := omega) only [vcb, step, pI, pL, pR, pA, lI, lG, lA, stO, isL, fV, cZ, sw, List.getD_cons_zero, List.getD_cons_succ, List.set_cons_zero, List.set_cons_succ, List.take_succ_cons, List.take_zero, List.drop_succ_cons, List.drop_zero, List.reverse_cons, List.reverse_nil, List.nil_append, List.cons_append, List.append_nil, Option.toList_some, Option.toList_none, List.length_cons, List.length_nil, Nat.reduceAdd, Nat.reduceSub, Nat.reduceLeDiff, Nat.reduceEqDiff, Nat.add_eq, not_false_eq_true, not_true_eq_false, true_and, and_true, false_or, or_true, true_or, or_false, and_self, one_ne_zero_nat, w32_id, w32_n, Int.toNat_natCast, Int.reduceToNat, Nat.zero_add, Nat.zero_le, Nat.le_refl, Int.reduceEq, Int.reduceLT, Int.reduceLE, Int.reduceAdd, Int.reduceSub, Int.reduceMul, t_imp, f_imp, hN.1, hT.1, hN.2.1, i1, hx, hr]
  refine ⟨hρ, ?_⟩
  refine s_j_max (by omega) (by omega) (by omega) (by omega) ?_
  have e : (if (0 : Int) < (x : Int) - (r : Int) then (x : Int) - (r : Int) else 0) = ((x - r : Nat) : Int) := by split <;> omega
  rw [e]
  refine blk bk_n_rest_20 ?_
  simp (disch := omega) only [vcb, step, pI, pL, pR, pA, lI, lG, lA, stO, isL, fV, cZ, sw, List.getD_cons_zero, List.getD_cons_succ, List.set_cons_zero, List.set_cons_succ, List.take_succ_cons, List.take_zero, List.drop_succ_cons, List.drop_zero, List.reverse_cons, List.reverse_nil, List.nil_append, List.cons_append, List.append_nil, Option.toList_some, Option.toList_none, List.length_cons, List.length_nil, Nat.reduceAdd, Nat.reduceSub, Nat.reduceLeDiff, Nat.reduceEqDiff, Nat.add_eq, not_false_eq_true, not_true_eq_false, true_and, and_true, false_or, or_true, true_or, or_false, and_self, one_ne_zero_nat, w32_id, w32_n, Int.toNat_natCast, Int.reduceToNat, Nat.zero_add, Nat.zero_le, Nat.le_refl, Int.reduceEq, Int.reduceLT, Int.reduceLE, Int.reduceAdd, Int.reduceSub, Int.reduceMul, t_imp, f_imp, i1]
  exact hQ
end LEAF
