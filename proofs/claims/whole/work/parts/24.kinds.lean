/-! ===== Kinds ===== -/
def mkT (k : Nat) : Int := [1, 10, 100, 1000, 10000, 100000].getD k 0
def abT (k : Nat) : Int := [0, 0, 0, 1, 2, 0].getD k 0
def KT (Γ : aR) : Prop := (Γ.2 0, 6, mkT) ∈ Γ.1 ∧ (Γ.2 1, 6, abT) ∈ Γ.1
/-- what a kind is worth: strength s, tired ti, marks kk, harm h, number p -/
def rtF (s ti kk h p : Nat) (kind : Nat) : Int := match kind with
  | 0 => (s : Int)
  | 1 => (s : Int) + (ti : Int)
  | 2 => (s : Int) - (pop kk : Int)
  | 3 => 2 * ((s : Int) + (ti : Int))
  | 4 => (s : Int) - (pop kk : Int) + (p : Int)
  | _ => (s : Int) + (h : Int)
def trF (kind : Nat) : Int := [1, 11, 101, 1011, 10101, 100001].getD kind 0
section KINDS
variable {Γ : aR} {ρ κ : Nat} {G : aG} {M : aM} {Q : aQ}
theorem s_ask0 {k t b p s ti kk h : Nat} {z : Int} (hΓ : KT Γ) (hk : isObj G k 2) (hT : TS G t) (hB : NS G b) (hp : p < 6) (hz : M k 0 = z) (h1 : M (rfA G t 1) p = (s : Int)) (h2 : M (rfA G b 5) p = (ti : Int)) (h3 : M (rfA G t 3) p = (kk : Int)) (hkk : kk < 32) (h4 : M b 4 = (h : Int)) (bs : s ≤ 30) (bt' : ti ≤ 30) (bh : h ≤ 1000000) (hρ : 0 ≤ ρ) (hQ : Q (some (vI (rtF s ti kk h p 0))) G (wr M k 0 (z + trF 0))) : WPm Γ ρ 0 12 [vR (some k), vI 0, vI p, vR (some t), vR (some b)] G M Q := by
  have n1 : rfA G t 1 ≠ k := ne_AO hT.2.1.2 hk
  have n3 : rfA G t 3 ≠ k := ne_AO hT.2.2.2.1.2 hk
  have n5 : rfA G b 5 ≠ k := ne_AO hB.2.2 hk
  have n4 : b ≠ k := ne_OO hB.1 hk (by decide)
  have i1 : inA G (rfA G t 1) 0 (p : Int) := in_of hT.2.1.2 (by omega) (by omega) (by decide)
  have i3 : inA G (rfA G t 3) 0 (p : Int) := in_of hT.2.2.2.1.2 (by omega) (by omega) (by decide)
  have i5 : inA G (rfA G b 5) 0 (p : Int) := in_of hB.2.2 (by omega) (by omega) (by decide)
  have e1 : mkT 0 = 1 := rfl
  refine WPm_of (L := [vR (some k), vI 0, vI p, vR (some t), vR (some b), vJ]) 1 (by decide) (Nat.le_of_ble_eq_true rfl) rfl ?_
  refine blk bk_k_askBody_0 ?_
  simp (disch := omega) only [vcb, step, ↓pI_c, ↓pL_c, ↓pR_c, ↓pA_c, isI_c, isL_c, isL_i, isL_r, isL_j, isA_c, inc_c, stO, fV, cZ, sw, List.getD_cons_zero, List.getD_cons_succ, List.set_cons_zero, List.set_cons_succ, List.take_succ_cons, List.take_zero, List.drop_succ_cons, List.drop_zero, List.reverse_cons, List.reverse_nil, List.nil_append, List.cons_append, List.append_nil, Option.toList_some, Option.toList_none, List.length_cons, List.length_nil, Nat.reduceAdd, Nat.reduceSub, Nat.reduceLeDiff, Nat.reduceEqDiff, Nat.add_eq, not_false_eq_true, not_true_eq_false, true_and, and_true, false_or, or_true, true_or, or_false, and_self, one_ne_zero_nat, w32_id, w32_n, Int.toNat_natCast, Int.reduceToNat, Nat.zero_add, Nat.zero_le, Nat.le_refl, Int.reduceEq, Int.reduceLT, Int.reduceLE, Int.reduceAdd, Int.reduceSub, Int.reduceMul, t_imp, f_imp, hk, hz, hT.1, hT.2.1.1, i1, wr_c, h1]
  refine ⟨6, mkT, hΓ.1, by decide, ?_⟩
  rw [e1]
  simp (disch := omega) only [vcb, step, ↓pI_c, ↓pL_c, ↓pR_c, ↓pA_c, isI_c, isL_c, isL_i, isL_r, isL_j, isA_c, inc_c, stO, fV, cZ, sw, List.getD_cons_zero, List.getD_cons_succ, List.set_cons_zero, List.set_cons_succ, List.take_succ_cons, List.take_zero, List.drop_succ_cons, List.drop_zero, List.reverse_cons, List.reverse_nil, List.nil_append, List.cons_append, List.append_nil, Option.toList_some, Option.toList_none, List.length_cons, List.length_nil, Nat.reduceAdd, Nat.reduceSub, Nat.reduceLeDiff, Nat.reduceEqDiff, Nat.add_eq, not_false_eq_true, not_true_eq_false, true_and, and_true, false_or, or_true, true_or, or_false, and_self, one_ne_zero_nat, w32_id, w32_n, Int.toNat_natCast, Int.reduceToNat, Nat.zero_add, Nat.zero_le, Nat.le_refl, Int.reduceEq, Int.reduceLT, Int.reduceLE, Int.reduceAdd, Int.reduceSub, Int.reduceMul, t_imp, f_imp]
  exact hQ
theorem s_ask1 {k t b p s ti kk h : Nat} {z : Int} (hΓ : KT Γ) (hk : isObj G k 2) (hT : TS G t) (hB : NS G b) (hp : p < 6) (hz : M k 0 = z) (h1 : M (rfA G t 1) p = (s : Int)) (h2 : M (rfA G b 5) p = (ti : Int)) (h3 : M (rfA G t 3) p = (kk : Int)) (hkk : kk < 32) (h4 : M b 4 = (h : Int)) (bs : s ≤ 30) (bt' : ti ≤ 30) (bh : h ≤ 1000000) (hρ : 1 ≤ ρ) (hQ : Q (some (vI (rtF s ti kk h p 1))) G (wr M k 0 (z + trF 1))) : WPm Γ ρ 0 12 [vR (some k), vI 1, vI p, vR (some t), vR (some b)] G M Q := by
  have n1 : rfA G t 1 ≠ k := ne_AO hT.2.1.2 hk
  have n3 : rfA G t 3 ≠ k := ne_AO hT.2.2.2.1.2 hk
  have n5 : rfA G b 5 ≠ k := ne_AO hB.2.2 hk
  have n4 : b ≠ k := ne_OO hB.1 hk (by decide)
  have i1 : inA G (rfA G t 1) 0 (p : Int) := in_of hT.2.1.2 (by omega) (by omega) (by decide)
  have i3 : inA G (rfA G t 3) 0 (p : Int) := in_of hT.2.2.2.1.2 (by omega) (by omega) (by decide)
  have i5 : inA G (rfA G b 5) 0 (p : Int) := in_of hB.2.2 (by omega) (by omega) (by decide)
  have e1 : mkT 1 = 10 := rfl
  refine WPm_of (L := [vR (some k), vI 1, vI p, vR (some t), vR (some b), vJ]) 1 (by decide) (Nat.le_of_ble_eq_true rfl) rfl ?_
  refine blk bk_k_askBody_0 ?_
  simp (disch := omega) only [vcb, step, ↓pI_c, ↓pL_c, ↓pR_c, ↓pA_c, isI_c, isL_c, isL_i, isL_r, isL_j, isA_c, inc_c, stO, fV, cZ, sw, List.getD_cons_zero, List.getD_cons_succ, List.set_cons_zero, List.set_cons_succ, List.take_succ_cons, List.take_zero, List.drop_succ_cons, List.drop_zero, List.reverse_cons, List.reverse_nil, List.nil_append, List.cons_append, List.append_nil, Option.toList_some, Option.toList_none, List.length_cons, List.length_nil, Nat.reduceAdd, Nat.reduceSub, Nat.reduceLeDiff, Nat.reduceEqDiff, Nat.add_eq, not_false_eq_true, not_true_eq_false, true_and, and_true, false_or, or_true, true_or, or_false, and_self, one_ne_zero_nat, w32_id, w32_n, Int.toNat_natCast, Int.reduceToNat, Nat.zero_add, Nat.zero_le, Nat.le_refl, Int.reduceEq, Int.reduceLT, Int.reduceLE, Int.reduceAdd, Int.reduceSub, Int.reduceMul, t_imp, f_imp, hk, hz, hT.1, hT.2.1.1, i1, wr_c, h1]
  refine ⟨6, mkT, hΓ.1, by decide, ?_⟩
  rw [e1]
  simp (disch := omega) only [vcb, step, ↓pI_c, ↓pL_c, ↓pR_c, ↓pA_c, isI_c, isL_c, isL_i, isL_r, isL_j, isA_c, inc_c, stO, fV, cZ, sw, List.getD_cons_zero, List.getD_cons_succ, List.set_cons_zero, List.set_cons_succ, List.take_succ_cons, List.take_zero, List.drop_succ_cons, List.drop_zero, List.reverse_cons, List.reverse_nil, List.nil_append, List.cons_append, List.append_nil, Option.toList_some, Option.toList_none, List.length_cons, List.length_nil, Nat.reduceAdd, Nat.reduceSub, Nat.reduceLeDiff, Nat.reduceEqDiff, Nat.add_eq, not_false_eq_true, not_true_eq_false, true_and, and_true, false_or, or_true, true_or, or_false, and_self, one_ne_zero_nat, w32_id, w32_n, Int.toNat_natCast, Int.reduceToNat, Nat.zero_add, Nat.zero_le, Nat.le_refl, Int.reduceEq, Int.reduceLT, Int.reduceLE, Int.reduceAdd, Int.reduceSub, Int.reduceMul, t_imp, f_imp]
  refine blk bk_k_askBody_26 ?_
  simp (disch := omega) only [vcb, step, ↓pI_c, ↓pL_c, ↓pR_c, ↓pA_c, isI_c, isL_c, isL_i, isL_r, isL_j, isA_c, inc_c, stO, fV, cZ, sw, List.getD_cons_zero, List.getD_cons_succ, List.set_cons_zero, List.set_cons_succ, List.take_succ_cons, List.take_zero, List.drop_succ_cons, List.drop_zero, List.reverse_cons, List.reverse_nil, List.nil_append, List.cons_append, List.append_nil, Option.toList_some, Option.toList_none, List.length_cons, List.length_nil, Nat.reduceAdd, Nat.reduceSub, Nat.reduceLeDiff, Nat.reduceEqDiff, Nat.add_eq, not_false_eq_true, not_true_eq_false, true_and, and_true, false_or, or_true, true_or, or_false, and_self, one_ne_zero_nat, w32_id, w32_n, Int.toNat_natCast, Int.reduceToNat, Nat.zero_add, Nat.zero_le, Nat.le_refl, Int.reduceEq, Int.reduceLT, Int.reduceLE, Int.reduceAdd, Int.reduceSub, Int.reduceMul, t_imp, f_imp, hk]
  refine ⟨6, abT, hΓ.2, by decide, ?_⟩
  have e2 : abT 1 = 0 := rfl
  rw [e2]
  refine ⟨by omega, ?_⟩
  refine s_ask0 (s := s) (ti := ti) (kk := kk) (h := h) (z := z + 10) hΓ hk hT hB hp (wr_s _ _ _ _) (by rw [wr_c _ _ _ n1]; exact h1) (by rw [wr_c _ _ _ n5]; exact h2) (by rw [wr_c _ _ _ n3]; exact h3) hkk (by rw [wr_c _ _ _ n4]; exact h4) bs bt' bh (by omega) ?_
  have e3 : wr (wr M k 0 (z + 10)) k 0 (z + 10 + trF 0) = wr M k 0 (z + trF 1) := by
    rw [wr_wr, Int.add_assoc]
    rfl
  rw [e3]
  have hpp := pop_le kk
  have e4 : rtF s ti kk h p 0 = rtF s ti kk h p 0 := rfl
  refine blk bk_k_askBody_39 ?_
  simp (disch := omega) only [vcb, step, ↓pI_c, ↓pL_c, ↓pR_c, ↓pA_c, isI_c, isL_c, isL_i, isL_r, isL_j, isA_c, inc_c, stO, fV, cZ, sw, List.getD_cons_zero, List.getD_cons_succ, List.set_cons_zero, List.set_cons_succ, List.take_succ_cons, List.take_zero, List.drop_succ_cons, List.drop_zero, List.reverse_cons, List.reverse_nil, List.nil_append, List.cons_append, List.append_nil, Option.toList_some, Option.toList_none, List.length_cons, List.length_nil, Nat.reduceAdd, Nat.reduceSub, Nat.reduceLeDiff, Nat.reduceEqDiff, Nat.add_eq, not_false_eq_true, not_true_eq_false, true_and, and_true, false_or, or_true, true_or, or_false, and_self, one_ne_zero_nat, w32_id, w32_n, Int.toNat_natCast, Int.reduceToNat, Nat.zero_add, Nat.zero_le, Nat.le_refl, Int.reduceEq, Int.reduceLT, Int.reduceLE, Int.reduceAdd, Int.reduceSub, Int.reduceMul, t_imp, f_imp]
  refine blk bk_k_askBody_72 ?_
  simp (disch := omega) only [vcb, step, ↓pI_c, ↓pL_c, ↓pR_c, ↓pA_c, isI_c, isL_c, isL_i, isL_r, isL_j, isA_c, inc_c, stO, fV, cZ, sw, List.getD_cons_zero, List.getD_cons_succ, List.set_cons_zero, List.set_cons_succ, List.take_succ_cons, List.take_zero, List.drop_succ_cons, List.drop_zero, List.reverse_cons, List.reverse_nil, List.nil_append, List.cons_append, List.append_nil, Option.toList_some, Option.toList_none, List.length_cons, List.length_nil, Nat.reduceAdd, Nat.reduceSub, Nat.reduceLeDiff, Nat.reduceEqDiff, Nat.add_eq, not_false_eq_true, not_true_eq_false, true_and, and_true, false_or, or_true, true_or, or_false, and_self, one_ne_zero_nat, w32_id, w32_n, Int.toNat_natCast, Int.reduceToNat, Nat.zero_add, Nat.zero_le, Nat.le_refl, Int.reduceEq, Int.reduceLT, Int.reduceLE, Int.reduceAdd, Int.reduceSub, Int.reduceMul, t_imp, f_imp, hB.1, hB.2.1, i5, wr_c, h2]
  exact hQ
theorem s_ask2 {k t b p s ti kk h : Nat} {z : Int} (hΓ : KT Γ) (hk : isObj G k 2) (hT : TS G t) (hB : NS G b) (hp : p < 6) (hz : M k 0 = z) (h1 : M (rfA G t 1) p = (s : Int)) (h2 : M (rfA G b 5) p = (ti : Int)) (h3 : M (rfA G t 3) p = (kk : Int)) (hkk : kk < 32) (h4 : M b 4 = (h : Int)) (bs : s ≤ 30) (bt' : ti ≤ 30) (bh : h ≤ 1000000) (hρ : 1 ≤ ρ) (hQ : Q (some (vI (rtF s ti kk h p 2))) G (wr M k 0 (z + trF 2))) : WPm Γ ρ 0 12 [vR (some k), vI 2, vI p, vR (some t), vR (some b)] G M Q := by
  have n1 : rfA G t 1 ≠ k := ne_AO hT.2.1.2 hk
  have n3 : rfA G t 3 ≠ k := ne_AO hT.2.2.2.1.2 hk
  have n5 : rfA G b 5 ≠ k := ne_AO hB.2.2 hk
  have n4 : b ≠ k := ne_OO hB.1 hk (by decide)
  have i1 : inA G (rfA G t 1) 0 (p : Int) := in_of hT.2.1.2 (by omega) (by omega) (by decide)
  have i3 : inA G (rfA G t 3) 0 (p : Int) := in_of hT.2.2.2.1.2 (by omega) (by omega) (by decide)
  have i5 : inA G (rfA G b 5) 0 (p : Int) := in_of hB.2.2 (by omega) (by omega) (by decide)
  have e1 : mkT 2 = 100 := rfl
  refine WPm_of (L := [vR (some k), vI 2, vI p, vR (some t), vR (some b), vJ]) 1 (by decide) (Nat.le_of_ble_eq_true rfl) rfl ?_
  refine blk bk_k_askBody_0 ?_
  simp (disch := omega) only [vcb, step, ↓pI_c, ↓pL_c, ↓pR_c, ↓pA_c, isI_c, isL_c, isL_i, isL_r, isL_j, isA_c, inc_c, stO, fV, cZ, sw, List.getD_cons_zero, List.getD_cons_succ, List.set_cons_zero, List.set_cons_succ, List.take_succ_cons, List.take_zero, List.drop_succ_cons, List.drop_zero, List.reverse_cons, List.reverse_nil, List.nil_append, List.cons_append, List.append_nil, Option.toList_some, Option.toList_none, List.length_cons, List.length_nil, Nat.reduceAdd, Nat.reduceSub, Nat.reduceLeDiff, Nat.reduceEqDiff, Nat.add_eq, not_false_eq_true, not_true_eq_false, true_and, and_true, false_or, or_true, true_or, or_false, and_self, one_ne_zero_nat, w32_id, w32_n, Int.toNat_natCast, Int.reduceToNat, Nat.zero_add, Nat.zero_le, Nat.le_refl, Int.reduceEq, Int.reduceLT, Int.reduceLE, Int.reduceAdd, Int.reduceSub, Int.reduceMul, t_imp, f_imp, hk, hz, hT.1, hT.2.1.1, i1, wr_c, h1]
  refine ⟨6, mkT, hΓ.1, by decide, ?_⟩
  rw [e1]
  simp (disch := omega) only [vcb, step, ↓pI_c, ↓pL_c, ↓pR_c, ↓pA_c, isI_c, isL_c, isL_i, isL_r, isL_j, isA_c, inc_c, stO, fV, cZ, sw, List.getD_cons_zero, List.getD_cons_succ, List.set_cons_zero, List.set_cons_succ, List.take_succ_cons, List.take_zero, List.drop_succ_cons, List.drop_zero, List.reverse_cons, List.reverse_nil, List.nil_append, List.cons_append, List.append_nil, Option.toList_some, Option.toList_none, List.length_cons, List.length_nil, Nat.reduceAdd, Nat.reduceSub, Nat.reduceLeDiff, Nat.reduceEqDiff, Nat.add_eq, not_false_eq_true, not_true_eq_false, true_and, and_true, false_or, or_true, true_or, or_false, and_self, one_ne_zero_nat, w32_id, w32_n, Int.toNat_natCast, Int.reduceToNat, Nat.zero_add, Nat.zero_le, Nat.le_refl, Int.reduceEq, Int.reduceLT, Int.reduceLE, Int.reduceAdd, Int.reduceSub, Int.reduceMul, t_imp, f_imp]
  refine blk bk_k_askBody_26 ?_
  simp (disch := omega) only [vcb, step, ↓pI_c, ↓pL_c, ↓pR_c, ↓pA_c, isI_c, isL_c, isL_i, isL_r, isL_j, isA_c, inc_c, stO, fV, cZ, sw, List.getD_cons_zero, List.getD_cons_succ, List.set_cons_zero, List.set_cons_succ, List.take_succ_cons, List.take_zero, List.drop_succ_cons, List.drop_zero, List.reverse_cons, List.reverse_nil, List.nil_append, List.cons_append, List.append_nil, Option.toList_some, Option.toList_none, List.length_cons, List.length_nil, Nat.reduceAdd, Nat.reduceSub, Nat.reduceLeDiff, Nat.reduceEqDiff, Nat.add_eq, not_false_eq_true, not_true_eq_false, true_and, and_true, false_or, or_true, true_or, or_false, and_self, one_ne_zero_nat, w32_id, w32_n, Int.toNat_natCast, Int.reduceToNat, Nat.zero_add, Nat.zero_le, Nat.le_refl, Int.reduceEq, Int.reduceLT, Int.reduceLE, Int.reduceAdd, Int.reduceSub, Int.reduceMul, t_imp, f_imp, hk]
  refine ⟨6, abT, hΓ.2, by decide, ?_⟩
  have e2 : abT 2 = 0 := rfl
  rw [e2]
  refine ⟨by omega, ?_⟩
  refine s_ask0 (s := s) (ti := ti) (kk := kk) (h := h) (z := z + 100) hΓ hk hT hB hp (wr_s _ _ _ _) (by rw [wr_c _ _ _ n1]; exact h1) (by rw [wr_c _ _ _ n5]; exact h2) (by rw [wr_c _ _ _ n3]; exact h3) hkk (by rw [wr_c _ _ _ n4]; exact h4) bs bt' bh (by omega) ?_
  have e3 : wr (wr M k 0 (z + 100)) k 0 (z + 100 + trF 0) = wr M k 0 (z + trF 2) := by
    rw [wr_wr, Int.add_assoc]
    rfl
  rw [e3]
  have hpp := pop_le kk
  have e4 : rtF s ti kk h p 0 = rtF s ti kk h p 0 := rfl
  refine blk bk_k_askBody_39 ?_
  simp (disch := omega) only [vcb, step, ↓pI_c, ↓pL_c, ↓pR_c, ↓pA_c, isI_c, isL_c, isL_i, isL_r, isL_j, isA_c, inc_c, stO, fV, cZ, sw, List.getD_cons_zero, List.getD_cons_succ, List.set_cons_zero, List.set_cons_succ, List.take_succ_cons, List.take_zero, List.drop_succ_cons, List.drop_zero, List.reverse_cons, List.reverse_nil, List.nil_append, List.cons_append, List.append_nil, Option.toList_some, Option.toList_none, List.length_cons, List.length_nil, Nat.reduceAdd, Nat.reduceSub, Nat.reduceLeDiff, Nat.reduceEqDiff, Nat.add_eq, not_false_eq_true, not_true_eq_false, true_and, and_true, false_or, or_true, true_or, or_false, and_self, one_ne_zero_nat, w32_id, w32_n, Int.toNat_natCast, Int.reduceToNat, Nat.zero_add, Nat.zero_le, Nat.le_refl, Int.reduceEq, Int.reduceLT, Int.reduceLE, Int.reduceAdd, Int.reduceSub, Int.reduceMul, t_imp, f_imp]
  refine blk bk_k_askBody_83 ?_
  simp (disch := omega) only [vcb, step, ↓pI_c, ↓pL_c, ↓pR_c, ↓pA_c, isI_c, isL_c, isL_i, isL_r, isL_j, isA_c, inc_c, stO, fV, cZ, sw, List.getD_cons_zero, List.getD_cons_succ, List.set_cons_zero, List.set_cons_succ, List.take_succ_cons, List.take_zero, List.drop_succ_cons, List.drop_zero, List.reverse_cons, List.reverse_nil, List.nil_append, List.cons_append, List.append_nil, Option.toList_some, Option.toList_none, List.length_cons, List.length_nil, Nat.reduceAdd, Nat.reduceSub, Nat.reduceLeDiff, Nat.reduceEqDiff, Nat.add_eq, not_false_eq_true, not_true_eq_false, true_and, and_true, false_or, or_true, true_or, or_false, and_self, one_ne_zero_nat, w32_id, w32_n, Int.toNat_natCast, Int.reduceToNat, Nat.zero_add, Nat.zero_le, Nat.le_refl, Int.reduceEq, Int.reduceLT, Int.reduceLE, Int.reduceAdd, Int.reduceSub, Int.reduceMul, t_imp, f_imp, hT.1, hT.2.2.2.1.1, i3, wr_c, h3]
  refine ⟨by omega, s_j_bitCount (by omega) ?_⟩
  refine blk bk_k_askBody_94 ?_
  simp (disch := omega) only [vcb, step, ↓pI_c, ↓pL_c, ↓pR_c, ↓pA_c, isI_c, isL_c, isL_i, isL_r, isL_j, isA_c, inc_c, stO, fV, cZ, sw, List.getD_cons_zero, List.getD_cons_succ, List.set_cons_zero, List.set_cons_succ, List.take_succ_cons, List.take_zero, List.drop_succ_cons, List.drop_zero, List.reverse_cons, List.reverse_nil, List.nil_append, List.cons_append, List.append_nil, Option.toList_some, Option.toList_none, List.length_cons, List.length_nil, Nat.reduceAdd, Nat.reduceSub, Nat.reduceLeDiff, Nat.reduceEqDiff, Nat.add_eq, not_false_eq_true, not_true_eq_false, true_and, and_true, false_or, or_true, true_or, or_false, and_self, one_ne_zero_nat, w32_id, w32_n, Int.toNat_natCast, Int.reduceToNat, Nat.zero_add, Nat.zero_le, Nat.le_refl, Int.reduceEq, Int.reduceLT, Int.reduceLE, Int.reduceAdd, Int.reduceSub, Int.reduceMul, t_imp, f_imp]
  exact hQ
theorem s_ask5 {k t b p s ti kk h : Nat} {z : Int} (hΓ : KT Γ) (hk : isObj G k 2) (hT : TS G t) (hB : NS G b) (hp : p < 6) (hz : M k 0 = z) (h1 : M (rfA G t 1) p = (s : Int)) (h2 : M (rfA G b 5) p = (ti : Int)) (h3 : M (rfA G t 3) p = (kk : Int)) (hkk : kk < 32) (h4 : M b 4 = (h : Int)) (bs : s ≤ 30) (bt' : ti ≤ 30) (bh : h ≤ 1000000) (hρ : 1 ≤ ρ) (hQ : Q (some (vI (rtF s ti kk h p 5))) G (wr M k 0 (z + trF 5))) : WPm Γ ρ 0 12 [vR (some k), vI 5, vI p, vR (some t), vR (some b)] G M Q := by
  have n1 : rfA G t 1 ≠ k := ne_AO hT.2.1.2 hk
  have n3 : rfA G t 3 ≠ k := ne_AO hT.2.2.2.1.2 hk
  have n5 : rfA G b 5 ≠ k := ne_AO hB.2.2 hk
  have n4 : b ≠ k := ne_OO hB.1 hk (by decide)
  have i1 : inA G (rfA G t 1) 0 (p : Int) := in_of hT.2.1.2 (by omega) (by omega) (by decide)
  have i3 : inA G (rfA G t 3) 0 (p : Int) := in_of hT.2.2.2.1.2 (by omega) (by omega) (by decide)
  have i5 : inA G (rfA G b 5) 0 (p : Int) := in_of hB.2.2 (by omega) (by omega) (by decide)
  have e1 : mkT 5 = 100000 := rfl
  refine WPm_of (L := [vR (some k), vI 5, vI p, vR (some t), vR (some b), vJ]) 1 (by decide) (Nat.le_of_ble_eq_true rfl) rfl ?_
  refine blk bk_k_askBody_0 ?_
  simp (disch := omega) only [vcb, step, ↓pI_c, ↓pL_c, ↓pR_c, ↓pA_c, isI_c, isL_c, isL_i, isL_r, isL_j, isA_c, inc_c, stO, fV, cZ, sw, List.getD_cons_zero, List.getD_cons_succ, List.set_cons_zero, List.set_cons_succ, List.take_succ_cons, List.take_zero, List.drop_succ_cons, List.drop_zero, List.reverse_cons, List.reverse_nil, List.nil_append, List.cons_append, List.append_nil, Option.toList_some, Option.toList_none, List.length_cons, List.length_nil, Nat.reduceAdd, Nat.reduceSub, Nat.reduceLeDiff, Nat.reduceEqDiff, Nat.add_eq, not_false_eq_true, not_true_eq_false, true_and, and_true, false_or, or_true, true_or, or_false, and_self, one_ne_zero_nat, w32_id, w32_n, Int.toNat_natCast, Int.reduceToNat, Nat.zero_add, Nat.zero_le, Nat.le_refl, Int.reduceEq, Int.reduceLT, Int.reduceLE, Int.reduceAdd, Int.reduceSub, Int.reduceMul, t_imp, f_imp, hk, hz, hT.1, hT.2.1.1, i1, wr_c, h1]
  refine ⟨6, mkT, hΓ.1, by decide, ?_⟩
  rw [e1]
  simp (disch := omega) only [vcb, step, ↓pI_c, ↓pL_c, ↓pR_c, ↓pA_c, isI_c, isL_c, isL_i, isL_r, isL_j, isA_c, inc_c, stO, fV, cZ, sw, List.getD_cons_zero, List.getD_cons_succ, List.set_cons_zero, List.set_cons_succ, List.take_succ_cons, List.take_zero, List.drop_succ_cons, List.drop_zero, List.reverse_cons, List.reverse_nil, List.nil_append, List.cons_append, List.append_nil, Option.toList_some, Option.toList_none, List.length_cons, List.length_nil, Nat.reduceAdd, Nat.reduceSub, Nat.reduceLeDiff, Nat.reduceEqDiff, Nat.add_eq, not_false_eq_true, not_true_eq_false, true_and, and_true, false_or, or_true, true_or, or_false, and_self, one_ne_zero_nat, w32_id, w32_n, Int.toNat_natCast, Int.reduceToNat, Nat.zero_add, Nat.zero_le, Nat.le_refl, Int.reduceEq, Int.reduceLT, Int.reduceLE, Int.reduceAdd, Int.reduceSub, Int.reduceMul, t_imp, f_imp]
  refine blk bk_k_askBody_26 ?_
  simp (disch := omega) only [vcb, step, ↓pI_c, ↓pL_c, ↓pR_c, ↓pA_c, isI_c, isL_c, isL_i, isL_r, isL_j, isA_c, inc_c, stO, fV, cZ, sw, List.getD_cons_zero, List.getD_cons_succ, List.set_cons_zero, List.set_cons_succ, List.take_succ_cons, List.take_zero, List.drop_succ_cons, List.drop_zero, List.reverse_cons, List.reverse_nil, List.nil_append, List.cons_append, List.append_nil, Option.toList_some, Option.toList_none, List.length_cons, List.length_nil, Nat.reduceAdd, Nat.reduceSub, Nat.reduceLeDiff, Nat.reduceEqDiff, Nat.add_eq, not_false_eq_true, not_true_eq_false, true_and, and_true, false_or, or_true, true_or, or_false, and_self, one_ne_zero_nat, w32_id, w32_n, Int.toNat_natCast, Int.reduceToNat, Nat.zero_add, Nat.zero_le, Nat.le_refl, Int.reduceEq, Int.reduceLT, Int.reduceLE, Int.reduceAdd, Int.reduceSub, Int.reduceMul, t_imp, f_imp, hk]
  refine ⟨6, abT, hΓ.2, by decide, ?_⟩
  have e2 : abT 5 = 0 := rfl
  rw [e2]
  refine ⟨by omega, ?_⟩
  refine s_ask0 (s := s) (ti := ti) (kk := kk) (h := h) (z := z + 100000) hΓ hk hT hB hp (wr_s _ _ _ _) (by rw [wr_c _ _ _ n1]; exact h1) (by rw [wr_c _ _ _ n5]; exact h2) (by rw [wr_c _ _ _ n3]; exact h3) hkk (by rw [wr_c _ _ _ n4]; exact h4) bs bt' bh (by omega) ?_
  have e3 : wr (wr M k 0 (z + 100000)) k 0 (z + 100000 + trF 0) = wr M k 0 (z + trF 5) := by
    rw [wr_wr, Int.add_assoc]
    rfl
  rw [e3]
  have hpp := pop_le kk
  have e4 : rtF s ti kk h p 0 = rtF s ti kk h p 0 := rfl
  refine blk bk_k_askBody_39 ?_
  simp (disch := omega) only [vcb, step, ↓pI_c, ↓pL_c, ↓pR_c, ↓pA_c, isI_c, isL_c, isL_i, isL_r, isL_j, isA_c, inc_c, stO, fV, cZ, sw, List.getD_cons_zero, List.getD_cons_succ, List.set_cons_zero, List.set_cons_succ, List.take_succ_cons, List.take_zero, List.drop_succ_cons, List.drop_zero, List.reverse_cons, List.reverse_nil, List.nil_append, List.cons_append, List.append_nil, Option.toList_some, Option.toList_none, List.length_cons, List.length_nil, Nat.reduceAdd, Nat.reduceSub, Nat.reduceLeDiff, Nat.reduceEqDiff, Nat.add_eq, not_false_eq_true, not_true_eq_false, true_and, and_true, false_or, or_true, true_or, or_false, and_self, one_ne_zero_nat, w32_id, w32_n, Int.toNat_natCast, Int.reduceToNat, Nat.zero_add, Nat.zero_le, Nat.le_refl, Int.reduceEq, Int.reduceLT, Int.reduceLE, Int.reduceAdd, Int.reduceSub, Int.reduceMul, t_imp, f_imp]
  refine blk bk_k_askBody_106 ?_
  simp (disch := omega) only [vcb, step, ↓pI_c, ↓pL_c, ↓pR_c, ↓pA_c, isI_c, isL_c, isL_i, isL_r, isL_j, isA_c, inc_c, stO, fV, cZ, sw, List.getD_cons_zero, List.getD_cons_succ, List.set_cons_zero, List.set_cons_succ, List.take_succ_cons, List.take_zero, List.drop_succ_cons, List.drop_zero, List.reverse_cons, List.reverse_nil, List.nil_append, List.cons_append, List.append_nil, Option.toList_some, Option.toList_none, List.length_cons, List.length_nil, Nat.reduceAdd, Nat.reduceSub, Nat.reduceLeDiff, Nat.reduceEqDiff, Nat.add_eq, not_false_eq_true, not_true_eq_false, true_and, and_true, false_or, or_true, true_or, or_false, and_self, one_ne_zero_nat, w32_id, w32_n, Int.toNat_natCast, Int.reduceToNat, Nat.zero_add, Nat.zero_le, Nat.le_refl, Int.reduceEq, Int.reduceLT, Int.reduceLE, Int.reduceAdd, Int.reduceSub, Int.reduceMul, t_imp, f_imp, hB.1, wr_c, h4]
  exact hQ
theorem s_ask3 {k t b p s ti kk h : Nat} {z : Int} (hΓ : KT Γ) (hk : isObj G k 2) (hT : TS G t) (hB : NS G b) (hp : p < 6) (hz : M k 0 = z) (h1 : M (rfA G t 1) p = (s : Int)) (h2 : M (rfA G b 5) p = (ti : Int)) (h3 : M (rfA G t 3) p = (kk : Int)) (hkk : kk < 32) (h4 : M b 4 = (h : Int)) (bs : s ≤ 30) (bt' : ti ≤ 30) (bh : h ≤ 1000000) (hρ : 2 ≤ ρ) (hQ : Q (some (vI (rtF s ti kk h p 3))) G (wr M k 0 (z + trF 3))) : WPm Γ ρ 0 12 [vR (some k), vI 3, vI p, vR (some t), vR (some b)] G M Q := by
  have n1 : rfA G t 1 ≠ k := ne_AO hT.2.1.2 hk
  have n3 : rfA G t 3 ≠ k := ne_AO hT.2.2.2.1.2 hk
  have n5 : rfA G b 5 ≠ k := ne_AO hB.2.2 hk
  have n4 : b ≠ k := ne_OO hB.1 hk (by decide)
  have i1 : inA G (rfA G t 1) 0 (p : Int) := in_of hT.2.1.2 (by omega) (by omega) (by decide)
  have i3 : inA G (rfA G t 3) 0 (p : Int) := in_of hT.2.2.2.1.2 (by omega) (by omega) (by decide)
  have i5 : inA G (rfA G b 5) 0 (p : Int) := in_of hB.2.2 (by omega) (by omega) (by decide)
  have e1 : mkT 3 = 1000 := rfl
  refine WPm_of (L := [vR (some k), vI 3, vI p, vR (some t), vR (some b), vJ]) 1 (by decide) (Nat.le_of_ble_eq_true rfl) rfl ?_
  refine blk bk_k_askBody_0 ?_
  simp (disch := omega) only [vcb, step, ↓pI_c, ↓pL_c, ↓pR_c, ↓pA_c, isI_c, isL_c, isL_i, isL_r, isL_j, isA_c, inc_c, stO, fV, cZ, sw, List.getD_cons_zero, List.getD_cons_succ, List.set_cons_zero, List.set_cons_succ, List.take_succ_cons, List.take_zero, List.drop_succ_cons, List.drop_zero, List.reverse_cons, List.reverse_nil, List.nil_append, List.cons_append, List.append_nil, Option.toList_some, Option.toList_none, List.length_cons, List.length_nil, Nat.reduceAdd, Nat.reduceSub, Nat.reduceLeDiff, Nat.reduceEqDiff, Nat.add_eq, not_false_eq_true, not_true_eq_false, true_and, and_true, false_or, or_true, true_or, or_false, and_self, one_ne_zero_nat, w32_id, w32_n, Int.toNat_natCast, Int.reduceToNat, Nat.zero_add, Nat.zero_le, Nat.le_refl, Int.reduceEq, Int.reduceLT, Int.reduceLE, Int.reduceAdd, Int.reduceSub, Int.reduceMul, t_imp, f_imp, hk, hz, hT.1, hT.2.1.1, i1, wr_c, h1]
  refine ⟨6, mkT, hΓ.1, by decide, ?_⟩
  rw [e1]
  simp (disch := omega) only [vcb, step, ↓pI_c, ↓pL_c, ↓pR_c, ↓pA_c, isI_c, isL_c, isL_i, isL_r, isL_j, isA_c, inc_c, stO, fV, cZ, sw, List.getD_cons_zero, List.getD_cons_succ, List.set_cons_zero, List.set_cons_succ, List.take_succ_cons, List.take_zero, List.drop_succ_cons, List.drop_zero, List.reverse_cons, List.reverse_nil, List.nil_append, List.cons_append, List.append_nil, Option.toList_some, Option.toList_none, List.length_cons, List.length_nil, Nat.reduceAdd, Nat.reduceSub, Nat.reduceLeDiff, Nat.reduceEqDiff, Nat.add_eq, not_false_eq_true, not_true_eq_false, true_and, and_true, false_or, or_true, true_or, or_false, and_self, one_ne_zero_nat, w32_id, w32_n, Int.toNat_natCast, Int.reduceToNat, Nat.zero_add, Nat.zero_le, Nat.le_refl, Int.reduceEq, Int.reduceLT, Int.reduceLE, Int.reduceAdd, Int.reduceSub, Int.reduceMul, t_imp, f_imp]
  refine blk bk_k_askBody_26 ?_
  simp (disch := omega) only [vcb, step, ↓pI_c, ↓pL_c, ↓pR_c, ↓pA_c, isI_c, isL_c, isL_i, isL_r, isL_j, isA_c, inc_c, stO, fV, cZ, sw, List.getD_cons_zero, List.getD_cons_succ, List.set_cons_zero, List.set_cons_succ, List.take_succ_cons, List.take_zero, List.drop_succ_cons, List.drop_zero, List.reverse_cons, List.reverse_nil, List.nil_append, List.cons_append, List.append_nil, Option.toList_some, Option.toList_none, List.length_cons, List.length_nil, Nat.reduceAdd, Nat.reduceSub, Nat.reduceLeDiff, Nat.reduceEqDiff, Nat.add_eq, not_false_eq_true, not_true_eq_false, true_and, and_true, false_or, or_true, true_or, or_false, and_self, one_ne_zero_nat, w32_id, w32_n, Int.toNat_natCast, Int.reduceToNat, Nat.zero_add, Nat.zero_le, Nat.le_refl, Int.reduceEq, Int.reduceLT, Int.reduceLE, Int.reduceAdd, Int.reduceSub, Int.reduceMul, t_imp, f_imp, hk]
  refine ⟨6, abT, hΓ.2, by decide, ?_⟩
  have e2 : abT 3 = 1 := rfl
  rw [e2]
  refine ⟨by omega, ?_⟩
  refine s_ask1 (s := s) (ti := ti) (kk := kk) (h := h) (z := z + 1000) hΓ hk hT hB hp (wr_s _ _ _ _) (by rw [wr_c _ _ _ n1]; exact h1) (by rw [wr_c _ _ _ n5]; exact h2) (by rw [wr_c _ _ _ n3]; exact h3) hkk (by rw [wr_c _ _ _ n4]; exact h4) bs bt' bh (by omega) ?_
  have e3 : wr (wr M k 0 (z + 1000)) k 0 (z + 1000 + trF 1) = wr M k 0 (z + trF 3) := by
    rw [wr_wr, Int.add_assoc]
    rfl
  rw [e3]
  have hpp := pop_le kk
  have e4 : rtF s ti kk h p 1 = rtF s ti kk h p 1 := rfl
  refine blk bk_k_askBody_39 ?_
  simp (disch := omega) only [vcb, step, ↓pI_c, ↓pL_c, ↓pR_c, ↓pA_c, isI_c, isL_c, isL_i, isL_r, isL_j, isA_c, inc_c, stO, fV, cZ, sw, List.getD_cons_zero, List.getD_cons_succ, List.set_cons_zero, List.set_cons_succ, List.take_succ_cons, List.take_zero, List.drop_succ_cons, List.drop_zero, List.reverse_cons, List.reverse_nil, List.nil_append, List.cons_append, List.append_nil, Option.toList_some, Option.toList_none, List.length_cons, List.length_nil, Nat.reduceAdd, Nat.reduceSub, Nat.reduceLeDiff, Nat.reduceEqDiff, Nat.add_eq, not_false_eq_true, not_true_eq_false, true_and, and_true, false_or, or_true, true_or, or_false, and_self, one_ne_zero_nat, w32_id, w32_n, Int.toNat_natCast, Int.reduceToNat, Nat.zero_add, Nat.zero_le, Nat.le_refl, Int.reduceEq, Int.reduceLT, Int.reduceLE, Int.reduceAdd, Int.reduceSub, Int.reduceMul, t_imp, f_imp]
  refine blk bk_k_askBody_96 ?_
  simp (disch := omega) only [vcb, step, ↓pI_c, ↓pL_c, ↓pR_c, ↓pA_c, isI_c, isL_c, isL_i, isL_r, isL_j, isA_c, inc_c, stO, fV, cZ, sw, List.getD_cons_zero, List.getD_cons_succ, List.set_cons_zero, List.set_cons_succ, List.take_succ_cons, List.take_zero, List.drop_succ_cons, List.drop_zero, List.reverse_cons, List.reverse_nil, List.nil_append, List.cons_append, List.append_nil, Option.toList_some, Option.toList_none, List.length_cons, List.length_nil, Nat.reduceAdd, Nat.reduceSub, Nat.reduceLeDiff, Nat.reduceEqDiff, Nat.add_eq, not_false_eq_true, not_true_eq_false, true_and, and_true, false_or, or_true, true_or, or_false, and_self, one_ne_zero_nat, w32_id, w32_n, Int.toNat_natCast, Int.reduceToNat, Nat.zero_add, Nat.zero_le, Nat.le_refl, Int.reduceEq, Int.reduceLT, Int.reduceLE, Int.reduceAdd, Int.reduceSub, Int.reduceMul, t_imp, f_imp]
  exact hQ
theorem s_ask4 {k t b p s ti kk h : Nat} {z : Int} (hΓ : KT Γ) (hk : isObj G k 2) (hT : TS G t) (hB : NS G b) (hp : p < 6) (hz : M k 0 = z) (h1 : M (rfA G t 1) p = (s : Int)) (h2 : M (rfA G b 5) p = (ti : Int)) (h3 : M (rfA G t 3) p = (kk : Int)) (hkk : kk < 32) (h4 : M b 4 = (h : Int)) (bs : s ≤ 30) (bt' : ti ≤ 30) (bh : h ≤ 1000000) (hρ : 2 ≤ ρ) (hQ : Q (some (vI (rtF s ti kk h p 4))) G (wr M k 0 (z + trF 4))) : WPm Γ ρ 0 12 [vR (some k), vI 4, vI p, vR (some t), vR (some b)] G M Q := by
  have n1 : rfA G t 1 ≠ k := ne_AO hT.2.1.2 hk
  have n3 : rfA G t 3 ≠ k := ne_AO hT.2.2.2.1.2 hk
  have n5 : rfA G b 5 ≠ k := ne_AO hB.2.2 hk
  have n4 : b ≠ k := ne_OO hB.1 hk (by decide)
  have i1 : inA G (rfA G t 1) 0 (p : Int) := in_of hT.2.1.2 (by omega) (by omega) (by decide)
  have i3 : inA G (rfA G t 3) 0 (p : Int) := in_of hT.2.2.2.1.2 (by omega) (by omega) (by decide)
  have i5 : inA G (rfA G b 5) 0 (p : Int) := in_of hB.2.2 (by omega) (by omega) (by decide)
  have e1 : mkT 4 = 10000 := rfl
  refine WPm_of (L := [vR (some k), vI 4, vI p, vR (some t), vR (some b), vJ]) 1 (by decide) (Nat.le_of_ble_eq_true rfl) rfl ?_
  refine blk bk_k_askBody_0 ?_
  simp (disch := omega) only [vcb, step, ↓pI_c, ↓pL_c, ↓pR_c, ↓pA_c, isI_c, isL_c, isL_i, isL_r, isL_j, isA_c, inc_c, stO, fV, cZ, sw, List.getD_cons_zero, List.getD_cons_succ, List.set_cons_zero, List.set_cons_succ, List.take_succ_cons, List.take_zero, List.drop_succ_cons, List.drop_zero, List.reverse_cons, List.reverse_nil, List.nil_append, List.cons_append, List.append_nil, Option.toList_some, Option.toList_none, List.length_cons, List.length_nil, Nat.reduceAdd, Nat.reduceSub, Nat.reduceLeDiff, Nat.reduceEqDiff, Nat.add_eq, not_false_eq_true, not_true_eq_false, true_and, and_true, false_or, or_true, true_or, or_false, and_self, one_ne_zero_nat, w32_id, w32_n, Int.toNat_natCast, Int.reduceToNat, Nat.zero_add, Nat.zero_le, Nat.le_refl, Int.reduceEq, Int.reduceLT, Int.reduceLE, Int.reduceAdd, Int.reduceSub, Int.reduceMul, t_imp, f_imp, hk, hz, hT.1, hT.2.1.1, i1, wr_c, h1]
  refine ⟨6, mkT, hΓ.1, by decide, ?_⟩
  rw [e1]
  simp (disch := omega) only [vcb, step, ↓pI_c, ↓pL_c, ↓pR_c, ↓pA_c, isI_c, isL_c, isL_i, isL_r, isL_j, isA_c, inc_c, stO, fV, cZ, sw, List.getD_cons_zero, List.getD_cons_succ, List.set_cons_zero, List.set_cons_succ, List.take_succ_cons, List.take_zero, List.drop_succ_cons, List.drop_zero, List.reverse_cons, List.reverse_nil, List.nil_append, List.cons_append, List.append_nil, Option.toList_some, Option.toList_none, List.length_cons, List.length_nil, Nat.reduceAdd, Nat.reduceSub, Nat.reduceLeDiff, Nat.reduceEqDiff, Nat.add_eq, not_false_eq_true, not_true_eq_false, true_and, and_true, false_or, or_true, true_or, or_false, and_self, one_ne_zero_nat, w32_id, w32_n, Int.toNat_natCast, Int.reduceToNat, Nat.zero_add, Nat.zero_le, Nat.le_refl, Int.reduceEq, Int.reduceLT, Int.reduceLE, Int.reduceAdd, Int.reduceSub, Int.reduceMul, t_imp, f_imp]
  refine blk bk_k_askBody_26 ?_
  simp (disch := omega) only [vcb, step, ↓pI_c, ↓pL_c, ↓pR_c, ↓pA_c, isI_c, isL_c, isL_i, isL_r, isL_j, isA_c, inc_c, stO, fV, cZ, sw, List.getD_cons_zero, List.getD_cons_succ, List.set_cons_zero, List.set_cons_succ, List.take_succ_cons, List.take_zero, List.drop_succ_cons, List.drop_zero, List.reverse_cons, List.reverse_nil, List.nil_append, List.cons_append, List.append_nil, Option.toList_some, Option.toList_none, List.length_cons, List.length_nil, Nat.reduceAdd, Nat.reduceSub, Nat.reduceLeDiff, Nat.reduceEqDiff, Nat.add_eq, not_false_eq_true, not_true_eq_false, true_and, and_true, false_or, or_true, true_or, or_false, and_self, one_ne_zero_nat, w32_id, w32_n, Int.toNat_natCast, Int.reduceToNat, Nat.zero_add, Nat.zero_le, Nat.le_refl, Int.reduceEq, Int.reduceLT, Int.reduceLE, Int.reduceAdd, Int.reduceSub, Int.reduceMul, t_imp, f_imp, hk]
  refine ⟨6, abT, hΓ.2, by decide, ?_⟩
  have e2 : abT 4 = 2 := rfl
  rw [e2]
  refine ⟨by omega, ?_⟩
  refine s_ask2 (s := s) (ti := ti) (kk := kk) (h := h) (z := z + 10000) hΓ hk hT hB hp (wr_s _ _ _ _) (by rw [wr_c _ _ _ n1]; exact h1) (by rw [wr_c _ _ _ n5]; exact h2) (by rw [wr_c _ _ _ n3]; exact h3) hkk (by rw [wr_c _ _ _ n4]; exact h4) bs bt' bh (by omega) ?_
  have e3 : wr (wr M k 0 (z + 10000)) k 0 (z + 10000 + trF 2) = wr M k 0 (z + trF 4) := by
    rw [wr_wr, Int.add_assoc]
    rfl
  rw [e3]
  have hpp := pop_le kk
  have e4 : rtF s ti kk h p 2 = rtF s ti kk h p 2 := rfl
  refine blk bk_k_askBody_39 ?_
  simp (disch := omega) only [vcb, step, ↓pI_c, ↓pL_c, ↓pR_c, ↓pA_c, isI_c, isL_c, isL_i, isL_r, isL_j, isA_c, inc_c, stO, fV, cZ, sw, List.getD_cons_zero, List.getD_cons_succ, List.set_cons_zero, List.set_cons_succ, List.take_succ_cons, List.take_zero, List.drop_succ_cons, List.drop_zero, List.reverse_cons, List.reverse_nil, List.nil_append, List.cons_append, List.append_nil, Option.toList_some, Option.toList_none, List.length_cons, List.length_nil, Nat.reduceAdd, Nat.reduceSub, Nat.reduceLeDiff, Nat.reduceEqDiff, Nat.add_eq, not_false_eq_true, not_true_eq_false, true_and, and_true, false_or, or_true, true_or, or_false, and_self, one_ne_zero_nat, w32_id, w32_n, Int.toNat_natCast, Int.reduceToNat, Nat.zero_add, Nat.zero_le, Nat.le_refl, Int.reduceEq, Int.reduceLT, Int.reduceLE, Int.reduceAdd, Int.reduceSub, Int.reduceMul, t_imp, f_imp]
  refine blk bk_k_askBody_101 ?_
  simp (disch := omega) only [vcb, step, ↓pI_c, ↓pL_c, ↓pR_c, ↓pA_c, isI_c, isL_c, isL_i, isL_r, isL_j, isA_c, inc_c, stO, fV, cZ, sw, List.getD_cons_zero, List.getD_cons_succ, List.set_cons_zero, List.set_cons_succ, List.take_succ_cons, List.take_zero, List.drop_succ_cons, List.drop_zero, List.reverse_cons, List.reverse_nil, List.nil_append, List.cons_append, List.append_nil, Option.toList_some, Option.toList_none, List.length_cons, List.length_nil, Nat.reduceAdd, Nat.reduceSub, Nat.reduceLeDiff, Nat.reduceEqDiff, Nat.add_eq, not_false_eq_true, not_true_eq_false, true_and, and_true, false_or, or_true, true_or, or_false, and_self, one_ne_zero_nat, w32_id, w32_n, Int.toNat_natCast, Int.reduceToNat, Nat.zero_add, Nat.zero_le, Nat.le_refl, Int.reduceEq, Int.reduceLT, Int.reduceLE, Int.reduceAdd, Int.reduceSub, Int.reduceMul, t_imp, f_imp]
  exact hQ
theorem s_k_worth {k t b p s ti kk h : Nat} {z : Int} (hΓ : KT Γ) (hk : isObj G k 2) (hT : TS G t) (hB : NS G b) (hp : p < 6) (hz : M k 0 = z) (h1 : M (rfA G t 1) p = (s : Int)) (h2 : M (rfA G b 5) p = (ti : Int)) (h3 : M (rfA G t 3) p = (kk : Int)) (hkk : kk < 32) (h4 : M b 4 = (h : Int)) (bs : s ≤ 30) (bt' : ti ≤ 30) (bh : h ≤ 1000000) {kind : Nat} (hkd : kind ≤ 5) (hρ : 3 ≤ ρ) (hQ : Q (some (vI (rtF s ti kk h p kind))) G (wr M k 0 (z + trF kind))) : WPm Γ ρ 0 11 [vR (some k), vI kind, vI p, vR (some t), vR (some b)] G M Q := by
  refine WPm_of (L := [vR (some k), vI kind, vI p, vR (some t), vR (some b)]) 0 (by decide) (Nat.le_of_ble_eq_true rfl) rfl ?_
  refine blk bk_k_worth_0 ?_
  simp (disch := omega) only [vcb, step, ↓pI_c, ↓pL_c, ↓pR_c, ↓pA_c, isI_c, isL_c, isL_i, isL_r, isL_j, isA_c, inc_c, stO, fV, cZ, sw, List.getD_cons_zero, List.getD_cons_succ, List.set_cons_zero, List.set_cons_succ, List.take_succ_cons, List.take_zero, List.drop_succ_cons, List.drop_zero, List.reverse_cons, List.reverse_nil, List.nil_append, List.cons_append, List.append_nil, Option.toList_some, Option.toList_none, List.length_cons, List.length_nil, Nat.reduceAdd, Nat.reduceSub, Nat.reduceLeDiff, Nat.reduceEqDiff, Nat.add_eq, not_false_eq_true, not_true_eq_false, true_and, and_true, false_or, or_true, true_or, or_false, and_self, one_ne_zero_nat, w32_id, w32_n, Int.toNat_natCast, Int.reduceToNat, Nat.zero_add, Nat.zero_le, Nat.le_refl, Int.reduceEq, Int.reduceLT, Int.reduceLE, Int.reduceAdd, Int.reduceSub, Int.reduceMul, t_imp, f_imp]
  refine ⟨fun q => absurd q (by omega), fun _ => ⟨6, mkT, hΓ.1, ?_⟩⟩
  simp (disch := omega) only [vcb, step, ↓pI_c, ↓pL_c, ↓pR_c, ↓pA_c, isI_c, isL_c, isL_i, isL_r, isL_j, isA_c, inc_c, stO, fV, cZ, sw, List.getD_cons_zero, List.getD_cons_succ, List.set_cons_zero, List.set_cons_succ, List.take_succ_cons, List.take_zero, List.drop_succ_cons, List.drop_zero, List.reverse_cons, List.reverse_nil, List.nil_append, List.cons_append, List.append_nil, Option.toList_some, Option.toList_none, List.length_cons, List.length_nil, Nat.reduceAdd, Nat.reduceSub, Nat.reduceLeDiff, Nat.reduceEqDiff, Nat.add_eq, not_false_eq_true, not_true_eq_false, true_and, and_true, false_or, or_true, true_or, or_false, and_self, one_ne_zero_nat, w32_id, w32_n, Int.toNat_natCast, Int.reduceToNat, Nat.zero_add, Nat.zero_le, Nat.le_refl, Int.reduceEq, Int.reduceLT, Int.reduceLE, Int.reduceAdd, Int.reduceSub, Int.reduceMul, t_imp, f_imp]
  refine ⟨fun _ => ?_, fun q => absurd (by omega) q⟩
  refine blk bk_k_worth_17 ?_
  simp (disch := omega) only [vcb, step, ↓pI_c, ↓pL_c, ↓pR_c, ↓pA_c, isI_c, isL_c, isL_i, isL_r, isL_j, isA_c, inc_c, stO, fV, cZ, sw, List.getD_cons_zero, List.getD_cons_succ, List.set_cons_zero, List.set_cons_succ, List.take_succ_cons, List.take_zero, List.drop_succ_cons, List.drop_zero, List.reverse_cons, List.reverse_nil, List.nil_append, List.cons_append, List.append_nil, Option.toList_some, Option.toList_none, List.length_cons, List.length_nil, Nat.reduceAdd, Nat.reduceSub, Nat.reduceLeDiff, Nat.reduceEqDiff, Nat.add_eq, not_false_eq_true, not_true_eq_false, true_and, and_true, false_or, or_true, true_or, or_false, and_self, one_ne_zero_nat, w32_id, w32_n, Int.toNat_natCast, Int.reduceToNat, Nat.zero_add, Nat.zero_le, Nat.le_refl, Int.reduceEq, Int.reduceLT, Int.reduceLE, Int.reduceAdd, Int.reduceSub, Int.reduceMul, t_imp, f_imp, hk]
  refine ⟨by omega, ?_⟩
  have fin : WP Γ ρ 0 11 26 [vR (some k), vI kind, vI p, vR (some t), vR (some b)] [vI (rtF s ti kk h p kind)] G (wr M k 0 (z + trF kind)) Q := by
    refine blk bk_k_worth_26 ?_
    simp (disch := omega) only [vcb, step, ↓pI_c, ↓pL_c, ↓pR_c, ↓pA_c, isI_c, isL_c, isL_i, isL_r, isL_j, isA_c, inc_c, stO, fV, cZ, sw, List.getD_cons_zero, List.getD_cons_succ, List.set_cons_zero, List.set_cons_succ, List.take_succ_cons, List.take_zero, List.drop_succ_cons, List.drop_zero, List.reverse_cons, List.reverse_nil, List.nil_append, List.cons_append, List.append_nil, Option.toList_some, Option.toList_none, List.length_cons, List.length_nil, Nat.reduceAdd, Nat.reduceSub, Nat.reduceLeDiff, Nat.reduceEqDiff, Nat.add_eq, not_false_eq_true, not_true_eq_false, true_and, and_true, false_or, or_true, true_or, or_false, and_self, one_ne_zero_nat, w32_id, w32_n, Int.toNat_natCast, Int.reduceToNat, Nat.zero_add, Nat.zero_le, Nat.le_refl, Int.reduceEq, Int.reduceLT, Int.reduceLE, Int.reduceAdd, Int.reduceSub, Int.reduceMul, t_imp, f_imp]
    exact hQ
  rcases (show kind = 0 ∨ kind = 1 ∨ kind = 2 ∨ kind = 3 ∨ kind = 4 ∨ kind = 5 by omega) with rfl | rfl | rfl | rfl | rfl | rfl
  · exact s_ask0 hΓ hk hT hB hp hz h1 h2 h3 hkk h4 bs bt' bh (by omega) fin
  · exact s_ask1 hΓ hk hT hB hp hz h1 h2 h3 hkk h4 bs bt' bh (by omega) fin
  · exact s_ask2 hΓ hk hT hB hp hz h1 h2 h3 hkk h4 bs bt' bh (by omega) fin
  · exact s_ask3 hΓ hk hT hB hp hz h1 h2 h3 hkk h4 bs bt' bh (by omega) fin
  · exact s_ask4 hΓ hk hT hB hp hz h1 h2 h3 hkk h4 bs bt' bh (by omega) fin
  · exact s_ask5 hΓ hk hT hB hp hz h1 h2 h3 hkk h4 bs bt' bh (by omega) fin
end KINDS
