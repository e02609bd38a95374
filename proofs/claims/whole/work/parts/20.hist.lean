/-! ===== bitCount; History ===== -/
def pop (x : Nat) : Nat := bt x 0 + bt x 1 + bt x 2 + bt x 3 + bt x 4 + bt x 5 + bt x 6 + bt x 7 + bt x 8 + bt x 9
theorem pop_le (x : Nat) : pop x ≤ 10 := by
  unfold pop bt
  omega
def HS (G : aG) (h : Nat) : Prop := isObj G h 1 ∧ (gR G h 0 = some (rfA G h 0) ∧ isArr G (rfA G h 0) 4 10) ∧ ∀ j, j < 10 → gR G (rfA G h 0) j = some (rfA G (rfA G h 0) j) ∧ NS G (rfA G (rfA G h 0) j)
section HIST
variable {Γ : aR} {ρ κ : Nat} {G : aG} {M : aM} {Q : aQ}
theorem s_h_remember {h b nx sz : Nat} (hρ : 2 ≤ ρ) (hH : HS G h) (hB : NS G b) (hnx : M h 1 = (nx : Int)) (hnx2 : nx < 10) (hsz : M h 2 = (sz : Int)) (hsz2 : sz ≤ 10) (hab : rfA G (rfA G h 0) nx ≠ b) (ht : rfA G (rfA G (rfA G h 0) nx) 5 ≠ rfA G b 5)
    (hQ : ∀ M' : aM, (∀ k, k < 5 → M' (rfA G (rfA G h 0) nx) k = M b k) → (∀ p, p < 6 → M' (rfA G (rfA G (rfA G h 0) nx) 5) p = M (rfA G b 5) p) → M' h 1 = (((nx + 1) % 10 : Nat) : Int) → M' h 2 = ((if sz < 10 then sz + 1 else 10 : Nat) : Int) → (∀ c, c ≠ h → c ≠ rfA G (rfA G h 0) nx → c ≠ rfA G (rfA G (rfA G h 0) nx) 5 → M' c = M c) → Q none G M') : WPm Γ ρ 0 7 [vR (some h), vR (some b)] G M Q := by
  obtain ⟨e1, e2⟩ := hH.2.2 nx hnx2
  have i1 : inA G (rfA G h 0) 4 (nx : Int) := in_of hH.2.1.2 (by omega) (by omega) (by decide)
  have n1 : h ≠ rfA G (rfA G h 0) nx := ne_OO hH.1 e2.1 (by decide)
  have n2 : h ≠ rfA G (rfA G (rfA G h 0) nx) 5 := (ne_AO e2.2.2 hH.1).symm
  refine WPm_of (L := [vR (some h), vR (some b)]) 0 (by decide) (Nat.le_of_ble_eq_true rfl) rfl ?_
  refine blk bk_h_remember_0 ?_
  simp (disch := omega) only [vcb, step, ↓pI_c, ↓pL_c, ↓pR_c, ↓pA_c, isI_c, isL_c, isL_i, isL_r, isL_j, isA_c, inc_c, stO, fV, cZ, sw, List.getD_cons_zero, List.getD_cons_succ, List.set_cons_zero, List.set_cons_succ, List.take_succ_cons, List.take_zero, List.drop_succ_cons, List.drop_zero, List.reverse_cons, List.reverse_nil, List.nil_append, List.cons_append, List.append_nil, Option.toList_some, Option.toList_none, List.length_cons, List.length_nil, Nat.reduceAdd, Nat.reduceSub, Nat.reduceLeDiff, Nat.reduceEqDiff, Nat.add_eq, not_false_eq_true, not_true_eq_false, true_and, and_true, false_or, or_true, true_or, or_false, and_self, one_ne_zero_nat, w32_id, w32_n, Int.toNat_natCast, Int.reduceToNat, Nat.zero_add, Nat.zero_le, Nat.le_refl, Int.reduceEq, Int.reduceLT, Int.reduceLE, Int.reduceAdd, Int.reduceSub, Int.reduceMul, t_imp, f_imp, hH.1, hH.2.1.1, hnx, i1, e1, e2.1]
  refine ⟨by omega, s_n_become (by omega) e2 hB hab ht (fun M' q1 q2 q3 => ?_)⟩
  have f1 : M' h 1 = (nx : Int) := by rw [q3 h n1 n2]; exact hnx
  have f2 : M' h 2 = (sz : Int) := by rw [q3 h n1 n2]; exact hsz
  have em : tM ((nx : Int) + 1) 10 = (((nx + 1) % 10 : Nat) : Int) := by
    have := tMn (a := nx + 1) (b := 10)
    rw [Int.natCast_add] at this
    exact this
  refine blk bk_h_remember_13 ?_
  simp (disch := omega) only [vcb, step, ↓pI_c, ↓pL_c, ↓pR_c, ↓pA_c, isI_c, isL_c, isL_i, isL_r, isL_j, isA_c, inc_c, stO, fV, cZ, sw, List.getD_cons_zero, List.getD_cons_succ, List.set_cons_zero, List.set_cons_succ, List.take_succ_cons, List.take_zero, List.drop_succ_cons, List.drop_zero, List.reverse_cons, List.reverse_nil, List.nil_append, List.cons_append, List.append_nil, Option.toList_some, Option.toList_none, List.length_cons, List.length_nil, Nat.reduceAdd, Nat.reduceSub, Nat.reduceLeDiff, Nat.reduceEqDiff, Nat.add_eq, not_false_eq_true, not_true_eq_false, true_and, and_true, false_or, or_true, true_or, or_false, and_self, one_ne_zero_nat, w32_id, w32_n, Int.toNat_natCast, Int.reduceToNat, Nat.zero_add, Nat.zero_le, Nat.le_refl, Int.reduceEq, Int.reduceLT, Int.reduceLE, Int.reduceAdd, Int.reduceSub, Int.reduceMul, t_imp, f_imp, hH.1, f1, f2, wr_o, em]
  refine ⟨by omega, s_j_min (by omega) (by omega) (by omega) (by omega) ?_⟩
  refine blk bk_h_remember_38 ?_
  simp (disch := omega) only [vcb, step, ↓pI_c, ↓pL_c, ↓pR_c, ↓pA_c, isI_c, isL_c, isL_i, isL_r, isL_j, isA_c, inc_c, stO, fV, cZ, sw, List.getD_cons_zero, List.getD_cons_succ, List.set_cons_zero, List.set_cons_succ, List.take_succ_cons, List.take_zero, List.drop_succ_cons, List.drop_zero, List.reverse_cons, List.reverse_nil, List.nil_append, List.cons_append, List.append_nil, Option.toList_some, Option.toList_none, List.length_cons, List.length_nil, Nat.reduceAdd, Nat.reduceSub, Nat.reduceLeDiff, Nat.reduceEqDiff, Nat.add_eq, not_false_eq_true, not_true_eq_false, true_and, and_true, false_or, or_true, true_or, or_false, and_self, one_ne_zero_nat, w32_id, w32_n, Int.toNat_natCast, Int.reduceToNat, Nat.zero_add, Nat.zero_le, Nat.le_refl, Int.reduceEq, Int.reduceLT, Int.reduceLE, Int.reduceAdd, Int.reduceSub, Int.reduceMul, t_imp, f_imp, hH.1]
  refine hQ _ (fun k hk => ?_) (fun p hp => ?_) ?_ ?_ (fun c h1 h2 h3 => ?_)
  · rw [wr_c _ _ _ n1.symm, wr_c _ _ _ n1.symm]
    exact q1 k hk
  · rw [wr_c _ _ _ n2.symm, wr_c _ _ _ n2.symm]
    exact q2 p hp
  · rw [wr_o _ _ (by decide), wr_s]
  · rw [wr_s]
    split <;> split <;> omega
  · rw [wr_c _ _ _ h1, wr_c _ _ _ h1]
    exact q3 c h2 h3
theorem s_h_takeBack {h b nx sz : Nat} (hρ : 2 ≤ ρ) (hH : HS G h) (hB : NS G b) (hnx : M h 1 = (nx : Int)) (hnx2 : nx < 10) (hsz : M h 2 = (sz : Int)) (hsz1 : 1 ≤ sz) (hsz2 : sz ≤ 10) (hab : b ≠ rfA G (rfA G h 0) ((nx + 9) % 10)) (ht : rfA G b 5 ≠ rfA G (rfA G (rfA G h 0) ((nx + 9) % 10)) 5)
    (hQ : ∀ M' : aM, (∀ k, k < 5 → M' b k = M (rfA G (rfA G h 0) ((nx + 9) % 10)) k) → (∀ p, p < 6 → M' (rfA G b 5) p = M (rfA G (rfA G (rfA G h 0) ((nx + 9) % 10)) 5) p) → M' h 1 = (((nx + 9) % 10 : Nat) : Int) → M' h 2 = ((sz - 1 : Nat) : Int) → (∀ c, c ≠ h → c ≠ b → c ≠ rfA G b 5 → M' c = M c) → Q none G M') : WPm Γ ρ 0 8 [vR (some h), vR (some b)] G M Q := by
  have hlt : (nx + 9) % 10 < 10 := Nat.mod_lt _ (by decide)
  obtain ⟨e1, e2⟩ := hH.2.2 _ hlt
  have em : tM ((nx : Int) + 10 - 1) 10 = (((nx + 9) % 10 : Nat) : Int) := by
    have := tMn (a := nx + 9) (b := 10)
    rw [show ((nx : Int) + 10 - 1) = ((nx + 9 : Nat) : Int) by omega]
    exact this
  have ew : w32 ((nx : Int) + 10 - 1) = (nx : Int) + 10 - 1 := w32_id (by omega) (by omega)
  generalize (nx + 9) % 10 = y at *
  have i1 : inA G (rfA G h 0) 4 (y : Int) := in_of hH.2.1.2 (by omega) (by omega) (by decide)
  have n1 : h ≠ b := ne_OO hH.1 hB.1 (by decide)
  have n2 : h ≠ rfA G b 5 := (ne_AO hB.2.2 hH.1).symm
  have n3 : rfA G (rfA G h 0) y ≠ h := ne_OO e2.1 hH.1 (by decide)
  have n4 : rfA G (rfA G (rfA G h 0) y) 5 ≠ h := ne_AO e2.2.2 hH.1
  refine WPm_of (L := [vR (some h), vR (some b)]) 0 (by decide) (Nat.le_of_ble_eq_true rfl) rfl ?_
  refine blk bk_h_takeBack_0 ?_
  simp (disch := omega) only [vcb, step, ↓pI_c, ↓pL_c, ↓pR_c, ↓pA_c, isI_c, isL_c, isL_i, isL_r, isL_j, isA_c, inc_c, stO, fV, cZ, sw, List.getD_cons_zero, List.getD_cons_succ, List.set_cons_zero, List.set_cons_succ, List.take_succ_cons, List.take_zero, List.drop_succ_cons, List.drop_zero, List.reverse_cons, List.reverse_nil, List.nil_append, List.cons_append, List.append_nil, Option.toList_some, Option.toList_none, List.length_cons, List.length_nil, Nat.reduceAdd, Nat.reduceSub, Nat.reduceLeDiff, Nat.reduceEqDiff, Nat.add_eq, not_false_eq_true, not_true_eq_false, true_and, and_true, false_or, or_true, true_or, or_false, and_self, one_ne_zero_nat, w32_id, w32_n, Int.toNat_natCast, Int.reduceToNat, Nat.zero_add, Nat.zero_le, Nat.le_refl, Int.reduceEq, Int.reduceLT, Int.reduceLE, Int.reduceAdd, Int.reduceSub, Int.reduceMul, t_imp, f_imp, hH.1, hH.2.1.1, hnx, ew, em, wr_s, i1, e1, hB.1]
  refine ⟨by omega, s_n_become (by omega) hB e2 hab ht (fun M' q1 q2 q3 => ?_)⟩
  have f2 : M' h 2 = (sz : Int) := by rw [q3 h n1 n2, wr_o _ _ (by decide)]; exact hsz
  refine blk bk_h_takeBack_29 ?_
  simp (disch := omega) only [vcb, step, ↓pI_c, ↓pL_c, ↓pR_c, ↓pA_c, isI_c, isL_c, isL_i, isL_r, isL_j, isA_c, inc_c, stO, fV, cZ, sw, List.getD_cons_zero, List.getD_cons_succ, List.set_cons_zero, List.set_cons_succ, List.take_succ_cons, List.take_zero, List.drop_succ_cons, List.drop_zero, List.reverse_cons, List.reverse_nil, List.nil_append, List.cons_append, List.append_nil, Option.toList_some, Option.toList_none, List.length_cons, List.length_nil, Nat.reduceAdd, Nat.reduceSub, Nat.reduceLeDiff, Nat.reduceEqDiff, Nat.add_eq, not_false_eq_true, not_true_eq_false, true_and, and_true, false_or, or_true, true_or, or_false, and_self, one_ne_zero_nat, w32_id, w32_n, Int.toNat_natCast, Int.reduceToNat, Nat.zero_add, Nat.zero_le, Nat.le_refl, Int.reduceEq, Int.reduceLT, Int.reduceLE, Int.reduceAdd, Int.reduceSub, Int.reduceMul, t_imp, f_imp, hH.1, f2]
  refine hQ _ (fun k hk => ?_) (fun p hp => ?_) ?_ ?_ (fun c h1 h2 h3 => ?_)
  · rw [wr_c _ _ _ n1.symm, q1 k hk, wr_c _ _ _ n3]
  · rw [wr_c _ _ _ n2.symm, q2 p hp, wr_c _ _ _ n4]
  · rw [wr_o _ _ (by decide), q3 h n1 n2, wr_s]
  · rw [wr_s]
    omega
  · rw [wr_c _ _ _ h1, q3 c h2 h3, wr_c _ _ _ h1]
theorem s_h_forgetAll {h : Nat} (hH : isObj G h 1) (hQ : Q none G (wr M h 2 0)) : WPm Γ ρ 0 9 [vR (some h)] G M Q := by
  refine WPm_of (L := [vR (some h)]) 0 (by decide) (Nat.le_of_ble_eq_true rfl) rfl ?_
  refine blk bk_h_forgetAll_0 ?_
  simp (disch := omega) only [vcb, step, ↓pI_c, ↓pL_c, ↓pR_c, ↓pA_c, isI_c, isL_c, isL_i, isL_r, isL_j, isA_c, inc_c, stO, fV, cZ, sw, List.getD_cons_zero, List.getD_cons_succ, List.set_cons_zero, List.set_cons_succ, List.take_succ_cons, List.take_zero, List.drop_succ_cons, List.drop_zero, List.reverse_cons, List.reverse_nil, List.nil_append, List.cons_append, List.append_nil, Option.toList_some, Option.toList_none, List.length_cons, List.length_nil, Nat.reduceAdd, Nat.reduceSub, Nat.reduceLeDiff, Nat.reduceEqDiff, Nat.add_eq, not_false_eq_true, not_true_eq_false, true_and, and_true, false_or, or_true, true_or, or_false, and_self, one_ne_zero_nat, w32_id, w32_n, Int.toNat_natCast, Int.reduceToNat, Nat.zero_add, Nat.zero_le, Nat.le_refl, Int.reduceEq, Int.reduceLT, Int.reduceLE, Int.reduceAdd, Int.reduceSub, Int.reduceMul, t_imp, f_imp, hH]
  exact hQ
end HIST
