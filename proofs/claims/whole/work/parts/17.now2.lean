/-! ===== Now: become, begin, draw ===== -/
theorem cpy_in {f g : Nat → Int} {n j : Nat} (h : j < n) : va_cpy f g 0 0 n j = f j := by
  unfold va_cpy
  rw [if_pos ⟨Nat.zero_le _, by omega⟩]
  congr 1
  omega
def drawF (z p m : Nat) : Nat := (7919 * z + 6151 * p + 12289 * m + 1) * (7919 * z + 6151 * p + 12289 * m + 1) % 65521 / 8 % 10
section NOW2
variable {Γ : aR} {ρ κ : Nat} {G : aG} {M : aM} {Q : aQ}
theorem s_n_become {a b : Nat} (hρ : 1 ≤ ρ) (hA : NS G a) (hB : NS G b) (hab : a ≠ b) (ht : rfA G a 5 ≠ rfA G b 5)
    (hQ : ∀ M' : aM, (∀ k, k < 5 → M' a k = M b k) → (∀ p, p < 6 → M' (rfA G a 5) p = M (rfA G b 5) p) → (∀ c, c ≠ a → c ≠ rfA G a 5 → M' c = M c) → Q none G M') : WPm Γ ρ 0 20 [vR (some a), vR (some b)] G M Q := by
  have n1 : a ≠ rfA G a 5 := (ne_AO hA.2.2 hA.1).symm
  have n2 : b ≠ rfA G a 5 := (ne_AO hA.2.2 hB.1).symm
  have n3 : a ≠ rfA G b 5 := (ne_AO hB.2.2 hA.1).symm
  refine WPm_of (L := [vR (some a), vR (some b)]) 0 (by decide) (Nat.le_of_ble_eq_true rfl) rfl ?_
  refine blk bk_n_become_0 ?_
  simp (disch := omega) only [vcb, step, ↓pI_c, ↓pL_c, ↓pR_c, ↓pA_c, isI_c, isL_c, isL_i, isL_r, isL_j, isA_c, inc_c, stO, fV, cZ, sw, List.getD_cons_zero, List.getD_cons_succ, List.set_cons_zero, List.set_cons_succ, List.take_succ_cons, List.take_zero, List.drop_succ_cons, List.drop_zero, List.reverse_cons, List.reverse_nil, List.nil_append, List.cons_append, List.append_nil, Option.toList_some, Option.toList_none, List.length_cons, List.length_nil, Nat.reduceAdd, Nat.reduceSub, Nat.reduceLeDiff, Nat.reduceEqDiff, Nat.add_eq, not_false_eq_true, not_true_eq_false, true_and, and_true, false_or, or_true, true_or, or_false, and_self, one_ne_zero_nat, w32_id, w32_n, Int.toNat_natCast, Int.reduceToNat, Nat.zero_add, Nat.zero_le, Nat.le_refl, Int.reduceEq, Int.reduceLT, Int.reduceLE, Int.reduceAdd, Int.reduceSub, Int.reduceMul, t_imp, f_imp, hA.1, hB.1, hA.2.1, hB.2.1, wr_c]
  refine ⟨hρ, ⟨6, 6, hB.2.2, hA.2.2, by decide, by decide⟩, ?_⟩
  refine hQ _ (fun k hk => ?_) (fun p hp => ?_) (fun c h1 h2 => ?_)
  · rw [va_up_ne _ _ n1]
    rcases (show k = 0 ∨ k = 1 ∨ k = 2 ∨ k = 3 ∨ k = 4 by omega) with rfl | rfl | rfl | rfl | rfl
    · rw [wr_o _ _ (by decide), wr_o _ _ (by decide), wr_o _ _ (by decide), wr_o _ _ (by decide), wr_s]
    · rw [wr_o _ _ (by decide), wr_o _ _ (by decide), wr_o _ _ (by decide), wr_s]
    · rw [wr_o _ _ (by decide), wr_o _ _ (by decide), wr_s]
    · rw [wr_o _ _ (by decide), wr_s]
    · rw [wr_s]
  · rw [va_up_self]
    show va_cpy _ _ 0 0 6 p = _
    rw [cpy_in hp]
  · rw [va_up_ne _ _ h2, wr_c _ _ _ h1, wr_c _ _ _ h1, wr_c _ _ _ h1, wr_c _ _ _ h1, wr_c _ _ _ h1]
theorem s_n_begin {a t : Nat} (hρ : 1 ≤ ρ) (hA : NS G a) (hT : TS G t) (ht : rfA G a 5 ≠ rfA G t 2)
    (hQ : ∀ M' : aM, (∀ k, k < 5 → M' a k = 0) → (∀ p, p < 6 → M' (rfA G a 5) p = M (rfA G t 2) p) → (∀ c, c ≠ a → c ≠ rfA G a 5 → M' c = M c) → Q none G M') : WPm Γ ρ 0 19 [vR (some a), vR (some t)] G M Q := by
  have n1 : a ≠ rfA G a 5 := (ne_AO hA.2.2 hA.1).symm
  have n3 : a ≠ rfA G t 2 := (ne_AO hT.2.2.1.2 hA.1).symm
  refine WPm_of (L := [vR (some a), vR (some t)]) 0 (by decide) (Nat.le_of_ble_eq_true rfl) rfl ?_
  refine blk bk_n_begin_0 ?_
  simp (disch := omega) only [vcb, step, ↓pI_c, ↓pL_c, ↓pR_c, ↓pA_c, isI_c, isL_c, isL_i, isL_r, isL_j, isA_c, inc_c, stO, fV, cZ, sw, List.getD_cons_zero, List.getD_cons_succ, List.set_cons_zero, List.set_cons_succ, List.take_succ_cons, List.take_zero, List.drop_succ_cons, List.drop_zero, List.reverse_cons, List.reverse_nil, List.nil_append, List.cons_append, List.append_nil, Option.toList_some, Option.toList_none, List.length_cons, List.length_nil, Nat.reduceAdd, Nat.reduceSub, Nat.reduceLeDiff, Nat.reduceEqDiff, Nat.add_eq, not_false_eq_true, not_true_eq_false, true_and, and_true, false_or, or_true, true_or, or_false, and_self, one_ne_zero_nat, w32_id, w32_n, Int.toNat_natCast, Int.reduceToNat, Nat.zero_add, Nat.zero_le, Nat.le_refl, Int.reduceEq, Int.reduceLT, Int.reduceLE, Int.reduceAdd, Int.reduceSub, Int.reduceMul, t_imp, f_imp, hA.1, hT.1, hA.2.1, hT.2.2.1.1, wr_c]
  refine ⟨hρ, ⟨6, 6, hT.2.2.1.2, hA.2.2, by decide, by decide⟩, ?_⟩
  refine hQ _ (fun k hk => ?_) (fun p hp => ?_) (fun c h1 h2 => ?_)
  · rw [va_up_ne _ _ n1]
    rcases (show k = 0 ∨ k = 1 ∨ k = 2 ∨ k = 3 ∨ k = 4 by omega) with rfl | rfl | rfl | rfl | rfl
    · rw [wr_o _ _ (by decide), wr_o _ _ (by decide), wr_o _ _ (by decide), wr_o _ _ (by decide), wr_s]
    · rw [wr_o _ _ (by decide), wr_o _ _ (by decide), wr_o _ _ (by decide), wr_s]
    · rw [wr_o _ _ (by decide), wr_o _ _ (by decide), wr_s]
    · rw [wr_o _ _ (by decide), wr_s]
    · rw [wr_s]
  · rw [va_up_self]
    show va_cpy _ _ 0 0 6 p = _
    rw [cpy_in hp]
  · rw [va_up_ne _ _ h2, wr_c _ _ _ h1, wr_c _ _ _ h1, wr_c _ _ _ h1, wr_c _ _ _ h1, wr_c _ _ _ h1]
end NOW2
