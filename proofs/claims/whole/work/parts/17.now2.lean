/-! ===== Now: become, begin, draw ===== -/
theorem cpy_in {f g : Nat → Int} {n j : Nat} (h : j < n) : va_cpy f g 0 0 n j = f j := by
  unfold va_cpy
  rw [if_pos ⟨Nat.zero_le _, by omega⟩]
  congr 1
  omega
def drawF (z p m : Nat) : Nat := (7919 * z + 6151 * p + 12289 * m + 1) * (7919 * z + 6151 * p + 12289 * m + 1) % 65521 / 8 % 10
section NOW2
variable {Γ : aR} {ρ κ : Nat} {G : aG} {M : aM} {Q : aQ}
theorem s_n_become {a b : Nat} (hρ : 1 ≤ ρ) (hA : NS G a) (hB : NS G b) (hab : a ≠ b) (ht : rfA G a 5 ≠ rfA G b 5)
    (hQ : ∀ M' : aM, (∀ k, k < 5 → M' a k = M b k) → (∀ p, p < 6 → M' (rfA G a 5) p = M (rfA G b 5) p) → (∀ c, c ≠ a → c ≠ rfA G a 5 → M' c = M c) → Q none G M') : WPm Γ ρ 0 20 [vR (some a), vR (some b)] G M Q := by
  have n1 : a ≠ rfA G a 5 := (ne_AO hA.2.2 hA.1).symm
  have n2 : b ≠ rfA G a 5 := (ne_AO hA.2.2 hB.1).symm
  have n3 : a ≠ rfA G b 5 := (ne_AO hB.2.2 hA.1).symm
  refine WPm_of (L := [vR (some a), vR (some b)]) 0 (by decide) (Nat.le_of_ble_eq_true rfl) rfl ?_
  refine blk bk_n_become_0 ?_
  simp (disch := omega) only [vcb, step, pI, pL, pR, pA, lI, lG, lA, stO, isL, fV, cZ, sw, List.getD_cons_zero, List.getD_cons_succ, List.set_cons_zero, List.set_cons_succ, List.take_succ_cons, List.take_zero, List.drop_succ_cons, List.drop_zero, List.reverse_cons, List.reverse_nil, List.nil_append, List.cons_append, List.append_nil, Option.toList_some, Option.toList_none, List.length_cons, List.length_nil, Nat.reduceAdd, Nat.reduceSub, Nat.reduceLeDiff, Nat.reduceEqDiff, Nat.add_eq, not_false_eq_true, not_true_eq_false, true_and, and_true, false_or, or_true, true_or, or_false, and_self, one_ne_zero_nat, w32_id, w32_n, Int.toNat_natCast, Int.reduceToNat, Nat.zero_add, Nat.zero_le, Nat.le_refl, Int.reduceEq, Int.reduceLT, Int.reduceLE, Int.reduceAdd, Int.reduceSub, Int.reduceMul, t_imp, f_imp, hA.1, hB.1, hA.2.1, hB.2.1, wr_c]
  refine ⟨hρ, ?_⟩
  done
  refine ⟨⟨6, 6, hB.2.2, hA.2.2, by decide, by decide, by decide, by decide, by decide⟩, ?_⟩
  refine hQ _ (fun k hk => ?_) (fun p hp => ?_) (fun c h1 h2 => ?_)
  · rw [va_up_ne _ _ n1]
    rcases (show k = 0 ∨ k = 1 ∨ k = 2 ∨ k = 3 ∨ k = 4 by omega) with rfl | rfl | rfl | rfl | rfl
    · rw [wr_o _ _ (by decide), wr_o _ _ (by decide), wr_o _ _ (by decide), wr_o _ _ (by decide), wr_s]
    · rw [wr_o _ _ (by decide), wr_o _ _ (by decide), wr_o _ _ (by decide), wr_s]
    · rw [wr_o _ _ (by decide), wr_o _ _ (by decide), wr_s]
    · rw [wr_o _ _ (by decide), wr_s]
    · rw [wr_s]
  · rw [va_up_self]
    show va_cpy _ _ 0 0 6 p = _
    rw [cpy_in hp]
  · rw [va_up_ne _ _ h2, wr_c _ _ _ h1, wr_c _ _ _ h1, wr_c _ _ _ h1, wr_c _ _ _ h1, wr_c _ _ _ h1]
theorem s_n_begin {a t : Nat} (hρ : 1 ≤ ρ) (hA : NS G a) (hT : TS G t) (ht : rfA G a 5 ≠ rfA G t 2)
    (hQ : ∀ M' : aM, (∀ k, k < 5 → M' a k = 0) → (∀ p, p < 6 → M' (rfA G a 5) p = M (rfA G t 2) p) → (∀ c, c ≠ a → c ≠ rfA G a 5 → M' c = M c) → Q none G M') : WPm Γ ρ 0 19 [vR (some a), vR (some t)] G M Q := by
  have n1 : a ≠ rfA G a 5 := (ne_AO hA.2.2 hA.1).symm
  have n3 : a ≠ rfA G t 2 := (ne_AO hT.2.2.1.2 hA.1).symm
  refine WPm_of (L := [vR (some a), vR (some t)]) 0 (by decide) (Nat.le_of_ble_eq_true rfl) rfl ?_
  refine blk bk_n_begin_0 ?_
  simp (disch := omega) only [vcb, step, pI, pL, pR, pA, lI, lG, lA, stO, isL, fV, cZ, sw, List.getD_cons_zero, List.getD_cons_succ, List.set_cons_zero, List.set_cons_succ, List.take_succ_cons, List.take_zero, List.drop_succ_cons, List.drop_zero, List.reverse_cons, List.reverse_nil, List.nil_append, List.cons_append, List.append_nil, Option.toList_some, Option.toList_none, List.length_cons, List.length_nil, Nat.reduceAdd, Nat.reduceSub, Nat.reduceLeDiff, Nat.reduceEqDiff, Nat.add_eq, not_false_eq_true, not_true_eq_false, true_and, and_true, false_or, or_true, true_or, or_false, and_self, one_ne_zero_nat, w32_id, w32_n, Int.toNat_natCast, Int.reduceToNat, Nat.zero_add, Nat.zero_le, Nat.le_refl, Int.reduceEq, Int.reduceLT, Int.reduceLE, Int.reduceAdd, Int.reduceSub, Int.reduceMul, t_imp, f_imp, hA.1, hT.1, hA.2.1, hT.2.2.1.1, wr_c]
  refine ⟨hρ, ⟨6, 6, hT.2.2.1.2, hA.2.2, by decide, by decide, by decide, by decide, by decide⟩, ?_⟩
  refine hQ _ (fun k hk => ?_) (fun p hp => ?_) (fun c h1 h2 => ?_)
  · rw [va_up_ne _ _ n1]
    rcases (show k = 0 ∨ k = 1 ∨ k = 2 ∨ k = 3 ∨ k = 4 by omega) with rfl | rfl | rfl | rfl | rfl
    · rw [wr_o _ _ (by decide), wr_o _ _ (by decide), wr_o _ _ (by decide), wr_o _ _ (by decide), wr_s]
    · rw [wr_o _ _ (by decide), wr_o _ _ (by decide), wr_o _ _ (by decide), wr_s]
    · rw [wr_o _ _ (by decide), wr_o _ _ (by decide), wr_s]
    · rw [wr_o _ _ (by decide), wr_s]
    · rw [wr_s]
  · rw [va_up_self]
    show va_cpy _ _ 0 0 6 p = _
    rw [cpy_in hp]
  · rw [va_up_ne _ _ h2, wr_c _ _ _ h1, wr_c _ _ _ h1, wr_c _ _ _ h1, wr_c _ _ _ h1, wr_c _ _ _ h1]
theorem s_n_draw {a z p m : Nat} (hA : isObj G a 4) (hm : M a 0 = (m : Int)) (hz : z < 10000) (hp : p < 100) (hm2 : m < 100) (hQ : Q (some (vI (drawF z p m : Nat))) G M) : WPm Γ ρ 0 27 [vR (some a), vI z, vI p] G M Q := by
  refine WPm_of (L := [vR (some a), vI z, vI p, vJ, vJ]) 2 (by decide) (Nat.le_of_ble_eq_true rfl) rfl ?_
  refine blk bk_n_draw_0 ?_
  simp (disch := omega) only [vcb, step, pI, pL, pR, pA, lI, lG, lA, stO, isL, fV, cZ, sw, List.getD_cons_zero, List.getD_cons_succ, List.set_cons_zero, List.set_cons_succ, List.take_succ_cons, List.take_zero, List.drop_succ_cons, List.drop_zero, List.reverse_cons, List.reverse_nil, List.nil_append, List.cons_append, List.append_nil, Option.toList_some, Option.toList_none, List.length_cons, List.length_nil, Nat.reduceAdd, Nat.reduceSub, Nat.reduceLeDiff, Nat.reduceEqDiff, Nat.add_eq, not_false_eq_true, not_true_eq_false, true_and, and_true, false_or, or_true, true_or, or_false, and_self, one_ne_zero_nat, w32_id, w32_n, Int.toNat_natCast, Int.reduceToNat, Nat.zero_add, Nat.zero_le, Nat.le_refl, Int.reduceEq, Int.reduceLT, Int.reduceLE, Int.reduceAdd, Int.reduceSub, Int.reduceMul, t_imp, f_imp, hA, hm]
  have hq : 7919 * z + 6151 * p + 12289 * m + 1 < 100000000 := by omega
  have e : (7919 * (z : Int) + 6151 * (p : Int) + 12289 * (m : Int) + 1) = ((7919 * z + 6151 * p + 12289 * m + 1 : Nat) : Int) := by omega
  rw [e]
  unfold drawF at hQ
  generalize 7919 * z + 6151 * p + 12289 * m + 1 = q at hq hQ
  have hqq : q * q < 100000000 * 100000000 := Nat.mul_lt_mul'' hq hq
  have e2 : w64 ((q : Int) * (q : Int)) = ((q * q : Nat) : Int) := by
    rw [← Int.natCast_mul]
    generalize q * q = u at hqq
    exact w64_id (by omega) (by omega)
  have c1 : w64 65521 = ((65521 : Nat) : Int) := w64_id (by decide) (by decide)
  have c2 : w64 8 = ((8 : Nat) : Int) := w64_id (by decide) (by decide)
  have c3 : w64 10 = ((10 : Nat) : Int) := w64_id (by decide) (by decide)
  rw [e2, c1, tMn, c2]
  generalize q * q = u at hQ
  have c4 : w64 ((u % 65521 : Nat) : Int) = ((u % 65521 : Nat) : Int) := w64_id (by omega) (by omega)
  rw [c4, tDn, c3]
  have c5 : w64 ((u % 65521 / 8 : Nat) : Int) = ((u % 65521 / 8 : Nat) : Int) := w64_id (by omega) (by omega)
  rw [c5, tMn]
  exact ⟨by decide, by decide, by decide, hQ⟩
end NOW2
