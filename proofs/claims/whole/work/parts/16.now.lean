/-! ===== Now: what is done to it ===== -/
theorem wr_s (M : aM) (a k : Nat) (x : Int) : wr M a k x a k = x := by rw [wr_self, va_up_self]
theorem wr_o (M : aM) {a k j : Nat} (x : Int) (h : j ≠ k) : wr M a k x a j = M a j := by rw [wr_self, va_up_ne _ _ h]
theorem wr_c (M : aM) {a b : Nat} (k : Nat) (x : Int) (h : b ≠ a) : wr M a k x b = M b := wr_ne M k x h
theorem wr_wr (M : aM) (a k : Nat) (x y : Int) : wr (wr M a k x) a k y = wr M a k y := by
  funext b j
  by_cases hb : b = a
  · subst hb
    by_cases hj : j = k
    · subst hj
      rw [wr_s, wr_s]
    · rw [wr_o _ _ hj, wr_o _ _ hj, wr_o _ _ hj]
  · rw [wr_c _ _ _ hb, wr_c _ _ _ hb, wr_c _ _ _ hb]
theorem wr_id {M : aM} {a k : Nat} {x : Int} (h : M a k = x) : wr M a k x = M := by
  funext b j
  by_cases hb : b = a
  · subst hb
    by_cases hj : j = k
    · subst hj
      rw [wr_s, h]
    · rw [wr_o _ _ hj]
  · rw [wr_c _ _ _ hb]
theorem ne_AO {G : aG} {x y kd n c : Nat} (h1 : isArr G x kd n) (h2 : isObj G y c) : x ≠ y := by
  intro h
  subst h
  rw [isArr, isObj] at *
  rw [h2.2] at h1
  cases h1.2
theorem ne_AA {G : aG} {x y k1 n1 k2 n2 : Nat} (h1 : isArr G x k1 n1) (h2 : isArr G y k2 n2) (h : ¬ (k1 = k2 ∧ n1 = n2)) : x ≠ y := by
  intro e
  subst e
  have := h1.2.symm.trans h2.2
  cases this
  exact h ⟨rfl, rfl⟩
theorem ne_OO {G : aG} {x y c1 c2 : Nat} (h1 : isObj G x c1) (h2 : isObj G y c2) (h : c1 ≠ c2) : x ≠ y := by
  intro e
  subst e
  have := h1.2.symm.trans h2.2
  cases this
  exact h rfl
/-- an act of a month to come, of name p: how tired it is, the harm -/
def lvStep (td : TD) (met p mo aw a : Nat) (s : Nat × Nat) : Nat × Nat := if tdP td a = p ∧ tdM td a = mo ∧ bt met a = 0 then (if aw = 0 ∧ s.1 + tdT td a ≤ tdS td p then (s.1 + tdT td a, s.2) else (s.1, s.2 + tdH td a)) else s
def lvF (td : TD) (met p mo aw : Nat) : Nat → Nat → Nat × Nat → Nat × Nat
  | _, 0, s => s
  | i, k + 1, s => lvF td met p mo aw (i + 1) k (lvStep td met p mo aw i s)
theorem lvStep_le {td : TD} {met p mo aw a : Nat} {s : Nat × Nat} (hok : TDok td) (hp : p < tdN td) (ha : a < tdA td) (h1 : s.1 ≤ tdS td p) : (lvStep td met p mo aw a s).1 ≤ tdS td p ∧ (lvStep td met p mo aw a s).2 ≤ s.2 + 9 := by
  have hA := hok.2.2.2.2.2.2.2.2 a ha
  unfold lvStep
  split
  · split
    · exact ⟨by omega, by omega⟩
    · exact ⟨by omega, by omega⟩
  · exact ⟨h1, by omega⟩
theorem lvF_le {td : TD} {met p mo aw : Nat} (hok : TDok td) (hp : p < tdN td) : ∀ (k i : Nat) (s : Nat × Nat), i + k = tdA td → s.1 ≤ tdS td p → (lvF td met p mo aw i k s).1 ≤ tdS td p ∧ (lvF td met p mo aw i k s).2 ≤ s.2 + 9 * k := by
  intro k
  induction k with
  | zero => exact fun i s _ h => ⟨h, by show s.2 ≤ _; omega⟩
  | succ k ih =>
    intro i s hi h
    have h1 := lvStep_le (met := met) (mo := mo) (aw := aw) hok hp (show i < tdA td by omega) h
    have h2 := ih (i + 1) _ (by omega) h1.1
    exact ⟨h2.1, by show (lvF td met p mo aw (i + 1) k _).2 ≤ _; omega⟩
section NOW
variable {Γ : aR} {ρ κ : Nat} {G : aG} {M : aM} {Q : aQ}
theorem live_loop {a t p mo gr aw met : Nat} {td : TD} (hρ : 1 ≤ ρ) (hN : NS G a) (hT : TS G t) (hok : TDok td) (hR : RT G M t td) (hp : p < tdN td) (hd : rfA G a 5 ≠ rfA G t 1) (hmo : mo < 100) (hm : M a 3 = (met : Int)) (hm2 : met < 2147483648) (haw : aw ≤ 1) :
    ∀ (k i x dn : Nat), i + k = tdA td → x ≤ tdS td p → dn ≤ 9 * i →
      WP Γ ρ 0 28 119 [vR (some a), vR (some t), vI p, vI mo, vI gr, vI aw, vI ((lvF td met p mo aw i k (x, dn)).2 : Nat), vI (tdA td : Nat)] [] G (wr M (rfA G a 5) p ((lvF td met p mo aw i k (x, dn)).1 : Nat)) Q →
      WP Γ ρ 0 28 26 [vR (some a), vR (some t), vI p, vI mo, vI gr, vI aw, vI dn, vI i] [] G (wr M (rfA G a 5) p x) Q := by
  obtain ⟨o1, o2, o3, o4, o5, o6, o7, o8, o9⟩ := id hok
  obtain ⟨r1, r2, r3, r4, r5, r6, r7⟩ := id hR
  have n1 : t ≠ rfA G a 5 := (ne_AO hN.2.2 hT.1).symm
  have n2 : a ≠ rfA G a 5 := (ne_AO hN.2.2 hN.1).symm
  have n5 : rfA G t 5 ≠ rfA G a 5 := ne_AA hT.2.2.2.2.1.2 hN.2.2 (by omega)
  have n6 : rfA G t 6 ≠ rfA G a 5 := ne_AA hT.2.2.2.2.2.1.2 hN.2.2 (by omega)
  have n7 : rfA G t 7 ≠ rfA G a 5 := ne_AA hT.2.2.2.2.2.2.1.2 hN.2.2 (by omega)
  have n8 : rfA G t 8 ≠ rfA G a 5 := ne_AA hT.2.2.2.2.2.2.2.2 hN.2.2 (by omega)
  have n9 : rfA G t 1 ≠ rfA G a 5 := hd.symm
  have hs := o8 p hp
  have ip : inA G (rfA G a 5) 0 (p : Int) := in_of hN.2.2 (by omega) (by omega) (by decide)
  intro k
  induction k with
  | zero =>
    intro i x dn hi hx hdn h
    obtain rfl : i = tdA td := by omega
    refine blk bk_n_live_26 ?_
    simp (disch := omega) only [vcb, step, ↓pI_c, ↓pL_c, ↓pR_c, ↓pA_c, isI_c, isL_c, isL_i, isL_r, isL_j, isA_c, inc_c, stO, fV, cZ, sw, List.getD_cons_zero, List.getD_cons_succ, List.set_cons_zero, List.set_cons_succ, List.take_succ_cons, List.take_zero, List.drop_succ_cons, List.drop_zero, List.reverse_cons, List.reverse_nil, List.nil_append, List.cons_append, List.append_nil, Option.toList_some, Option.toList_none, List.length_cons, List.length_nil, Nat.reduceAdd, Nat.reduceSub, Nat.reduceLeDiff, Nat.reduceEqDiff, Nat.add_eq, not_false_eq_true, not_true_eq_false, true_and, and_true, false_or, or_true, true_or, or_false, and_self, one_ne_zero_nat, w32_id, w32_n, Int.toNat_natCast, Int.reduceToNat, Nat.zero_add, Nat.zero_le, Nat.le_refl, Int.reduceEq, Int.reduceLT, Int.reduceLE, Int.reduceAdd, Int.reduceSub, Int.reduceMul, t_imp, f_imp, hT.1, wr_c, r2]
    exact ⟨fun _ => h, fun h9 => absurd (Int.le_refl _) h9⟩
  | succ k ih =>
    intro i x dn hi hx hdn h
    have hia : i < tdA td := by omega
    obtain ⟨q1, q2, q3, q4⟩ := r7 i hia
    have hA := o9 i hia
    have i5 : inA G (rfA G t 5) 0 (i : Int) := in_of hT.2.2.2.2.1.2 (by omega) (by omega) (by decide)
    have i6 : inA G (rfA G t 6) 0 (i : Int) := in_of hT.2.2.2.2.2.1.2 (by omega) (by omega) (by decide)
    have i7 : inA G (rfA G t 7) 0 (i : Int) := in_of hT.2.2.2.2.2.2.1.2 (by omega) (by omega) (by decide)
    have i8 : inA G (rfA G t 8) 0 (i : Int) := in_of hT.2.2.2.2.2.2.2.2 (by omega) (by omega) (by decide)
    have next : ∀ (x' dn' : Nat), (x', dn') = lvStep td met p mo aw i (x, dn) → WP Γ ρ 0 28 113 [vR (some a), vR (some t), vI p, vI mo, vI gr, vI aw, vI dn', vI i] [] G (wr M (rfA G a 5) p x') Q := by
      intro x' dn' he
      have hl := lvStep_le (met := met) (mo := mo) (aw := aw) (s := (x, dn)) hok hp hia hx
      rw [← he] at hl
      refine blk bk_n_live_113 ?_
      simp (disch := omega) only [vcb, step, ↓pI_c, ↓pL_c, ↓pR_c, ↓pA_c, isI_c, isL_c, isL_i, isL_r, isL_j, isA_c, inc_c, stO, fV, cZ, sw, List.getD_cons_zero, List.getD_cons_succ, List.set_cons_zero, List.set_cons_succ, List.take_succ_cons, List.take_zero, List.drop_succ_cons, List.drop_zero, List.reverse_cons, List.reverse_nil, List.nil_append, List.cons_append, List.append_nil, Option.toList_some, Option.toList_none, List.length_cons, List.length_nil, Nat.reduceAdd, Nat.reduceSub, Nat.reduceLeDiff, Nat.reduceEqDiff, Nat.add_eq, not_false_eq_true, not_true_eq_false, true_and, and_true, false_or, or_true, true_or, or_false, and_self, one_ne_zero_nat, w32_id, w32_n, Int.toNat_natCast, Int.reduceToNat, Nat.zero_add, Nat.zero_le, Nat.le_refl, Int.reduceEq, Int.reduceLT, Int.reduceLE, Int.reduceAdd, Int.reduceSub, Int.reduceMul, t_imp, f_imp]
      refine ih (i + 1) x' dn' (by omega) hl.1 (by have := hl.2; dsimp only at this; omega) ?_
      rw [he]
      exact h
    refine blk bk_n_live_26 ?_
    simp (disch := omega) only [vcb, step, ↓pI_c, ↓pL_c, ↓pR_c, ↓pA_c, isI_c, isL_c, isL_i, isL_r, isL_j, isA_c, inc_c, stO, fV, cZ, sw, List.getD_cons_zero, List.getD_cons_succ, List.set_cons_zero, List.set_cons_succ, List.take_succ_cons, List.take_zero, List.drop_succ_cons, List.drop_zero, List.reverse_cons, List.reverse_nil, List.nil_append, List.cons_append, List.append_nil, Option.toList_some, Option.toList_none, List.length_cons, List.length_nil, Nat.reduceAdd, Nat.reduceSub, Nat.reduceLeDiff, Nat.reduceEqDiff, Nat.add_eq, not_false_eq_true, not_true_eq_false, true_and, and_true, false_or, or_true, true_or, or_false, and_self, one_ne_zero_nat, w32_id, w32_n, Int.toNat_natCast, Int.reduceToNat, Nat.zero_add, Nat.zero_le, Nat.le_refl, Int.reduceEq, Int.reduceLT, Int.reduceLE, Int.reduceAdd, Int.reduceSub, Int.reduceMul, t_imp, f_imp, hT.1, hN.1, wr_c, r2, hT.2.2.2.2.1.1, hT.2.2.2.2.2.1.1, i5, i6, q1, q2]
    refine ⟨fun h9 => absurd h9 (by omega), fun _ => ⟨fun h1 => ?_, fun h1 => ⟨fun h2 => ?_, fun h2 => ⟨hρ, ?_⟩⟩⟩⟩
    · exact next x dn (by unfold lvStep; rw [if_neg (by omega)])
    · exact next x dn (by unfold lvStep; rw [if_neg (by omega)])
    have b01 := bt_01 met i
    refine s_n_isMet hN.1 (by rw [wr_c _ _ _ n2]; exact hm) hm2 (by omega) ?_
    refine blk bk_n_live_63 ?_
    simp (disch := omega) only [vcb, step, ↓pI_c, ↓pL_c, ↓pR_c, ↓pA_c, isI_c, isL_c, isL_i, isL_r, isL_j, isA_c, inc_c, stO, fV, cZ, sw, List.getD_cons_zero, List.getD_cons_succ, List.set_cons_zero, List.set_cons_succ, List.take_succ_cons, List.take_zero, List.drop_succ_cons, List.drop_zero, List.reverse_cons, List.reverse_nil, List.nil_append, List.cons_append, List.append_nil, Option.toList_some, Option.toList_none, List.length_cons, List.length_nil, Nat.reduceAdd, Nat.reduceSub, Nat.reduceLeDiff, Nat.reduceEqDiff, Nat.add_eq, not_false_eq_true, not_true_eq_false, true_and, and_true, false_or, or_true, true_or, or_false, and_self, one_ne_zero_nat, w32_id, w32_n, Int.toNat_natCast, Int.reduceToNat, Nat.zero_add, Nat.zero_le, Nat.le_refl, Int.reduceEq, Int.reduceLT, Int.reduceLE, Int.reduceAdd, Int.reduceSub, Int.reduceMul, t_imp, f_imp, hT.1, hN.1]
    refine ⟨fun h3 => ?_, fun h3 => ⟨fun h4 => ?_, fun h4 => ⟨hρ, ?_⟩⟩⟩
    · exact next x dn (by unfold lvStep; rw [if_neg (by omega)])
    · refine blk bk_n_live_101 ?_
      simp (disch := omega) only [vcb, step, ↓pI_c, ↓pL_c, ↓pR_c, ↓pA_c, isI_c, isL_c, isL_i, isL_r, isL_j, isA_c, inc_c, stO, fV, cZ, sw, List.getD_cons_zero, List.getD_cons_succ, List.set_cons_zero, List.set_cons_succ, List.take_succ_cons, List.take_zero, List.drop_succ_cons, List.drop_zero, List.reverse_cons, List.reverse_nil, List.nil_append, List.cons_append, List.append_nil, Option.toList_some, Option.toList_none, List.length_cons, List.length_nil, Nat.reduceAdd, Nat.reduceSub, Nat.reduceLeDiff, Nat.reduceEqDiff, Nat.add_eq, not_false_eq_true, not_true_eq_false, true_and, and_true, false_or, or_true, true_or, or_false, and_self, one_ne_zero_nat, w32_id, w32_n, Int.toNat_natCast, Int.reduceToNat, Nat.zero_add, Nat.zero_le, Nat.le_refl, Int.reduceEq, Int.reduceLT, Int.reduceLE, Int.reduceAdd, Int.reduceSub, Int.reduceMul, t_imp, f_imp, hT.1, hT.2.2.2.2.2.2.2.1, i8, wr_c, q4]
      rw [← Int.natCast_add]
      exact next x (dn + tdH td i) (by unfold lvStep; rw [if_pos (by omega), if_neg (by omega)])
    refine s_n_bears (x := x) (y := tdT td i) (z := tdS td p) hN hT (by omega) (by omega) (wr_s _ _ _ _) (by rw [wr_c _ _ _ n7]; exact q3) (by rw [wr_c _ _ _ n9]; exact (r6 p hp).1) (by omega) (by omega) (by omega) (fun h5 => ?_) (fun h5 => ?_)
    · refine blk bk_n_live_79 ?_
      simp (disch := omega) only [vcb, step, ↓pI_c, ↓pL_c, ↓pR_c, ↓pA_c, isI_c, isL_c, isL_i, isL_r, isL_j, isA_c, inc_c, stO, fV, cZ, sw, List.getD_cons_zero, List.getD_cons_succ, List.set_cons_zero, List.set_cons_succ, List.take_succ_cons, List.take_zero, List.drop_succ_cons, List.drop_zero, List.reverse_cons, List.reverse_nil, List.nil_append, List.cons_append, List.append_nil, Option.toList_some, Option.toList_none, List.length_cons, List.length_nil, Nat.reduceAdd, Nat.reduceSub, Nat.reduceLeDiff, Nat.reduceEqDiff, Nat.add_eq, not_false_eq_true, not_true_eq_false, true_and, and_true, false_or, or_true, true_or, or_false, and_self, one_ne_zero_nat, w32_id, w32_n, Int.toNat_natCast, Int.reduceToNat, Nat.zero_add, Nat.zero_le, Nat.le_refl, Int.reduceEq, Int.reduceLT, Int.reduceLE, Int.reduceAdd, Int.reduceSub, Int.reduceMul, t_imp, f_imp, hT.1, hN.1, hN.2.1, hT.2.2.2.2.2.2.1.1, ip, i7, wr_c, wr_s, q3, wr_wr]
      rw [← Int.natCast_add]
      exact next (x + tdT td i) dn (by unfold lvStep; rw [if_pos (by omega), if_pos (by omega)])
    · refine blk bk_n_live_79 ?_
      simp (disch := omega) only [vcb, step, ↓pI_c, ↓pL_c, ↓pR_c, ↓pA_c, isI_c, isL_c, isL_i, isL_r, isL_j, isA_c, inc_c, stO, fV, cZ, sw, List.getD_cons_zero, List.getD_cons_succ, List.set_cons_zero, List.set_cons_succ, List.take_succ_cons, List.take_zero, List.drop_succ_cons, List.drop_zero, List.reverse_cons, List.reverse_nil, List.nil_append, List.cons_append, List.append_nil, Option.toList_some, Option.toList_none, List.length_cons, List.length_nil, Nat.reduceAdd, Nat.reduceSub, Nat.reduceLeDiff, Nat.reduceEqDiff, Nat.add_eq, not_false_eq_true, not_true_eq_false, true_and, and_true, false_or, or_true, true_or, or_false, and_self, one_ne_zero_nat, w32_id, w32_n, Int.toNat_natCast, Int.reduceToNat, Nat.zero_add, Nat.zero_le, Nat.le_refl, Int.reduceEq, Int.reduceLT, Int.reduceLE, Int.reduceAdd, Int.reduceSub, Int.reduceMul, t_imp, f_imp, hT.1, hN.1, hN.2.1, ip]
      refine blk bk_n_live_101 ?_
      simp (disch := omega) only [vcb, step, ↓pI_c, ↓pL_c, ↓pR_c, ↓pA_c, isI_c, isL_c, isL_i, isL_r, isL_j, isA_c, inc_c, stO, fV, cZ, sw, List.getD_cons_zero, List.getD_cons_succ, List.set_cons_zero, List.set_cons_succ, List.take_succ_cons, List.take_zero, List.drop_succ_cons, List.drop_zero, List.reverse_cons, List.reverse_nil, List.nil_append, List.cons_append, List.append_nil, Option.toList_some, Option.toList_none, List.length_cons, List.length_nil, Nat.reduceAdd, Nat.reduceSub, Nat.reduceLeDiff, Nat.reduceEqDiff, Nat.add_eq, not_false_eq_true, not_true_eq_false, true_and, and_true, false_or, or_true, true_or, or_false, and_self, one_ne_zero_nat, w32_id, w32_n, Int.toNat_natCast, Int.reduceToNat, Nat.zero_add, Nat.zero_le, Nat.le_refl, Int.reduceEq, Int.reduceLT, Int.reduceLE, Int.reduceAdd, Int.reduceSub, Int.reduceMul, t_imp, f_imp, hT.1, hT.2.2.2.2.2.2.2.1, i8, wr_c, q4]
      rw [← Int.natCast_add]
      exact next x (dn + tdH td i) (by unfold lvStep; rw [if_pos (by omega), if_neg (by omega)])
theorem s_n_live {a t p mo gr met lo x : Nat} {td : TD} (hρ : 2 ≤ ρ) (hN : NS G a) (hT : TS G t) (hok : TDok td) (hR : RT G M t td) (hp : p < tdN td) (hd : rfA G a 5 ≠ rfA G t 1) (hmo : mo < 100) (hm : M a 3 = (met : Int)) (hm2 : met < 2147483648) (hlo : M a 2 = (lo : Int)) (hlo2 : lo < 2147483648) (hgr : gr ≤ 1) (hx : M (rfA G a 5) p = (x : Int)) (hx2 : x ≤ tdS td p)
    (hQ : ∀ aw : Nat, aw ≤ 1 → (aw = 0 ↔ gr = 0 ∧ bt lo p = 0) → ∀ r : Nat × Nat, r = lvF td met p mo aw 0 (tdA td) (x, 0) → Q (some (vI (r.2 : Nat))) G (wr M (rfA G a 5) p ((if gr = 0 then r.1 else r.1 - tdRe td : Nat) : Int))) : WPm Γ ρ 0 28 [vR (some a), vR (some t), vI p, vI mo, vI gr] G M Q := by
  obtain ⟨o1, o2, o3, o4, o5, o6, o7, o8, o9⟩ := id hok
  have hs := o8 p hp
  have n2 : a ≠ rfA G a 5 := (ne_AO hN.2.2 hN.1).symm
  have n1 : t ≠ rfA G a 5 := (ne_AO hN.2.2 hT.1).symm
  have b01 := bt_01 lo p
  refine WPm_of (L := [vR (some a), vR (some t), vI p, vI mo, vI gr, vJ, vJ, vJ]) 3 (by decide) (Nat.le_of_ble_eq_true rfl) rfl ?_
  have main : ∀ aw : Nat, aw ≤ 1 → (aw = 0 ↔ gr = 0 ∧ bt lo p = 0) → WP Γ ρ 0 28 18 [vR (some a), vR (some t), vI p, vI mo, vI gr, vJ, vJ, vJ] [vI aw] G M Q := by
    intro aw haw hiff
    refine blk bk_n_live_18 ?_
    simp (disch := omega) only [vcb, step, ↓pI_c, ↓pL_c, ↓pR_c, ↓pA_c, isI_c, isL_c, isL_i, isL_r, isL_j, isA_c, inc_c, stO, fV, cZ, sw, List.getD_cons_zero, List.getD_cons_succ, List.set_cons_zero, List.set_cons_succ, List.take_succ_cons, List.take_zero, List.drop_succ_cons, List.drop_zero, List.reverse_cons, List.reverse_nil, List.nil_append, List.cons_append, List.append_nil, Option.toList_some, Option.toList_none, List.length_cons, List.length_nil, Nat.reduceAdd, Nat.reduceSub, Nat.reduceLeDiff, Nat.reduceEqDiff, Nat.add_eq, not_false_eq_true, not_true_eq_false, true_and, and_true, false_or, or_true, true_or, or_false, and_self, one_ne_zero_nat, w32_id, w32_n, Int.toNat_natCast, Int.reduceToNat, Nat.zero_add, Nat.zero_le, Nat.le_refl, Int.reduceEq, Int.reduceLT, Int.reduceLE, Int.reduceAdd, Int.reduceSub, Int.reduceMul, t_imp, f_imp]
    have e0 : M = wr M (rfA G a 5) p x := (wr_id hx).symm
    have hl := lvF_le (met := met) (mo := mo) (aw := aw) hok hp (tdA td) 0 (x, 0) (by omega) hx2
    dsimp only at hl
    rw [e0]
    refine live_loop (by omega) hN hT hok hR hp hd hmo hm hm2 haw (tdA td) 0 x 0 (by omega) hx2 (by omega) ?_
    have hq := hQ aw haw hiff _ rfl
    generalize lvF td met p mo aw 0 (tdA td) (x, 0) = r at hq hl
    refine blk bk_n_live_119 ?_
    simp (disch := omega) only [vcb, step, ↓pI_c, ↓pL_c, ↓pR_c, ↓pA_c, isI_c, isL_c, isL_i, isL_r, isL_j, isA_c, inc_c, stO, fV, cZ, sw, List.getD_cons_zero, List.getD_cons_succ, List.set_cons_zero, List.set_cons_succ, List.take_succ_cons, List.take_zero, List.drop_succ_cons, List.drop_zero, List.reverse_cons, List.reverse_nil, List.nil_append, List.cons_append, List.append_nil, Option.toList_some, Option.toList_none, List.length_cons, List.length_nil, Nat.reduceAdd, Nat.reduceSub, Nat.reduceLeDiff, Nat.reduceEqDiff, Nat.add_eq, not_false_eq_true, not_true_eq_false, true_and, and_true, false_or, or_true, true_or, or_false, and_self, one_ne_zero_nat, w32_id, w32_n, Int.toNat_natCast, Int.reduceToNat, Nat.zero_add, Nat.zero_le, Nat.le_refl, Int.reduceEq, Int.reduceLT, Int.reduceLE, Int.reduceAdd, Int.reduceSub, Int.reduceMul, t_imp, f_imp, hN.1]
    refine ⟨fun h => ?_, fun h => ⟨by omega, ?_⟩⟩
    · refine blk bk_n_live_130 ?_
      simp (disch := omega) only [vcb, step, ↓pI_c, ↓pL_c, ↓pR_c, ↓pA_c, isI_c, isL_c, isL_i, isL_r, isL_j, isA_c, inc_c, stO, fV, cZ, sw, List.getD_cons_zero, List.getD_cons_succ, List.set_cons_zero, List.set_cons_succ, List.take_succ_cons, List.take_zero, List.drop_succ_cons, List.drop_zero, List.reverse_cons, List.reverse_nil, List.nil_append, List.cons_append, List.append_nil, Option.toList_some, Option.toList_none, List.length_cons, List.length_nil, Nat.reduceAdd, Nat.reduceSub, Nat.reduceLeDiff, Nat.reduceEqDiff, Nat.add_eq, not_false_eq_true, not_true_eq_false, true_and, and_true, false_or, or_true, true_or, or_false, and_self, one_ne_zero_nat, w32_id, w32_n, Int.toNat_natCast, Int.reduceToNat, Nat.zero_add, Nat.zero_le, Nat.le_refl, Int.reduceEq, Int.reduceLT, Int.reduceLE, Int.reduceAdd, Int.reduceSub, Int.reduceMul, t_imp, f_imp]
      rw [if_pos (by omega)] at hq
      exact hq
    · refine s_n_rest (x := r.1) (r := tdRe td) (by omega) hN hT (by omega) (wr_s _ _ _ _) (by rw [wr_c _ _ _ n1]; exact hR.2.2.2.1) (by omega) (by omega) ?_
      refine blk bk_n_live_130 ?_
      simp (disch := omega) only [vcb, step, ↓pI_c, ↓pL_c, ↓pR_c, ↓pA_c, isI_c, isL_c, isL_i, isL_r, isL_j, isA_c, inc_c, stO, fV, cZ, sw, List.getD_cons_zero, List.getD_cons_succ, List.set_cons_zero, List.set_cons_succ, List.take_succ_cons, List.take_zero, List.drop_succ_cons, List.drop_zero, List.reverse_cons, List.reverse_nil, List.nil_append, List.cons_append, List.append_nil, Option.toList_some, Option.toList_none, List.length_cons, List.length_nil, Nat.reduceAdd, Nat.reduceSub, Nat.reduceLeDiff, Nat.reduceEqDiff, Nat.add_eq, not_false_eq_true, not_true_eq_false, true_and, and_true, false_or, or_true, true_or, or_false, and_self, one_ne_zero_nat, w32_id, w32_n, Int.toNat_natCast, Int.reduceToNat, Nat.zero_add, Nat.zero_le, Nat.le_refl, Int.reduceEq, Int.reduceLT, Int.reduceLE, Int.reduceAdd, Int.reduceSub, Int.reduceMul, t_imp, f_imp, wr_wr]
      rw [if_neg (by omega)] at hq
      exact hq
  refine blk bk_n_live_0 ?_
  simp (disch := omega) only [vcb, step, ↓pI_c, ↓pL_c, ↓pR_c, ↓pA_c, isI_c, isL_c, isL_i, isL_r, isL_j, isA_c, inc_c, stO, fV, cZ, sw, List.getD_cons_zero, List.getD_cons_succ, List.set_cons_zero, List.set_cons_succ, List.take_succ_cons, List.take_zero, List.drop_succ_cons, List.drop_zero, List.reverse_cons, List.reverse_nil, List.nil_append, List.cons_append, List.append_nil, Option.toList_some, Option.toList_none, List.length_cons, List.length_nil, Nat.reduceAdd, Nat.reduceSub, Nat.reduceLeDiff, Nat.reduceEqDiff, Nat.add_eq, not_false_eq_true, not_true_eq_false, true_and, and_true, false_or, or_true, true_or, or_false, and_self, one_ne_zero_nat, w32_id, w32_n, Int.toNat_natCast, Int.reduceToNat, Nat.zero_add, Nat.zero_le, Nat.le_refl, Int.reduceEq, Int.reduceLT, Int.reduceLE, Int.reduceAdd, Int.reduceSub, Int.reduceMul, t_imp, f_imp, hN.1]
  refine ⟨fun h => ?_, fun h => ⟨by omega, ?_⟩⟩
  · refine blk bk_n_live_13 ?_
    simp (disch := omega) only [vcb, step, ↓pI_c, ↓pL_c, ↓pR_c, ↓pA_c, isI_c, isL_c, isL_i, isL_r, isL_j, isA_c, inc_c, stO, fV, cZ, sw, List.getD_cons_zero, List.getD_cons_succ, List.set_cons_zero, List.set_cons_succ, List.take_succ_cons, List.take_zero, List.drop_succ_cons, List.drop_zero, List.reverse_cons, List.reverse_nil, List.nil_append, List.cons_append, List.append_nil, Option.toList_some, Option.toList_none, List.length_cons, List.length_nil, Nat.reduceAdd, Nat.reduceSub, Nat.reduceLeDiff, Nat.reduceEqDiff, Nat.add_eq, not_false_eq_true, not_true_eq_false, true_and, and_true, false_or, or_true, true_or, or_false, and_self, one_ne_zero_nat, w32_id, w32_n, Int.toNat_natCast, Int.reduceToNat, Nat.zero_add, Nat.zero_le, Nat.le_refl, Int.reduceEq, Int.reduceLT, Int.reduceLE, Int.reduceAdd, Int.reduceSub, Int.reduceMul, t_imp, f_imp]
    exact main 1 (by omega) (by omega)
  · refine s_n_isLost hN.1 hlo hlo2 (by omega) ?_
    refine blk bk_n_live_10 ?_
    simp (disch := omega) only [vcb, step, ↓pI_c, ↓pL_c, ↓pR_c, ↓pA_c, isI_c, isL_c, isL_i, isL_r, isL_j, isA_c, inc_c, stO, fV, cZ, sw, List.getD_cons_zero, List.getD_cons_succ, List.set_cons_zero, List.set_cons_succ, List.take_succ_cons, List.take_zero, List.drop_succ_cons, List.drop_zero, List.reverse_cons, List.reverse_nil, List.nil_append, List.cons_append, List.append_nil, Option.toList_some, Option.toList_none, List.length_cons, List.length_nil, Nat.reduceAdd, Nat.reduceSub, Nat.reduceLeDiff, Nat.reduceEqDiff, Nat.add_eq, not_false_eq_true, not_true_eq_false, true_and, and_true, false_or, or_true, true_or, or_false, and_self, one_ne_zero_nat, w32_id, w32_n, Int.toNat_natCast, Int.reduceToNat, Nat.zero_add, Nat.zero_le, Nat.le_refl, Int.reduceEq, Int.reduceLT, Int.reduceLE, Int.reduceAdd, Int.reduceSub, Int.reduceMul, t_imp, f_imp]
    refine ⟨fun h => ?_, fun h => ?_⟩
    · refine blk bk_n_live_17 ?_
      simp (disch := omega) only [vcb, step, ↓pI_c, ↓pL_c, ↓pR_c, ↓pA_c, isI_c, isL_c, isL_i, isL_r, isL_j, isA_c, inc_c, stO, fV, cZ, sw, List.getD_cons_zero, List.getD_cons_succ, List.set_cons_zero, List.set_cons_succ, List.take_succ_cons, List.take_zero, List.drop_succ_cons, List.drop_zero, List.reverse_cons, List.reverse_nil, List.nil_append, List.cons_append, List.append_nil, Option.toList_some, Option.toList_none, List.length_cons, List.length_nil, Nat.reduceAdd, Nat.reduceSub, Nat.reduceLeDiff, Nat.reduceEqDiff, Nat.add_eq, not_false_eq_true, not_true_eq_false, true_and, and_true, false_or, or_true, true_or, or_false, and_self, one_ne_zero_nat, w32_id, w32_n, Int.toNat_natCast, Int.reduceToNat, Nat.zero_add, Nat.zero_le, Nat.le_refl, Int.reduceEq, Int.reduceLT, Int.reduceLE, Int.reduceAdd, Int.reduceSub, Int.reduceMul, t_imp, f_imp]
      exact main 0 (by omega) (by omega)
    · refine blk bk_n_live_13 ?_
      simp (disch := omega) only [vcb, step, ↓pI_c, ↓pL_c, ↓pR_c, ↓pA_c, isI_c, isL_c, isL_i, isL_r, isL_j, isA_c, inc_c, stO, fV, cZ, sw, List.getD_cons_zero, List.getD_cons_succ, List.set_cons_zero, List.set_cons_succ, List.take_succ_cons, List.take_zero, List.drop_succ_cons, List.drop_zero, List.reverse_cons, List.reverse_nil, List.nil_append, List.cons_append, List.append_nil, Option.toList_some, Option.toList_none, List.length_cons, List.length_nil, Nat.reduceAdd, Nat.reduceSub, Nat.reduceLeDiff, Nat.reduceEqDiff, Nat.add_eq, not_false_eq_true, not_true_eq_false, true_and, and_true, false_or, or_true, true_or, or_false, and_self, one_ne_zero_nat, w32_id, w32_n, Int.toNat_natCast, Int.reduceToNat, Nat.zero_add, Nat.zero_le, Nat.le_refl, Int.reduceEq, Int.reduceLT, Int.reduceLE, Int.reduceAdd, Int.reduceSub, Int.reduceMul, t_imp, f_imp]
      exact main 1 (by omega) (by omega)
end NOW
