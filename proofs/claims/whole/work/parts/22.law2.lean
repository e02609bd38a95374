/-! ===== Law: harm, best ===== -/
def awF (g lo p : Nat) : Nat := if bt g p = 0 ∧ bt lo p = 0 then 0 else 1
def mnF (td : TD) (lo met mo g : Nat) (ti : Nat → Nat) (p : Nat) : Nat × Nat := lvF td met p mo (awF g lo p) 0 (tdA td) (ti p, 0)
def lwT (td : TD) (lo met mo g : Nat) (ti : Nat → Nat) (p : Nat) : Nat := if bt g p = 0 then (mnF td lo met mo g ti p).1 else (mnF td lo met mo g ti p).1 - tdRe td
def lwS (td : TD) (lo met mo g : Nat) (ti : Nat → Nat) : Nat → Nat
  | 0 => 0
  | i + 1 => lwS td lo met mo g ti i + (mnF td lo met mo g ti i).2
/-- the harm of k months from mo on, by the law of tt -/
def lawF (td : TD) (lo met tt : Nat) : Nat → Nat → (Nat → Nat) → Nat
  | 0, _, _ => 0
  | k + 1, mo, ti => lwS td lo met mo (grF td ti lo tt (tdRo td)) ti (tdN td) + lawF td lo met tt k (mo + 1) (lwT td lo met mo (grF td ti lo tt (tdRo td)) ti)
theorem mnF_le {td : TD} {lo met mo g p : Nat} {ti : Nat → Nat} (hok : TDok td) (hp : p < tdN td) (h : ti p ≤ tdS td p) : (mnF td lo met mo g ti p).1 ≤ tdS td p ∧ (mnF td lo met mo g ti p).2 ≤ 90 := by
  have h1 := lvF_le (met := met) (mo := mo) (aw := awF g lo p) hok hp (tdA td) 0 (ti p, 0) (by omega) h
  have h2 := hok.2.1
  exact ⟨h1.1, by have h3 := h1.2; show (lvF td met p mo (awF g lo p) 0 (tdA td) (ti p, 0)).2 ≤ 90; dsimp only at h3; omega⟩
theorem lwT_le {td : TD} {lo met mo g p : Nat} {ti : Nat → Nat} (hok : TDok td) (hp : p < tdN td) (h : ti p ≤ tdS td p) : lwT td lo met mo g ti p ≤ tdS td p := by
  have := (mnF_le (lo := lo) (met := met) (mo := mo) (g := g) hok hp h).1
  unfold lwT
  split <;> omega
theorem lwS_le {td : TD} {lo met mo g : Nat} {ti : Nat → Nat} (hok : TDok td) (h : ∀ p, p < tdN td → ti p ≤ tdS td p) : ∀ i, i ≤ tdN td → lwS td lo met mo g ti i ≤ 90 * i := by
  intro i
  induction i with
  | zero => exact fun _ => Nat.le_refl 0
  | succ i ih =>
    intro hi
    have h1 := ih (by omega)
    have h2 := (mnF_le (lo := lo) (met := met) (mo := mo) (g := g) hok (show i < tdN td by omega) (h i (by omega))).2
    show lwS td lo met mo g ti i + _ ≤ _
    omega
theorem lawF_le {td : TD} {lo met tt : Nat} (hok : TDok td) : ∀ (k mo : Nat) (ti : Nat → Nat), (∀ p, p < tdN td → ti p ≤ tdS td p) → lawF td lo met tt k mo ti ≤ 540 * k := by
  intro k
  induction k with
  | zero => exact fun _ _ _ => Nat.le_refl 0
  | succ k ih =>
    intro mo ti h
    have h1 := lwS_le (lo := lo) (met := met) (mo := mo) (g := grF td ti lo tt (tdRo td)) hok h (tdN td) (Nat.le_refl _)
    have h2 := ih (mo + 1) (lwT td lo met mo (grF td ti lo tt (tdRo td)) ti) (fun p hp => lwT_le hok hp (h p hp))
    have h3 := hok.1
    show lwS _ _ _ _ _ _ _ + lawF _ _ _ _ _ _ _ ≤ _
    omega
theorem RT_kept {G : aG} {M M' : aM} {t : Nat} {td : TD} (hR : RT G M t td) (h0 : M' t = M t) (h1 : M' (rfA G t 1) = M (rfA G t 1)) (h2 : M' (rfA G t 2) = M (rfA G t 2)) (h3 : M' (rfA G t 3) = M (rfA G t 3)) (h5 : M' (rfA G t 5) = M (rfA G t 5)) (h6 : M' (rfA G t 6) = M (rfA G t 6)) (h7 : M' (rfA G t 7) = M (rfA G t 7)) (h8 : M' (rfA G t 8) = M (rfA G t 8)) : RT G M' t td := by
  unfold RT at *
  rw [h0, h1, h2, h3, h5, h6, h7, h8]
  exact hR
section LAW2
variable {Γ : aR} {ρ κ : Nat} {G : aG} {M : aM} {Q : aQ}
/-- the told cells are apart from a Now's -/
def TN (G : aG) (t a : Nat) : Prop := rfA G t 1 ≠ rfA G a 5 ∧ rfA G t 2 ≠ rfA G a 5 ∧ rfA G t 3 ≠ rfA G a 5
theorem RT_now {M M' : aM} {t a : Nat} {td : TD} (hN : NS G a) (hT : TS G t) (hd : TN G t a) (hR : RT G M t td) (h : ∀ c, c ≠ a → c ≠ rfA G a 5 → M' c = M c) : RT G M' t td := by
  refine RT_kept hR (h _ (ne_OO hT.1 hN.1 (by decide)) (ne_AO hN.2.2 hT.1).symm) (h _ (ne_AO hT.2.1.2 hN.1) hd.1) (h _ (ne_AO hT.2.2.1.2 hN.1) hd.2.1) (h _ (ne_AO hT.2.2.2.1.2 hN.1) hd.2.2) (h _ (ne_AO hT.2.2.2.2.1.2 hN.1) (ne_AA hT.2.2.2.2.1.2 hN.2.2 (by omega))) (h _ (ne_AO hT.2.2.2.2.2.1.2 hN.1) (ne_AA hT.2.2.2.2.2.1.2 hN.2.2 (by omega))) (h _ (ne_AO hT.2.2.2.2.2.2.1.2 hN.1) (ne_AA hT.2.2.2.2.2.2.1.2 hN.2.2 (by omega))) (h _ (ne_AO hT.2.2.2.2.2.2.2.2 hN.1) (ne_AA hT.2.2.2.2.2.2.2.2 hN.2.2 (by omega)))
/-- the inner loop of Law.harm: the names of a month -/
theorem harm_names {l t b tt lo met mo g sum : Nat} {td : TD} {ti : Nat → Nat} {M0 : aM} (hρ : 3 ≤ ρ) (hL : LwS G l) (hT : TS G t) (hok : TDok td) (hd : TN G t (rfA G l 0)) (hR : RT G M0 t td) (hmo : mo < 12) (hg : g < 64) (hl2 : M0 (rfA G l 0) 2 = (lo : Int)) (hlo : lo < 64) (hl3 : M0 (rfA G l 0) 3 = (met : Int)) (hm2 : met < 2147483648) (hti : ∀ p, p < tdN td → ti p ≤ tdS td p) (hsum : sum ≤ 100000) :
    ∀ (k i : Nat) (M : aM), i + k = tdN td → (∀ c, c ≠ rfA G (rfA G l 0) 5 → M c = M0 c) → (∀ p, p < tdN td → M (rfA G (rfA G l 0) 5) p = ((if p < i then lwT td lo met mo g ti p else ti p : Nat) : Int)) →
      (∀ M' : aM, (∀ c, c ≠ rfA G (rfA G l 0) 5 → M' c = M0 c) → (∀ p, p < tdN td → M' (rfA G (rfA G l 0) 5) p = (lwT td lo met mo g ti p : Int)) → WP Γ ρ 0 14 83 [vR (some l), vR (some t), vR (some b), vI tt, vI ((sum + lwS td lo met mo g ti (tdN td) : Nat) : Int), vI mo, vI g, vI (tdN td : Nat)] [] G M' Q) →
      WP Γ ρ 0 14 35 [vR (some l), vR (some t), vR (some b), vI tt, vI ((sum + lwS td lo met mo g ti i : Nat) : Int), vI mo, vI g, vI i] [] G M Q := by
  have hN := hL.2.2
  have n1 : rfA G l 0 ≠ rfA G (rfA G l 0) 5 := (ne_AO hN.2.2 hN.1).symm
  have n2 : t ≠ rfA G (rfA G l 0) 5 := (ne_AO hN.2.2 hT.1).symm
  have o1 := hok.1
  intro k
  induction k with
  | zero =>
    intro i M hi hM hta h
    obtain rfl : i = tdN td := by omega
    have e0 : M t 0 = (tdN td : Int) := by rw [hM t n2]; exact hR.1
    refine blk bk_l_harm_35 ?_
    simp (disch := omega) only [vcb, step, ↓pI_c, ↓pL_c, ↓pR_c, ↓pA_c, isI_c, isL_c, isL_i, isL_r, isL_j, isA_c, inc_c, stO, fV, cZ, sw, List.getD_cons_zero, List.getD_cons_succ, List.set_cons_zero, List.set_cons_succ, List.take_succ_cons, List.take_zero, List.drop_succ_cons, List.drop_zero, List.reverse_cons, List.reverse_nil, List.nil_append, List.cons_append, List.append_nil, Option.toList_some, Option.toList_none, List.length_cons, List.length_nil, Nat.reduceAdd, Nat.reduceSub, Nat.reduceLeDiff, Nat.reduceEqDiff, Nat.add_eq, not_false_eq_true, not_true_eq_false, true_and, and_true, false_or, or_true, true_or, or_false, and_self, one_ne_zero_nat, w32_id, w32_n, Int.toNat_natCast, Int.reduceToNat, Nat.zero_add, Nat.zero_le, Nat.le_refl, Int.reduceEq, Int.reduceLT, Int.reduceLE, Int.reduceAdd, Int.reduceSub, Int.reduceMul, t_imp, f_imp, hT.1, e0]
    exact ⟨fun _ => h M hM (fun p hp => by rw [hta p hp, if_pos hp]), fun q => absurd (Int.le_refl _) q⟩
  | succ k ih =>
    intro i M hi hM hta h
    have hin : i < tdN td := by omega
    have e0 : M t 0 = (tdN td : Int) := by rw [hM t n2]; exact hR.1
    have b1 := bt_01 g i
    have hS1 := lwS_le (lo := lo) (met := met) (mo := mo) (g := g) hok hti i (by omega)
    have hx := hti i hin
    have hmn := mnF_le (lo := lo) (met := met) (mo := mo) (g := g) hok hin hx
    have hR1 : RT G M t td := RT_now hN hT hd hR (fun c _ h2 => hM c h2)
    have go : ∀ gr : Nat, gr = bt g i → WP Γ ρ 0 14 71 [vR (some l), vR (some t), vR (some b), vI tt, vI ((sum + lwS td lo met mo g ti i : Nat) : Int), vI mo, vI g, vI i] [vI gr, vI mo, vI i, vR (some t), vR (some (rfA G l 0)), vI ((sum + lwS td lo met mo g ti i : Nat) : Int)] G M Q := by
      intro gr hgr
      refine blk bk_l_harm_71 ?_
      simp (disch := omega) only [vcb, step, ↓pI_c, ↓pL_c, ↓pR_c, ↓pA_c, isI_c, isL_c, isL_i, isL_r, isL_j, isA_c, inc_c, stO, fV, cZ, sw, List.getD_cons_zero, List.getD_cons_succ, List.set_cons_zero, List.set_cons_succ, List.take_succ_cons, List.take_zero, List.drop_succ_cons, List.drop_zero, List.reverse_cons, List.reverse_nil, List.nil_append, List.cons_append, List.append_nil, Option.toList_some, Option.toList_none, List.length_cons, List.length_nil, Nat.reduceAdd, Nat.reduceSub, Nat.reduceLeDiff, Nat.reduceEqDiff, Nat.add_eq, not_false_eq_true, not_true_eq_false, true_and, and_true, false_or, or_true, true_or, or_false, and_self, one_ne_zero_nat, w32_id, w32_n, Int.toNat_natCast, Int.reduceToNat, Nat.zero_add, Nat.zero_le, Nat.le_refl, Int.reduceEq, Int.reduceLT, Int.reduceLE, Int.reduceAdd, Int.reduceSub, Int.reduceMul, t_imp, f_imp, hN.1]
      refine ⟨by omega, s_n_live (x := ti i) (lo := lo) (met := met) (by omega) hN hT hok hR1 hin hd.1.symm (by omega) (by rw [hM _ n1]; exact hl3) hm2 (by rw [hM _ n1]; exact hl2) (by omega) (by omega) (by rw [hta i hin, if_neg (by omega)]) hx (fun aw haw hiff r hr => ?_)⟩
      have haw2 : aw = awF g lo i := by
        unfold awF
        split <;> omega
      have hr2 : r = mnF td lo met mo g ti i := by rw [hr, haw2]; rfl
      rw [← hr2] at hmn
      refine blk bk_l_harm_74 ?_
      simp (disch := omega) only [vcb, step, ↓pI_c, ↓pL_c, ↓pR_c, ↓pA_c, isI_c, isL_c, isL_i, isL_r, isL_j, isA_c, inc_c, stO, fV, cZ, sw, List.getD_cons_zero, List.getD_cons_succ, List.set_cons_zero, List.set_cons_succ, List.take_succ_cons, List.take_zero, List.drop_succ_cons, List.drop_zero, List.reverse_cons, List.reverse_nil, List.nil_append, List.cons_append, List.append_nil, Option.toList_some, Option.toList_none, List.length_cons, List.length_nil, Nat.reduceAdd, Nat.reduceSub, Nat.reduceLeDiff, Nat.reduceEqDiff, Nat.add_eq, not_false_eq_true, not_true_eq_false, true_and, and_true, false_or, or_true, true_or, or_false, and_self, one_ne_zero_nat, w32_id, w32_n, Int.toNat_natCast, Int.reduceToNat, Nat.zero_add, Nat.zero_le, Nat.le_refl, Int.reduceEq, Int.reduceLT, Int.reduceLE, Int.reduceAdd, Int.reduceSub, Int.reduceMul, t_imp, f_imp]
      have es : sum + lwS td lo met mo g ti (i + 1) = sum + lwS td lo met mo g ti i + r.2 := by
        show sum + (lwS td lo met mo g ti i + _) = _
        rw [← hr2]
        omega
      have hi2 := ih (i + 1) (wr M (rfA G (rfA G l 0) 5) i ((if gr = 0 then r.1 else r.1 - tdRe td : Nat) : Int)) (by omega) (fun c hc => by rw [wr_c _ _ _ hc]; exact hM c hc) (fun p hp => ?_) h
      · rw [es, Int.natCast_add] at hi2
        exact hi2
      · by_cases hpe : p = i
        · subst hpe
          rw [wr_s, if_pos (show p < p + 1 by omega)]
          unfold lwT
          rw [← hr2, hgr]
        · rw [wr_o _ _ hpe, hta p hp]
          by_cases hpi : p < i
          · rw [if_pos hpi, if_pos (by omega)]
          · rw [if_neg hpi, if_neg (by omega)]
    refine blk bk_l_harm_35 ?_
    simp (disch := omega) only [vcb, step, ↓pI_c, ↓pL_c, ↓pR_c, ↓pA_c, isI_c, isL_c, isL_i, isL_r, isL_j, isA_c, inc_c, stO, fV, cZ, sw, List.getD_cons_zero, List.getD_cons_succ, List.set_cons_zero, List.set_cons_succ, List.take_succ_cons, List.take_zero, List.drop_succ_cons, List.drop_zero, List.reverse_cons, List.reverse_nil, List.nil_append, List.cons_append, List.append_nil, Option.toList_some, Option.toList_none, List.length_cons, List.length_nil, Nat.reduceAdd, Nat.reduceSub, Nat.reduceLeDiff, Nat.reduceEqDiff, Nat.add_eq, not_false_eq_true, not_true_eq_false, true_and, and_true, false_or, or_true, true_or, or_false, and_self, one_ne_zero_nat, w32_id, w32_n, Int.toNat_natCast, Int.reduceToNat, Nat.zero_add, Nat.zero_le, Nat.le_refl, Int.reduceEq, Int.reduceLT, Int.reduceLE, Int.reduceAdd, Int.reduceSub, Int.reduceMul, t_imp, f_imp, hT.1, e0, hL.1, hL.2.1, btI]
    refine ⟨fun q => absurd q (by omega), fun _ => ⟨fun h1 => ?_, fun h1 => ?_⟩⟩
    · refine blk bk_l_harm_70 ?_
      simp (disch := omega) only [vcb, step, ↓pI_c, ↓pL_c, ↓pR_c, ↓pA_c, isI_c, isL_c, isL_i, isL_r, isL_j, isA_c, inc_c, stO, fV, cZ, sw, List.getD_cons_zero, List.getD_cons_succ, List.set_cons_zero, List.set_cons_succ, List.take_succ_cons, List.take_zero, List.drop_succ_cons, List.drop_zero, List.reverse_cons, List.reverse_nil, List.nil_append, List.cons_append, List.append_nil, Option.toList_some, Option.toList_none, List.length_cons, List.length_nil, Nat.reduceAdd, Nat.reduceSub, Nat.reduceLeDiff, Nat.reduceEqDiff, Nat.add_eq, not_false_eq_true, not_true_eq_false, true_and, and_true, false_or, or_true, true_or, or_false, and_self, one_ne_zero_nat, w32_id, w32_n, Int.toNat_natCast, Int.reduceToNat, Nat.zero_add, Nat.zero_le, Nat.le_refl, Int.reduceEq, Int.reduceLT, Int.reduceLE, Int.reduceAdd, Int.reduceSub, Int.reduceMul, t_imp, f_imp]
      exact go 0 (by omega)
    · exact go 1 (by omega)
theorem harm_months {l t b tt lo met : Nat} {td : TD} (hρ : 3 ≤ ρ) (hL : LwS G l) (hT : TS G t) (hok : TDok td) (hd : TN G t (rfA G l 0)) (hlo : lo < 64) (hm2 : met < 2147483648) (htt : tt ≤ 30) :
    ∀ (k mo sum : Nat) (ti : Nat → Nat) (M : aM) (v6 v7 : aV), mo + k = 12 → sum ≤ 540 * mo → RT G M t td → M (rfA G l 0) 2 = (lo : Int) → M (rfA G l 0) 3 = (met : Int) → (∀ p, p < tdN td → M (rfA G (rfA G l 0) 5) p = (ti p : Int)) → (∀ p, p < tdN td → ti p ≤ tdS td p) →
      (∀ M' : aM, (∀ c, c ≠ rfA G (rfA G l 0) 5 → M' c = M c) → Q (some (vI ((sum + lawF td lo met tt k mo ti : Nat) : Int))) G M') →
      WP Γ ρ 0 14 17 [vR (some l), vR (some t), vR (some b), vI tt, vI sum, vI mo, v6, v7] [] G M Q := by
  have hN := hL.2.2
  have n1 : rfA G l 0 ≠ rfA G (rfA G l 0) 5 := (ne_AO hN.2.2 hN.1).symm
  have o1 := hok.1
  intro k
  induction k with
  | zero =>
    intro mo sum ti M v6 v7 hi hs hR h2 h3 hta hti hQ
    refine blk bk_l_harm_17 ?_
    simp (disch := omega) only [vcb, step, ↓pI_c, ↓pL_c, ↓pR_c, ↓pA_c, isI_c, isL_c, isL_i, isL_r, isL_j, isA_c, inc_c, stO, fV, cZ, sw, List.getD_cons_zero, List.getD_cons_succ, List.set_cons_zero, List.set_cons_succ, List.take_succ_cons, List.take_zero, List.drop_succ_cons, List.drop_zero, List.reverse_cons, List.reverse_nil, List.nil_append, List.cons_append, List.append_nil, Option.toList_some, Option.toList_none, List.length_cons, List.length_nil, Nat.reduceAdd, Nat.reduceSub, Nat.reduceLeDiff, Nat.reduceEqDiff, Nat.add_eq, not_false_eq_true, not_true_eq_false, true_and, and_true, false_or, or_true, true_or, or_false, and_self, one_ne_zero_nat, w32_id, w32_n, Int.toNat_natCast, Int.reduceToNat, Nat.zero_add, Nat.zero_le, Nat.le_refl, Int.reduceEq, Int.reduceLT, Int.reduceLE, Int.reduceAdd, Int.reduceSub, Int.reduceMul, t_imp, f_imp]
    refine ⟨fun _ => ?_, fun q => absurd q (by omega)⟩
    refine blk bk_l_harm_89 ?_
    simp (disch := omega) only [vcb, step, ↓pI_c, ↓pL_c, ↓pR_c, ↓pA_c, isI_c, isL_c, isL_i, isL_r, isL_j, isA_c, inc_c, stO, fV, cZ, sw, List.getD_cons_zero, List.getD_cons_succ, List.set_cons_zero, List.set_cons_succ, List.take_succ_cons, List.take_zero, List.drop_succ_cons, List.drop_zero, List.reverse_cons, List.reverse_nil, List.nil_append, List.cons_append, List.append_nil, Option.toList_some, Option.toList_none, List.length_cons, List.length_nil, Nat.reduceAdd, Nat.reduceSub, Nat.reduceLeDiff, Nat.reduceEqDiff, Nat.add_eq, not_false_eq_true, not_true_eq_false, true_and, and_true, false_or, or_true, true_or, or_false, and_self, one_ne_zero_nat, w32_id, w32_n, Int.toNat_natCast, Int.reduceToNat, Nat.zero_add, Nat.zero_le, Nat.le_refl, Int.reduceEq, Int.reduceLT, Int.reduceLE, Int.reduceAdd, Int.reduceSub, Int.reduceMul, t_imp, f_imp]
    exact hQ M (fun _ _ => rfl)
  | succ k ih =>
    intro mo sum ti M v6 v7 hi hs hR h2 h3 hta hti hQ
    refine blk bk_l_harm_17 ?_
    simp (disch := omega) only [vcb, step, ↓pI_c, ↓pL_c, ↓pR_c, ↓pA_c, isI_c, isL_c, isL_i, isL_r, isL_j, isA_c, inc_c, stO, fV, cZ, sw, List.getD_cons_zero, List.getD_cons_succ, List.set_cons_zero, List.set_cons_succ, List.take_succ_cons, List.take_zero, List.drop_succ_cons, List.drop_zero, List.reverse_cons, List.reverse_nil, List.nil_append, List.cons_append, List.append_nil, Option.toList_some, Option.toList_none, List.length_cons, List.length_nil, Nat.reduceAdd, Nat.reduceSub, Nat.reduceLeDiff, Nat.reduceEqDiff, Nat.add_eq, not_false_eq_true, not_true_eq_false, true_and, and_true, false_or, or_true, true_or, or_false, and_self, one_ne_zero_nat, w32_id, w32_n, Int.toNat_natCast, Int.reduceToNat, Nat.zero_add, Nat.zero_le, Nat.le_refl, Int.reduceEq, Int.reduceLT, Int.reduceLE, Int.reduceAdd, Int.reduceSub, Int.reduceMul, t_imp, f_imp, hL.1]
    refine ⟨fun q => absurd q (by omega), fun _ => ⟨by omega, ?_⟩⟩
    refine s_l_grazers (by omega) hL hT hok hR.1 hR.2.2.1 htt h2 hlo hta (fun p hp => by have := hti p hp; have := (hok.2.2.2.2.2.2.2.1 p hp).2.1; omega) ?_
    have hg := grF_lt (td := td) (ti := ti) (lo := lo) (tt := tt) o1 (tdRo td)
    have hS := lwS_le (lo := lo) (met := met) (mo := mo) (g := grF td ti lo tt (tdRo td)) hok hti (tdN td) (Nat.le_refl _)
    have hQ2 : ∀ M' : aM, (∀ c, c ≠ rfA G (rfA G l 0) 5 → M' c = M c) → Q (some (vI ((sum + (lwS td lo met mo (grF td ti lo tt (tdRo td)) ti (tdN td) + lawF td lo met tt k (mo + 1) (lwT td lo met mo (grF td ti lo tt (tdRo td)) ti)) : Nat) : Int))) G M' := hQ
    generalize grF td ti lo tt (tdRo td) = g at *
    refine blk bk_l_harm_30 ?_
    simp (disch := omega) only [vcb, step, ↓pI_c, ↓pL_c, ↓pR_c, ↓pA_c, isI_c, isL_c, isL_i, isL_r, isL_j, isA_c, inc_c, stO, fV, cZ, sw, List.getD_cons_zero, List.getD_cons_succ, List.set_cons_zero, List.set_cons_succ, List.take_succ_cons, List.take_zero, List.drop_succ_cons, List.drop_zero, List.reverse_cons, List.reverse_nil, List.nil_append, List.cons_append, List.append_nil, Option.toList_some, Option.toList_none, List.length_cons, List.length_nil, Nat.reduceAdd, Nat.reduceSub, Nat.reduceLeDiff, Nat.reduceEqDiff, Nat.add_eq, not_false_eq_true, not_true_eq_false, true_and, and_true, false_or, or_true, true_or, or_false, and_self, one_ne_zero_nat, w32_id, w32_n, Int.toNat_natCast, Int.reduceToNat, Nat.zero_add, Nat.zero_le, Nat.le_refl, Int.reduceEq, Int.reduceLT, Int.reduceLE, Int.reduceAdd, Int.reduceSub, Int.reduceMul, t_imp, f_imp]
    have e0 : ((sum : Nat) : Int) = ((sum + lwS td lo met mo g ti 0 : Nat) : Int) := rfl
    rw [e0]
    refine harm_names hρ hL hT hok hd hR (by omega) hg h2 hlo h3 hm2 hti (by omega) (tdN td) 0 M (by omega) (fun _ _ => rfl) (fun p hp => by rw [if_neg (by omega)]; exact hta p hp) (fun M' q1 q2 => ?_)
    refine blk bk_l_harm_83 ?_
    simp (disch := omega) only [vcb, step, ↓pI_c, ↓pL_c, ↓pR_c, ↓pA_c, isI_c, isL_c, isL_i, isL_r, isL_j, isA_c, inc_c, stO, fV, cZ, sw, List.getD_cons_zero, List.getD_cons_succ, List.set_cons_zero, List.set_cons_succ, List.take_succ_cons, List.take_zero, List.drop_succ_cons, List.drop_zero, List.reverse_cons, List.reverse_nil, List.nil_append, List.cons_append, List.append_nil, Option.toList_some, Option.toList_none, List.length_cons, List.length_nil, Nat.reduceAdd, Nat.reduceSub, Nat.reduceLeDiff, Nat.reduceEqDiff, Nat.add_eq, not_false_eq_true, not_true_eq_false, true_and, and_true, false_or, or_true, true_or, or_false, and_self, one_ne_zero_nat, w32_id, w32_n, Int.toNat_natCast, Int.reduceToNat, Nat.zero_add, Nat.zero_le, Nat.le_refl, Int.reduceEq, Int.reduceLT, Int.reduceLE, Int.reduceAdd, Int.reduceSub, Int.reduceMul, t_imp, f_imp]
    refine ih (mo + 1) (sum + lwS td lo met mo g ti (tdN td)) (lwT td lo met mo g ti) M' _ _ (by omega) (by omega) (RT_now hN hT hd hR (fun c _ h => q1 c h)) (by rw [q1 _ n1]; exact h2) (by rw [q1 _ n1]; exact h3) q2 (fun p hp => lwT_le hok hp (hti p hp)) (fun M2 q3 => ?_)
    rw [Nat.add_assoc]
    exact hQ2 M2 (fun c hc => by rw [q3 c hc, q1 c hc])
theorem s_l_harm {l t b tt lo met mo : Nat} {td : TD} {ti : Nat → Nat} (hρ : 3 ≤ ρ) (hL : LwS G l) (hT : TS G t) (hB : NS G b) (hok : TDok td) (hd : TN G t (rfA G l 0)) (hlb : rfA G l 0 ≠ b) (hlb5 : rfA G (rfA G l 0) 5 ≠ rfA G b 5) (hlo : lo < 64) (hm2 : met < 2147483648) (htt : tt ≤ 30) (hR : RT G M t td) (h0 : M b 0 = (mo : Int)) (hmo : mo ≤ 12) (h2 : M b 2 = (lo : Int)) (h3 : M b 3 = (met : Int)) (h5 : ∀ p, p < tdN td → M (rfA G b 5) p = (ti p : Int)) (hti : ∀ p, p < tdN td → ti p ≤ tdS td p)
    (hQ : ∀ M' : aM, (∀ c, c ≠ rfA G l 0 → c ≠ rfA G (rfA G l 0) 5 → M' c = M c) → Q (some (vI (lawF td lo met tt (12 - mo) mo ti : Nat))) G M') : WPm Γ ρ 0 14 [vR (some l), vR (some t), vR (some b), vI tt] G M Q := by
  have hN := hL.2.2
  have o1 := hok.1
  have n2 : b ≠ rfA G (rfA G l 0) 5 := (ne_AO hN.2.2 hB.1).symm
  refine WPm_of (L := [vR (some l), vR (some t), vR (some b), vI tt, vJ, vJ, vJ, vJ]) 4 (by decide) (Nat.le_of_ble_eq_true rfl) rfl ?_
  refine blk bk_l_harm_0 ?_
  simp (disch := omega) only [vcb, step, ↓pI_c, ↓pL_c, ↓pR_c, ↓pA_c, isI_c, isL_c, isL_i, isL_r, isL_j, isA_c, inc_c, stO, fV, cZ, sw, List.getD_cons_zero, List.getD_cons_succ, List.set_cons_zero, List.set_cons_succ, List.take_succ_cons, List.take_zero, List.drop_succ_cons, List.drop_zero, List.reverse_cons, List.reverse_nil, List.nil_append, List.cons_append, List.append_nil, Option.toList_some, Option.toList_none, List.length_cons, List.length_nil, Nat.reduceAdd, Nat.reduceSub, Nat.reduceLeDiff, Nat.reduceEqDiff, Nat.add_eq, not_false_eq_true, not_true_eq_false, true_and, and_true, false_or, or_true, true_or, or_false, and_self, one_ne_zero_nat, w32_id, w32_n, Int.toNat_natCast, Int.reduceToNat, Nat.zero_add, Nat.zero_le, Nat.le_refl, Int.reduceEq, Int.reduceLT, Int.reduceLE, Int.reduceAdd, Int.reduceSub, Int.reduceMul, t_imp, f_imp, hL.1, hL.2.1, hN.1]
  refine ⟨by omega, s_n_become (by omega) hN hB hlb hlb5 (fun M1 q1 q2 q3 => ?_)⟩
  have e0 : M1 b 0 = (mo : Int) := by rw [q3 b hlb.symm n2]; exact h0
  refine blk bk_l_harm_8 ?_
  simp (disch := omega) only [vcb, step, ↓pI_c, ↓pL_c, ↓pR_c, ↓pA_c, isI_c, isL_c, isL_i, isL_r, isL_j, isA_c, inc_c, stO, fV, cZ, sw, List.getD_cons_zero, List.getD_cons_succ, List.set_cons_zero, List.set_cons_succ, List.take_succ_cons, List.take_zero, List.drop_succ_cons, List.drop_zero, List.reverse_cons, List.reverse_nil, List.nil_append, List.cons_append, List.append_nil, Option.toList_some, Option.toList_none, List.length_cons, List.length_nil, Nat.reduceAdd, Nat.reduceSub, Nat.reduceLeDiff, Nat.reduceEqDiff, Nat.add_eq, not_false_eq_true, not_true_eq_false, true_and, and_true, false_or, or_true, true_or, or_false, and_self, one_ne_zero_nat, w32_id, w32_n, Int.toNat_natCast, Int.reduceToNat, Nat.zero_add, Nat.zero_le, Nat.le_refl, Int.reduceEq, Int.reduceLT, Int.reduceLE, Int.reduceAdd, Int.reduceSub, Int.reduceMul, t_imp, f_imp, hB.1, e0]
  refine harm_months hρ hL hT hok hd hlo hm2 htt (12 - mo) mo 0 ti M1 vJ vJ (by omega) (by omega) (RT_now hN hT hd hR q3) (by rw [q1 2 (by decide)]; exact h2) (by rw [q1 3 (by decide)]; exact h3) (fun p hp => by rw [q2 p (by omega)]; exact h5 p hp) hti (fun M2 q4 => ?_)
  rw [Nat.zero_add]
  exact hQ M2 (fun c c1 c2 => by rw [q4 c c2, q3 c c1 c2])
/-- the best of the first laws: its number, its harm -/
def beF (f : Nat → Nat) : Nat → Nat × Nat
  | 0 => (0, 2147483647)
  | i + 1 => if f i < (beF f i).2 then (i, f i) else beF f i
theorem beF_le {f : Nat → Nat} (h : ∀ i, f i ≤ 100000) : ∀ i, (beF f i).1 ≤ i ∧ (beF f i).2 ≤ 2147483647 := by
  intro i
  induction i with
  | zero => exact ⟨Nat.le_refl 0, Nat.le_refl _⟩
  | succ i ih =>
    have := h i
    unfold beF
    split
    · exact ⟨by dsimp only; omega, by dsimp only; omega⟩
    · exact ⟨by omega, ih.2⟩
theorem s_l_best {l t b lo met mo : Nat} {td : TD} {ti : Nat → Nat} (hρ : 4 ≤ ρ) (hL : LwS G l) (hT : TS G t) (hB : NS G b) (hok : TDok td) (hd : TN G t (rfA G l 0)) (hlb : rfA G l 0 ≠ b) (hlb5 : rfA G (rfA G l 0) 5 ≠ rfA G b 5) (hlo : lo < 64) (hm2 : met < 2147483648) (hR : RT G M t td) (h0 : M b 0 = (mo : Int)) (hmo : mo ≤ 12) (h2 : M b 2 = (lo : Int)) (h3 : M b 3 = (met : Int)) (h5 : ∀ p, p < tdN td → M (rfA G b 5) p = (ti p : Int)) (hti : ∀ p, p < tdN td → ti p ≤ tdS td p)
    (hQ : ∀ M' : aM, (∀ c, c ≠ rfA G l 0 → c ≠ rfA G (rfA G l 0) 5 → M' c = M c) → Q (some (vI ((beF (fun tt => lawF td lo met tt (12 - mo) mo ti) 31).1 : Nat))) G M') : WPm Γ ρ 0 15 [vR (some l), vR (some t), vR (some b)] G M Q := by
  have hN := hL.2.2
  have n2 : b ≠ rfA G (rfA G l 0) 5 := (ne_AO hN.2.2 hB.1).symm
  have n3 : rfA G b 5 ≠ rfA G l 0 := ne_AO hB.2.2 hN.1
  have hle : ∀ tt, lawF td lo met tt (12 - mo) mo ti ≤ 100000 := fun tt => by have := lawF_le (lo := lo) (met := met) (tt := tt) hok (12 - mo) mo ti hti; omega
  have loop : ∀ (k i : Nat) (M1 : aM) (v : aV), i + k = 31 → (∀ c, c ≠ rfA G l 0 → c ≠ rfA G (rfA G l 0) 5 → M1 c = M c) → WP Γ ρ 0 15 9 [vR (some l), vR (some t), vR (some b), vI ((beF (fun tt => lawF td lo met tt (12 - mo) mo ti) i).1 : Nat), vI ((beF (fun tt => lawF td lo met tt (12 - mo) mo ti) i).2 : Nat), vI i, v] [] G M1 Q := by
    intro k
    induction k with
    | zero =>
      intro i M1 v hi hM
      obtain rfl : i = 31 := by omega
      have hb := beF_le hle 31
      refine blk bk_l_best_9 ?_
      simp (disch := omega) only [vcb, step, ↓pI_c, ↓pL_c, ↓pR_c, ↓pA_c, isI_c, isL_c, isL_i, isL_r, isL_j, isA_c, inc_c, stO, fV, cZ, sw, List.getD_cons_zero, List.getD_cons_succ, List.set_cons_zero, List.set_cons_succ, List.take_succ_cons, List.take_zero, List.drop_succ_cons, List.drop_zero, List.reverse_cons, List.reverse_nil, List.nil_append, List.cons_append, List.append_nil, Option.toList_some, Option.toList_none, List.length_cons, List.length_nil, Nat.reduceAdd, Nat.reduceSub, Nat.reduceLeDiff, Nat.reduceEqDiff, Nat.add_eq, not_false_eq_true, not_true_eq_false, true_and, and_true, false_or, or_true, true_or, or_false, and_self, one_ne_zero_nat, w32_id, w32_n, Int.toNat_natCast, Int.reduceToNat, Nat.zero_add, Nat.zero_le, Nat.le_refl, Int.reduceEq, Int.reduceLT, Int.reduceLE, Int.reduceAdd, Int.reduceSub, Int.reduceMul, t_imp, f_imp]
      refine ⟨fun _ => ?_, fun q => absurd (by decide) q⟩
      refine blk bk_l_best_46 ?_
      simp (disch := omega) only [vcb, step, ↓pI_c, ↓pL_c, ↓pR_c, ↓pA_c, isI_c, isL_c, isL_i, isL_r, isL_j, isA_c, inc_c, stO, fV, cZ, sw, List.getD_cons_zero, List.getD_cons_succ, List.set_cons_zero, List.set_cons_succ, List.take_succ_cons, List.take_zero, List.drop_succ_cons, List.drop_zero, List.reverse_cons, List.reverse_nil, List.nil_append, List.cons_append, List.append_nil, Option.toList_some, Option.toList_none, List.length_cons, List.length_nil, Nat.reduceAdd, Nat.reduceSub, Nat.reduceLeDiff, Nat.reduceEqDiff, Nat.add_eq, not_false_eq_true, not_true_eq_false, true_and, and_true, false_or, or_true, true_or, or_false, and_self, one_ne_zero_nat, w32_id, w32_n, Int.toNat_natCast, Int.reduceToNat, Nat.zero_add, Nat.zero_le, Nat.le_refl, Int.reduceEq, Int.reduceLT, Int.reduceLE, Int.reduceAdd, Int.reduceSub, Int.reduceMul, t_imp, f_imp]
      exact hQ M1 hM
    | succ k ih =>
      intro i M1 v hi hM
      have hb := beF_le hle i
      have hf := hle i
      refine blk bk_l_best_9 ?_
      simp (disch := omega) only [vcb, step, ↓pI_c, ↓pL_c, ↓pR_c, ↓pA_c, isI_c, isL_c, isL_i, isL_r, isL_j, isA_c, inc_c, stO, fV, cZ, sw, List.getD_cons_zero, List.getD_cons_succ, List.set_cons_zero, List.set_cons_succ, List.take_succ_cons, List.take_zero, List.drop_succ_cons, List.drop_zero, List.reverse_cons, List.reverse_nil, List.nil_append, List.cons_append, List.append_nil, Option.toList_some, Option.toList_none, List.length_cons, List.length_nil, Nat.reduceAdd, Nat.reduceSub, Nat.reduceLeDiff, Nat.reduceEqDiff, Nat.add_eq, not_false_eq_true, not_true_eq_false, true_and, and_true, false_or, or_true, true_or, or_false, and_self, one_ne_zero_nat, w32_id, w32_n, Int.toNat_natCast, Int.reduceToNat, Nat.zero_add, Nat.zero_le, Nat.le_refl, Int.reduceEq, Int.reduceLT, Int.reduceLE, Int.reduceAdd, Int.reduceSub, Int.reduceMul, t_imp, f_imp, hL.1]
      refine ⟨fun q => absurd q (by omega), fun _ => ⟨by omega, ?_⟩⟩
      refine s_l_harm (tt := i) (by omega) hL hT hB hok hd hlb hlb5 hlo hm2 (by omega) (RT_now hN hT hd hR hM) (by rw [hM b hlb.symm n2]; exact h0) hmo (by rw [hM b hlb.symm n2]; exact h2) (by rw [hM b hlb.symm n2]; exact h3) (fun p hp => by rw [hM _ n3 hlb5.symm]; exact h5 p hp) hti (fun M2 q2 => ?_)
      have hM2 : ∀ c, c ≠ rfA G l 0 → c ≠ rfA G (rfA G l 0) 5 → M2 c = M c := fun c c1 c2 => by rw [q2 c c1 c2, hM c c1 c2]
      have eb : beF (fun tt => lawF td lo met tt (12 - mo) mo ti) (i + 1) = if lawF td lo met i (12 - mo) mo ti < (beF (fun tt => lawF td lo met tt (12 - mo) mo ti) i).2 then (i, lawF td lo met i (12 - mo) mo ti) else beF (fun tt => lawF td lo met tt (12 - mo) mo ti) i := rfl
      have hn := ih (i + 1) M2 (vI (lawF td lo met i (12 - mo) mo ti : Nat)) (by omega) hM2
      generalize beF (fun tt => lawF td lo met tt (12 - mo) mo ti) i = be at *
      generalize lawF td lo met i (12 - mo) mo ti = fi at *
      refine blk bk_l_best_24 ?_
      simp (disch := omega) only [vcb, step, ↓pI_c, ↓pL_c, ↓pR_c, ↓pA_c, isI_c, isL_c, isL_i, isL_r, isL_j, isA_c, inc_c, stO, fV, cZ, sw, List.getD_cons_zero, List.getD_cons_succ, List.set_cons_zero, List.set_cons_succ, List.take_succ_cons, List.take_zero, List.drop_succ_cons, List.drop_zero, List.reverse_cons, List.reverse_nil, List.nil_append, List.cons_append, List.append_nil, Option.toList_some, Option.toList_none, List.length_cons, List.length_nil, Nat.reduceAdd, Nat.reduceSub, Nat.reduceLeDiff, Nat.reduceEqDiff, Nat.add_eq, not_false_eq_true, not_true_eq_false, true_and, and_true, false_or, or_true, true_or, or_false, and_self, one_ne_zero_nat, w32_id, w32_n, Int.toNat_natCast, Int.reduceToNat, Nat.zero_add, Nat.zero_le, Nat.le_refl, Int.reduceEq, Int.reduceLT, Int.reduceLE, Int.reduceAdd, Int.reduceSub, Int.reduceMul, t_imp, f_imp]
      refine ⟨fun h1 => ?_, fun h1 => ?_⟩
      · rw [eb, if_neg (by omega)] at hn
        refine blk bk_l_best_40 ?_
        simp (disch := omega) only [vcb, step, ↓pI_c, ↓pL_c, ↓pR_c, ↓pA_c, isI_c, isL_c, isL_i, isL_r, isL_j, isA_c, inc_c, stO, fV, cZ, sw, List.getD_cons_zero, List.getD_cons_succ, List.set_cons_zero, List.set_cons_succ, List.take_succ_cons, List.take_zero, List.drop_succ_cons, List.drop_zero, List.reverse_cons, List.reverse_nil, List.nil_append, List.cons_append, List.append_nil, Option.toList_some, Option.toList_none, List.length_cons, List.length_nil, Nat.reduceAdd, Nat.reduceSub, Nat.reduceLeDiff, Nat.reduceEqDiff, Nat.add_eq, not_false_eq_true, not_true_eq_false, true_and, and_true, false_or, or_true, true_or, or_false, and_self, one_ne_zero_nat, w32_id, w32_n, Int.toNat_natCast, Int.reduceToNat, Nat.zero_add, Nat.zero_le, Nat.le_refl, Int.reduceEq, Int.reduceLT, Int.reduceLE, Int.reduceAdd, Int.reduceSub, Int.reduceMul, t_imp, f_imp]
        exact hn
      · rw [eb, if_pos (by omega)] at hn
        refine blk bk_l_best_40 ?_
        simp (disch := omega) only [vcb, step, ↓pI_c, ↓pL_c, ↓pR_c, ↓pA_c, isI_c, isL_c, isL_i, isL_r, isL_j, isA_c, inc_c, stO, fV, cZ, sw, List.getD_cons_zero, List.getD_cons_succ, List.set_cons_zero, List.set_cons_succ, List.take_succ_cons, List.take_zero, List.drop_succ_cons, List.drop_zero, List.reverse_cons, List.reverse_nil, List.nil_append, List.cons_append, List.append_nil, Option.toList_some, Option.toList_none, List.length_cons, List.length_nil, Nat.reduceAdd, Nat.reduceSub, Nat.reduceLeDiff, Nat.reduceEqDiff, Nat.add_eq, not_false_eq_true, not_true_eq_false, true_and, and_true, false_or, or_true, true_or, or_false, and_self, one_ne_zero_nat, w32_id, w32_n, Int.toNat_natCast, Int.reduceToNat, Nat.zero_add, Nat.zero_le, Nat.le_refl, Int.reduceEq, Int.reduceLT, Int.reduceLE, Int.reduceAdd, Int.reduceSub, Int.reduceMul, t_imp, f_imp]
        exact hn
  refine WPm_of (L := [vR (some l), vR (some t), vR (some b), vJ, vJ, vJ, vJ]) 4 (by decide) (Nat.le_of_ble_eq_true rfl) rfl ?_
  refine blk bk_l_best_0 ?_
  simp (disch := omega) only [vcb, step, ↓pI_c, ↓pL_c, ↓pR_c, ↓pA_c, isI_c, isL_c, isL_i, isL_r, isL_j, isA_c, inc_c, stO, fV, cZ, sw, List.getD_cons_zero, List.getD_cons_succ, List.set_cons_zero, List.set_cons_succ, List.take_succ_cons, List.take_zero, List.drop_succ_cons, List.drop_zero, List.reverse_cons, List.reverse_nil, List.nil_append, List.cons_append, List.append_nil, Option.toList_some, Option.toList_none, List.length_cons, List.length_nil, Nat.reduceAdd, Nat.reduceSub, Nat.reduceLeDiff, Nat.reduceEqDiff, Nat.add_eq, not_false_eq_true, not_true_eq_false, true_and, and_true, false_or, or_true, true_or, or_false, and_self, one_ne_zero_nat, w32_id, w32_n, Int.toNat_natCast, Int.reduceToNat, Nat.zero_add, Nat.zero_le, Nat.le_refl, Int.reduceEq, Int.reduceLT, Int.reduceLE, Int.reduceAdd, Int.reduceSub, Int.reduceMul, t_imp, f_imp]
  exact loop 31 0 M vJ (by omega) (fun _ _ _ => rfl)
end LAW2
