/-! ===== the class's plan: choose ===== -/
def cZF (ad : Nat → Nat) (M M' : aM) : Prop := (∀ c, c ≠ ad 51 → c ≠ ad 71 → c ≠ ad 72 → c ≠ ad 73 → M' c = M c) ∧ ∀ k, k ≠ 10 → M' (ad 51) k = M (ad 51) k
theorem cZF_r (ad : Nat → Nat) (M : aM) : cZF ad M M := ⟨fun _ _ _ _ _ => rfl, fun _ _ => rfl⟩
theorem cZF_t {ad : Nat → Nat} {M M' M2 : aM} (h1 : cZF ad M M') (h2 : cZF ad M' M2) : cZF ad M M2 := ⟨fun c a b d e => (h2.1 c a b d e).trans (h1.1 c a b d e), fun k a => (h2.2 k a).trans (h1.2 k a)⟩
def pSt (M : aM) (ad : Nat → Nat) (σ : SG) (n md : Nat) : Prop := M (ad 51) 9 = (tdN (gTd σ) : Int) ∧ M (ad 51) 8 = (md : Int) ∧ (∀ q, q ≤ tdN (gTd σ) → M (ad 70) q = (plLf (plLm σ n) (tdN (gTd σ) - q) q : Int)) ∧ ∀ q, q < tdN (gTd σ) → pRow M ad σ n q
theorem pSt_k {G : aG} {M M' : aM} {ad : Nat → Nat} {σ : SG} {n md : Nat} (hB : CB G ad) (h6 : tdN (gTd σ) ≤ 6) (h : cZF ad M M') (hp : pSt M ad σ n md) : pSt M' ad σ n md := by
  have e : ∀ i, i < 71 → i ≠ 51 → M' (ad i) = M (ad i) := fun i a b => h.1 _ (cb_ne hB (by omega) (by decide) b) (cb_ne hB (by omega) (by decide) (by omega)) (cb_ne hB (by omega) (by decide) (by omega)) (cb_ne hB (by omega) (by decide) (by omega))
  refine ⟨(h.2 9 (by decide)).trans hp.1, (h.2 8 (by decide)).trans hp.2.1, fun q hq => by rw [e 70 (by decide) (by decide)]; exact hp.2.2.1 q hq, fun q hq => ?_⟩
  unfold pRow
  rw [e 69 (by decide) (by decide), e (56 + q) (by omega) (by omega), e (63 + q) (by omega) (by omega)]
  exact hp.2.2.2 q hq
/-- the number that is kept for having come to name p with this meadow and harm -/
def plE (md p μ h : Nat) : Nat := ((md * 8 + p) * 1048576 + μ) * 128 + h
theorem plE_inj {md p μ h p' μ' h' : Nat} (h1 : μ < 1048576) (h2 : h < 128) (h3 : μ' < 1048576) (h4 : h' < 128) (e : plE md p μ h = plE md p' μ' h') : p = p' ∧ μ = μ' ∧ h = h' := by
  unfold plE at e
  omega
def pEn (M : aM) (ad : Nat → Nat) (md p i : Nat) : Prop := ∃ p' μ' h', p ≤ p' ∧ p' < 8 ∧ μ' < 1048576 ∧ h' < 128 ∧ M (ad 72) i = (plE md p' μ' h' : Int)
/-- what was reached already does not give less than L -/
def pIn (M : aM) (ad : Nat → Nat) (σ : SG) (n md p L : Nat) : Prop := ∀ i, i < 1021 → ∀ p' μ' h', p ≤ p' → p' < 8 → μ' < 1048576 → h' < 128 → M (ad 72) i = (plE md p' μ' h' : Int) → L ≤ h' + plMh (plC σ n) (plK σ n) (2 ^ n) (tdN (gTd σ) - p') p' μ'
def pEb (M : aM) (ad : Nat → Nat) (md : Nat) : Prop := ∀ i, i < 1021 → 0 ≤ M (ad 72) i ∧ M (ad 72) i < 1073741824 * ((md : Int) + 1)
theorem pEb_n {M M' : aM} {ad : Nat → Nat} {md p : Nat} (h : pEb M ad md) (he : ∀ i, i < 1021 → M' (ad 72) i = M (ad 72) i ∨ pEn M' ad md p i) : pEb M' ad md := by
  intro i hi
  rcases he i hi with e | ⟨p', μ', h', a, b, c, d, e⟩
  · rw [e]
    exact h i hi
  · rw [e]
    unfold plE
    omega
theorem plFe_lt {μ w : Nat} (hw : w < 32) (hμ : μ < 524288) (h : plFe μ w = true) : μ + plIb w < 524288 := by
  have f := (fin_ib w hw).2
  have h1 : (μ + plIb w) &&& 559240 = 0 := of_decide_eq_true h
  have h2 : ((μ + plIb w) &&& 559240).testBit 19 = false := by rw [h1]; exact Nat.zero_testBit 19
  rw [Nat.testBit_and, show (559240 : Nat).testBit 19 = true by decide, Bool.and_true] at h2
  have h3 : bt (μ + plIb w) 19 = 0 := by rw [bt_t, h2]; rfl
  unfold bt at h3
  omega
section CHOOSE
variable {Γ : aR} {ρ κ bd : Nat} {G : aG} {M : aM} {Q : aQ} {ad : Nat → Nat} {σ : SG}
theorem s_p_choose {n md : Nat} (hB : CB G ad) (hS : SOK σ) (hn1 : 1 ≤ n) (hn : n ≤ 5) (hmd : md ≤ 900) : ∀ (k p μ h L : Nat) (M : aM) (Q : aQ) (ρ : Nat), k + 4 ≤ ρ → p + k = tdN (gTd σ) → μ < 524288 → h ≤ smF (plHa (gTd σ)) p → L ≤ 2147483647 → pSt M ad σ n md → M (ad 51) 10 = (L : Int) → pEb M ad md → pIn M ad σ n md p L →
    (∀ (M' : aM) (L' : Nat), L' ≤ L → cZF ad M M' → M' (ad 51) 10 = (L' : Int) → (∀ i, i < 1021 → M' (ad 72) i = M (ad 72) i ∨ pEn M' ad md p i) → pIn M' ad σ n md p L' → (∀ q, q < p → M' (ad 71) q = M (ad 71) q) →
      ((h + plMh (plC σ n) (plK σ n) (2 ^ n) k p μ < L ∧ L' = h + plMh (plC σ n) (plK σ n) (2 ^ n) k p μ ∧ (∀ q, q < p → M' (ad 73) q = M (ad 71) q) ∧ ∀ q, p ≤ q → q < tdN (gTd σ) → M' (ad 73) q = (plBp (plC σ n) (plK σ n) (2 ^ n) k p μ q : Int)) ∨ (L ≤ h + plMh (plC σ n) (plK σ n) (2 ^ n) k p μ ∧ L' = L ∧ ∀ q, q < tdN (gTd σ) → M' (ad 73) q = M (ad 73) q)) → Q none G M') → WPm Γ ρ 0 34 [vR (some (ad 51)), vI p, vI μ, vI h] G M Q := by
  have h6 : tdN (gTd σ) ≤ 6 := hS.1.1
  have pw : 2 ^ n ≤ 32 := Nat.pow_le_pow_right (n := 2) (by decide) hn
  have n517 : ad 71 ≠ ad 51 := cb_ne hB (by decide) (by decide) (by decide)
  have n518 : ad 72 ≠ ad 51 := cb_ne hB (by decide) (by decide) (by decide)
  have n519 : ad 73 ≠ ad 51 := cb_ne hB (by decide) (by decide) (by decide)
  have n78 : ad 71 ≠ ad 72 := cb_ne hB (by decide) (by decide) (by decide)
  have n79 : ad 71 ≠ ad 73 := cb_ne hB (by decide) (by decide) (by decide)
  have n89 : ad 72 ≠ ad 73 := cb_ne hB (by decide) (by decide) (by decide)
  have hsum := plHa_s hS.1
  intro k
  induction k with
  | zero =>
    intro p μ h L M Q ρ hρ hp hμ hh hL hSt h10 hEb hIn hQ
    obtain rfl : p = tdN (gTd σ) := by omega
    have l0 : M (ad 70) (tdN (gTd σ)) = 0 := by
      rw [hSt.2.2.1 _ (Nat.le_refl _), Nat.sub_self]
      rfl
    have hQ : ∀ (M' : aM) (L' : Nat), L' ≤ L → cZF ad M M' → M' (ad 51) 10 = (L' : Int) → (∀ i, i < 1021 → M' (ad 72) i = M (ad 72) i ∨ pEn M' ad md (tdN (gTd σ)) i) → pIn M' ad σ n md (tdN (gTd σ)) L' → (∀ q, q < tdN (gTd σ) → M' (ad 71) q = M (ad 71) q) →
      ((h + 0 < L ∧ L' = h + 0 ∧ (∀ q, q < tdN (gTd σ) → M' (ad 73) q = M (ad 71) q) ∧ ∀ q, tdN (gTd σ) ≤ q → q < tdN (gTd σ) → M' (ad 73) q = (plBp (plC σ n) (plK σ n) (2 ^ n) 0 (tdN (gTd σ)) μ q : Int)) ∨ (L ≤ h + 0 ∧ L' = L ∧ ∀ q, q < tdN (gTd σ) → M' (ad 73) q = M (ad 73) q)) → Q none G M' := hQ
    have j70 : inA G (ad 70) 0 (tdN (gTd σ) : Int) := in_of (cA70 hB) (by omega) (by omega) (by decide)
    have s9 := hSt.1
    have no : L ≤ h → WP Γ ρ 0 34 23 [vR (some (ad 51)), vI (tdN (gTd σ) : Nat), vI μ, vI h, vJ, vJ] [] G M Q := by
      intro hl
      have hq := hQ M L (Nat.le_refl _) (cZF_r _ _) h10 (fun _ _ => .inl rfl) hIn (fun _ _ => rfl) (.inr ⟨by omega, rfl, fun _ _ => rfl⟩)
      clear hQ
      refine blk bk_p_choose_23 ?_
      simp (disch := omega) only [st_iconst, st_bipush, st_sipush, st_ldc, st_ldc_w, st_lconst, st_ldc2_w, st_iload_n, st_iload, st_lload_n, st_lload, st_aload_n, st_aload, st_istore_n, st_istore, st_lstore_n, st_lstore, st_astore_n, st_astore, st_iinc, st_iadd, st_isub, st_imul, st_idiv, st_irem, st_iand, st_ior, st_ixor, st_ishl, st_ishr, st_iushr, st_ladd, st_lmul, st_ldiv, st_lrem, st_land, st_lor, st_lxor, st_lshl, st_lshr, st_lcmp, st_i2l, st_l2i, st_i2c, st_dup, st_pop, st_dup2, st_iaload0, st_iaload1, st_caload, st_baload, st_laload, st_aaload, st_iastore, st_castore, st_bastore, st_lastore, st_aastore, st_arraylength0, st_arraylength1, st_getfield, st_putfield0, st_putfield1, st_putfield2, st_putfield3, st_getstatic, st_new, st_newarray, st_anewarray, st_goto, st_ifCond, st_if_icmp, st_tableswitch, st_lookupswitch, st_ireturn, st_lreturn, st_return, st_invokevirtual, st_invokestatic0, st_invokestatic1, st_invokespecial0, st_invokespecial1, cZ_eq, cZ_ne, cZ_lt, cZ_ge, cZ_gt, cZ_le, vcb_n, vcb_c, sw_n, sw_c, ↓pI_d, ↓pL_d, ↓pR_d, ↓pA_d, isI_d, isL_d, isL_di, isL_dr, isL_dj, isA_d, inc_c, stO, fV, List.getD_cons_zero, List.getD_cons_succ, List.set_cons_zero, List.set_cons_succ, List.take_succ_cons, List.take_zero, List.drop_succ_cons, List.drop_zero, List.reverse_cons, List.reverse_nil, List.nil_append, List.cons_append, List.append_nil, Option.toList_some, Option.toList_none, List.length_cons, List.length_nil, Nat.reduceAdd, Nat.reduceSub, Nat.reduceLeDiff, Nat.reduceEqDiff, Nat.add_eq, not_false_eq_true, not_true_eq_false, true_and, and_true, false_or, or_true, true_or, or_false, and_self, one_ne_zero_nat, w32_id, w32_n, Int.toNat_natCast, Int.reduceToNat, Nat.zero_add, Nat.zero_le, Nat.le_refl, Int.reduceEq, Int.reduceLT, Int.reduceLE, Int.reduceAdd, Int.reduceSub, Int.reduceMul, t_imp, f_imp]
      exact hq
    have yes : h < L → WP Γ ρ 0 34 24 [vR (some (ad 51)), vI (tdN (gTd σ) : Nat), vI μ, vI h, vJ, vJ] [] G M Q := by
      intro hl
      have hq := fun M' a b c d e f => hQ M' h (by omega) a b c d e f
      clear hQ no
      have s9' : wr M (ad 51) 10 (h : Int) (ad 51) 9 = (tdN (gTd σ) : Int) := by rw [wr_o _ _ (by decide)]; exact s9
      refine blk bk_p_choose_24 ?_
      simp (disch := omega) only [st_iconst, st_bipush, st_sipush, st_ldc, st_ldc_w, st_lconst, st_ldc2_w, st_iload_n, st_iload, st_lload_n, st_lload, st_aload_n, st_aload, st_istore_n, st_istore, st_lstore_n, st_lstore, st_astore_n, st_astore, st_iinc, st_iadd, st_isub, st_imul, st_idiv, st_irem, st_iand, st_ior, st_ixor, st_ishl, st_ishr, st_iushr, st_ladd, st_lmul, st_ldiv, st_lrem, st_land, st_lor, st_lxor, st_lshl, st_lshr, st_lcmp, st_i2l, st_l2i, st_i2c, st_dup, st_pop, st_dup2, st_iaload0, st_iaload1, st_caload, st_baload, st_laload, st_aaload, st_iastore, st_castore, st_bastore, st_lastore, st_aastore, st_arraylength0, st_arraylength1, st_getfield, st_putfield0, st_putfield1, st_putfield2, st_putfield3, st_getstatic, st_new, st_newarray, st_anewarray, st_goto, st_ifCond, st_if_icmp, st_tableswitch, st_lookupswitch, st_ireturn, st_lreturn, st_return, st_invokevirtual, st_invokestatic0, st_invokestatic1, st_invokespecial0, st_invokespecial1, cZ_eq, cZ_ne, cZ_lt, cZ_ge, cZ_gt, cZ_le, vcb_n, vcb_c, sw_n, sw_c, ↓pI_d, ↓pL_d, ↓pR_d, ↓pA_d, isI_d, isL_d, isL_di, isL_dr, isL_dj, isA_d, inc_c, stO, fV, List.getD_cons_zero, List.getD_cons_succ, List.set_cons_zero, List.set_cons_succ, List.take_succ_cons, List.take_zero, List.drop_succ_cons, List.drop_zero, List.reverse_cons, List.reverse_nil, List.nil_append, List.cons_append, List.append_nil, Option.toList_some, Option.toList_none, List.length_cons, List.length_nil, Nat.reduceAdd, Nat.reduceSub, Nat.reduceLeDiff, Nat.reduceEqDiff, Nat.add_eq, not_false_eq_true, not_true_eq_false, true_and, and_true, false_or, or_true, true_or, or_false, and_self, one_ne_zero_nat, w32_id, w32_n, Int.toNat_natCast, Int.reduceToNat, Nat.zero_add, Nat.zero_le, Nat.le_refl, Int.reduceEq, Int.reduceLT, Int.reduceLE, Int.reduceAdd, Int.reduceSub, Int.reduceMul, t_imp, f_imp, cO51 hB, s9, s9', cR51_6 hB, cR51_11 hB]
      refine ⟨by omega, ⟨6, 6, cA71 hB, cA73 hB, by omega, by omega⟩, ?_⟩
      refine hq _ ⟨fun c a b d e => by rw [va_up_ne _ _ e, wr_c _ _ _ a], fun k hk => by rw [va_up_ne _ _ (Ne.symm n519), wr_o _ _ hk]⟩ (by rw [va_up_ne _ _ (Ne.symm n519), wr_s]) (fun i hi => .inl (by rw [va_up_ne _ _ n89, wr_c _ _ _ n518])) (fun i hi p' μ' h' a b c d e => ?_) (fun q hq => by rw [va_up_ne _ _ n79, wr_c _ _ _ n517]) (.inl ⟨by omega, by omega, fun q hq => ?_, fun q a b => absurd b (by omega)⟩)
      · rw [va_up_ne _ _ n89, wr_c _ _ _ n518] at e
        have := hIn i hi p' μ' h' a b c d e
        omega
      · rw [va_up_self, cpy_in hq, wr_c _ _ _ n517]
    clear hQ
    refine WPm_of (L := [vR (some (ad 51)), vI (tdN (gTd σ) : Nat), vI μ, vI h, vJ, vJ]) 2 (by decide) (Nat.le_of_ble_eq_true rfl) rfl ?_
    refine blk bk_p_choose_0 ?_
    simp (disch := omega) only [st_iconst, st_bipush, st_sipush, st_ldc, st_ldc_w, st_lconst, st_ldc2_w, st_iload_n, st_iload, st_lload_n, st_lload, st_aload_n, st_aload, st_istore_n, st_istore, st_lstore_n, st_lstore, st_astore_n, st_astore, st_iinc, st_iadd, st_isub, st_imul, st_idiv, st_irem, st_iand, st_ior, st_ixor, st_ishl, st_ishr, st_iushr, st_ladd, st_lmul, st_ldiv, st_lrem, st_land, st_lor, st_lxor, st_lshl, st_lshr, st_lcmp, st_i2l, st_l2i, st_i2c, st_dup, st_pop, st_dup2, st_iaload0, st_iaload1, st_caload, st_baload, st_laload, st_aaload, st_iastore, st_castore, st_bastore, st_lastore, st_aastore, st_arraylength0, st_arraylength1, st_getfield, st_putfield0, st_putfield1, st_putfield2, st_putfield3, st_getstatic, st_new, st_newarray, st_anewarray, st_goto, st_ifCond, st_if_icmp, st_tableswitch, st_lookupswitch, st_ireturn, st_lreturn, st_return, st_invokevirtual, st_invokestatic0, st_invokestatic1, st_invokespecial0, st_invokespecial1, cZ_eq, cZ_ne, cZ_lt, cZ_ge, cZ_gt, cZ_le, vcb_n, vcb_c, sw_n, sw_c, ↓pI_d, ↓pL_d, ↓pR_d, ↓pA_d, isI_d, isL_d, isL_di, isL_dr, isL_dj, isA_d, inc_c, stO, fV, List.getD_cons_zero, List.getD_cons_succ, List.set_cons_zero, List.set_cons_succ, List.take_succ_cons, List.take_zero, List.drop_succ_cons, List.drop_zero, List.reverse_cons, List.reverse_nil, List.nil_append, List.cons_append, List.append_nil, Option.toList_some, Option.toList_none, List.length_cons, List.length_nil, Nat.reduceAdd, Nat.reduceSub, Nat.reduceLeDiff, Nat.reduceEqDiff, Nat.add_eq, not_false_eq_true, not_true_eq_false, true_and, and_true, false_or, or_true, true_or, or_false, and_self, one_ne_zero_nat, w32_id, w32_n, Int.toNat_natCast, Int.reduceToNat, Nat.zero_add, Nat.zero_le, Nat.le_refl, Int.reduceEq, Int.reduceLT, Int.reduceLE, Int.reduceAdd, Int.reduceSub, Int.reduceMul, t_imp, f_imp, cO51 hB, s9, cR51_5 hB, j70, l0, h10, Int.add_zero]
    exact ⟨fun q => absurd q (by omega), fun _ => ⟨fun q => yes (by omega), fun q => no (by omega)⟩⟩
  | succ k ih =>
    intro p μ h L M Q ρ hρ hp hμ hh hL hSt h10 hEb hIn hQ
    have hpN : p < tdN (gTd σ) := by omega
    have hh2 := smF_up2 (f := plHa (gTd σ)) (show p ≤ tdN (gTd σ) by omega)
    have h90 : h ≤ 90 := by omega
    have hlf := plLf_le (c := plC σ n) (cd := plK σ n) (U := 2 ^ n) (lm := fun q => if q < tdN (gTd σ) then plLm σ n q else 0) (fun q w hw hc => by
      by_cases e : q < tdN (gTd σ)
      · rw [if_pos e]
        exact plLm_le hw hc
      · rw [if_neg e]
        exact Nat.zero_le _) (fun q => by
      by_cases e : q < tdN (gTd σ)
      · rw [if_pos e]
        unfold plLm
        split
        · exact Nat.le_trans (plMi_le _ 0 (Nat.zero_le _)) (plC_90 hS e)
        · exact plC_90 hS e
      · rw [if_neg e]
        exact Nat.zero_le _) (k + 1) p μ
    have hlfe : ∀ k q, q + k = tdN (gTd σ) → plLf (fun q => if q < tdN (gTd σ) then plLm σ n q else 0) k q = plLf (plLm σ n) k q := by
      intro k
      induction k with
      | zero => exact fun _ _ => rfl
      | succ k ihk =>
        intro q hq
        show plLf _ k (q + 1) + (if q < tdN (gTd σ) then plLm σ n q else 0) = plLf _ k (q + 1) + plLm σ n q
        rw [ihk (q + 1) (by omega), if_pos (by omega)]
    rw [hlfe (k + 1) p hp] at hlf
    have hlf : plLf (plLm σ n) (k + 1) p ≤ plMh (plC σ n) (plK σ n) (2 ^ n) (k + 1) p μ := by
      rcases hlf with h | h
      · exact h
      · omega
    have l70 : M (ad 70) p = (plLf (plLm σ n) (k + 1) p : Int) := by
      rw [hSt.2.2.1 p (by omega), show tdN (gTd σ) - p = k + 1 by omega]
    have hlf2 : plLf (plLm σ n) (k + 1) p ≤ 1000000 := by
      have hb : ∀ k q, q + k = tdN (gTd σ) → plLf (plLm σ n) k q ≤ 90 * k := by
        intro k
        induction k with
        | zero => exact fun _ _ => Nat.le_refl _
        | succ k ihk =>
          intro q hq
          have a := ihk (q + 1) (by omega)
          have b : plLm σ n q ≤ 90 := by
            unfold plLm
            split
            · exact Nat.le_trans (plMi_le _ 0 (Nat.zero_le _)) (plC_90 hS (by omega))
            · exact plC_90 hS (by omega)
          show plLf _ k (q + 1) + plLm σ n q ≤ _
          omega
      have := hb (k + 1) p hp
      omega
    have s9 := hSt.1
    have s8 := hSt.2.1
    have j70 : inA G (ad 70) 0 (p : Int) := in_of (cA70 hB) (by omega) (by omega) (by decide)
    have same : L ≤ h + plMh (plC σ n) (plK σ n) (2 ^ n) (k + 1) p μ → Q none G M := fun hl => hQ M L (Nat.le_refl _) (cZF_r _ _) h10 (fun _ _ => .inl rfl) hIn (fun _ _ => rfl) (.inr ⟨hl, rfl, fun _ _ => rfl⟩)
    rw [plMh_s] at hQ same hlf
    have ebp : ∀ q, plBp (plC σ n) (plK σ n) (2 ^ n) (k + 1) p μ q = if q = p then plAg (plG (plC σ n) (plK σ n) (2 ^ n) k p μ) (2 ^ n) else plBp (plC σ n) (plK σ n) (2 ^ n) k (p + 1) (μ + plIb (plAg (plG (plC σ n) (plK σ n) (2 ^ n) k p μ) (2 ^ n))) q := fun q => rfl
    have emh : plMh (plC σ n) (plK σ n) (2 ^ n) (tdN (gTd σ) - p) p μ = plMn (plG (plC σ n) (plK σ n) (2 ^ n) k p μ) (2 ^ n) := by
      rw [show tdN (gTd σ) - p = k + 1 by omega, plMh_s]
    have plu := fun u => plMn_m (g := plG (plC σ n) (plK σ n) (2 ^ n) k p μ) u
    -- the loop over the ways
    have loop : ∀ (r u : Nat) (L' : Nat) (M1 M' : aM) (v : aV), u + r = 2 ^ n → ¬ isL v → M1 = wr M (ad 72) (((md * 8 + p) * 1048576 + μ) % 1021) ((((md * 8 + p) * 1048576 + μ) * 128 + h : Nat) : Int) → L' ≤ L → cZF ad M M' → M' (ad 51) 10 = (L' : Int) → (∀ i, i < 1021 → M' (ad 72) i = M1 (ad 72) i ∨ pEn M' ad md (p + 1) i) → pIn M' ad σ n md (p + 1) L' → (∀ q, q < p → M' (ad 71) q = M (ad 71) q) →
        ((h + plMn (plG (plC σ n) (plK σ n) (2 ^ n) k p μ) u < L ∧ L' = h + plMn (plG (plC σ n) (plK σ n) (2 ^ n) k p μ) u ∧ (∀ q, q < p → M' (ad 73) q = M (ad 71) q) ∧ M' (ad 73) p = (plAg (plG (plC σ n) (plK σ n) (2 ^ n) k p μ) u : Int) ∧ ∀ q, p < q → q < tdN (gTd σ) → M' (ad 73) q = (plBp (plC σ n) (plK σ n) (2 ^ n) k (p + 1) (μ + plIb (plAg (plG (plC σ n) (plK σ n) (2 ^ n) k p μ) u)) q : Int)) ∨ (L ≤ h + plMn (plG (plC σ n) (plK σ n) (2 ^ n) k p μ) u ∧ L' = L ∧ ∀ q, q < tdN (gTd σ) → M' (ad 73) q = M (ad 73) q)) →
        WP Γ ρ 0 34 69 [vR (some (ad 51)), vI p, vI μ, vI h, vI (plCc (plK σ n p) u : Nat), v] [] G M' Q := by
      intro r
      induction r with
      | zero =>
        intro u L' M1 M' v hu hv hM1 hL' hZ m10 hE hI hC hst
        obtain rfl : u = 2 ^ n := by omega
        have St := pSt_k hB h6 hZ hSt
        have m69 := (St.2.2.2 p hpN).1
        have j69 : inA G (ad 69) 0 (p : Int) := in_of (cA69 hB) (by omega) (by omega) (by decide)
        have fin : Q none G M' := by
          refine hQ M' L' hL' hZ m10 (fun i hi => ?_) (fun i hi p' μ' h' a b c d e => ?_) hC ?_
          · rcases hE i hi with e | ⟨p', μ', h', a, b, c, d, e⟩
            · rw [hM1] at e
              by_cases ei : i = ((md * 8 + p) * 1048576 + μ) % 1021
              · refine .inr ⟨p, μ, h, Nat.le_refl _, by omega, by omega, by omega, ?_⟩
                rw [ei, wr_s] at e
                rw [ei]
                exact e
              · rw [wr_o _ _ ei] at e
                exact .inl e
            · exact .inr ⟨p', μ', h', by omega, b, c, d, e⟩
          · have hLm : L' ≤ h + plMn (plG (plC σ n) (plK σ n) (2 ^ n) k p μ) (2 ^ n) := by
              rcases hst with x | x
              · omega
              · omega
            by_cases hpp : p' = p
            · subst hpp
              rcases hE i hi with e2 | ⟨p2, μ2, h2, a2, b2, c2, d2, e2⟩
              · rw [hM1] at e2
                by_cases ei : i = ((md * 8 + p') * 1048576 + μ) % 1021
                · rw [ei, wr_s] at e2
                  rw [ei, e2] at e
                  have := plE_inj (md := md) (p := p') (μ := μ) (h := h) (p' := p') (μ' := μ') (h' := h') (by omega) (by omega) c d (by unfold plE at *; omega)
                  obtain ⟨_, rfl, rfl⟩ := this
                  rw [emh]
                  exact hLm
                · rw [wr_o _ _ ei] at e2
                  rw [e2] at e
                  have := hIn i hi p' μ' h' a b c d e
                  omega
              · rw [e2] at e
                have := plE_inj (md := md) (p := p2) (μ := μ2) (h := h2) (p' := p') (μ' := μ') (h' := h') c2 d2 c d (by omega)
                omega
            · exact hI i hi p' μ' h' (by omega) b c d e
          · rcases hst with ⟨a, b, c, d, e⟩ | ⟨a, b, c⟩
            · refine .inl ⟨a, b, c, fun q hq1 hq2 => ?_⟩
              rw [ebp]
              by_cases eq : q = p
              · subst eq
                rw [if_pos rfl]
                exact d
              · rw [if_neg eq]
                exact e q (by omega) hq2
            · exact .inr ⟨a, b, c⟩
        clear hQ same hst hI hE hIn ih plu
        generalize plCc (plK σ n p) (2 ^ n) = cn at *
        refine blk bk_p_choose_69 ?_
        simp (disch := omega) only [st_iconst, st_bipush, st_sipush, st_ldc, st_ldc_w, st_lconst, st_ldc2_w, st_iload_n, st_iload, st_lload_n, st_lload, st_aload_n, st_aload, st_istore_n, st_istore, st_lstore_n, st_lstore, st_astore_n, st_astore, st_iinc, st_iadd, st_isub, st_imul, st_idiv, st_irem, st_iand, st_ior, st_ixor, st_ishl, st_ishr, st_iushr, st_ladd, st_lmul, st_ldiv, st_lrem, st_land, st_lor, st_lxor, st_lshl, st_lshr, st_lcmp, st_i2l, st_l2i, st_i2c, st_dup, st_pop, st_dup2, st_iaload0, st_iaload1, st_caload, st_baload, st_laload, st_aaload, st_iastore, st_castore, st_bastore, st_lastore, st_aastore, st_arraylength0, st_arraylength1, st_getfield, st_putfield0, st_putfield1, st_putfield2, st_putfield3, st_getstatic, st_new, st_newarray, st_anewarray, st_goto, st_ifCond, st_if_icmp, st_tableswitch, st_lookupswitch, st_ireturn, st_lreturn, st_return, st_invokevirtual, st_invokestatic0, st_invokestatic1, st_invokespecial0, st_invokespecial1, cZ_eq, cZ_ne, cZ_lt, cZ_ge, cZ_gt, cZ_le, vcb_n, vcb_c, sw_n, sw_c, ↓pI_d, ↓pL_d, ↓pR_d, ↓pA_d, isI_d, isL_d, isL_di, isL_dr, isL_dj, isA_d, inc_c, stO, fV, List.getD_cons_zero, List.getD_cons_succ, List.set_cons_zero, List.set_cons_succ, List.take_succ_cons, List.take_zero, List.drop_succ_cons, List.drop_zero, List.reverse_cons, List.reverse_nil, List.nil_append, List.cons_append, List.append_nil, Option.toList_some, Option.toList_none, List.length_cons, List.length_nil, Nat.reduceAdd, Nat.reduceSub, Nat.reduceLeDiff, Nat.reduceEqDiff, Nat.add_eq, not_false_eq_true, not_true_eq_false, true_and, and_true, false_or, or_true, true_or, or_false, and_self, one_ne_zero_nat, w32_id, w32_n, Int.toNat_natCast, Int.reduceToNat, Nat.zero_add, Nat.zero_le, Nat.le_refl, Int.reduceEq, Int.reduceLT, Int.reduceLE, Int.reduceAdd, Int.reduceSub, Int.reduceMul, t_imp, f_imp, cO51 hB, cR51_4 hB, j69, m69]
        refine ⟨fun _ => ?_, fun q => absurd (Int.le_refl _) q⟩
        refine blk bk_p_choose_145 ?_
        simp (disch := omega) only [st_iconst, st_bipush, st_sipush, st_ldc, st_ldc_w, st_lconst, st_ldc2_w, st_iload_n, st_iload, st_lload_n, st_lload, st_aload_n, st_aload, st_istore_n, st_istore, st_lstore_n, st_lstore, st_astore_n, st_astore, st_iinc, st_iadd, st_isub, st_imul, st_idiv, st_irem, st_iand, st_ior, st_ixor, st_ishl, st_ishr, st_iushr, st_ladd, st_lmul, st_ldiv, st_lrem, st_land, st_lor, st_lxor, st_lshl, st_lshr, st_lcmp, st_i2l, st_l2i, st_i2c, st_dup, st_pop, st_dup2, st_iaload0, st_iaload1, st_caload, st_baload, st_laload, st_aaload, st_iastore, st_castore, st_bastore, st_lastore, st_aastore, st_arraylength0, st_arraylength1, st_getfield, st_putfield0, st_putfield1, st_putfield2, st_putfield3, st_getstatic, st_new, st_newarray, st_anewarray, st_goto, st_ifCond, st_if_icmp, st_tableswitch, st_lookupswitch, st_ireturn, st_lreturn, st_return, st_invokevirtual, st_invokestatic0, st_invokestatic1, st_invokespecial0, st_invokespecial1, cZ_eq, cZ_ne, cZ_lt, cZ_ge, cZ_gt, cZ_le, vcb_n, vcb_c, sw_n, sw_c, ↓pI_d, ↓pL_d, ↓pR_d, ↓pA_d, isI_d, isL_d, isL_di, isL_dr, isL_dj, isA_d, inc_c, stO, fV, List.getD_cons_zero, List.getD_cons_succ, List.set_cons_zero, List.set_cons_succ, List.take_succ_cons, List.take_zero, List.drop_succ_cons, List.drop_zero, List.reverse_cons, List.reverse_nil, List.nil_append, List.cons_append, List.append_nil, Option.toList_some, Option.toList_none, List.length_cons, List.length_nil, Nat.reduceAdd, Nat.reduceSub, Nat.reduceLeDiff, Nat.reduceEqDiff, Nat.add_eq, not_false_eq_true, not_true_eq_false, true_and, and_true, false_or, or_true, true_or, or_false, and_self, one_ne_zero_nat, w32_id, w32_n, Int.toNat_natCast, Int.reduceToNat, Nat.zero_add, Nat.zero_le, Nat.le_refl, Int.reduceEq, Int.reduceLT, Int.reduceLE, Int.reduceAdd, Int.reduceSub, Int.reduceMul, t_imp, f_imp]
        exact fin
      | succ r ih2 =>
        intro u L' M1 M' v hu hv hM1 hL' hZ m10 hE hI hC hst
        have St := pSt_k hB h6 hZ hSt
        have hu32 : u < 32 := by omega
        have eM : plMn (plG (plC σ n) (plK σ n) (2 ^ n) k p μ) (u + 1) = if plG (plC σ n) (plK σ n) (2 ^ n) k p μ u < plMn (plG (plC σ n) (plK σ n) (2 ^ n) k p μ) u then plG (plC σ n) (plK σ n) (2 ^ n) k p μ u else plMn (plG (plC σ n) (plK σ n) (2 ^ n) k p μ) u := rfl
        have eA : plAg (plG (plC σ n) (plK σ n) (2 ^ n) k p μ) (u + 1) = if plG (plC σ n) (plK σ n) (2 ^ n) k p μ u < plMn (plG (plC σ n) (plK σ n) (2 ^ n) k p μ) u then u else plAg (plG (plC σ n) (plK σ n) (2 ^ n) k p μ) u := rfl
        have eC : plCc (plK σ n p) (u + 1) = plCc (plK σ n p) u + (if plK σ n p u = true then 1 else 0) := rfl
        have hpu := plu u
        have keep : ∀ (v2 : aV), ¬ isL v2 → ¬ plG (plC σ n) (plK σ n) (2 ^ n) k p μ u < plMn (plG (plC σ n) (plK σ n) (2 ^ n) k p μ) u → WP Γ ρ 0 34 69 [vR (some (ad 51)), vI p, vI μ, vI h, vI (plCc (plK σ n p) (u + 1) : Nat), v2] [] G M' Q := by
          intro v2 hv2 hg
          rw [if_neg hg] at eM eA
          refine ih2 (u + 1) L' M1 M' v2 (by omega) hv2 hM1 hL' hZ m10 hE hI hC ?_
          rw [eM, eA]
          exact hst
        by_cases hcd : plK σ n p u = true
        · have row := (St.2.2.2 p hpN).2 u (by omega) hcd
          have m69 := (St.2.2.2 p hpN).1
          have hlt := plCc_lt (cd := plK σ n p) (show u < 2 ^ n by omega) hcd
          have hcu := plCc_le (plK σ n p) (2 ^ n)
          rw [if_pos hcd] at eC
          have rt := rows_t p (by omega)
          have r56 : gR G (ad 55) p = some (ad (56 + p)) := cb_r hB rt.1
          have r63 : gR G (ad 62) p = some (ad (63 + p)) := cb_r hB rt.2.1
          have j55 : inA G (ad 55) 5 (p : Int) := in_of (cA55 hB) (by omega) (by omega) (by decide)
          have j62 : inA G (ad 62) 5 (p : Int) := in_of (cA62 hB) (by omega) (by omega) (by decide)
          have j69 : inA G (ad 69) 0 (p : Int) := in_of (cA69 hB) (by omega) (by omega) (by decide)
          have j71 : inA G (ad 71) 0 (p : Int) := in_of (cA71 hB) (by omega) (by omega) (by decide)
          have jc1 : inA G (ad (56 + p)) 0 (plCc (plK σ n p) u : Int) := in_of (cb_a hB (by omega) rt.2.2.1) (by omega) (by omega) (by decide)
          have jc2 : inA G (ad (63 + p)) 0 (plCc (plK σ n p) u : Int) := in_of (cb_a hB (by omega) rt.2.2.2) (by omega) (by omega) (by decide)
          have fib := (fin_ib u hu32).2
          have c63 : ad (63 + p) ≠ ad 71 := cb_ne hB (by omega) (by decide) (by omega)
          have hskip : ¬ plFe μ u = true → WP Γ ρ 0 34 69 [vR (some (ad 51)), vI p, vI μ, vI h, vI (plCc (plK σ n p) (u + 1) : Nat), vI ((μ + plIb u : Nat) : Int)] [] G M' Q := by
            intro hf
            refine keep _ (fun h => h) ?_
            have eg : plG (plC σ n) (plK σ n) (2 ^ n) k p μ u = 2147483647 := by
              unfold plG
              rw [if_neg (fun x => hf x.2)]
            rw [eg]
            omega
          have hcall : plFe μ u = true → WPm Γ (ρ - 1) 0 34 [vR (some (ad 51)), vI ((p + 1 : Nat) : Int), vI ((μ + plIb u : Nat) : Int), vI ((h + plC σ n p u : Nat) : Int)] G (wr M' (ad 71) p (u : Int)) (fun w G' M3 => WP Γ ρ 0 34 139 [vR (some (ad 51)), vI p, vI μ, vI h, vI (plCc (plK σ n p) u : Nat), vI ((μ + plIb u : Nat) : Int)] w.toList G' M3 Q) := by
            intro hf
            have hlt2 := plFe_lt hu32 hμ hf
            have hcle := plC_le (n := n) (w := u) hS hpN
            have esm : smF (plHa (gTd σ)) (p + 1) = smF (plHa (gTd σ)) p + plHa (gTd σ) p := rfl
            have Z2 : cZF ad M' (wr M' (ad 71) p (u : Int)) := ⟨fun c a b d e => wr_c _ _ _ b, fun k hk => by rw [wr_c _ _ _ (Ne.symm n517)]⟩
            have eg : plG (plC σ n) (plK σ n) (2 ^ n) k p μ u = plC σ n p u + plMh (plC σ n) (plK σ n) (2 ^ n) k (p + 1) (μ + plIb u) := by
              unfold plG
              rw [if_pos ⟨hcd, hf⟩]
            have eb : pEb M' ad md := by
              refine pEb_n (p := p) hEb (fun i hi => ?_)
              rcases hE i hi with e | ⟨p', μ', h', a, b, c, d, e⟩
              · rw [hM1] at e
                by_cases ei : i = ((md * 8 + p) * 1048576 + μ) % 1021
                · refine .inr ⟨p, μ, h, Nat.le_refl _, by omega, by omega, by omega, ?_⟩
                  rw [ei, wr_s] at e
                  rw [ei]
                  exact e
                · rw [wr_o _ _ ei] at e
                  exact .inl e
              · exact .inr ⟨p', μ', h', by omega, b, c, d, e⟩
            refine ih (p + 1) (μ + plIb u) (h + plC σ n p u) L' (wr M' (ad 71) p (u : Int)) _ (ρ - 1) (by omega) (by omega) hlt2 (by omega) (by omega) (pSt_k hB h6 Z2 St) (by rw [wr_c _ _ _ (Ne.symm n517)]; exact m10) (fun i hi => by rw [wr_c _ _ _ (Ne.symm n78)]; exact eb i hi) (fun i hi p' μ' h' a b c d e => by rw [wr_c _ _ _ (Ne.symm n78)] at e; exact hI i hi p' μ' h' a b c d e) (fun M3 L3 hL3 Z3 k10 E3 I3 C3 st3 => ?_)
            have hnx : WP Γ ρ 0 34 69 [vR (some (ad 51)), vI p, vI μ, vI h, vI (plCc (plK σ n p) (u + 1) : Nat), vI ((μ + plIb u : Nat) : Int)] [] G M3 Q := by
              refine ih2 (u + 1) L3 M1 M3 _ (by omega) (fun h => h) hM1 (by omega) (cZF_t hZ (cZF_t Z2 Z3)) k10 (fun i hi => ?_) I3 (fun q hq => ?_) ?_
              · rcases E3 i hi with e | e
                · rw [wr_c _ _ _ (Ne.symm n78)] at e
                  rcases hE i hi with e2 | ⟨p', μ', h', a, b, c, d, e2⟩
                  · exact .inl (e.trans e2)
                  · exact .inr ⟨p', μ', h', a, b, c, d, e.trans e2⟩
                · exact .inr e
              · rw [C3 q (by omega), wr_o _ _ (by omega)]
                exact hC q hq
              · rcases st3 with ⟨s1, s2, s3, s4⟩ | ⟨s1, s2, s3⟩
                · have hgl : plG (plC σ n) (plK σ n) (2 ^ n) k p μ u < plMn (plG (plC σ n) (plK σ n) (2 ^ n) k p μ) u := by
                    rcases hst with x | x
                    · omega
                    · omega
                  rw [if_pos hgl] at eM eA
                  rw [eM, eA]
                  refine .inl ⟨by omega, by omega, fun q hq => ?_, ?_, fun q hq1 hq2 => ?_⟩
                  · rw [s3 q (by omega), wr_o _ _ (by omega)]
                    exact hC q hq
                  · rw [s3 p (by omega), wr_s]
                  · exact s4 q (by omega) hq2
                · rcases hst with ⟨t1, t2, t3, t4, t5⟩ | ⟨t1, t2, t3⟩
                  · have hgl : ¬ plG (plC σ n) (plK σ n) (2 ^ n) k p μ u < plMn (plG (plC σ n) (plK σ n) (2 ^ n) k p μ) u := by omega
                    rw [if_neg hgl] at eM eA
                    rw [eM, eA]
                    refine .inl ⟨t1, by omega, fun q hq => ?_, ?_, fun q hq1 hq2 => ?_⟩
                    · rw [s3 q (by omega), wr_c _ _ _ (Ne.symm n79)]
                      exact t3 q hq
                    · rw [s3 p hpN, wr_c _ _ _ (Ne.symm n79)]
                      exact t4
                    · rw [s3 q hq2, wr_c _ _ _ (Ne.symm n79)]
                      exact t5 q hq1 hq2
                  · refine .inr ⟨?_, by omega, fun q hq => ?_⟩
                    · rw [eM]
                      split <;> omega
                    · rw [s3 q hq, wr_c _ _ _ (Ne.symm n79)]
                      exact t3 q hq
            rw [eC] at hnx
            clear hQ same hst hI hE hIn ih ih2 plu keep st3 E3 I3 eM eA eg row
            generalize plCc (plK σ n p) u = cn at *
            refine blk bk_p_choose_139 ?_
            simp (disch := omega) only [st_iconst, st_bipush, st_sipush, st_ldc, st_ldc_w, st_lconst, st_ldc2_w, st_iload_n, st_iload, st_lload_n, st_lload, st_aload_n, st_aload, st_istore_n, st_istore, st_lstore_n, st_lstore, st_astore_n, st_astore, st_iinc, st_iadd, st_isub, st_imul, st_idiv, st_irem, st_iand, st_ior, st_ixor, st_ishl, st_ishr, st_iushr, st_ladd, st_lmul, st_ldiv, st_lrem, st_land, st_lor, st_lxor, st_lshl, st_lshr, st_lcmp, st_i2l, st_l2i, st_i2c, st_dup, st_pop, st_dup2, st_iaload0, st_iaload1, st_caload, st_baload, st_laload, st_aaload, st_iastore, st_castore, st_bastore, st_lastore, st_aastore, st_arraylength0, st_arraylength1, st_getfield, st_putfield0, st_putfield1, st_putfield2, st_putfield3, st_getstatic, st_new, st_newarray, st_anewarray, st_goto, st_ifCond, st_if_icmp, st_tableswitch, st_lookupswitch, st_ireturn, st_lreturn, st_return, st_invokevirtual, st_invokestatic0, st_invokestatic1, st_invokespecial0, st_invokespecial1, cZ_eq, cZ_ne, cZ_lt, cZ_ge, cZ_gt, cZ_le, vcb_n, vcb_c, sw_n, sw_c, ↓pI_d, ↓pL_d, ↓pR_d, ↓pA_d, isI_d, isL_d, isL_di, isL_dr, isL_dj, isA_d, inc_c, stO, fV, List.getD_cons_zero, List.getD_cons_succ, List.set_cons_zero, List.set_cons_succ, List.take_succ_cons, List.take_zero, List.drop_succ_cons, List.drop_zero, List.reverse_cons, List.reverse_nil, List.nil_append, List.cons_append, List.append_nil, Option.toList_some, Option.toList_none, List.length_cons, List.length_nil, Nat.reduceAdd, Nat.reduceSub, Nat.reduceLeDiff, Nat.reduceEqDiff, Nat.add_eq, not_false_eq_true, not_true_eq_false, true_and, and_true, false_or, or_true, true_or, or_false, and_self, one_ne_zero_nat, w32_id, w32_n, Int.toNat_natCast, Int.reduceToNat, Nat.zero_add, Nat.zero_le, Nat.le_refl, Int.reduceEq, Int.reduceLT, Int.reduceLE, Int.reduceAdd, Int.reduceSub, Int.reduceMul, t_imp, f_imp]
            exact hnx
          rw [eC] at hskip
          have hskip2 : ¬ plFe μ u = true → WP Γ ρ 0 34 139 [vR (some (ad 51)), vI p, vI μ, vI h, vI (plCc (plK σ n p) u : Nat), vI ((μ + plIb u : Nat) : Int)] [] G M' Q := by
            intro hf
            have hs := hskip hf
            clear hQ same hst hI hE hIn ih ih2 plu keep eM eA row hcall hskip
            generalize plCc (plK σ n p) u = cn at *
            refine blk bk_p_choose_139 ?_
            simp (disch := omega) only [st_iconst, st_bipush, st_sipush, st_ldc, st_ldc_w, st_lconst, st_ldc2_w, st_iload_n, st_iload, st_lload_n, st_lload, st_aload_n, st_aload, st_istore_n, st_istore, st_lstore_n, st_lstore, st_astore_n, st_astore, st_iinc, st_iadd, st_isub, st_imul, st_idiv, st_irem, st_iand, st_ior, st_ixor, st_ishl, st_ishr, st_iushr, st_ladd, st_lmul, st_ldiv, st_lrem, st_land, st_lor, st_lxor, st_lshl, st_lshr, st_lcmp, st_i2l, st_l2i, st_i2c, st_dup, st_pop, st_dup2, st_iaload0, st_iaload1, st_caload, st_baload, st_laload, st_aaload, st_iastore, st_castore, st_bastore, st_lastore, st_aastore, st_arraylength0, st_arraylength1, st_getfield, st_putfield0, st_putfield1, st_putfield2, st_putfield3, st_getstatic, st_new, st_newarray, st_anewarray, st_goto, st_ifCond, st_if_icmp, st_tableswitch, st_lookupswitch, st_ireturn, st_lreturn, st_return, st_invokevirtual, st_invokestatic0, st_invokestatic1, st_invokespecial0, st_invokespecial1, cZ_eq, cZ_ne, cZ_lt, cZ_ge, cZ_gt, cZ_le, vcb_n, vcb_c, sw_n, sw_c, ↓pI_d, ↓pL_d, ↓pR_d, ↓pA_d, isI_d, isL_d, isL_di, isL_dr, isL_dj, isA_d, inc_c, stO, fV, List.getD_cons_zero, List.getD_cons_succ, List.set_cons_zero, List.set_cons_succ, List.take_succ_cons, List.take_zero, List.drop_succ_cons, List.drop_zero, List.reverse_cons, List.reverse_nil, List.nil_append, List.cons_append, List.append_nil, Option.toList_some, Option.toList_none, List.length_cons, List.length_nil, Nat.reduceAdd, Nat.reduceSub, Nat.reduceLeDiff, Nat.reduceEqDiff, Nat.add_eq, not_false_eq_true, not_true_eq_false, true_and, and_true, false_or, or_true, true_or, or_false, and_self, one_ne_zero_nat, w32_id, w32_n, Int.toNat_natCast, Int.reduceToNat, Nat.zero_add, Nat.zero_le, Nat.le_refl, Int.reduceEq, Int.reduceLT, Int.reduceLE, Int.reduceAdd, Int.reduceSub, Int.reduceMul, t_imp, f_imp]
            exact hs
          have efe : plFe μ u = true ↔ (μ + plIb u) &&& 559240 = 0 := decide_eq_true_iff
          have eand : bAnd ((μ + plIb u : Nat) : Int) 559240 = (((μ + plIb u) &&& 559240 : Nat) : Int) := andI (b := 559240) (by omega) (by decide)
          have eal : (μ + plIb u) &&& 559240 ≤ 559240 := Nat.and_le_right
          have c2 : wr M' (ad 71) p (u : Int) (ad (63 + p)) (plCc (plK σ n p) u) = (plC σ n p u : Int) := by rw [wr_c _ _ _ c63]; exact row.2
          have e1 : (μ : Int) + (plIb u : Int) = ((μ + plIb u : Nat) : Int) := (Int.natCast_add _ _).symm
          have e2 : (h : Int) + (plC σ n p u : Int) = ((h + plC σ n p u : Nat) : Int) := (Int.natCast_add _ _).symm
          have e3 : (p : Int) + 1 = ((p + 1 : Nat) : Int) := rfl
          obtain ⟨row1, row2⟩ := row
          clear hQ same hst hI hE hIn ih ih2 plu keep eM eA hskip eC hpu ebp emh hlf
          generalize hcn : plCc (plK σ n p) u = cn at *
          generalize hcw : plC σ n p u = cw at *
          generalize plCc (plK σ n p) (2 ^ n) = cN at *
          refine blk bk_p_choose_69 ?_
          simp (disch := omega) only [st_iconst, st_bipush, st_sipush, st_ldc, st_ldc_w, st_lconst, st_ldc2_w, st_iload_n, st_iload, st_lload_n, st_lload, st_aload_n, st_aload, st_istore_n, st_istore, st_lstore_n, st_lstore, st_astore_n, st_astore, st_iinc, st_iadd, st_isub, st_imul, st_idiv, st_irem, st_iand, st_ior, st_ixor, st_ishl, st_ishr, st_iushr, st_ladd, st_lmul, st_ldiv, st_lrem, st_land, st_lor, st_lxor, st_lshl, st_lshr, st_lcmp, st_i2l, st_l2i, st_i2c, st_dup, st_pop, st_dup2, st_iaload0, st_iaload1, st_caload, st_baload, st_laload, st_aaload, st_iastore, st_castore, st_bastore, st_lastore, st_aastore, st_arraylength0, st_arraylength1, st_getfield, st_putfield0, st_putfield1, st_putfield2, st_putfield3, st_getstatic, st_new, st_newarray, st_anewarray, st_goto, st_ifCond, st_if_icmp, st_tableswitch, st_lookupswitch, st_ireturn, st_lreturn, st_return, st_invokevirtual, st_invokestatic0, st_invokestatic1, st_invokespecial0, st_invokespecial1, cZ_eq, cZ_ne, cZ_lt, cZ_ge, cZ_gt, cZ_le, vcb_n, vcb_c, sw_n, sw_c, ↓pI_d, ↓pL_d, ↓pR_d, ↓pA_d, isI_d, isL_d, isL_di, isL_dr, isL_dj, isA_d, inc_c, stO, fV, List.getD_cons_zero, List.getD_cons_succ, List.set_cons_zero, List.set_cons_succ, List.take_succ_cons, List.take_zero, List.drop_succ_cons, List.drop_zero, List.reverse_cons, List.reverse_nil, List.nil_append, List.cons_append, List.append_nil, Option.toList_some, Option.toList_none, List.length_cons, List.length_nil, Nat.reduceAdd, Nat.reduceSub, Nat.reduceLeDiff, Nat.reduceEqDiff, Nat.add_eq, not_false_eq_true, not_true_eq_false, true_and, and_true, false_or, or_true, true_or, or_false, and_self, one_ne_zero_nat, w32_id, w32_n, Int.toNat_natCast, Int.reduceToNat, Nat.zero_add, Nat.zero_le, Nat.le_refl, Int.reduceEq, Int.reduceLT, Int.reduceLE, Int.reduceAdd, Int.reduceSub, Int.reduceMul, t_imp, f_imp, cO51 hB, cR51_4 hB, j69, m69, cR51_2 hB, j55, r56, jc1, row1]
          refine ⟨fun q => absurd q (by omega), fun _ => ⟨by omega, s_p_inFourBits hu32 ?_⟩⟩
          generalize plIb u = ib at *
          generalize hmu : μ + ib = mu at *
          generalize mu &&& 559240 = an at *
          refine blk bk_p_choose_93 ?_
          simp (disch := omega) only [st_iconst, st_bipush, st_sipush, st_ldc, st_ldc_w, st_lconst, st_ldc2_w, st_iload_n, st_iload, st_lload_n, st_lload, st_aload_n, st_aload, st_istore_n, st_istore, st_lstore_n, st_lstore, st_astore_n, st_astore, st_iinc, st_iadd, st_isub, st_imul, st_idiv, st_irem, st_iand, st_ior, st_ixor, st_ishl, st_ishr, st_iushr, st_ladd, st_lmul, st_ldiv, st_lrem, st_land, st_lor, st_lxor, st_lshl, st_lshr, st_lcmp, st_i2l, st_l2i, st_i2c, st_dup, st_pop, st_dup2, st_iaload0, st_iaload1, st_caload, st_baload, st_laload, st_aaload, st_iastore, st_castore, st_bastore, st_lastore, st_aastore, st_arraylength0, st_arraylength1, st_getfield, st_putfield0, st_putfield1, st_putfield2, st_putfield3, st_getstatic, st_new, st_newarray, st_anewarray, st_goto, st_ifCond, st_if_icmp, st_tableswitch, st_lookupswitch, st_ireturn, st_lreturn, st_return, st_invokevirtual, st_invokestatic0, st_invokestatic1, st_invokespecial0, st_invokespecial1, cZ_eq, cZ_ne, cZ_lt, cZ_ge, cZ_gt, cZ_le, vcb_n, vcb_c, sw_n, sw_c, ↓pI_d, ↓pL_d, ↓pR_d, ↓pA_d, isI_d, isL_d, isL_di, isL_dr, isL_dj, isA_d, inc_c, stO, fV, List.getD_cons_zero, List.getD_cons_succ, List.set_cons_zero, List.set_cons_succ, List.take_succ_cons, List.take_zero, List.drop_succ_cons, List.drop_zero, List.reverse_cons, List.reverse_nil, List.nil_append, List.cons_append, List.append_nil, Option.toList_some, Option.toList_none, List.length_cons, List.length_nil, Nat.reduceAdd, Nat.reduceSub, Nat.reduceLeDiff, Nat.reduceEqDiff, Nat.add_eq, not_false_eq_true, not_true_eq_false, true_and, and_true, false_or, or_true, true_or, or_false, and_self, one_ne_zero_nat, w32_id, w32_n, Int.toNat_natCast, Int.reduceToNat, Nat.zero_add, Nat.zero_le, Nat.le_refl, Int.reduceEq, Int.reduceLT, Int.reduceLE, Int.reduceAdd, Int.reduceSub, Int.reduceMul, t_imp, f_imp, cO51 hB, cR51_6 hB, cR51_2 hB, cR51_3 hB, j55, j62, j71, r56, r63, jc1, jc2, row1, c2, e1, e2, e3, eand, hv]
          exact ⟨fun q => hskip2 (fun x => q (by have := efe.mp x; omega)), fun q => ⟨by omega, hcall (efe.mpr (by omega))⟩⟩
        · rw [if_neg hcd, Nat.add_zero] at eC
          have eg : plG (plC σ n) (plK σ n) (2 ^ n) k p μ u = 2147483647 := by
            unfold plG
            rw [if_neg (fun x => hcd x.1)]
          have hk := keep v hv (by rw [eg]; omega)
          rw [eC] at hk
          exact hk
    -- the entry
    obtain ⟨e0, he0⟩ : ∃ e : Nat, M (ad 72) (((md * 8 + p) * 1048576 + μ) % 1021) = (e : Int) := ⟨(M (ad 72) (((md * 8 + p) * 1048576 + μ) % 1021)).toNat, by have := (hEb _ (Nat.mod_lt ((md * 8 + p) * 1048576 + μ) (show 0 < 1021 by decide))).1; omega⟩
    have hb0 := (hEb _ (Nat.mod_lt ((md * 8 + p) * 1048576 + μ) (show 0 < 1021 by decide))).2
    rw [he0] at hb0
    have hreach : e0 / 128 = (md * 8 + p) * 1048576 + μ ∧ e0 % 128 ≤ h → Q none G M := by
      rintro ⟨q1, q2⟩
      refine same ?_
      have := hIn _ (Nat.mod_lt ((md * 8 + p) * 1048576 + μ) (show 0 < 1021 by decide)) p μ (e0 % 128) (Nat.le_refl _) (by omega) (by omega) (by omega) (by rw [he0]; unfold plE; omega)
      rw [emh] at this
      omega
    have Z1 : cZF ad M (wr M (ad 72) (((md * 8 + p) * 1048576 + μ) % 1021) ((((md * 8 + p) * 1048576 + μ) * 128 + h : Nat) : Int)) := ⟨fun c a b d e => wr_c _ _ _ d, fun k hk => by rw [wr_c _ _ _ (Ne.symm n518)]⟩
    have start := loop (2 ^ n) 0 L _ (wr M (ad 72) (((md * 8 + p) * 1048576 + μ) % 1021) ((((md * 8 + p) * 1048576 + μ) * 128 + h : Nat) : Int)) vJ (by omega) (fun h => h) rfl (Nat.le_refl _) Z1 (by rw [wr_c _ _ _ (Ne.symm n518)]; exact h10) (fun _ _ => .inl rfl) (fun i hi p' μ' h' a b c d e => by
      by_cases ei : i = ((md * 8 + p) * 1048576 + μ) % 1021
      · rw [ei, wr_s] at e
        have := plE_inj (md := md) (p := p) (μ := μ) (h := h) (p' := p') (μ' := μ') (h' := h') (by omega) (by omega) c d (by unfold plE at *; omega)
        omega
      · rw [wr_o _ _ ei] at e
        exact hIn i hi p' μ' h' (by omega) b c d e) (fun q hq => by rw [wr_c _ _ _ n78]) (.inr ⟨by show L ≤ h + 2147483647; omega, rfl, fun q hq => by rw [wr_c _ _ _ (Ne.symm n89)]⟩)
    have start : WP Γ ρ 0 34 69 [vR (some (ad 51)), vI p, vI μ, vI h, vI ((0 : Nat) : Int), vJ] [] G (wr M (ad 72) (((md * 8 + p) * 1048576 + μ) % 1021) ((((md * 8 + p) * 1048576 + μ) * 128 + h : Nat) : Int)) Q := start
    have hret : L ≤ h + plLf (plLm σ n) (k + 1) p → Q none G M := fun hl => same (by omega)
    clear loop hQ same hIn ih plu ebp emh hlf Z1
    have b55 : WP Γ ρ 0 34 55 [vR (some (ad 51)), vI p, vI μ, vI h, vJ, vJ] [] G M Q := by
      refine blk bk_p_choose_55 ?_
      simp (disch := omega) only [st_iconst, st_bipush, st_sipush, st_ldc, st_ldc_w, st_lconst, st_ldc2_w, st_iload_n, st_iload, st_lload_n, st_lload, st_aload_n, st_aload, st_istore_n, st_istore, st_lstore_n, st_lstore, st_astore_n, st_astore, st_iinc, st_iadd, st_isub, st_imul, st_idiv, st_irem, st_iand, st_ior, st_ixor, st_ishl, st_ishr, st_iushr, st_ladd, st_lmul, st_ldiv, st_lrem, st_land, st_lor, st_lxor, st_lshl, st_lshr, st_lcmp, st_i2l, st_l2i, st_i2c, st_dup, st_pop, st_dup2, st_iaload0, st_iaload1, st_caload, st_baload, st_laload, st_aaload, st_iastore, st_castore, st_bastore, st_lastore, st_aastore, st_arraylength0, st_arraylength1, st_getfield, st_putfield0, st_putfield1, st_putfield2, st_putfield3, st_getstatic, st_new, st_newarray, st_anewarray, st_goto, st_ifCond, st_if_icmp, st_tableswitch, st_lookupswitch, st_ireturn, st_lreturn, st_return, st_invokevirtual, st_invokestatic0, st_invokestatic1, st_invokespecial0, st_invokespecial1, cZ_eq, cZ_ne, cZ_lt, cZ_ge, cZ_gt, cZ_le, vcb_n, vcb_c, sw_n, sw_c, ↓pI_d, ↓pL_d, ↓pR_d, ↓pA_d, isI_d, isL_d, isL_di, isL_dr, isL_dj, isA_d, inc_c, stO, fV, List.getD_cons_zero, List.getD_cons_succ, List.set_cons_zero, List.set_cons_succ, List.take_succ_cons, List.take_zero, List.drop_succ_cons, List.drop_zero, List.reverse_cons, List.reverse_nil, List.nil_append, List.cons_append, List.append_nil, Option.toList_some, Option.toList_none, List.length_cons, List.length_nil, Nat.reduceAdd, Nat.reduceSub, Nat.reduceLeDiff, Nat.reduceEqDiff, Nat.add_eq, not_false_eq_true, not_true_eq_false, true_and, and_true, false_or, or_true, true_or, or_false, and_self, one_ne_zero_nat, w32_id, w32_n, Int.toNat_natCast, Int.reduceToNat, Nat.zero_add, Nat.zero_le, Nat.le_refl, Int.reduceEq, Int.reduceLT, Int.reduceLE, Int.reduceAdd, Int.reduceSub, Int.reduceMul, t_imp, f_imp, cO51 hB]
      refine ⟨by omega, s_p_wasReached (md := md) (e := e0) (by omega) hB s8 (by omega) (by omega) (by omega) (by omega) he0 (by omega) (fun q => ?_) (fun q => ?_)⟩
      · have := hreach q
        refine blk bk_p_choose_62 ?_
        simp (disch := omega) only [st_iconst, st_bipush, st_sipush, st_ldc, st_ldc_w, st_lconst, st_ldc2_w, st_iload_n, st_iload, st_lload_n, st_lload, st_aload_n, st_aload, st_istore_n, st_istore, st_lstore_n, st_lstore, st_astore_n, st_astore, st_iinc, st_iadd, st_isub, st_imul, st_idiv, st_irem, st_iand, st_ior, st_ixor, st_ishl, st_ishr, st_iushr, st_ladd, st_lmul, st_ldiv, st_lrem, st_land, st_lor, st_lxor, st_lshl, st_lshr, st_lcmp, st_i2l, st_l2i, st_i2c, st_dup, st_pop, st_dup2, st_iaload0, st_iaload1, st_caload, st_baload, st_laload, st_aaload, st_iastore, st_castore, st_bastore, st_lastore, st_aastore, st_arraylength0, st_arraylength1, st_getfield, st_putfield0, st_putfield1, st_putfield2, st_putfield3, st_getstatic, st_new, st_newarray, st_anewarray, st_goto, st_ifCond, st_if_icmp, st_tableswitch, st_lookupswitch, st_ireturn, st_lreturn, st_return, st_invokevirtual, st_invokestatic0, st_invokestatic1, st_invokespecial0, st_invokespecial1, cZ_eq, cZ_ne, cZ_lt, cZ_ge, cZ_gt, cZ_le, vcb_n, vcb_c, sw_n, sw_c, ↓pI_d, ↓pL_d, ↓pR_d, ↓pA_d, isI_d, isL_d, isL_di, isL_dr, isL_dj, isA_d, inc_c, stO, fV, List.getD_cons_zero, List.getD_cons_succ, List.set_cons_zero, List.set_cons_succ, List.take_succ_cons, List.take_zero, List.drop_succ_cons, List.drop_zero, List.reverse_cons, List.reverse_nil, List.nil_append, List.cons_append, List.append_nil, Option.toList_some, Option.toList_none, List.length_cons, List.length_nil, Nat.reduceAdd, Nat.reduceSub, Nat.reduceLeDiff, Nat.reduceEqDiff, Nat.add_eq, not_false_eq_true, not_true_eq_false, true_and, and_true, false_or, or_true, true_or, or_false, and_self, one_ne_zero_nat, w32_id, w32_n, Int.toNat_natCast, Int.reduceToNat, Nat.zero_add, Nat.zero_le, Nat.le_refl, Int.reduceEq, Int.reduceLT, Int.reduceLE, Int.reduceAdd, Int.reduceSub, Int.reduceMul, t_imp, f_imp]
        exact this
      · clear hreach
        refine blk bk_p_choose_62 ?_
        simp (disch := omega) only [st_iconst, st_bipush, st_sipush, st_ldc, st_ldc_w, st_lconst, st_ldc2_w, st_iload_n, st_iload, st_lload_n, st_lload, st_aload_n, st_aload, st_istore_n, st_istore, st_lstore_n, st_lstore, st_astore_n, st_astore, st_iinc, st_iadd, st_isub, st_imul, st_idiv, st_irem, st_iand, st_ior, st_ixor, st_ishl, st_ishr, st_iushr, st_ladd, st_lmul, st_ldiv, st_lrem, st_land, st_lor, st_lxor, st_lshl, st_lshr, st_lcmp, st_i2l, st_l2i, st_i2c, st_dup, st_pop, st_dup2, st_iaload0, st_iaload1, st_caload, st_baload, st_laload, st_aaload, st_iastore, st_castore, st_bastore, st_lastore, st_aastore, st_arraylength0, st_arraylength1, st_getfield, st_putfield0, st_putfield1, st_putfield2, st_putfield3, st_getstatic, st_new, st_newarray, st_anewarray, st_goto, st_ifCond, st_if_icmp, st_tableswitch, st_lookupswitch, st_ireturn, st_lreturn, st_return, st_invokevirtual, st_invokestatic0, st_invokestatic1, st_invokespecial0, st_invokespecial1, cZ_eq, cZ_ne, cZ_lt, cZ_ge, cZ_gt, cZ_le, vcb_n, vcb_c, sw_n, sw_c, ↓pI_d, ↓pL_d, ↓pR_d, ↓pA_d, isI_d, isL_d, isL_di, isL_dr, isL_dj, isA_d, inc_c, stO, fV, List.getD_cons_zero, List.getD_cons_succ, List.set_cons_zero, List.set_cons_succ, List.take_succ_cons, List.take_zero, List.drop_succ_cons, List.drop_zero, List.reverse_cons, List.reverse_nil, List.nil_append, List.cons_append, List.append_nil, Option.toList_some, Option.toList_none, List.length_cons, List.length_nil, Nat.reduceAdd, Nat.reduceSub, Nat.reduceLeDiff, Nat.reduceEqDiff, Nat.add_eq, not_false_eq_true, not_true_eq_false, true_and, and_true, false_or, or_true, true_or, or_false, and_self, one_ne_zero_nat, w32_id, w32_n, Int.toNat_natCast, Int.reduceToNat, Nat.zero_add, Nat.zero_le, Nat.le_refl, Int.reduceEq, Int.reduceLT, Int.reduceLE, Int.reduceAdd, Int.reduceSub, Int.reduceMul, t_imp, f_imp]
        refine blk bk_p_choose_66 ?_
        simp (disch := omega) only [st_iconst, st_bipush, st_sipush, st_ldc, st_ldc_w, st_lconst, st_ldc2_w, st_iload_n, st_iload, st_lload_n, st_lload, st_aload_n, st_aload, st_istore_n, st_istore, st_lstore_n, st_lstore, st_astore_n, st_astore, st_iinc, st_iadd, st_isub, st_imul, st_idiv, st_irem, st_iand, st_ior, st_ixor, st_ishl, st_ishr, st_iushr, st_ladd, st_lmul, st_ldiv, st_lrem, st_land, st_lor, st_lxor, st_lshl, st_lshr, st_lcmp, st_i2l, st_l2i, st_i2c, st_dup, st_pop, st_dup2, st_iaload0, st_iaload1, st_caload, st_baload, st_laload, st_aaload, st_iastore, st_castore, st_bastore, st_lastore, st_aastore, st_arraylength0, st_arraylength1, st_getfield, st_putfield0, st_putfield1, st_putfield2, st_putfield3, st_getstatic, st_new, st_newarray, st_anewarray, st_goto, st_ifCond, st_if_icmp, st_tableswitch, st_lookupswitch, st_ireturn, st_lreturn, st_return, st_invokevirtual, st_invokestatic0, st_invokestatic1, st_invokespecial0, st_invokespecial1, cZ_eq, cZ_ne, cZ_lt, cZ_ge, cZ_gt, cZ_le, vcb_n, vcb_c, sw_n, sw_c, ↓pI_d, ↓pL_d, ↓pR_d, ↓pA_d, isI_d, isL_d, isL_di, isL_dr, isL_dj, isA_d, inc_c, stO, fV, List.getD_cons_zero, List.getD_cons_succ, List.set_cons_zero, List.set_cons_succ, List.take_succ_cons, List.take_zero, List.drop_succ_cons, List.drop_zero, List.reverse_cons, List.reverse_nil, List.nil_append, List.cons_append, List.append_nil, Option.toList_some, Option.toList_none, List.length_cons, List.length_nil, Nat.reduceAdd, Nat.reduceSub, Nat.reduceLeDiff, Nat.reduceEqDiff, Nat.add_eq, not_false_eq_true, not_true_eq_false, true_and, and_true, false_or, or_true, true_or, or_false, and_self, one_ne_zero_nat, w32_id, w32_n, Int.toNat_natCast, Int.reduceToNat, Nat.zero_add, Nat.zero_le, Nat.le_refl, Int.reduceEq, Int.reduceLT, Int.reduceLE, Int.reduceAdd, Int.reduceSub, Int.reduceMul, t_imp, f_imp]
        exact start
    clear start hreach
    generalize plLf (plLm σ n) (k + 1) p = lf at *
    refine WPm_of (L := [vR (some (ad 51)), vI p, vI μ, vI h, vJ, vJ]) 2 (by decide) (Nat.le_of_ble_eq_true rfl) rfl ?_
    refine blk bk_p_choose_0 ?_
    simp (disch := omega) only [st_iconst, st_bipush, st_sipush, st_ldc, st_ldc_w, st_lconst, st_ldc2_w, st_iload_n, st_iload, st_lload_n, st_lload, st_aload_n, st_aload, st_istore_n, st_istore, st_lstore_n, st_lstore, st_astore_n, st_astore, st_iinc, st_iadd, st_isub, st_imul, st_idiv, st_irem, st_iand, st_ior, st_ixor, st_ishl, st_ishr, st_iushr, st_ladd, st_lmul, st_ldiv, st_lrem, st_land, st_lor, st_lxor, st_lshl, st_lshr, st_lcmp, st_i2l, st_l2i, st_i2c, st_dup, st_pop, st_dup2, st_iaload0, st_iaload1, st_caload, st_baload, st_laload, st_aaload, st_iastore, st_castore, st_bastore, st_lastore, st_aastore, st_arraylength0, st_arraylength1, st_getfield, st_putfield0, st_putfield1, st_putfield2, st_putfield3, st_getstatic, st_new, st_newarray, st_anewarray, st_goto, st_ifCond, st_if_icmp, st_tableswitch, st_lookupswitch, st_ireturn, st_lreturn, st_return, st_invokevirtual, st_invokestatic0, st_invokestatic1, st_invokespecial0, st_invokespecial1, cZ_eq, cZ_ne, cZ_lt, cZ_ge, cZ_gt, cZ_le, vcb_n, vcb_c, sw_n, sw_c, ↓pI_d, ↓pL_d, ↓pR_d, ↓pA_d, isI_d, isL_d, isL_di, isL_dr, isL_dj, isA_d, inc_c, stO, fV, List.getD_cons_zero, List.getD_cons_succ, List.set_cons_zero, List.set_cons_succ, List.take_succ_cons, List.take_zero, List.drop_succ_cons, List.drop_zero, List.reverse_cons, List.reverse_nil, List.nil_append, List.cons_append, List.append_nil, Option.toList_some, Option.toList_none, List.length_cons, List.length_nil, Nat.reduceAdd, Nat.reduceSub, Nat.reduceLeDiff, Nat.reduceEqDiff, Nat.add_eq, not_false_eq_true, not_true_eq_false, true_and, and_true, false_or, or_true, true_or, or_false, and_self, one_ne_zero_nat, w32_id, w32_n, Int.toNat_natCast, Int.reduceToNat, Nat.zero_add, Nat.zero_le, Nat.le_refl, Int.reduceEq, Int.reduceLT, Int.reduceLE, Int.reduceAdd, Int.reduceSub, Int.reduceMul, t_imp, f_imp, cO51 hB, s9, cR51_5 hB, j70, l70, h10]
    refine ⟨fun q => absurd q (by omega), fun _ => ⟨fun q => ?_, fun q => ?_⟩⟩
    · refine blk bk_p_choose_24 ?_
      simp (disch := omega) only [st_iconst, st_bipush, st_sipush, st_ldc, st_ldc_w, st_lconst, st_ldc2_w, st_iload_n, st_iload, st_lload_n, st_lload, st_aload_n, st_aload, st_istore_n, st_istore, st_lstore_n, st_lstore, st_astore_n, st_astore, st_iinc, st_iadd, st_isub, st_imul, st_idiv, st_irem, st_iand, st_ior, st_ixor, st_ishl, st_ishr, st_iushr, st_ladd, st_lmul, st_ldiv, st_lrem, st_land, st_lor, st_lxor, st_lshl, st_lshr, st_lcmp, st_i2l, st_l2i, st_i2c, st_dup, st_pop, st_dup2, st_iaload0, st_iaload1, st_caload, st_baload, st_laload, st_aaload, st_iastore, st_castore, st_bastore, st_lastore, st_aastore, st_arraylength0, st_arraylength1, st_getfield, st_putfield0, st_putfield1, st_putfield2, st_putfield3, st_getstatic, st_new, st_newarray, st_anewarray, st_goto, st_ifCond, st_if_icmp, st_tableswitch, st_lookupswitch, st_ireturn, st_lreturn, st_return, st_invokevirtual, st_invokestatic0, st_invokestatic1, st_invokespecial0, st_invokespecial1, cZ_eq, cZ_ne, cZ_lt, cZ_ge, cZ_gt, cZ_le, vcb_n, vcb_c, sw_n, sw_c, ↓pI_d, ↓pL_d, ↓pR_d, ↓pA_d, isI_d, isL_d, isL_di, isL_dr, isL_dj, isA_d, inc_c, stO, fV, List.getD_cons_zero, List.getD_cons_succ, List.set_cons_zero, List.set_cons_succ, List.take_succ_cons, List.take_zero, List.drop_succ_cons, List.drop_zero, List.reverse_cons, List.reverse_nil, List.nil_append, List.cons_append, List.append_nil, Option.toList_some, Option.toList_none, List.length_cons, List.length_nil, Nat.reduceAdd, Nat.reduceSub, Nat.reduceLeDiff, Nat.reduceEqDiff, Nat.add_eq, not_false_eq_true, not_true_eq_false, true_and, and_true, false_or, or_true, true_or, or_false, and_self, one_ne_zero_nat, w32_id, w32_n, Int.toNat_natCast, Int.reduceToNat, Nat.zero_add, Nat.zero_le, Nat.le_refl, Int.reduceEq, Int.reduceLT, Int.reduceLE, Int.reduceAdd, Int.reduceSub, Int.reduceMul, t_imp, f_imp, cO51 hB, s9]
      exact ⟨fun _ => b55, fun q2 => absurd (by omega) q2⟩
    · have := hret (by omega)
      refine blk bk_p_choose_23 ?_
      simp (disch := omega) only [st_iconst, st_bipush, st_sipush, st_ldc, st_ldc_w, st_lconst, st_ldc2_w, st_iload_n, st_iload, st_lload_n, st_lload, st_aload_n, st_aload, st_istore_n, st_istore, st_lstore_n, st_lstore, st_astore_n, st_astore, st_iinc, st_iadd, st_isub, st_imul, st_idiv, st_irem, st_iand, st_ior, st_ixor, st_ishl, st_ishr, st_iushr, st_ladd, st_lmul, st_ldiv, st_lrem, st_land, st_lor, st_lxor, st_lshl, st_lshr, st_lcmp, st_i2l, st_l2i, st_i2c, st_dup, st_pop, st_dup2, st_iaload0, st_iaload1, st_caload, st_baload, st_laload, st_aaload, st_iastore, st_castore, st_bastore, st_lastore, st_aastore, st_arraylength0, st_arraylength1, st_getfield, st_putfield0, st_putfield1, st_putfield2, st_putfield3, st_getstatic, st_new, st_newarray, st_anewarray, st_goto, st_ifCond, st_if_icmp, st_tableswitch, st_lookupswitch, st_ireturn, st_lreturn, st_return, st_invokevirtual, st_invokestatic0, st_invokestatic1, st_invokespecial0, st_invokespecial1, cZ_eq, cZ_ne, cZ_lt, cZ_ge, cZ_gt, cZ_le, vcb_n, vcb_c, sw_n, sw_c, ↓pI_d, ↓pL_d, ↓pR_d, ↓pA_d, isI_d, isL_d, isL_di, isL_dr, isL_dj, isA_d, inc_c, stO, fV, List.getD_cons_zero, List.getD_cons_succ, List.set_cons_zero, List.set_cons_succ, List.take_succ_cons, List.take_zero, List.drop_succ_cons, List.drop_zero, List.reverse_cons, List.reverse_nil, List.nil_append, List.cons_append, List.append_nil, Option.toList_some, Option.toList_none, List.length_cons, List.length_nil, Nat.reduceAdd, Nat.reduceSub, Nat.reduceLeDiff, Nat.reduceEqDiff, Nat.add_eq, not_false_eq_true, not_true_eq_false, true_and, and_true, false_or, or_true, true_or, or_false, and_self, one_ne_zero_nat, w32_id, w32_n, Int.toNat_natCast, Int.reduceToNat, Nat.zero_add, Nat.zero_le, Nat.le_refl, Int.reduceEq, Int.reduceLT, Int.reduceLE, Int.reduceAdd, Int.reduceSub, Int.reduceMul, t_imp, f_imp]
      exact this
end CHOOSE
