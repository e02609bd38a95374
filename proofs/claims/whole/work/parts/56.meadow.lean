/-! ===== the class's meadow: the two Tolds change places ===== -/
def swp (i : Nat) : Nat := if 3 ≤ i ∧ i ≤ 10 then i + 8 else if 11 ≤ i ∧ i ≤ 18 then i - 8 else i
theorem swp_lt {i : Nat} (h : i < 83) : swp i < 83 := by
  unfold swp
  split
  · omega
  · split <;> omega
theorem swp_swp (i : Nat) : swp (swp i) = i := by
  unfold swp
  split
  · rw [if_neg (by omega), if_pos (by omega)]
    omega
  · split
    · rw [if_pos (by omega)]
      omega
    · rfl
theorem swp_o {i : Nat} (h : i < 3 ∨ 18 < i) : swp i = i := by
  unfold swp
  rw [if_neg (by omega), if_neg (by omega)]
theorem swp_t : ∀ i, i < 83 → ctT.getD (swp i) (.inl 0) = ctT.getD i (.inl 0) := by decide +kernel
theorem swp_r : ∀ e ∈ ctR, e = (0, 1, 3) ∨ e = (1, 2, 11) ∨ ((swp e.1, e.2.1, swp e.2.2) ∈ ctR ∧ ¬ (swp e.1 = 0 ∧ e.2.1 = 1) ∧ ¬ (swp e.1 = 1 ∧ e.2.1 = 2) ∧ swp e.1 < 83) := by decide +kernel
theorem gW_s (G : aG) (a k : Nat) (r : Option Nat) : gR (gW G a k r) a k = r := by rw [gW_self, va_up_self]
theorem gW_o (G : aG) {a k j : Nat} (r : Option Nat) (h : j ≠ k) : gR (gW G a k r) a j = gR G a j := by rw [gW_self, va_up_ne _ _ h]
theorem gW_obj (G : aG) (a k : Nat) (r : Option Nat) (x c : Nat) : isObj (gW G a k r) x c = isObj G x c := rfl
theorem gW_arr (G : aG) (a k : Nat) (r : Option Nat) (x c n : Nat) : isArr (gW G a k r) x c n = isArr G x c n := rfl
def gSw (G : aG) (ad : Nat → Nat) : aG := gW (gW G (ad 0) 1 (some (ad 11))) (ad 1) 2 (some (ad 3))
theorem cb_sw {G : aG} {ad : Nat → Nat} (hB : CB G ad) : CB (gSw G ad) (fun i => ad (swp i)) := by
  have n01 : ad 0 ≠ ad 1 := cb_ne hB (by decide) (by decide) (by decide)
  refine ⟨fun i hi => ⟨(hB.1 _ (swp_lt hi)).1, ((hB.1 _ (swp_lt hi)).2).trans (swp_t i hi)⟩, fun e he => ?_, fun i j hi hj h => ?_⟩
  · rcases swp_r e he with rfl | rfl | ⟨h1, h2, h3, h4⟩
    · show gR (gSw G ad) (ad 0) 1 = some (ad 11)
      unfold gSw
      rw [gW_ne _ _ _ n01, gW_s]
    · show gR (gSw G ad) (ad 1) 2 = some (ad 3)
      unfold gSw
      rw [gW_s]
    · show gR (gSw G ad) (ad (swp e.1)) e.2.1 = some (ad (swp e.2.2))
      rw [← hB.2.1 _ h1]
      unfold gSw
      by_cases c1 : swp e.1 = 1
      · rw [c1, gW_o _ _ (fun q => h3 ⟨c1, q⟩), gW_ne _ _ _ (Ne.symm n01)]
      · rw [gW_ne _ _ _ (cb_ne hB h4 (by decide) c1)]
        by_cases c0 : swp e.1 = 0
        · rw [c0, gW_o _ _ (fun q => h2 ⟨c0, q⟩)]
        · rw [gW_ne _ _ _ (cb_ne hB h4 (by decide) c0)]
  · have := hB.2.2 _ _ (swp_lt hi) (swp_lt hj) h
    rw [← swp_swp i, this, swp_swp]
section MEADOW
variable {Γ : aR} {ρ κ bd : Nat} {G : aG} {M : aM} {Q : aQ} {ad : Nat → Nat} {σ : SG}
theorem c_meadow (hρ : 20 ≤ ρ) (hB : CB G ad) (hV : CV bd (vw M ad) σ) (hS : SOK σ) (hQ : ∀ (G' : aG) (M' : aM) (ad' : Nat → Nat), CB G' ad' → CV bd (vw M' ad') (sMeadow σ) → ad' 0 = ad 0 → gA G' = gA G → gT G' = gT G → (∀ c, (∀ i, i < 83 → c ≠ ad i) → gR G' c = gR G c ∧ M' c = M c) → (∀ i, i < 83 → ∃ j, j < 83 ∧ ad' i = ad j) → Q (some (vI (rMeadow σ))) G' M') : WPm Γ ρ 0 60 [vR (some (ad 0))] G M Q := by
  have hX : cTx (vw M ad) (gLe σ) (gTx σ) := hV.2.2.2.2.1
  have hl := hS.2.2.2.2.1
  unfold rMeadow sMeadow at hQ
  refine WPm_of (L := [vR (some (ad 0)), vJ, vJ]) 2 (by decide) (Nat.le_of_ble_eq_true rfl) rfl ?_
  refine blk bk_g_meadow_0 ?_
  simp (disch := omega) only [st_iconst, st_bipush, st_sipush, st_ldc, st_ldc_w, st_lconst, st_ldc2_w, st_iload_n, st_iload, st_lload_n, st_lload, st_aload_n, st_aload, st_istore_n, st_istore, st_lstore_n, st_lstore, st_astore_n, st_astore, st_iinc, st_iadd, st_isub, st_imul, st_idiv, st_irem, st_iand, st_ior, st_ixor, st_ishl, st_ishr, st_iushr, st_ladd, st_lmul, st_ldiv, st_lrem, st_land, st_lor, st_lxor, st_lshl, st_lshr, st_lcmp, st_i2l, st_l2i, st_i2c, st_dup, st_pop, st_dup2, st_iaload0, st_iaload1, st_caload, st_baload, st_laload, st_aaload, st_iastore, st_castore, st_bastore, st_lastore, st_aastore, st_arraylength0, st_arraylength1, st_getfield, st_putfield0, st_putfield1, st_putfield2, st_putfield3, st_getstatic, st_new, st_newarray, st_anewarray, st_goto, st_ifCond, st_if_icmp, st_tableswitch, st_lookupswitch, st_ireturn, st_lreturn, st_return, st_invokevirtual, st_invokestatic0, st_invokestatic1, st_invokespecial0, st_invokespecial1, cZ_eq, cZ_ne, cZ_lt, cZ_ge, cZ_gt, cZ_le, vcb_n, vcb_c, sw_n, sw_c, ↓pI_d, ↓pL_d, ↓pR_d, ↓pA_d, isI_d, isL_d, isL_di, isL_dr, isL_dj, isA_d, inc_c, stO, fV, List.getD_cons_zero, List.getD_cons_succ, List.set_cons_zero, List.set_cons_succ, List.take_succ_cons, List.take_zero, List.drop_succ_cons, List.drop_zero, List.reverse_cons, List.reverse_nil, List.nil_append, List.cons_append, List.append_nil, Option.toList_some, Option.toList_none, List.length_cons, List.length_nil, Nat.reduceAdd, Nat.reduceSub, Nat.reduceLeDiff, Nat.reduceEqDiff, Nat.add_eq, not_false_eq_true, not_true_eq_false, true_and, and_true, false_or, or_true, true_or, or_false, and_self, one_ne_zero_nat, w32_id, w32_n, Int.toNat_natCast, Int.reduceToNat, Nat.zero_add, Nat.zero_le, Nat.le_refl, Int.reduceEq, Int.reduceLT, Int.reduceLE, Int.reduceAdd, Int.reduceSub, Int.reduceMul, t_imp, f_imp, cO0 hB, cR0_0 hB, cO1 hB]
  refine ⟨by omega, s_x_read (len := gLe σ) (tx := gTx σ) (by omega) hB hX hl.1 hl.2 (fun p M1 he hp z1 => ?_) (fun q M1 he hk h180 z1 d1 => ?_)⟩
  · rw [he] at hQ
    dsimp only at hQ
    refine blk bk_g_meadow_7 ?_
    simp (disch := omega) only [st_iconst, st_bipush, st_sipush, st_ldc, st_ldc_w, st_lconst, st_ldc2_w, st_iload_n, st_iload, st_lload_n, st_lload, st_aload_n, st_aload, st_istore_n, st_istore, st_lstore_n, st_lstore, st_astore_n, st_astore, st_iinc, st_iadd, st_isub, st_imul, st_idiv, st_irem, st_iand, st_ior, st_ixor, st_ishl, st_ishr, st_iushr, st_ladd, st_lmul, st_ldiv, st_lrem, st_land, st_lor, st_lxor, st_lshl, st_lshr, st_lcmp, st_i2l, st_l2i, st_i2c, st_dup, st_pop, st_dup2, st_iaload0, st_iaload1, st_caload, st_baload, st_laload, st_aaload, st_iastore, st_castore, st_bastore, st_lastore, st_aastore, st_arraylength0, st_arraylength1, st_getfield, st_putfield0, st_putfield1, st_putfield2, st_putfield3, st_getstatic, st_new, st_newarray, st_anewarray, st_goto, st_ifCond, st_if_icmp, st_tableswitch, st_lookupswitch, st_ireturn, st_lreturn, st_return, st_invokevirtual, st_invokestatic0, st_invokestatic1, st_invokespecial0, st_invokespecial1, cZ_eq, cZ_ne, cZ_lt, cZ_ge, cZ_gt, cZ_le, vcb_n, vcb_c, sw_n, sw_c, ↓pI_d, ↓pL_d, ↓pR_d, ↓pA_d, isI_d, isL_d, isL_di, isL_dr, isL_dj, isA_d, inc_c, stO, fV, List.getD_cons_zero, List.getD_cons_succ, List.set_cons_zero, List.set_cons_succ, List.take_succ_cons, List.take_zero, List.drop_succ_cons, List.drop_zero, List.reverse_cons, List.reverse_nil, List.nil_append, List.cons_append, List.append_nil, Option.toList_some, Option.toList_none, List.length_cons, List.length_nil, Nat.reduceAdd, Nat.reduceSub, Nat.reduceLeDiff, Nat.reduceEqDiff, Nat.add_eq, not_false_eq_true, not_true_eq_false, true_and, and_true, false_or, or_true, true_or, or_false, and_self, one_ne_zero_nat, w32_id, w32_n, Int.toNat_natCast, Int.reduceToNat, Nat.zero_add, Nat.zero_le, Nat.le_refl, Int.reduceEq, Int.reduceLT, Int.reduceLE, Int.reduceAdd, Int.reduceSub, Int.reduceMul, t_imp, f_imp]
    refine ⟨fun q => absurd q (by omega), fun _ => ?_⟩
    have e : ∀ i, i < 83 ∧ i ≠ 1 ∧ (i < 11 ∨ 18 < i) → vw M1 ad i = vw M ad i := fun i hi => z1.1 _ (cb_ne hB (by omega) (by decide) (by omega)) (fun j a b => cb_ne hB (by omega) (by omega) (by omega))
    exact hQ G M1 ad hB ⟨cTo_k (fun i a b => e i (by omega)) hV.1, cvN_k (e 19 (by omega)) (e 20 (by omega)) hV.2.1, cHi_k (fun i a b => e i (by omega)) hV.2.2.1, cIm_k (e 0 (by omega)) (fun i a b => e i (by omega)) hV.2.2.2.1, cTx_k (V := vw M ad) (V' := vw M1 ad) z1.2 (e 2 (by decide)) hX, cSt_k (by rw [e 74 (by omega)]) (e 75 (by omega)) hV.2.2.2.2.2.1, cGr_k (by rw [e 78 (by omega)]) (e 79 (by omega)) (e 80 (by omega)) hV.2.2.2.2.2.2.1, (by rw [e 82 (by omega)]; exact hV.2.2.2.2.2.2.2.1), cPl_k (by rw [e 51 (by omega)]) (e 72 (by omega)) hV.2.2.2.2.2.2.2.2⟩ rfl rfl rfl (fun c hc => ⟨rfl, z1.1 c (hc 1 (by decide)) (fun i _ _ => hc i (by omega))⟩) (fun i hi => ⟨i, hi, rfl⟩)
  · rw [he] at hQ
    obtain ⟨t, it⟩ := q
    dsimp only at hQ hk h180 d1
    refine blk bk_g_meadow_7 ?_
    simp (disch := omega) only [st_iconst, st_bipush, st_sipush, st_ldc, st_ldc_w, st_lconst, st_ldc2_w, st_iload_n, st_iload, st_lload_n, st_lload, st_aload_n, st_aload, st_istore_n, st_istore, st_lstore_n, st_lstore, st_astore_n, st_astore, st_iinc, st_iadd, st_isub, st_imul, st_idiv, st_irem, st_iand, st_ior, st_ixor, st_ishl, st_ishr, st_iushr, st_ladd, st_lmul, st_ldiv, st_lrem, st_land, st_lor, st_lxor, st_lshl, st_lshr, st_lcmp, st_i2l, st_l2i, st_i2c, st_dup, st_pop, st_dup2, st_iaload0, st_iaload1, st_caload, st_baload, st_laload, st_aaload, st_iastore, st_castore, st_bastore, st_lastore, st_aastore, st_arraylength0, st_arraylength1, st_getfield, st_putfield0, st_putfield1, st_putfield2, st_putfield3, st_getstatic, st_new, st_newarray, st_anewarray, st_goto, st_ifCond, st_if_icmp, st_tableswitch, st_lookupswitch, st_ireturn, st_lreturn, st_return, st_invokevirtual, st_invokestatic0, st_invokestatic1, st_invokespecial0, st_invokespecial1, cZ_eq, cZ_ne, cZ_lt, cZ_ge, cZ_gt, cZ_le, vcb_n, vcb_c, sw_n, sw_c, ↓pI_d, ↓pL_d, ↓pR_d, ↓pA_d, isI_d, isL_d, isL_di, isL_dr, isL_dj, isA_d, inc_c, stO, fV, List.getD_cons_zero, List.getD_cons_succ, List.set_cons_zero, List.set_cons_succ, List.take_succ_cons, List.take_zero, List.drop_succ_cons, List.drop_zero, List.reverse_cons, List.reverse_nil, List.nil_append, List.cons_append, List.append_nil, Option.toList_some, Option.toList_none, List.length_cons, List.length_nil, Nat.reduceAdd, Nat.reduceSub, Nat.reduceLeDiff, Nat.reduceEqDiff, Nat.add_eq, not_false_eq_true, not_true_eq_false, true_and, and_true, false_or, or_true, true_or, or_false, and_self, one_ne_zero_nat, w32_id, w32_n, Int.toNat_natCast, Int.reduceToNat, Nat.zero_add, Nat.zero_le, Nat.le_refl, Int.reduceEq, Int.reduceLT, Int.reduceLE, Int.reduceAdd, Int.reduceSub, Int.reduceMul, t_imp, f_imp]
    have n01 : ad 0 ≠ ad 1 := cb_ne hB (by decide) (by decide) (by decide)
    have n10 : ad 1 ≠ ad 0 := Ne.symm n01
    have g1 := cR0_0 hB
    have g2 := cR0_1 hB
    have g3 := cR1_2 hB
    have g4 := cR0_2 hB
    have b2 := cb_sw hB
    refine ⟨fun _ => ?_, fun q => absurd (by omega) q⟩
    refine blk bk_g_meadow_14 ?_
    simp (disch := omega) only [st_iconst, st_bipush, st_sipush, st_ldc, st_ldc_w, st_lconst, st_ldc2_w, st_iload_n, st_iload, st_lload_n, st_lload, st_aload_n, st_aload, st_istore_n, st_istore, st_lstore_n, st_lstore, st_astore_n, st_astore, st_iinc, st_iadd, st_isub, st_imul, st_idiv, st_irem, st_iand, st_ior, st_ixor, st_ishl, st_ishr, st_iushr, st_ladd, st_lmul, st_ldiv, st_lrem, st_land, st_lor, st_lxor, st_lshl, st_lshr, st_lcmp, st_i2l, st_l2i, st_i2c, st_dup, st_pop, st_dup2, st_iaload0, st_iaload1, st_caload, st_baload, st_laload, st_aaload, st_iastore, st_castore, st_bastore, st_lastore, st_aastore, st_arraylength0, st_arraylength1, st_getfield, st_putfield0, st_putfield1, st_putfield2, st_putfield3, st_getstatic, st_new, st_newarray, st_anewarray, st_goto, st_ifCond, st_if_icmp, st_tableswitch, st_lookupswitch, st_ireturn, st_lreturn, st_return, st_invokevirtual, st_invokestatic0, st_invokestatic1, st_invokespecial0, st_invokespecial1, cZ_eq, cZ_ne, cZ_lt, cZ_ge, cZ_gt, cZ_le, vcb_n, vcb_c, sw_n, sw_c, ↓pI_d, ↓pL_d, ↓pR_d, ↓pA_d, isI_d, isL_d, isL_di, isL_dr, isL_dj, isA_d, inc_c, stO, fV, List.getD_cons_zero, List.getD_cons_succ, List.set_cons_zero, List.set_cons_succ, List.take_succ_cons, List.take_zero, List.drop_succ_cons, List.drop_zero, List.reverse_cons, List.reverse_nil, List.nil_append, List.cons_append, List.append_nil, Option.toList_some, Option.toList_none, List.length_cons, List.length_nil, Nat.reduceAdd, Nat.reduceSub, Nat.reduceLeDiff, Nat.reduceEqDiff, Nat.add_eq, not_false_eq_true, not_true_eq_false, true_and, and_true, false_or, or_true, true_or, or_false, and_self, one_ne_zero_nat, w32_id, w32_n, Int.toNat_natCast, Int.reduceToNat, Nat.zero_add, Nat.zero_le, Nat.le_refl, Int.reduceEq, Int.reduceLT, Int.reduceLE, Int.reduceAdd, Int.reduceSub, Int.reduceMul, t_imp, f_imp, cO0 hB, cO1 hB, cO3 hB, cO11 hB, g1, g2, g3, g4, gW_obj, gW_s, gW_o, gW_ne]
    have bo := cb_T3 b2
    have bn := cb_N19 b2
    have hG : gW (gW G (ad 0) 1 (some (ad 11))) (ad 1) 2 (some (ad 3)) = gSw G ad := rfl
    rw [hG]
    have f19 : rfA (gSw G ad) (ad 19) 5 = ad 20 := cF19_5 (ad := fun i => ad (swp i)) b2
    have f11 : rfA (gSw G ad) (ad 11) 2 = ad 13 := cF3_2 (ad := fun i => ad (swp i)) b2
    refine ⟨by omega, (cO19 hB : isObj G (ad 19) 4), s_n_begin (by omega) bn bo ?_ (fun M2 k0 k5 ko => ?_)⟩
    · rw [f19]
      show ad 20 ≠ rfA (gSw G ad) (ad 11) 2
      rw [f11]
      exact cb_ne hB (by decide) (by decide) (by decide)
    have k0 : ∀ k, k < 5 → M2 (ad 19) k = 0 := k0
    have k5 : ∀ p, p < 6 → M2 (rfA (gSw G ad) (ad 19) 5) p = wr M1 (ad 1) 1 0 (rfA (gSw G ad) (ad 11) 2) p := k5
    have ko : ∀ c, c ≠ ad 19 → c ≠ rfA (gSw G ad) (ad 19) 5 → M2 c = wr M1 (ad 1) 1 0 c := ko
    rw [f19] at k5 ko
    rw [f11, wr_c _ _ _ (cb_ne hB (by decide) (by decide) (by decide))] at k5
    have o0 : isObj (gSw G ad) (ad 0) 9 := (cO0 hB : isObj G (ad 0) 9)
    have o21 : isObj (gSw G ad) (ad 21) 1 := (cO21 hB : isObj G (ad 21) 1)
    have o74 : isObj (gSw G ad) (ad 74) 6 := (cO74 hB : isObj G (ad 74) 6)
    have o78 : isObj (gSw G ad) (ad 78) 0 := (cO78 hB : isObj G (ad 78) 0)
    have r3 : gR (gSw G ad) (ad 0) 3 = some (ad 21) := cR0_3 (ad := fun i => ad (swp i)) b2
    have r8 : gR (gSw G ad) (ad 0) 8 = some (ad 74) := cR0_8 (ad := fun i => ad (swp i)) b2
    have r9 : gR (gSw G ad) (ad 0) 9 = some (ad 78) := cR0_9 (ad := fun i => ad (swp i)) b2
    refine blk bk_g_meadow_57 ?_
    simp (disch := omega) only [st_iconst, st_bipush, st_sipush, st_ldc, st_ldc_w, st_lconst, st_ldc2_w, st_iload_n, st_iload, st_lload_n, st_lload, st_aload_n, st_aload, st_istore_n, st_istore, st_lstore_n, st_lstore, st_astore_n, st_astore, st_iinc, st_iadd, st_isub, st_imul, st_idiv, st_irem, st_iand, st_ior, st_ixor, st_ishl, st_ishr, st_iushr, st_ladd, st_lmul, st_ldiv, st_lrem, st_land, st_lor, st_lxor, st_lshl, st_lshr, st_lcmp, st_i2l, st_l2i, st_i2c, st_dup, st_pop, st_dup2, st_iaload0, st_iaload1, st_caload, st_baload, st_laload, st_aaload, st_iastore, st_castore, st_bastore, st_lastore, st_aastore, st_arraylength0, st_arraylength1, st_getfield, st_putfield0, st_putfield1, st_putfield2, st_putfield3, st_getstatic, st_new, st_newarray, st_anewarray, st_goto, st_ifCond, st_if_icmp, st_tableswitch, st_lookupswitch, st_ireturn, st_lreturn, st_return, st_invokevirtual, st_invokestatic0, st_invokestatic1, st_invokespecial0, st_invokespecial1, cZ_eq, cZ_ne, cZ_lt, cZ_ge, cZ_gt, cZ_le, vcb_n, vcb_c, sw_n, sw_c, ↓pI_d, ↓pL_d, ↓pR_d, ↓pA_d, isI_d, isL_d, isL_di, isL_dr, isL_dj, isA_d, inc_c, stO, fV, List.getD_cons_zero, List.getD_cons_succ, List.set_cons_zero, List.set_cons_succ, List.take_succ_cons, List.take_zero, List.drop_succ_cons, List.drop_zero, List.reverse_cons, List.reverse_nil, List.nil_append, List.cons_append, List.append_nil, Option.toList_some, Option.toList_none, List.length_cons, List.length_nil, Nat.reduceAdd, Nat.reduceSub, Nat.reduceLeDiff, Nat.reduceEqDiff, Nat.add_eq, not_false_eq_true, not_true_eq_false, true_and, and_true, false_or, or_true, true_or, or_false, and_self, one_ne_zero_nat, w32_id, w32_n, Int.toNat_natCast, Int.reduceToNat, Nat.zero_add, Nat.zero_le, Nat.le_refl, Int.reduceEq, Int.reduceLT, Int.reduceLE, Int.reduceAdd, Int.reduceSub, Int.reduceMul, t_imp, f_imp, o0, o21, r3]
    refine ⟨by omega, s_h_forgetAll o21 ?_⟩
    refine blk bk_g_meadow_64 ?_
    simp (disch := omega) only [st_iconst, st_bipush, st_sipush, st_ldc, st_ldc_w, st_lconst, st_ldc2_w, st_iload_n, st_iload, st_lload_n, st_lload, st_aload_n, st_aload, st_istore_n, st_istore, st_lstore_n, st_lstore, st_astore_n, st_astore, st_iinc, st_iadd, st_isub, st_imul, st_idiv, st_irem, st_iand, st_ior, st_ixor, st_ishl, st_ishr, st_iushr, st_ladd, st_lmul, st_ldiv, st_lrem, st_land, st_lor, st_lxor, st_lshl, st_lshr, st_lcmp, st_i2l, st_l2i, st_i2c, st_dup, st_pop, st_dup2, st_iaload0, st_iaload1, st_caload, st_baload, st_laload, st_aaload, st_iastore, st_castore, st_bastore, st_lastore, st_aastore, st_arraylength0, st_arraylength1, st_getfield, st_putfield0, st_putfield1, st_putfield2, st_putfield3, st_getstatic, st_new, st_newarray, st_anewarray, st_goto, st_ifCond, st_if_icmp, st_tableswitch, st_lookupswitch, st_ireturn, st_lreturn, st_return, st_invokevirtual, st_invokestatic0, st_invokestatic1, st_invokespecial0, st_invokespecial1, cZ_eq, cZ_ne, cZ_lt, cZ_ge, cZ_gt, cZ_le, vcb_n, vcb_c, sw_n, sw_c, ↓pI_d, ↓pL_d, ↓pR_d, ↓pA_d, isI_d, isL_d, isL_di, isL_dr, isL_dj, isA_d, inc_c, stO, fV, List.getD_cons_zero, List.getD_cons_succ, List.set_cons_zero, List.set_cons_succ, List.take_succ_cons, List.take_zero, List.drop_succ_cons, List.drop_zero, List.reverse_cons, List.reverse_nil, List.nil_append, List.cons_append, List.append_nil, Option.toList_some, Option.toList_none, List.length_cons, List.length_nil, Nat.reduceAdd, Nat.reduceSub, Nat.reduceLeDiff, Nat.reduceEqDiff, Nat.add_eq, not_false_eq_true, not_true_eq_false, true_and, and_true, false_or, or_true, true_or, or_false, and_self, one_ne_zero_nat, w32_id, w32_n, Int.toNat_natCast, Int.reduceToNat, Nat.zero_add, Nat.zero_le, Nat.le_refl, Int.reduceEq, Int.reduceLT, Int.reduceLE, Int.reduceAdd, Int.reduceSub, Int.reduceMul, t_imp, f_imp, o0, r8, r9, o74, o78]
    have hn6 : tdN t ≤ 6 := hk.1
    have e : ∀ i, i < 83 → i ≠ 0 → i ≠ 1 → (i < 11 ∨ 18 < i) → i ≠ 19 → i ≠ 20 → i ≠ 21 → i ≠ 74 → i ≠ 78 → (wr (wr (wr (wr M2 (ad 21) 2 0) (ad 0) 5 0) (ad 74) 2 0) (ad 78) 3 0) (ad i) = M (ad i) := fun i h1 h2 h3 h4 h5 h6 h7 h8 h9 => by
      rw [wr_c _ _ _ (cb_ne hB h1 (by decide) h9), wr_c _ _ _ (cb_ne hB h1 (by decide) h8), wr_c _ _ _ (cb_ne hB h1 (by decide) h2), wr_c _ _ _ (cb_ne hB h1 (by decide) h7), ko _ (cb_ne hB h1 (by decide) h5) (cb_ne hB h1 (by decide) h6), wr_c _ _ _ (cb_ne hB h1 (by decide) h3)]
      exact z1.1 _ (cb_ne hB h1 (by decide) h3) (fun j a b => cb_ne hB h1 (by omega) (by omega))
    have e2 : ∀ i, 11 ≤ i → i ≤ 18 → (wr (wr (wr (wr M2 (ad 21) 2 0) (ad 0) 5 0) (ad 74) 2 0) (ad 78) 3 0) (ad i) = M1 (ad i) := fun i h1 h2 => by
      rw [wr_c _ _ _ (cb_ne hB (by omega) (by decide) (by omega)), wr_c _ _ _ (cb_ne hB (by omega) (by decide) (by omega)), wr_c _ _ _ (cb_ne hB (by omega) (by decide) (by omega)), wr_c _ _ _ (cb_ne hB (by omega) (by decide) (by omega)), ko _ (cb_ne hB (by omega) (by decide) (by omega)) (cb_ne hB (by omega) (by decide) (by omega)), wr_c _ _ _ (cb_ne hB (by omega) (by decide) (by omega))]
    have e3 : ∀ i, i = 19 ∨ i = 20 ∨ i = 1 → (wr (wr (wr (wr M2 (ad 21) 2 0) (ad 0) 5 0) (ad 74) 2 0) (ad 78) 3 0) (ad i) = M2 (ad i) := fun i h => by
      rw [wr_c _ _ _ (cb_ne hB (by omega) (by decide) (by omega)), wr_c _ _ _ (cb_ne hB (by omega) (by decide) (by omega)), wr_c _ _ _ (cb_ne hB (by omega) (by decide) (by omega)), wr_c _ _ _ (cb_ne hB (by omega) (by decide) (by omega))]
    have e0 : ∀ k, k ≠ 5 → (wr (wr (wr (wr M2 (ad 21) 2 0) (ad 0) 5 0) (ad 74) 2 0) (ad 78) 3 0) (ad 0) k = M (ad 0) k := fun k h => by
      rw [wr_c _ _ _ (cb_ne hB (by decide) (by decide) (by decide)), wr_c _ _ _ (cb_ne hB (by decide) (by decide) (by decide)), wr_o _ _ h, wr_c _ _ _ (cb_ne hB (by decide) (by decide) (by decide)), ko _ (cb_ne hB (by decide) (by decide) (by decide)) (cb_ne hB (by decide) (by decide) (by decide)), wr_c _ _ _ n01]
      rw [z1.1 _ n01 (fun j a b => cb_ne hB (by decide) (by omega) (by omega))]
    have e50 : (wr (wr (wr (wr M2 (ad 21) 2 0) (ad 0) 5 0) (ad 74) 2 0) (ad 78) 3 0) (ad 0) 5 = 0 := by
      rw [wr_c _ _ _ (cb_ne hB (by decide) (by decide) (by decide)), wr_c _ _ _ (cb_ne hB (by decide) (by decide) (by decide)), wr_s]
    have e21 : (wr (wr (wr (wr M2 (ad 21) 2 0) (ad 0) 5 0) (ad 74) 2 0) (ad 78) 3 0) (ad 21) 1 = M (ad 21) 1 ∧ (wr (wr (wr (wr M2 (ad 21) 2 0) (ad 0) 5 0) (ad 74) 2 0) (ad 78) 3 0) (ad 21) 2 = 0 := by
      rw [wr_c _ _ _ (cb_ne hB (by decide) (by decide) (by decide)), wr_c _ _ _ (cb_ne hB (by decide) (by decide) (by decide)), wr_c _ _ _ (cb_ne hB (by decide) (by decide) (by decide)), wr_s, wr_o _ _ (by decide), ko _ (cb_ne hB (by decide) (by decide) (by decide)) (cb_ne hB (by decide) (by decide) (by decide)), wr_c _ _ _ (cb_ne hB (by decide) (by decide) (by decide)), z1.1 _ (cb_ne hB (by decide) (by decide) (by decide)) (fun j a b => cb_ne hB (by decide) (by omega) (by omega))]
      exact ⟨rfl, rfl⟩
    have e74 : (wr (wr (wr (wr M2 (ad 21) 2 0) (ad 0) 5 0) (ad 74) 2 0) (ad 78) 3 0) (ad 74) 2 = 0 := by
      rw [wr_c _ _ _ (cb_ne hB (by decide) (by decide) (by decide)), wr_s]
    have e78 : (wr (wr (wr (wr M2 (ad 21) 2 0) (ad 0) 5 0) (ad 74) 2 0) (ad 78) 3 0) (ad 78) 3 = 0 := wr_s _ _ _ _
    have e1 : (wr (wr (wr (wr M2 (ad 21) 2 0) (ad 0) 5 0) (ad 74) 2 0) (ad 78) 3 0) (ad 1) 1 = 0 := by
      rw [e3 1 (by omega), ko _ (cb_ne hB (by decide) (by decide) (by decide)) (cb_ne hB (by decide) (by decide) (by decide)), wr_s]
    have eF : ∀ c, (∀ i, i < 83 → c ≠ ad i) → (wr (wr (wr (wr M2 (ad 21) 2 0) (ad 0) 5 0) (ad 74) 2 0) (ad 78) 3 0) c = M c := fun c hc => by
      rw [wr_c _ _ _ (hc 78 (by decide)), wr_c _ _ _ (hc 74 (by decide)), wr_c _ _ _ (hc 0 (by decide)), wr_c _ _ _ (hc 21 (by decide)), ko _ (hc 19 (by decide)) (hc 20 (by decide)), wr_c _ _ _ (hc 1 (by decide))]
      exact z1.1 c (hc 1 (by decide)) (fun i _ _ => hc i (by omega))
    generalize (wr (wr (wr (wr M2 (ad 21) 2 0) (ad 0) 5 0) (ad 74) 2 0) (ad 78) 3 0) = M5 at *
    obtain ⟨nx, hx1, hx2, hx3, hx4⟩ := hV.2.2.1
    refine hQ (gSw G ad) M5 (fun i => ad (swp i)) b2 ⟨?_, ?_, ?_, ?_, ?_, ?_, ?_, ?_, ?_⟩ rfl rfl rfl (fun c hc => ⟨?_, eF c hc⟩) (fun i hi => ⟨swp i, swp_lt hi, rfl⟩)
    · exact dTo_k (M := M1) (M' := M5) e2 d1
    · show M5 (ad 19) 0 = ((0 : Nat) : Int) ∧ M5 (ad 19) 1 = ((0 : Nat) : Int) ∧ M5 (ad 19) 2 = ((0 : Nat) : Int) ∧ M5 (ad 19) 3 = ((0 : Nat) : Int) ∧ M5 (ad 19) 4 = ((0 : Nat) : Int) ∧ ∀ p, p < tdN t → M5 (ad 20) p = (tdF t p : Int)
      rw [e3 19 (by omega), e3 20 (by omega)]
      refine ⟨k0 0 (by decide), k0 1 (by decide), k0 2 (by decide), k0 3 (by decide), k0 4 (by decide), fun p hp => ?_⟩
      rw [k5 p (by omega)]
      exact (d1.2.2.2.2.2.1 p hp).2.1
    · exact ⟨nx, hx1, e21.1.trans hx2, e21.2, fun k hk => absurd hk (Nat.not_lt_zero _)⟩
    · refine ⟨e50, fun i hi hb => ?_⟩
      have hb : bt 0 i = 1 := hb
      unfold bt at hb
      rw [Nat.zero_div] at hb
      exact absurd hb (by decide)
    · exact ⟨e1, fun i hi => absurd hi (Nat.not_lt_zero _)⟩
    · exact ⟨e74, fun i hi => absurd hi (Nat.not_lt_zero _)⟩
    · exact ⟨e78, fun i hi => absurd hi (Nat.not_lt_zero _)⟩
    · show M5 (ad 82) 0 = gTr σ
      rw [e 82 (by decide) (by decide) (by decide) (by decide) (by decide) (by decide) (by decide) (by decide) (by decide)]
      exact hV.2.2.2.2.2.2.2.1
    · exact cPl_k (V := vw M ad) (V' := vw M5 (fun i => ad (swp i))) (congrFun (e 51 (by decide) (by decide) (by decide) (by decide) (by decide) (by decide) (by decide) (by decide) (by decide)) 8) (e 72 (by decide) (by decide) (by decide) (by decide) (by decide) (by decide) (by decide) (by decide) (by decide)) hV.2.2.2.2.2.2.2.2
    · unfold gSw
      rw [gW_ne _ _ _ (hc 1 (by decide)), gW_ne _ _ _ (hc 0 (by decide))]
end MEADOW
