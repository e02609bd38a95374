section GRASS2
variable {Γ : aR} {ρ κ : Nat} {G : aG} {M : aM} {Q : aQ}
/-- Grass when the first i sets were looked at -/
def gsI (G : aG) (M0 M : aM) (r n i : Nat) (ok : Nat → Bool) : Prop := (∀ c, c ≠ r → c ≠ rfA G r 2 → M c = M0 c) ∧ M r 3 = M0 r 3 ∧ M r 4 = (cnF ok i : Int) ∧ M r 5 = (alF ok n i : Int) ∧ M r 6 = (soF ok i : Int) ∧ ∀ p, p < n → M (rfA G r 2) p = (wiF ok p i : Int)
theorem weigh_sets {r t n ro sz : Nat} {am gz : Nat → Nat} {M0 : aM} (hρ : 2 ≤ ρ) (hG : GS G r) (hT : isObj G t 8) (h0 : M0 t 0 = (n : Int)) (hn : n ≤ 6) (h9 : M0 t 9 = (ro : Int)) (hro : ro ≤ 4) (hR : RG G M0 r sz am gz) :
    ∀ (k i : Nat) (M : aM), i + k = 2 ^ n → gsI G M0 M r n i (okF ro am gz sz) → (∀ M' : aM, gsI G M0 M' r n (2 ^ n) (okF ro am gz sz) → Q none G M') → WP Γ ρ 0 2 47 [vR (some r), vR (some t), vI i] [] G M Q := by
  have hp2 := p2n hn
  have n1 : t ≠ r := ne_OO hT hG.1 (by decide)
  have n2 : t ≠ rfA G r 2 := (ne_AO hG.2.2.2.1.2 hT).symm
  have n3 : r ≠ rfA G r 2 := (ne_AO hG.2.2.2.1.2 hG.1).symm
  have n4 : rfA G r 0 ≠ r := ne_AO hG.2.1.2 hG.1
  have n5 : rfA G r 1 ≠ r := ne_AO hG.2.2.1.2 hG.1
  intro k
  induction k with
  | zero =>
    intro i M hi hI h
    obtain rfl : i = 2 ^ n := by omega
    have e0 : M t 0 = (n : Int) := by rw [hI.1 t n1 n2]; exact h0
    refine blk bk_r_weigh_47 ?_
    simp (disch := omega) only [st_iconst, st_bipush, st_sipush, st_ldc, st_ldc_w, st_lconst, st_ldc2_w, st_iload_n, st_iload, st_lload_n, st_lload, st_aload_n, st_aload, st_istore_n, st_istore, st_lstore_n, st_lstore, st_astore_n, st_astore, st_iinc, st_iadd, st_isub, st_imul, st_idiv, st_irem, st_iand, st_ior, st_ixor, st_ishl, st_ishr, st_iushr, st_ladd, st_lmul, st_ldiv, st_lrem, st_land, st_lor, st_lxor, st_lshl, st_lshr, st_lcmp, st_i2l, st_l2i, st_i2c, st_dup, st_pop, st_dup2, st_iaload0, st_iaload1, st_caload, st_baload, st_laload, st_aaload, st_iastore, st_castore, st_bastore, st_lastore, st_aastore, st_arraylength0, st_arraylength1, st_getfield, st_putfield0, st_putfield1, st_putfield2, st_putfield3, st_getstatic, st_new, st_newarray, st_anewarray, st_goto, st_ifCond, st_if_icmp, st_tableswitch, st_lookupswitch, st_ireturn, st_lreturn, st_return, st_invokevirtual, st_invokestatic0, st_invokestatic1, st_invokespecial0, st_invokespecial1, cZ_eq, cZ_ne, cZ_lt, cZ_ge, cZ_gt, cZ_le, vcb_n, vcb_c, sw_n, sw_c, ↓pI_d, ↓pL_d, ↓pR_d, ↓pA_d, isI_d, isL_d, isL_di, isL_dr, isL_dj, isA_d, inc_c, stO, fV, List.getD_cons_zero, List.getD_cons_succ, List.set_cons_zero, List.set_cons_succ, List.take_succ_cons, List.take_zero, List.drop_succ_cons, List.drop_zero, List.reverse_cons, List.reverse_nil, List.nil_append, List.cons_append, List.append_nil, Option.toList_some, Option.toList_none, List.length_cons, List.length_nil, Nat.reduceAdd, Nat.reduceSub, Nat.reduceLeDiff, Nat.reduceEqDiff, Nat.add_eq, not_false_eq_true, not_true_eq_false, true_and, and_true, false_or, or_true, true_or, or_false, and_self, one_ne_zero_nat, w32_id, w32_n, Int.toNat_natCast, Int.reduceToNat, Nat.zero_add, Nat.zero_le, Nat.le_refl, Int.reduceEq, Int.reduceLT, Int.reduceLE, Int.reduceAdd, Int.reduceSub, Int.reduceMul, t_imp, f_imp, hT, e0, shl1I]
    refine ⟨fun _ => ?_, fun q => absurd (Int.le_refl _) q⟩
    refine blk bk_r_weigh_118 ?_
    simp (disch := omega) only [st_iconst, st_bipush, st_sipush, st_ldc, st_ldc_w, st_lconst, st_ldc2_w, st_iload_n, st_iload, st_lload_n, st_lload, st_aload_n, st_aload, st_istore_n, st_istore, st_lstore_n, st_lstore, st_astore_n, st_astore, st_iinc, st_iadd, st_isub, st_imul, st_idiv, st_irem, st_iand, st_ior, st_ixor, st_ishl, st_ishr, st_iushr, st_ladd, st_lmul, st_ldiv, st_lrem, st_land, st_lor, st_lxor, st_lshl, st_lshr, st_lcmp, st_i2l, st_l2i, st_i2c, st_dup, st_pop, st_dup2, st_iaload0, st_iaload1, st_caload, st_baload, st_laload, st_aaload, st_iastore, st_castore, st_bastore, st_lastore, st_aastore, st_arraylength0, st_arraylength1, st_getfield, st_putfield0, st_putfield1, st_putfield2, st_putfield3, st_getstatic, st_new, st_newarray, st_anewarray, st_goto, st_ifCond, st_if_icmp, st_tableswitch, st_lookupswitch, st_ireturn, st_lreturn, st_return, st_invokevirtual, st_invokestatic0, st_invokestatic1, st_invokespecial0, st_invokespecial1, cZ_eq, cZ_ne, cZ_lt, cZ_ge, cZ_gt, cZ_le, vcb_n, vcb_c, sw_n, sw_c, ↓pI_d, ↓pL_d, ↓pR_d, ↓pA_d, isI_d, isL_d, isL_di, isL_dr, isL_dj, isA_d, inc_c, stO, fV, List.getD_cons_zero, List.getD_cons_succ, List.set_cons_zero, List.set_cons_succ, List.take_succ_cons, List.take_zero, List.drop_succ_cons, List.drop_zero, List.reverse_cons, List.reverse_nil, List.nil_append, List.cons_append, List.append_nil, Option.toList_some, Option.toList_none, List.length_cons, List.length_nil, Nat.reduceAdd, Nat.reduceSub, Nat.reduceLeDiff, Nat.reduceEqDiff, Nat.add_eq, not_false_eq_true, not_true_eq_false, true_and, and_true, false_or, or_true, true_or, or_false, and_self, one_ne_zero_nat, w32_id, w32_n, Int.toNat_natCast, Int.reduceToNat, Nat.zero_add, Nat.zero_le, Nat.le_refl, Int.reduceEq, Int.reduceLT, Int.reduceLE, Int.reduceAdd, Int.reduceSub, Int.reduceMul, t_imp, f_imp]
    exact h M hI
  | succ k ih =>
    intro i M hi hI h
    obtain ⟨m1, m2, m3, m4, m5, m6⟩ := id hI
    have e0 : M t 0 = (n : Int) := by rw [m1 t n1 n2]; exact h0
    have e9 : M t 9 = (ro : Int) := by rw [m1 t n1 n2]; exact h9
    have hpop := pop_le i
    have hRM : RG G M r sz am gz := ⟨by rw [m2]; exact hR.1, hR.2.1, fun j hj => by rw [m1 _ n4 hG.2.2.2.2.2.1, m1 _ n5 hG.2.2.2.2.2.2]; exact hR.2.2 j hj⟩
    have hoki : okF ro am gz sz i = (decide (pop i ≤ ro) && agF am gz i sz) := rfl
    have c1 := cnF_le (okF ro am gz sz) i
    have c2 := alF_lt (okF ro am gz sz) hn i
    have c3 := soF_lt (okF ro am gz sz) i (by omega)
    have next : ∀ M' : aM, gsI G M0 M' r n (i + 1) (okF ro am gz sz) → WP Γ ρ 0 2 112 [vR (some r), vR (some t), vI i] [] G M' Q := by
      intro M' hI'
      refine blk bk_r_weigh_112 ?_
      simp (disch := omega) only [st_iconst, st_bipush, st_sipush, st_ldc, st_ldc_w, st_lconst, st_ldc2_w, st_iload_n, st_iload, st_lload_n, st_lload, st_aload_n, st_aload, st_istore_n, st_istore, st_lstore_n, st_lstore, st_astore_n, st_astore, st_iinc, st_iadd, st_isub, st_imul, st_idiv, st_irem, st_iand, st_ior, st_ixor, st_ishl, st_ishr, st_iushr, st_ladd, st_lmul, st_ldiv, st_lrem, st_land, st_lor, st_lxor, st_lshl, st_lshr, st_lcmp, st_i2l, st_l2i, st_i2c, st_dup, st_pop, st_dup2, st_iaload0, st_iaload1, st_caload, st_baload, st_laload, st_aaload, st_iastore, st_castore, st_bastore, st_lastore, st_aastore, st_arraylength0, st_arraylength1, st_getfield, st_putfield0, st_putfield1, st_putfield2, st_putfield3, st_getstatic, st_new, st_newarray, st_anewarray, st_goto, st_ifCond, st_if_icmp, st_tableswitch, st_lookupswitch, st_ireturn, st_lreturn, st_return, st_invokevirtual, st_invokestatic0, st_invokestatic1, st_invokespecial0, st_invokespecial1, cZ_eq, cZ_ne, cZ_lt, cZ_ge, cZ_gt, cZ_le, vcb_n, vcb_c, sw_n, sw_c, ↓pI_d, ↓pL_d, ↓pR_d, ↓pA_d, isI_d, isL_d, isL_di, isL_dr, isL_dj, isA_d, inc_c, stO, fV, List.getD_cons_zero, List.getD_cons_succ, List.set_cons_zero, List.set_cons_succ, List.take_succ_cons, List.take_zero, List.drop_succ_cons, List.drop_zero, List.reverse_cons, List.reverse_nil, List.nil_append, List.cons_append, List.append_nil, Option.toList_some, Option.toList_none, List.length_cons, List.length_nil, Nat.reduceAdd, Nat.reduceSub, Nat.reduceLeDiff, Nat.reduceEqDiff, Nat.add_eq, not_false_eq_true, not_true_eq_false, true_and, and_true, false_or, or_true, true_or, or_false, and_self, one_ne_zero_nat, w32_id, w32_n, Int.toNat_natCast, Int.reduceToNat, Nat.zero_add, Nat.zero_le, Nat.le_refl, Int.reduceEq, Int.reduceLT, Int.reduceLE, Int.reduceAdd, Int.reduceSub, Int.reduceMul, t_imp, f_imp]
      exact ih (i + 1) M' (by omega) hI' h
    have skip : okF ro am gz sz i = false → gsI G M0 M r n (i + 1) (okF ro am gz sz) := by
      intro hf
      have hne : ¬ okF ro am gz sz i = true := by rw [hf]; decide
      refine ⟨m1, m2, ?_, ?_, ?_, fun p hp => ?_⟩
      · rw [cnF_s, if_neg hne]; exact m3
      · rw [alF_s, if_neg hne]; exact m4
      · rw [soF_s, if_neg hne]; exact m5
      · rw [wiF_s, if_neg hne]; exact m6 p hp
    clear hI
    generalize hcc : cnF (okF ro am gz sz) i = cc at m3 c1
    generalize haa : alF (okF ro am gz sz) n i = aa at m4 c2
    generalize hss : soF (okF ro am gz sz) i = ss at m5 c3
    refine blk bk_r_weigh_47 ?_
    simp (disch := omega) only [st_iconst, st_bipush, st_sipush, st_ldc, st_ldc_w, st_lconst, st_ldc2_w, st_iload_n, st_iload, st_lload_n, st_lload, st_aload_n, st_aload, st_istore_n, st_istore, st_lstore_n, st_lstore, st_astore_n, st_astore, st_iinc, st_iadd, st_isub, st_imul, st_idiv, st_irem, st_iand, st_ior, st_ixor, st_ishl, st_ishr, st_iushr, st_ladd, st_lmul, st_ldiv, st_lrem, st_land, st_lor, st_lxor, st_lshl, st_lshr, st_lcmp, st_i2l, st_l2i, st_i2c, st_dup, st_pop, st_dup2, st_iaload0, st_iaload1, st_caload, st_baload, st_laload, st_aaload, st_iastore, st_castore, st_bastore, st_lastore, st_aastore, st_arraylength0, st_arraylength1, st_getfield, st_putfield0, st_putfield1, st_putfield2, st_putfield3, st_getstatic, st_new, st_newarray, st_anewarray, st_goto, st_ifCond, st_if_icmp, st_tableswitch, st_lookupswitch, st_ireturn, st_lreturn, st_return, st_invokevirtual, st_invokestatic0, st_invokestatic1, st_invokespecial0, st_invokespecial1, cZ_eq, cZ_ne, cZ_lt, cZ_ge, cZ_gt, cZ_le, vcb_n, vcb_c, sw_n, sw_c, ↓pI_d, ↓pL_d, ↓pR_d, ↓pA_d, isI_d, isL_d, isL_di, isL_dr, isL_dj, isA_d, inc_c, stO, fV, List.getD_cons_zero, List.getD_cons_succ, List.set_cons_zero, List.set_cons_succ, List.take_succ_cons, List.take_zero, List.drop_succ_cons, List.drop_zero, List.reverse_cons, List.reverse_nil, List.nil_append, List.cons_append, List.append_nil, Option.toList_some, Option.toList_none, List.length_cons, List.length_nil, Nat.reduceAdd, Nat.reduceSub, Nat.reduceLeDiff, Nat.reduceEqDiff, Nat.add_eq, not_false_eq_true, not_true_eq_false, true_and, and_true, false_or, or_true, true_or, or_false, and_self, one_ne_zero_nat, w32_id, w32_n, Int.toNat_natCast, Int.reduceToNat, Nat.zero_add, Nat.zero_le, Nat.le_refl, Int.reduceEq, Int.reduceLT, Int.reduceLE, Int.reduceAdd, Int.reduceSub, Int.reduceMul, t_imp, f_imp, hT, e0, shl1I]
    refine ⟨fun q => absurd q (by omega), fun _ => ⟨by omega, s_j_bitCount (by omega) ?_⟩⟩
    refine blk bk_r_weigh_61 ?_
    simp (disch := omega) only [st_iconst, st_bipush, st_sipush, st_ldc, st_ldc_w, st_lconst, st_ldc2_w, st_iload_n, st_iload, st_lload_n, st_lload, st_aload_n, st_aload, st_istore_n, st_istore, st_lstore_n, st_lstore, st_astore_n, st_astore, st_iinc, st_iadd, st_isub, st_imul, st_idiv, st_irem, st_iand, st_ior, st_ixor, st_ishl, st_ishr, st_iushr, st_ladd, st_lmul, st_ldiv, st_lrem, st_land, st_lor, st_lxor, st_lshl, st_lshr, st_lcmp, st_i2l, st_l2i, st_i2c, st_dup, st_pop, st_dup2, st_iaload0, st_iaload1, st_caload, st_baload, st_laload, st_aaload, st_iastore, st_castore, st_bastore, st_lastore, st_aastore, st_arraylength0, st_arraylength1, st_getfield, st_putfield0, st_putfield1, st_putfield2, st_putfield3, st_getstatic, st_new, st_newarray, st_anewarray, st_goto, st_ifCond, st_if_icmp, st_tableswitch, st_lookupswitch, st_ireturn, st_lreturn, st_return, st_invokevirtual, st_invokestatic0, st_invokestatic1, st_invokespecial0, st_invokespecial1, cZ_eq, cZ_ne, cZ_lt, cZ_ge, cZ_gt, cZ_le, vcb_n, vcb_c, sw_n, sw_c, ↓pI_d, ↓pL_d, ↓pR_d, ↓pA_d, isI_d, isL_d, isL_di, isL_dr, isL_dj, isA_d, inc_c, stO, fV, List.getD_cons_zero, List.getD_cons_succ, List.set_cons_zero, List.set_cons_succ, List.take_succ_cons, List.take_zero, List.drop_succ_cons, List.drop_zero, List.reverse_cons, List.reverse_nil, List.nil_append, List.cons_append, List.append_nil, Option.toList_some, Option.toList_none, List.length_cons, List.length_nil, Nat.reduceAdd, Nat.reduceSub, Nat.reduceLeDiff, Nat.reduceEqDiff, Nat.add_eq, not_false_eq_true, not_true_eq_false, true_and, and_true, false_or, or_true, true_or, or_false, and_self, one_ne_zero_nat, w32_id, w32_n, Int.toNat_natCast, Int.reduceToNat, Nat.zero_add, Nat.zero_le, Nat.le_refl, Int.reduceEq, Int.reduceLT, Int.reduceLE, Int.reduceAdd, Int.reduceSub, Int.reduceMul, t_imp, f_imp, hT, e9, hG.1]
    refine ⟨fun h1 => next M (skip ?_), fun h1 => ⟨by omega, s_r_agrees (by omega) hG hRM (by omega) ?_⟩⟩
    · rw [hoki, decide_eq_false (by omega), Bool.false_and]
    have hok : okF ro am gz sz i = agF am gz i sz := by
      rw [hoki, decide_eq_true (by omega), Bool.true_and]
    cases hag : agF am gz i sz with
    | false =>
      rw [if_neg (by decide)]
      refine blk bk_r_weigh_73 ?_
      simp (disch := omega) only [st_iconst, st_bipush, st_sipush, st_ldc, st_ldc_w, st_lconst, st_ldc2_w, st_iload_n, st_iload, st_lload_n, st_lload, st_aload_n, st_aload, st_istore_n, st_istore, st_lstore_n, st_lstore, st_astore_n, st_astore, st_iinc, st_iadd, st_isub, st_imul, st_idiv, st_irem, st_iand, st_ior, st_ixor, st_ishl, st_ishr, st_iushr, st_ladd, st_lmul, st_ldiv, st_lrem, st_land, st_lor, st_lxor, st_lshl, st_lshr, st_lcmp, st_i2l, st_l2i, st_i2c, st_dup, st_pop, st_dup2, st_iaload0, st_iaload1, st_caload, st_baload, st_laload, st_aaload, st_iastore, st_castore, st_bastore, st_lastore, st_aastore, st_arraylength0, st_arraylength1, st_getfield, st_putfield0, st_putfield1, st_putfield2, st_putfield3, st_getstatic, st_new, st_newarray, st_anewarray, st_goto, st_ifCond, st_if_icmp, st_tableswitch, st_lookupswitch, st_ireturn, st_lreturn, st_return, st_invokevirtual, st_invokestatic0, st_invokestatic1, st_invokespecial0, st_invokespecial1, cZ_eq, cZ_ne, cZ_lt, cZ_ge, cZ_gt, cZ_le, vcb_n, vcb_c, sw_n, sw_c, ↓pI_d, ↓pL_d, ↓pR_d, ↓pA_d, isI_d, isL_d, isL_di, isL_dr, isL_dj, isA_d, inc_c, stO, fV, List.getD_cons_zero, List.getD_cons_succ, List.set_cons_zero, List.set_cons_succ, List.take_succ_cons, List.take_zero, List.drop_succ_cons, List.drop_zero, List.reverse_cons, List.reverse_nil, List.nil_append, List.cons_append, List.append_nil, Option.toList_some, Option.toList_none, List.length_cons, List.length_nil, Nat.reduceAdd, Nat.reduceSub, Nat.reduceLeDiff, Nat.reduceEqDiff, Nat.add_eq, not_false_eq_true, not_true_eq_false, true_and, and_true, false_or, or_true, true_or, or_false, and_self, one_ne_zero_nat, w32_id, w32_n, Int.toNat_natCast, Int.reduceToNat, Nat.zero_add, Nat.zero_le, Nat.le_refl, Int.reduceEq, Int.reduceLT, Int.reduceLE, Int.reduceAdd, Int.reduceSub, Int.reduceMul, t_imp, f_imp, hG.1, m3, wr_o, wr_s, m4, m5, andI, orI]
      exact next M (skip (by rw [hok]; exact hag))
    | true =>
      rw [if_pos rfl]
      refine blk bk_r_weigh_73 ?_
      simp (disch := omega) only [st_iconst, st_bipush, st_sipush, st_ldc, st_ldc_w, st_lconst, st_ldc2_w, st_iload_n, st_iload, st_lload_n, st_lload, st_aload_n, st_aload, st_istore_n, st_istore, st_lstore_n, st_lstore, st_astore_n, st_astore, st_iinc, st_iadd, st_isub, st_imul, st_idiv, st_irem, st_iand, st_ior, st_ixor, st_ishl, st_ishr, st_iushr, st_ladd, st_lmul, st_ldiv, st_lrem, st_land, st_lor, st_lxor, st_lshl, st_lshr, st_lcmp, st_i2l, st_l2i, st_i2c, st_dup, st_pop, st_dup2, st_iaload0, st_iaload1, st_caload, st_baload, st_laload, st_aaload, st_iastore, st_castore, st_bastore, st_lastore, st_aastore, st_arraylength0, st_arraylength1, st_getfield, st_putfield0, st_putfield1, st_putfield2, st_putfield3, st_getstatic, st_new, st_newarray, st_anewarray, st_goto, st_ifCond, st_if_icmp, st_tableswitch, st_lookupswitch, st_ireturn, st_lreturn, st_return, st_invokevirtual, st_invokestatic0, st_invokestatic1, st_invokespecial0, st_invokespecial1, cZ_eq, cZ_ne, cZ_lt, cZ_ge, cZ_gt, cZ_le, vcb_n, vcb_c, sw_n, sw_c, ↓pI_d, ↓pL_d, ↓pR_d, ↓pA_d, isI_d, isL_d, isL_di, isL_dr, isL_dj, isA_d, inc_c, stO, fV, List.getD_cons_zero, List.getD_cons_succ, List.set_cons_zero, List.set_cons_succ, List.take_succ_cons, List.take_zero, List.drop_succ_cons, List.drop_zero, List.reverse_cons, List.reverse_nil, List.nil_append, List.cons_append, List.append_nil, Option.toList_some, Option.toList_none, List.length_cons, List.length_nil, Nat.reduceAdd, Nat.reduceSub, Nat.reduceLeDiff, Nat.reduceEqDiff, Nat.add_eq, not_false_eq_true, not_true_eq_false, true_and, and_true, false_or, or_true, true_or, or_false, and_self, one_ne_zero_nat, w32_id, w32_n, Int.toNat_natCast, Int.reduceToNat, Nat.zero_add, Nat.zero_le, Nat.le_refl, Int.reduceEq, Int.reduceLT, Int.reduceLE, Int.reduceAdd, Int.reduceSub, Int.reduceMul, t_imp, f_imp, hG.1, m3, wr_o, wr_s, m4, m5, andI, orI]
      have htr : okF ro am gz sz i = true := by rw [hok]; exact hag
      refine ⟨by omega, s_r_countNamesOf (w := fun p => wiF (okF ro am gz sz) p i) hG hT (n := n) (by rw [wr_c _ _ _ n1, wr_c _ _ _ n1, wr_c _ _ _ n1]; exact e0) hn (by omega) (fun p hp => by rw [wr_c _ _ _ n3.symm, wr_c _ _ _ n3.symm, wr_c _ _ _ n3.symm]; exact m6 p hp) (fun M' q1 q2 => ?_)⟩
      refine next M' ⟨fun c x1 x2 => ?_, ?_, ?_, ?_, ?_, fun p hp => ?_⟩
      · rw [q2 c x2, wr_c _ _ _ x1, wr_c _ _ _ x1, wr_c _ _ _ x1]
        exact m1 c x1 x2
      · rw [q2 r n3, wr_o _ _ (by decide), wr_o _ _ (by decide), wr_o _ _ (by decide)]
        exact m2
      · rw [q2 r n3, wr_o _ _ (by decide), wr_o _ _ (by decide), wr_s]
        rw [cnF_s, if_pos htr, hcc, Int.natCast_add]
        rfl
      · rw [q2 r n3, wr_o _ _ (by decide), wr_s]
        rw [alF_s, if_pos htr, haa]
      · rw [q2 r n3, wr_s]
        rw [soF_s, if_pos htr, hss]
      · rw [q1 p hp]
        rw [wiF_s, if_pos htr]
end GRASS2
