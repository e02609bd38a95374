/-! ===== longs of natural numbers; inFourBits, floorMod, wasReached ===== -/
theorem oL {n : Nat} (h : n < 4611686018427387904) : Int64.ofInt (n : Int) = lN n := by
  have e : (lN n).toInt = (n : Int) := lg_ofNat_toInt (by omega)
  rw [← Int64.toInt_inj, o64_toInt, e, w64_id (by omega) (by omega)]
theorem lN_tI {n : Nat} (h : n < 4611686018427387904) : (lN n).toInt = (n : Int) := lg_ofNat_toInt (by omega)
theorem lOrI {a b : Nat} (ha : a < 4611686018427387904) (hb : b < 4611686018427387904) : lOr (a : Int) (b : Int) = ((a ||| b : Nat) : Int) := by
  have e : lN a ||| lN b = lN (a ||| b) := by
    rw [← Int64.toBitVec_inj]
    show BitVec.ofNat 64 a ||| BitVec.ofNat 64 b = BitVec.ofNat 64 (a ||| b)
    rw [BitVec.ofNat_or]
  rw [lOr_eq, oL ha, oL hb, e, lN_tI (Nat.or_lt_two_pow (n := 62) ha hb)]
theorem lXorI {a b : Nat} (ha : a < 4611686018427387904) (hb : b < 4611686018427387904) : lXor (a : Int) (b : Int) = ((a ^^^ b : Nat) : Int) := by
  have e : lN a ^^^ lN b = lN (a ^^^ b) := by
    rw [← Int64.toBitVec_inj]
    show BitVec.ofNat 64 a ^^^ BitVec.ofNat 64 b = BitVec.ofNat 64 (a ^^^ b)
    rw [BitVec.ofNat_xor]
  rw [lXor_eq, oL ha, oL hb, e, lN_tI (Nat.xor_lt_two_pow (n := 62) ha hb)]
theorem lAndI {a b : Nat} (ha : a < 4611686018427387904) (hb : b < 4611686018427387904) : lAnd (a : Int) (b : Int) = ((a &&& b : Nat) : Int) := by
  have e : lN a &&& lN b = lN (a &&& b) := by
    rw [← Int64.toBitVec_inj]
    show BitVec.ofNat 64 a &&& BitVec.ofNat 64 b = BitVec.ofNat 64 (a &&& b)
    rw [BitVec.ofNat_and]
  rw [lAnd_eq, oL ha, oL hb, e, lN_tI (Nat.lt_of_le_of_lt Nat.and_le_left ha)]
theorem sh63 : ∀ k : Nat, k < 32 → ((Int32.ofInt (k : Int)).toInt64 &&& 63).toBitVec.smod 64 = BitVec.ofNat 64 k := by decide +kernel
theorem lShlI {a k : Nat} (hk : k < 32) (h : a * 2 ^ k < 4611686018427387904) : lShl (a : Int) (k : Int) = ((a * 2 ^ k : Nat) : Int) := by
  have ha : a < 4611686018427387904 := Nat.lt_of_le_of_lt (Nat.le_mul_of_pos_right a (Nat.two_pow_pos k)) h
  have e : lN a <<< ((Int32.ofInt (k : Int)).toInt64 &&& 63) = lN (a * 2 ^ k) := by
    apply Int64.toBitVec_inj.mp
    rw [Int64.toBitVec_shiftLeft, sh63 k hk]
    apply BitVec.eq_of_toNat_eq
    have hb : (lN a).toBitVec.toNat = a := Nat.mod_eq_of_lt (by omega)
    have hk' : (BitVec.ofNat 64 k).toNat = k := Nat.mod_eq_of_lt (by omega)
    have h : ((lN a).toBitVec <<< BitVec.ofNat 64 k).toNat = (a * 2 ^ k) % 2 ^ 64 := by simp only [BitVec.shiftLeft_eq', BitVec.toNat_shiftLeft, hb, hk', Nat.shiftLeft_eq]
    exact h
  rw [lShl_eq, oL ha, e, lN_tI h]
theorem lShrI {a k : Nat} (hk : k < 32) (ha : a < 4611686018427387904) : lShr (a : Int) (k : Int) = ((a / 2 ^ k : Nat) : Int) := by
  have hd : a / 2 ^ k ≤ a := Nat.div_le_self _ _
  have e : (lN a >>> ((Int32.ofInt (k : Int)).toInt64 &&& 63)).toInt = (lN a).toInt >>> k := by
    have h1 := congrArg BitVec.toNat (sh63 k hk)
    have hk' : (BitVec.ofNat 64 k).toNat = k := Nat.mod_eq_of_lt (by omega)
    rw [hk'] at h1
    have h2 : (lN a >>> ((Int32.ofInt (k : Int)).toInt64 &&& 63)).toInt = (lN a).toInt >>> ((((Int32.ofInt (k : Int)).toInt64 &&& 63).toBitVec.smod 64).toNat) := BitVec.toInt_sshiftRight ..
    rw [h2, h1]
  rw [lShr_eq, oL ha, e, Int.shiftRight_eq_div_pow, lN_tI ha]
  rfl
theorem lsh3 {a : Nat} (h : a < 1000000000000) : lShl (a : Int) 3 = ((a * 8 : Nat) : Int) := lShlI (k := 3) (by decide) (by omega)
theorem lsh20 {a : Nat} (h : a < 1000000000000) : lShl (a : Int) 20 = ((a * 1048576 : Nat) : Int) := lShlI (k := 20) (by decide) (by omega)
theorem lsh7 {a : Nat} (h : a < 1000000000000) : lShl (a : Int) 7 = ((a * 128 : Nat) : Int) := lShlI (k := 7) (by decide) (by omega)
theorem lsr7 {a : Nat} (h : a < 1000000000000) : lShr (a : Int) 7 = ((a / 128 : Nat) : Int) := lShrI (k := 7) (by decide) (by omega)
theorem lan127 {a : Nat} (h : a < 1000000000000) : lAnd (a : Int) 127 = ((a % 128 : Nat) : Int) := by
  have := lAndI (a := a) (b := 127) (by omega) (by decide)
  rw [show (127 : Nat) = 2 ^ 7 - 1 by decide, Nat.and_two_pow_sub_one_eq_mod] at this
  exact this
theorem or_ad {a b k : Nat} (h : b < 2 ^ k) : a * 2 ^ k ||| b = a * 2 ^ k + b := by
  rw [Nat.mul_comm]
  exact (Nat.two_pow_add_eq_or_of_lt h a).symm
theorem lor8 {a b : Nat} (ha : a < 1000000000000) (h : b < 8) : lOr ((a * 8 : Nat) : Int) (b : Int) = ((a * 8 + b : Nat) : Int) := by
  rw [lOrI (by omega) (by omega), or_ad (k := 3) h]
theorem lor20 {a b : Nat} (ha : a < 1000000000000) (h : b < 1048576) : lOr ((a * 1048576 : Nat) : Int) (b : Int) = ((a * 1048576 + b : Nat) : Int) := by
  rw [lOrI (by omega) (by omega), or_ad (k := 20) h]
theorem lor7 {a b : Nat} (ha : a < 1000000000000) (h : b < 128) : lOr ((a * 128 : Nat) : Int) (b : Int) = ((a * 128 + b : Nat) : Int) := by
  rw [lOrI (by omega) (by omega), or_ad (k := 7) h]
theorem fin_ib : ∀ w, w < 32 → (w &&& 1 ||| (w &&& 2) * 8 ||| (w &&& 4) * 64 ||| (w &&& 8) * 512 ||| (w &&& 16) * 4096) = plIb w ∧ plIb w ≤ 69905 := by decide +kernel
section REACH
variable {Γ : aR} {ρ κ bd : Nat} {G : aG} {M : aM} {Q : aQ} {ad : Nat → Nat} {σ : SG}
theorem s_p_inFourBits {w : Nat} (hw : w < 32) (hQ : Q (some (vI (plIb w : Nat))) G M) : WPm Γ ρ 0 36 [vI w] G M Q := by
  have f := fin_ib w hw
  have a1 : bAnd (w : Int) 1 = ((w &&& 1 : Nat) : Int) := andI (b := 1) (by omega) (by decide)
  have a2 : bAnd (w : Int) 2 = ((w &&& 2 : Nat) : Int) := andI (b := 2) (by omega) (by decide)
  have a4 : bAnd (w : Int) 4 = ((w &&& 4 : Nat) : Int) := andI (b := 4) (by omega) (by decide)
  have a8 : bAnd (w : Int) 8 = ((w &&& 8 : Nat) : Int) := andI (b := 8) (by omega) (by decide)
  have a16 : bAnd (w : Int) 16 = ((w &&& 16 : Nat) : Int) := andI (b := 16) (by omega) (by decide)
  have l1 : w &&& 1 ≤ 1 := Nat.and_le_right
  have l2 : w &&& 2 ≤ 2 := Nat.and_le_right
  have l4 : w &&& 4 ≤ 4 := Nat.and_le_right
  have l8 : w &&& 8 ≤ 8 := Nat.and_le_right
  have l16 : w &&& 16 ≤ 16 := Nat.and_le_right
  have s3 : bShl ((w &&& 2 : Nat) : Int) 3 = (((w &&& 2) * 8 : Nat) : Int) := shlI (p := 3) (by omega) (by decide) (by omega)
  have s6 : bShl ((w &&& 4 : Nat) : Int) 6 = (((w &&& 4) * 64 : Nat) : Int) := shlI (p := 6) (by omega) (by decide) (by omega)
  have s9 : bShl ((w &&& 8 : Nat) : Int) 9 = (((w &&& 8) * 512 : Nat) : Int) := shlI (p := 9) (by omega) (by decide) (by omega)
  have s12 : bShl ((w &&& 16 : Nat) : Int) 12 = (((w &&& 16) * 4096 : Nat) : Int) := shlI (p := 12) (by omega) (by decide) (by omega)
  have o1 := Nat.or_lt_two_pow (n := 20) (x := w &&& 1) (y := (w &&& 2) * 8) (by omega) (by omega)
  have o2 := Nat.or_lt_two_pow (n := 20) (y := (w &&& 4) * 64) o1 (by omega)
  have o3 := Nat.or_lt_two_pow (n := 20) (y := (w &&& 8) * 512) o2 (by omega)
  rw [← f.1] at hQ
  clear f
  have e1 : bOr ((w &&& 1 : Nat) : Int) (((w &&& 2) * 8 : Nat) : Int) = ((w &&& 1 ||| (w &&& 2) * 8 : Nat) : Int) := orI (by omega) (by omega)
  have e2 : bOr ((w &&& 1 ||| (w &&& 2) * 8 : Nat) : Int) (((w &&& 4) * 64 : Nat) : Int) = ((w &&& 1 ||| (w &&& 2) * 8 ||| (w &&& 4) * 64 : Nat) : Int) := orI (by omega) (by omega)
  have e3 : bOr ((w &&& 1 ||| (w &&& 2) * 8 ||| (w &&& 4) * 64 : Nat) : Int) (((w &&& 8) * 512 : Nat) : Int) = ((w &&& 1 ||| (w &&& 2) * 8 ||| (w &&& 4) * 64 ||| (w &&& 8) * 512 : Nat) : Int) := orI (by omega) (by omega)
  have e4 : bOr ((w &&& 1 ||| (w &&& 2) * 8 ||| (w &&& 4) * 64 ||| (w &&& 8) * 512 : Nat) : Int) (((w &&& 16) * 4096 : Nat) : Int) = ((w &&& 1 ||| (w &&& 2) * 8 ||| (w &&& 4) * 64 ||| (w &&& 8) * 512 ||| (w &&& 16) * 4096 : Nat) : Int) := orI (by omega) (by omega)
  refine WPm_of (L := [vI w]) 0 (by decide) (Nat.le_of_ble_eq_true rfl) rfl ?_
  refine blk bk_p_inFourBits_0 ?_
  simp (disch := omega) only [st_iconst, st_bipush, st_sipush, st_ldc, st_ldc_w, st_lconst, st_ldc2_w, st_iload_n, st_iload, st_lload_n, st_lload, st_aload_n, st_aload, st_istore_n, st_istore, st_lstore_n, st_lstore, st_astore_n, st_astore, st_iinc, st_iadd, st_isub, st_imul, st_idiv, st_irem, st_iand, st_ior, st_ixor, st_ishl, st_ishr, st_iushr, st_ladd, st_lmul, st_ldiv, st_lrem, st_land, st_lor, st_lxor, st_lshl, st_lshr, st_lcmp, st_i2l, st_l2i, st_i2c, st_dup, st_pop, st_dup2, st_iaload0, st_iaload1, st_caload, st_baload, st_laload, st_aaload, st_iastore, st_castore, st_bastore, st_lastore, st_aastore, st_arraylength0, st_arraylength1, st_getfield, st_putfield0, st_putfield1, st_putfield2, st_putfield3, st_getstatic, st_new, st_newarray, st_anewarray, st_goto, st_ifCond, st_if_icmp, st_tableswitch, st_lookupswitch, st_ireturn, st_lreturn, st_return, st_invokevirtual, st_invokestatic0, st_invokestatic1, st_invokespecial0, st_invokespecial1, cZ_eq, cZ_ne, cZ_lt, cZ_ge, cZ_gt, cZ_le, vcb_n, vcb_c, sw_n, sw_c, ↓pI_d, ↓pL_d, ↓pR_d, ↓pA_d, isI_d, isL_d, isL_di, isL_dr, isL_dj, isA_d, inc_c, stO, fV, List.getD_cons_zero, List.getD_cons_succ, List.set_cons_zero, List.set_cons_succ, List.take_succ_cons, List.take_zero, List.drop_succ_cons, List.drop_zero, List.reverse_cons, List.reverse_nil, List.nil_append, List.cons_append, List.append_nil, Option.toList_some, Option.toList_none, List.length_cons, List.length_nil, Nat.reduceAdd, Nat.reduceSub, Nat.reduceLeDiff, Nat.reduceEqDiff, Nat.add_eq, not_false_eq_true, not_true_eq_false, true_and, and_true, false_or, or_true, true_or, or_false, and_self, one_ne_zero_nat, w32_id, w32_n, Int.toNat_natCast, Int.reduceToNat, Nat.zero_add, Nat.zero_le, Nat.le_refl, Int.reduceEq, Int.reduceLT, Int.reduceLE, Int.reduceAdd, Int.reduceSub, Int.reduceMul, t_imp, f_imp, a1, a2, a4, a8, a16, s3, s6, s9, s12, e1, e2, e3, e4]
  exact hQ
theorem s_j_floorMod {x y : Nat} (hx : x < 1000000000000) (hy : y < 1000000000000) (hy0 : 0 < y) (hQ : Q (some (vL (x % y : Nat))) G M) : WPm Γ ρ 0 144 [vL x, vL y] G M Q := by
  have w1 : w64 (x : Int) = (x : Int) := w64_id (by omega) (by omega)
  have w2 : w64 (y : Int) = (y : Int) := w64_id (by omega) (by omega)
  have e1 : tM (x : Int) (y : Int) = ((x % y : Nat) : Int) := tMn
  have e2 : lXor (x : Int) (y : Int) = ((x ^^^ y : Nat) : Int) := lXorI (by omega) (by omega)
  have e3 : x ^^^ y < 1099511627776 := Nat.xor_lt_two_pow (n := 40) (by omega) (by omega)
  have e4 : lcmpI ((x ^^^ y : Nat) : Int) 0 = 0 ∨ lcmpI ((x ^^^ y : Nat) : Int) 0 = 1 := by
    unfold lcmpI
    rw [w64_id (by omega) (by omega), w64_id (by omega) (by omega)]
    by_cases h : ((x ^^^ y : Nat) : Int) = 0
    · rw [if_neg (by omega), if_pos h]
      exact .inl rfl
    · rw [if_neg (by omega), if_neg h]
      exact .inr rfl
  have hn : ¬ (y : Int) = 0 := by omega
  generalize x ^^^ y = z at *
  generalize x % y = r at *
  refine WPm_of (L := [vL x, vJ, vL y, vJ, vJ, vJ]) 2 (by decide) (Nat.le_of_ble_eq_true rfl) rfl ?_
  rcases e4 with e4 | e4
  · refine blk bk_j_floorMod_0 ?_
    simp (disch := omega) only [st_iconst, st_bipush, st_sipush, st_ldc, st_ldc_w, st_lconst, st_ldc2_w, st_iload_n, st_iload, st_lload_n, st_lload, st_aload_n, st_aload, st_istore_n, st_istore, st_lstore_n, st_lstore, st_astore_n, st_astore, st_iinc, st_iadd, st_isub, st_imul, st_idiv, st_irem, st_iand, st_ior, st_ixor, st_ishl, st_ishr, st_iushr, st_ladd, st_lmul, st_ldiv, st_lrem, st_land, st_lor, st_lxor, st_lshl, st_lshr, st_lcmp, st_i2l, st_l2i, st_i2c, st_dup, st_pop, st_dup2, st_iaload0, st_iaload1, st_caload, st_baload, st_laload, st_aaload, st_iastore, st_castore, st_bastore, st_lastore, st_aastore, st_arraylength0, st_arraylength1, st_getfield, st_putfield0, st_putfield1, st_putfield2, st_putfield3, st_getstatic, st_new, st_newarray, st_anewarray, st_goto, st_ifCond, st_if_icmp, st_tableswitch, st_lookupswitch, st_ireturn, st_lreturn, st_return, st_invokevirtual, st_invokestatic0, st_invokestatic1, st_invokespecial0, st_invokespecial1, cZ_eq, cZ_ne, cZ_lt, cZ_ge, cZ_gt, cZ_le, vcb_n, vcb_c, sw_n, sw_c, ↓pI_d, ↓pL_d, ↓pR_d, ↓pA_d, isI_d, isL_d, isL_di, isL_dr, isL_dj, isA_d, inc_c, stO, fV, List.getD_cons_zero, List.getD_cons_succ, List.set_cons_zero, List.set_cons_succ, List.take_succ_cons, List.take_zero, List.drop_succ_cons, List.drop_zero, List.reverse_cons, List.reverse_nil, List.nil_append, List.cons_append, List.append_nil, Option.toList_some, Option.toList_none, List.length_cons, List.length_nil, Nat.reduceAdd, Nat.reduceSub, Nat.reduceLeDiff, Nat.reduceEqDiff, Nat.add_eq, not_false_eq_true, not_true_eq_false, true_and, and_true, false_or, or_true, true_or, or_false, and_self, one_ne_zero_nat, w32_id, w32_n, Int.toNat_natCast, Int.reduceToNat, Nat.zero_add, Nat.zero_le, Nat.le_refl, Int.reduceEq, Int.reduceLT, Int.reduceLE, Int.reduceAdd, Int.reduceSub, Int.reduceMul, t_imp, f_imp, w1, w2, e1, e2, hn, e4]
    refine blk bk_j_floorMod_25 ?_
    simp (disch := omega) only [st_iconst, st_bipush, st_sipush, st_ldc, st_ldc_w, st_lconst, st_ldc2_w, st_iload_n, st_iload, st_lload_n, st_lload, st_aload_n, st_aload, st_istore_n, st_istore, st_lstore_n, st_lstore, st_astore_n, st_astore, st_iinc, st_iadd, st_isub, st_imul, st_idiv, st_irem, st_iand, st_ior, st_ixor, st_ishl, st_ishr, st_iushr, st_ladd, st_lmul, st_ldiv, st_lrem, st_land, st_lor, st_lxor, st_lshl, st_lshr, st_lcmp, st_i2l, st_l2i, st_i2c, st_dup, st_pop, st_dup2, st_iaload0, st_iaload1, st_caload, st_baload, st_laload, st_aaload, st_iastore, st_castore, st_bastore, st_lastore, st_aastore, st_arraylength0, st_arraylength1, st_getfield, st_putfield0, st_putfield1, st_putfield2, st_putfield3, st_getstatic, st_new, st_newarray, st_anewarray, st_goto, st_ifCond, st_if_icmp, st_tableswitch, st_lookupswitch, st_ireturn, st_lreturn, st_return, st_invokevirtual, st_invokestatic0, st_invokestatic1, st_invokespecial0, st_invokespecial1, cZ_eq, cZ_ne, cZ_lt, cZ_ge, cZ_gt, cZ_le, vcb_n, vcb_c, sw_n, sw_c, ↓pI_d, ↓pL_d, ↓pR_d, ↓pA_d, isI_d, isL_d, isL_di, isL_dr, isL_dj, isA_d, inc_c, stO, fV, List.getD_cons_zero, List.getD_cons_succ, List.set_cons_zero, List.set_cons_succ, List.take_succ_cons, List.take_zero, List.drop_succ_cons, List.drop_zero, List.reverse_cons, List.reverse_nil, List.nil_append, List.cons_append, List.append_nil, Option.toList_some, Option.toList_none, List.length_cons, List.length_nil, Nat.reduceAdd, Nat.reduceSub, Nat.reduceLeDiff, Nat.reduceEqDiff, Nat.add_eq, not_false_eq_true, not_true_eq_false, true_and, and_true, false_or, or_true, true_or, or_false, and_self, one_ne_zero_nat, w32_id, w32_n, Int.toNat_natCast, Int.reduceToNat, Nat.zero_add, Nat.zero_le, Nat.le_refl, Int.reduceEq, Int.reduceLT, Int.reduceLE, Int.reduceAdd, Int.reduceSub, Int.reduceMul, t_imp, f_imp]
    exact hQ
  · refine blk bk_j_floorMod_0 ?_
    simp (disch := omega) only [st_iconst, st_bipush, st_sipush, st_ldc, st_ldc_w, st_lconst, st_ldc2_w, st_iload_n, st_iload, st_lload_n, st_lload, st_aload_n, st_aload, st_istore_n, st_istore, st_lstore_n, st_lstore, st_astore_n, st_astore, st_iinc, st_iadd, st_isub, st_imul, st_idiv, st_irem, st_iand, st_ior, st_ixor, st_ishl, st_ishr, st_iushr, st_ladd, st_lmul, st_ldiv, st_lrem, st_land, st_lor, st_lxor, st_lshl, st_lshr, st_lcmp, st_i2l, st_l2i, st_i2c, st_dup, st_pop, st_dup2, st_iaload0, st_iaload1, st_caload, st_baload, st_laload, st_aaload, st_iastore, st_castore, st_bastore, st_lastore, st_aastore, st_arraylength0, st_arraylength1, st_getfield, st_putfield0, st_putfield1, st_putfield2, st_putfield3, st_getstatic, st_new, st_newarray, st_anewarray, st_goto, st_ifCond, st_if_icmp, st_tableswitch, st_lookupswitch, st_ireturn, st_lreturn, st_return, st_invokevirtual, st_invokestatic0, st_invokestatic1, st_invokespecial0, st_invokespecial1, cZ_eq, cZ_ne, cZ_lt, cZ_ge, cZ_gt, cZ_le, vcb_n, vcb_c, sw_n, sw_c, ↓pI_d, ↓pL_d, ↓pR_d, ↓pA_d, isI_d, isL_d, isL_di, isL_dr, isL_dj, isA_d, inc_c, stO, fV, List.getD_cons_zero, List.getD_cons_succ, List.set_cons_zero, List.set_cons_succ, List.take_succ_cons, List.take_zero, List.drop_succ_cons, List.drop_zero, List.reverse_cons, List.reverse_nil, List.nil_append, List.cons_append, List.append_nil, Option.toList_some, Option.toList_none, List.length_cons, List.length_nil, Nat.reduceAdd, Nat.reduceSub, Nat.reduceLeDiff, Nat.reduceEqDiff, Nat.add_eq, not_false_eq_true, not_true_eq_false, true_and, and_true, false_or, or_true, true_or, or_false, and_self, one_ne_zero_nat, w32_id, w32_n, Int.toNat_natCast, Int.reduceToNat, Nat.zero_add, Nat.zero_le, Nat.le_refl, Int.reduceEq, Int.reduceLT, Int.reduceLE, Int.reduceAdd, Int.reduceSub, Int.reduceMul, t_imp, f_imp, w1, w2, e1, e2, hn, e4]
    refine blk bk_j_floorMod_25 ?_
    simp (disch := omega) only [st_iconst, st_bipush, st_sipush, st_ldc, st_ldc_w, st_lconst, st_ldc2_w, st_iload_n, st_iload, st_lload_n, st_lload, st_aload_n, st_aload, st_istore_n, st_istore, st_lstore_n, st_lstore, st_astore_n, st_astore, st_iinc, st_iadd, st_isub, st_imul, st_idiv, st_irem, st_iand, st_ior, st_ixor, st_ishl, st_ishr, st_iushr, st_ladd, st_lmul, st_ldiv, st_lrem, st_land, st_lor, st_lxor, st_lshl, st_lshr, st_lcmp, st_i2l, st_l2i, st_i2c, st_dup, st_pop, st_dup2, st_iaload0, st_iaload1, st_caload, st_baload, st_laload, st_aaload, st_iastore, st_castore, st_bastore, st_lastore, st_aastore, st_arraylength0, st_arraylength1, st_getfield, st_putfield0, st_putfield1, st_putfield2, st_putfield3, st_getstatic, st_new, st_newarray, st_anewarray, st_goto, st_ifCond, st_if_icmp, st_tableswitch, st_lookupswitch, st_ireturn, st_lreturn, st_return, st_invokevirtual, st_invokestatic0, st_invokestatic1, st_invokespecial0, st_invokespecial1, cZ_eq, cZ_ne, cZ_lt, cZ_ge, cZ_gt, cZ_le, vcb_n, vcb_c, sw_n, sw_c, ↓pI_d, ↓pL_d, ↓pR_d, ↓pA_d, isI_d, isL_d, isL_di, isL_dr, isL_dj, isA_d, inc_c, stO, fV, List.getD_cons_zero, List.getD_cons_succ, List.set_cons_zero, List.set_cons_succ, List.take_succ_cons, List.take_zero, List.drop_succ_cons, List.drop_zero, List.reverse_cons, List.reverse_nil, List.nil_append, List.cons_append, List.append_nil, Option.toList_some, Option.toList_none, List.length_cons, List.length_nil, Nat.reduceAdd, Nat.reduceSub, Nat.reduceLeDiff, Nat.reduceEqDiff, Nat.add_eq, not_false_eq_true, not_true_eq_false, true_and, and_true, false_or, or_true, true_or, or_false, and_self, one_ne_zero_nat, w32_id, w32_n, Int.toNat_natCast, Int.reduceToNat, Nat.zero_add, Nat.zero_le, Nat.le_refl, Int.reduceEq, Int.reduceLT, Int.reduceLE, Int.reduceAdd, Int.reduceSub, Int.reduceMul, t_imp, f_imp]
    exact hQ
theorem s_p_wasReached {p μ h md e : Nat} (hρ : 1 ≤ ρ) (hB : CB G ad) (h8 : M (ad 51) 8 = (md : Int)) (hmd : md ≤ 1000) (hp : p < 8) (hμ : μ < 1048576) (hh : h < 128) (he : M (ad 72) (((md * 8 + p) * 1048576 + μ) % 1021) = (e : Int)) (he2 : e < 1000000000000) (h1 : e / 128 = (md * 8 + p) * 1048576 + μ ∧ e % 128 ≤ h → Q (some (vI 1)) G M) (h0 : ¬ (e / 128 = (md * 8 + p) * 1048576 + μ ∧ e % 128 ≤ h) → Q (some (vI 0)) G (wr M (ad 72) (((md * 8 + p) * 1048576 + μ) % 1021) ((((md * 8 + p) * 1048576 + μ) * 128 + h : Nat) : Int))) : WPm Γ ρ 0 35 [vR (some (ad 51)), vI p, vI μ, vI h] G M Q := by
  have k1 : lShl (md : Int) 3 = ((md * 8 : Nat) : Int) := lsh3 (by omega)
  have k2 : lOr ((md * 8 : Nat) : Int) (p : Int) = ((md * 8 + p : Nat) : Int) := lor8 (by omega) hp
  have k3 : lShl ((md * 8 + p : Nat) : Int) 20 = (((md * 8 + p) * 1048576 : Nat) : Int) := lsh20 (by omega)
  have k4 : lOr (((md * 8 + p) * 1048576 : Nat) : Int) (μ : Int) = (((md * 8 + p) * 1048576 + μ : Nat) : Int) := lor20 (by omega) hμ
  have hk : (md * 8 + p) * 1048576 + μ < 100000000000 := by omega
  have k5 : lShl (((md * 8 + p) * 1048576 + μ : Nat) : Int) 7 = ((((md * 8 + p) * 1048576 + μ) * 128 : Nat) : Int) := lsh7 (by omega)
  have k6 : lOr ((((md * 8 + p) * 1048576 + μ) * 128 : Nat) : Int) (h : Int) = ((((md * 8 + p) * 1048576 + μ) * 128 + h : Nat) : Int) := lor7 (by omega) hh
  have k7 : lShr (e : Int) 7 = ((e / 128 : Nat) : Int) := lsr7 he2
  have k8 : lAnd (e : Int) 127 = ((e % 128 : Nat) : Int) := lan127 he2
  refine WPm_of (L := [vR (some (ad 51)), vI p, vI μ, vI h, vJ, vJ, vJ]) 3 (by decide) (Nat.le_of_ble_eq_true rfl) rfl ?_
  refine blk bk_p_wasReached_0 ?_
  simp (disch := omega) only [st_iconst, st_bipush, st_sipush, st_ldc, st_ldc_w, st_lconst, st_ldc2_w, st_iload_n, st_iload, st_lload_n, st_lload, st_aload_n, st_aload, st_istore_n, st_istore, st_lstore_n, st_lstore, st_astore_n, st_astore, st_iinc, st_iadd, st_isub, st_imul, st_idiv, st_irem, st_iand, st_ior, st_ixor, st_ishl, st_ishr, st_iushr, st_ladd, st_lmul, st_ldiv, st_lrem, st_land, st_lor, st_lxor, st_lshl, st_lshr, st_lcmp, st_i2l, st_l2i, st_i2c, st_dup, st_pop, st_dup2, st_iaload0, st_iaload1, st_caload, st_baload, st_laload, st_aaload, st_iastore, st_castore, st_bastore, st_lastore, st_aastore, st_arraylength0, st_arraylength1, st_getfield, st_putfield0, st_putfield1, st_putfield2, st_putfield3, st_getstatic, st_new, st_newarray, st_anewarray, st_goto, st_ifCond, st_if_icmp, st_tableswitch, st_lookupswitch, st_ireturn, st_lreturn, st_return, st_invokevirtual, st_invokestatic0, st_invokestatic1, st_invokespecial0, st_invokespecial1, cZ_eq, cZ_ne, cZ_lt, cZ_ge, cZ_gt, cZ_le, vcb_n, vcb_c, sw_n, sw_c, ↓pI_d, ↓pL_d, ↓pR_d, ↓pA_d, isI_d, isL_d, isL_di, isL_dr, isL_dj, isA_d, inc_c, stO, fV, List.getD_cons_zero, List.getD_cons_succ, List.set_cons_zero, List.set_cons_succ, List.take_succ_cons, List.take_zero, List.drop_succ_cons, List.drop_zero, List.reverse_cons, List.reverse_nil, List.nil_append, List.cons_append, List.append_nil, Option.toList_some, Option.toList_none, List.length_cons, List.length_nil, Nat.reduceAdd, Nat.reduceSub, Nat.reduceLeDiff, Nat.reduceEqDiff, Nat.add_eq, not_false_eq_true, not_true_eq_false, true_and, and_true, false_or, or_true, true_or, or_false, and_self, one_ne_zero_nat, w32_id, w32_n, Int.toNat_natCast, Int.reduceToNat, Nat.zero_add, Nat.zero_le, Nat.le_refl, Int.reduceEq, Int.reduceLT, Int.reduceLE, Int.reduceAdd, Int.reduceSub, Int.reduceMul, t_imp, f_imp, cO51 hB, h8, k1, k2, k3, k4]
  clear k1 k2 k3 k4 h8
  generalize (md * 8 + p) * 1048576 + μ = key at *
  have hm : key % 1021 < 1021 := Nat.mod_lt _ (by decide)
  refine ⟨by omega, s_j_floorMod (y := 1021) (by omega) (by decide) (by decide) ?_⟩
  generalize key % 1021 = at' at *
  have j72 : inA G (ad 72) 1 (at' : Int) := in_of (cA72 hB) (by omega) (by omega) (by decide)
  have ce : e / 128 < 1000000000000 := by omega
  have ce2 : e % 128 < 128 := by omega
  have c1 := lc_nn (a := e / 128) (b := key) (by omega) (by omega)
  have c2 := lc_nn (a := e % 128) (b := h) (by omega) (by omega)
  have no : ¬ (e / 128 = key ∧ e % 128 ≤ h) → WP Γ ρ 0 35 63 [vR (some (ad 51)), vI p, vI μ, vI h, vL key, vJ, vI at'] [] G M Q := by
    intro hc
    have hq := h0 hc
    clear c1 c2 h0 h1 hc k7 k8
    refine blk bk_p_wasReached_63 ?_
    simp (disch := omega) only [st_iconst, st_bipush, st_sipush, st_ldc, st_ldc_w, st_lconst, st_ldc2_w, st_iload_n, st_iload, st_lload_n, st_lload, st_aload_n, st_aload, st_istore_n, st_istore, st_lstore_n, st_lstore, st_astore_n, st_astore, st_iinc, st_iadd, st_isub, st_imul, st_idiv, st_irem, st_iand, st_ior, st_ixor, st_ishl, st_ishr, st_iushr, st_ladd, st_lmul, st_ldiv, st_lrem, st_land, st_lor, st_lxor, st_lshl, st_lshr, st_lcmp, st_i2l, st_l2i, st_i2c, st_dup, st_pop, st_dup2, st_iaload0, st_iaload1, st_caload, st_baload, st_laload, st_aaload, st_iastore, st_castore, st_bastore, st_lastore, st_aastore, st_arraylength0, st_arraylength1, st_getfield, st_putfield0, st_putfield1, st_putfield2, st_putfield3, st_getstatic, st_new, st_newarray, st_anewarray, st_goto, st_ifCond, st_if_icmp, st_tableswitch, st_lookupswitch, st_ireturn, st_lreturn, st_return, st_invokevirtual, st_invokestatic0, st_invokestatic1, st_invokespecial0, st_invokespecial1, cZ_eq, cZ_ne, cZ_lt, cZ_ge, cZ_gt, cZ_le, vcb_n, vcb_c, sw_n, sw_c, ↓pI_d, ↓pL_d, ↓pR_d, ↓pA_d, isI_d, isL_d, isL_di, isL_dr, isL_dj, isA_d, inc_c, stO, fV, List.getD_cons_zero, List.getD_cons_succ, List.set_cons_zero, List.set_cons_succ, List.take_succ_cons, List.take_zero, List.drop_succ_cons, List.drop_zero, List.reverse_cons, List.reverse_nil, List.nil_append, List.cons_append, List.append_nil, Option.toList_some, Option.toList_none, List.length_cons, List.length_nil, Nat.reduceAdd, Nat.reduceSub, Nat.reduceLeDiff, Nat.reduceEqDiff, Nat.add_eq, not_false_eq_true, not_true_eq_false, true_and, and_true, false_or, or_true, true_or, or_false, and_self, one_ne_zero_nat, w32_id, w32_n, Int.toNat_natCast, Int.reduceToNat, Nat.zero_add, Nat.zero_le, Nat.le_refl, Int.reduceEq, Int.reduceLT, Int.reduceLE, Int.reduceAdd, Int.reduceSub, Int.reduceMul, t_imp, f_imp, cO51 hB, cR51_7 hB, j72, k5, k6]
    exact hq
  by_cases e1 : e / 128 = key
  · rw [if_neg (by omega), if_pos e1] at c1
    by_cases e2 : e % 128 ≤ h
    · have hq := h1 ⟨e1, e2⟩
      have c3 : lcmpI ((e % 128 : Nat) : Int) (h : Int) = 0 ∨ lcmpI ((e % 128 : Nat) : Int) (h : Int) = -1 := by
        rw [c2]
        by_cases e3 : e % 128 < h
        · rw [if_pos e3]
          exact .inr rfl
        · rw [if_neg e3, if_pos (by omega)]
          exact .inl rfl
      clear c2 h0 h1 no
      generalize e % 128 = er at *
      generalize e / 128 = ed at *
      rcases c3 with c3 | c3
      · refine blk bk_p_wasReached_25 ?_
        simp (disch := omega) only [st_iconst, st_bipush, st_sipush, st_ldc, st_ldc_w, st_lconst, st_ldc2_w, st_iload_n, st_iload, st_lload_n, st_lload, st_aload_n, st_aload, st_istore_n, st_istore, st_lstore_n, st_lstore, st_astore_n, st_astore, st_iinc, st_iadd, st_isub, st_imul, st_idiv, st_irem, st_iand, st_ior, st_ixor, st_ishl, st_ishr, st_iushr, st_ladd, st_lmul, st_ldiv, st_lrem, st_land, st_lor, st_lxor, st_lshl, st_lshr, st_lcmp, st_i2l, st_l2i, st_i2c, st_dup, st_pop, st_dup2, st_iaload0, st_iaload1, st_caload, st_baload, st_laload, st_aaload, st_iastore, st_castore, st_bastore, st_lastore, st_aastore, st_arraylength0, st_arraylength1, st_getfield, st_putfield0, st_putfield1, st_putfield2, st_putfield3, st_getstatic, st_new, st_newarray, st_anewarray, st_goto, st_ifCond, st_if_icmp, st_tableswitch, st_lookupswitch, st_ireturn, st_lreturn, st_return, st_invokevirtual, st_invokestatic0, st_invokestatic1, st_invokespecial0, st_invokespecial1, cZ_eq, cZ_ne, cZ_lt, cZ_ge, cZ_gt, cZ_le, vcb_n, vcb_c, sw_n, sw_c, ↓pI_d, ↓pL_d, ↓pR_d, ↓pA_d, isI_d, isL_d, isL_di, isL_dr, isL_dj, isA_d, inc_c, stO, fV, List.getD_cons_zero, List.getD_cons_succ, List.set_cons_zero, List.set_cons_succ, List.take_succ_cons, List.take_zero, List.drop_succ_cons, List.drop_zero, List.reverse_cons, List.reverse_nil, List.nil_append, List.cons_append, List.append_nil, Option.toList_some, Option.toList_none, List.length_cons, List.length_nil, Nat.reduceAdd, Nat.reduceSub, Nat.reduceLeDiff, Nat.reduceEqDiff, Nat.add_eq, not_false_eq_true, not_true_eq_false, true_and, and_true, false_or, or_true, true_or, or_false, and_self, one_ne_zero_nat, w32_id, w32_n, Int.toNat_natCast, Int.reduceToNat, Nat.zero_add, Nat.zero_le, Nat.le_refl, Int.reduceEq, Int.reduceLT, Int.reduceLE, Int.reduceAdd, Int.reduceSub, Int.reduceMul, t_imp, f_imp, cO51 hB, cR51_7 hB, j72, he, k7, k8, c1, c3]
        exact hq
      · refine blk bk_p_wasReached_25 ?_
        simp (disch := omega) only [st_iconst, st_bipush, st_sipush, st_ldc, st_ldc_w, st_lconst, st_ldc2_w, st_iload_n, st_iload, st_lload_n, st_lload, st_aload_n, st_aload, st_istore_n, st_istore, st_lstore_n, st_lstore, st_astore_n, st_astore, st_iinc, st_iadd, st_isub, st_imul, st_idiv, st_irem, st_iand, st_ior, st_ixor, st_ishl, st_ishr, st_iushr, st_ladd, st_lmul, st_ldiv, st_lrem, st_land, st_lor, st_lxor, st_lshl, st_lshr, st_lcmp, st_i2l, st_l2i, st_i2c, st_dup, st_pop, st_dup2, st_iaload0, st_iaload1, st_caload, st_baload, st_laload, st_aaload, st_iastore, st_castore, st_bastore, st_lastore, st_aastore, st_arraylength0, st_arraylength1, st_getfield, st_putfield0, st_putfield1, st_putfield2, st_putfield3, st_getstatic, st_new, st_newarray, st_anewarray, st_goto, st_ifCond, st_if_icmp, st_tableswitch, st_lookupswitch, st_ireturn, st_lreturn, st_return, st_invokevirtual, st_invokestatic0, st_invokestatic1, st_invokespecial0, st_invokespecial1, cZ_eq, cZ_ne, cZ_lt, cZ_ge, cZ_gt, cZ_le, vcb_n, vcb_c, sw_n, sw_c, ↓pI_d, ↓pL_d, ↓pR_d, ↓pA_d, isI_d, isL_d, isL_di, isL_dr, isL_dj, isA_d, inc_c, stO, fV, List.getD_cons_zero, List.getD_cons_succ, List.set_cons_zero, List.set_cons_succ, List.take_succ_cons, List.take_zero, List.drop_succ_cons, List.drop_zero, List.reverse_cons, List.reverse_nil, List.nil_append, List.cons_append, List.append_nil, Option.toList_some, Option.toList_none, List.length_cons, List.length_nil, Nat.reduceAdd, Nat.reduceSub, Nat.reduceLeDiff, Nat.reduceEqDiff, Nat.add_eq, not_false_eq_true, not_true_eq_false, true_and, and_true, false_or, or_true, true_or, or_false, and_self, one_ne_zero_nat, w32_id, w32_n, Int.toNat_natCast, Int.reduceToNat, Nat.zero_add, Nat.zero_le, Nat.le_refl, Int.reduceEq, Int.reduceLT, Int.reduceLE, Int.reduceAdd, Int.reduceSub, Int.reduceMul, t_imp, f_imp, cO51 hB, cR51_7 hB, j72, he, k7, k8, c1, c3]
        exact hq
    · have hno := no (fun x => e2 x.2)
      rw [if_neg (by omega), if_neg (by omega)] at c2
      clear h0 h1 no
      generalize e % 128 = er at *
      generalize e / 128 = ed at *
      refine blk bk_p_wasReached_25 ?_
      simp (disch := omega) only [st_iconst, st_bipush, st_sipush, st_ldc, st_ldc_w, st_lconst, st_ldc2_w, st_iload_n, st_iload, st_lload_n, st_lload, st_aload_n, st_aload, st_istore_n, st_istore, st_lstore_n, st_lstore, st_astore_n, st_astore, st_iinc, st_iadd, st_isub, st_imul, st_idiv, st_irem, st_iand, st_ior, st_ixor, st_ishl, st_ishr, st_iushr, st_ladd, st_lmul, st_ldiv, st_lrem, st_land, st_lor, st_lxor, st_lshl, st_lshr, st_lcmp, st_i2l, st_l2i, st_i2c, st_dup, st_pop, st_dup2, st_iaload0, st_iaload1, st_caload, st_baload, st_laload, st_aaload, st_iastore, st_castore, st_bastore, st_lastore, st_aastore, st_arraylength0, st_arraylength1, st_getfield, st_putfield0, st_putfield1, st_putfield2, st_putfield3, st_getstatic, st_new, st_newarray, st_anewarray, st_goto, st_ifCond, st_if_icmp, st_tableswitch, st_lookupswitch, st_ireturn, st_lreturn, st_return, st_invokevirtual, st_invokestatic0, st_invokestatic1, st_invokespecial0, st_invokespecial1, cZ_eq, cZ_ne, cZ_lt, cZ_ge, cZ_gt, cZ_le, vcb_n, vcb_c, sw_n, sw_c, ↓pI_d, ↓pL_d, ↓pR_d, ↓pA_d, isI_d, isL_d, isL_di, isL_dr, isL_dj, isA_d, inc_c, stO, fV, List.getD_cons_zero, List.getD_cons_succ, List.set_cons_zero, List.set_cons_succ, List.take_succ_cons, List.take_zero, List.drop_succ_cons, List.drop_zero, List.reverse_cons, List.reverse_nil, List.nil_append, List.cons_append, List.append_nil, Option.toList_some, Option.toList_none, List.length_cons, List.length_nil, Nat.reduceAdd, Nat.reduceSub, Nat.reduceLeDiff, Nat.reduceEqDiff, Nat.add_eq, not_false_eq_true, not_true_eq_false, true_and, and_true, false_or, or_true, true_or, or_false, and_self, one_ne_zero_nat, w32_id, w32_n, Int.toNat_natCast, Int.reduceToNat, Nat.zero_add, Nat.zero_le, Nat.le_refl, Int.reduceEq, Int.reduceLT, Int.reduceLE, Int.reduceAdd, Int.reduceSub, Int.reduceMul, t_imp, f_imp, cO51 hB, cR51_7 hB, j72, he, k7, k8, c1, c2]
      exact hno
  · have hno := no (fun x => e1 x.1)
    have c3 : lcmpI ((e / 128 : Nat) : Int) (key : Int) = 1 ∨ lcmpI ((e / 128 : Nat) : Int) (key : Int) = -1 := by
      rw [c1]
      by_cases e3 : e / 128 < key
      · rw [if_pos e3]
        exact .inr rfl
      · rw [if_neg e3, if_neg e1]
        exact .inl rfl
    clear c1 c2 h0 h1 no
    generalize e % 128 = er at *
    generalize e / 128 = ed at *
    rcases c3 with c3 | c3
    · refine blk bk_p_wasReached_25 ?_
      simp (disch := omega) only [st_iconst, st_bipush, st_sipush, st_ldc, st_ldc_w, st_lconst, st_ldc2_w, st_iload_n, st_iload, st_lload_n, st_lload, st_aload_n, st_aload, st_istore_n, st_istore, st_lstore_n, st_lstore, st_astore_n, st_astore, st_iinc, st_iadd, st_isub, st_imul, st_idiv, st_irem, st_iand, st_ior, st_ixor, st_ishl, st_ishr, st_iushr, st_ladd, st_lmul, st_ldiv, st_lrem, st_land, st_lor, st_lxor, st_lshl, st_lshr, st_lcmp, st_i2l, st_l2i, st_i2c, st_dup, st_pop, st_dup2, st_iaload0, st_iaload1, st_caload, st_baload, st_laload, st_aaload, st_iastore, st_castore, st_bastore, st_lastore, st_aastore, st_arraylength0, st_arraylength1, st_getfield, st_putfield0, st_putfield1, st_putfield2, st_putfield3, st_getstatic, st_new, st_newarray, st_anewarray, st_goto, st_ifCond, st_if_icmp, st_tableswitch, st_lookupswitch, st_ireturn, st_lreturn, st_return, st_invokevirtual, st_invokestatic0, st_invokestatic1, st_invokespecial0, st_invokespecial1, cZ_eq, cZ_ne, cZ_lt, cZ_ge, cZ_gt, cZ_le, vcb_n, vcb_c, sw_n, sw_c, ↓pI_d, ↓pL_d, ↓pR_d, ↓pA_d, isI_d, isL_d, isL_di, isL_dr, isL_dj, isA_d, inc_c, stO, fV, List.getD_cons_zero, List.getD_cons_succ, List.set_cons_zero, List.set_cons_succ, List.take_succ_cons, List.take_zero, List.drop_succ_cons, List.drop_zero, List.reverse_cons, List.reverse_nil, List.nil_append, List.cons_append, List.append_nil, Option.toList_some, Option.toList_none, List.length_cons, List.length_nil, Nat.reduceAdd, Nat.reduceSub, Nat.reduceLeDiff, Nat.reduceEqDiff, Nat.add_eq, not_false_eq_true, not_true_eq_false, true_and, and_true, false_or, or_true, true_or, or_false, and_self, one_ne_zero_nat, w32_id, w32_n, Int.toNat_natCast, Int.reduceToNat, Nat.zero_add, Nat.zero_le, Nat.le_refl, Int.reduceEq, Int.reduceLT, Int.reduceLE, Int.reduceAdd, Int.reduceSub, Int.reduceMul, t_imp, f_imp, cO51 hB, cR51_7 hB, j72, he, k7, k8, c3]
      exact hno
    · refine blk bk_p_wasReached_25 ?_
      simp (disch := omega) only [st_iconst, st_bipush, st_sipush, st_ldc, st_ldc_w, st_lconst, st_ldc2_w, st_iload_n, st_iload, st_lload_n, st_lload, st_aload_n, st_aload, st_istore_n, st_istore, st_lstore_n, st_lstore, st_astore_n, st_astore, st_iinc, st_iadd, st_isub, st_imul, st_idiv, st_irem, st_iand, st_ior, st_ixor, st_ishl, st_ishr, st_iushr, st_ladd, st_lmul, st_ldiv, st_lrem, st_land, st_lor, st_lxor, st_lshl, st_lshr, st_lcmp, st_i2l, st_l2i, st_i2c, st_dup, st_pop, st_dup2, st_iaload0, st_iaload1, st_caload, st_baload, st_laload, st_aaload, st_iastore, st_castore, st_bastore, st_lastore, st_aastore, st_arraylength0, st_arraylength1, st_getfield, st_putfield0, st_putfield1, st_putfield2, st_putfield3, st_getstatic, st_new, st_newarray, st_anewarray, st_goto, st_ifCond, st_if_icmp, st_tableswitch, st_lookupswitch, st_ireturn, st_lreturn, st_return, st_invokevirtual, st_invokestatic0, st_invokestatic1, st_invokespecial0, st_invokespecial1, cZ_eq, cZ_ne, cZ_lt, cZ_ge, cZ_gt, cZ_le, vcb_n, vcb_c, sw_n, sw_c, ↓pI_d, ↓pL_d, ↓pR_d, ↓pA_d, isI_d, isL_d, isL_di, isL_dr, isL_dj, isA_d, inc_c, stO, fV, List.getD_cons_zero, List.getD_cons_succ, List.set_cons_zero, List.set_cons_succ, List.take_succ_cons, List.take_zero, List.drop_succ_cons, List.drop_zero, List.reverse_cons, List.reverse_nil, List.nil_append, List.cons_append, List.append_nil, Option.toList_some, Option.toList_none, List.length_cons, List.length_nil, Nat.reduceAdd, Nat.reduceSub, Nat.reduceLeDiff, Nat.reduceEqDiff, Nat.add_eq, not_false_eq_true, not_true_eq_false, true_and, and_true, false_or, or_true, true_or, or_false, and_self, one_ne_zero_nat, w32_id, w32_n, Int.toNat_natCast, Int.reduceToNat, Nat.zero_add, Nat.zero_le, Nat.le_refl, Int.reduceEq, Int.reduceLT, Int.reduceLE, Int.reduceAdd, Int.reduceSub, Int.reduceMul, t_imp, f_imp, cO51 hB, cR51_7 hB, j72, he, k7, k8, c3]
      exact hno
end REACH
