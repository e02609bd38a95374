/-! ===== Now.goBy: a month goes by ===== -/
def unmF (td : TD) (met mo : Nat) : Nat → Nat
  | 0 => 0
  | i + 1 => unmF td met mo i + (if tdM td i = mo ∧ bt met i = 0 then tdH td i else 0)
def goneF (td : TD) (g z mo : Nat) : Nat → Nat
  | 0 => 0
  | i + 1 => if bt g i = 1 ∧ drawF z i mo < tdW td then goneF td g z mo i + 2 ^ i else goneF td g z mo i
def cntF (td : TD) (g z mo : Nat) : Nat → Nat
  | 0 => 0
  | i + 1 => if bt g i = 1 ∧ drawF z i mo < tdW td then cntF td g z mo i + 1 else cntF td g z mo i
def restF (td : TD) (g : Nat) (ti : Nat → Nat) (p : Nat) : Nat := if bt g p = 1 then ti p - tdRe td else ti p
theorem unmF_le {td : TD} {met mo : Nat} (hok : TDok td) : ∀ i, i ≤ tdA td → unmF td met mo i ≤ 9 * i := by
  intro i
  induction i with
  | zero => exact fun _ => Nat.le_refl 0
  | succ i ih =>
    intro hi
    have h1 := ih (by omega)
    have h2 := hok.2.2.2.2.2.2.2.2 i (by omega)
    show unmF td met mo i + _ ≤ _
    split <;> omega
theorem fin_clr : ∀ i, i < 6 → ∀ g, g < 64 → bt g i = 1 → (Int32.ofInt (g : Int) &&& Int32.ofInt ((Int32.ofInt ((2 ^ i : Nat) : Int) ^^^ Int32.ofInt (-1)).toInt)).toInt = ((g - 2 ^ i : Nat) : Int) := by decide +kernel
theorem clrI {g i : Nat} (hi : i < 6) (hg : g < 64) (hb : bt g i = 1) : bAnd (g : Int) (bXor ((2 ^ i : Nat) : Int) (-1)) = ((g - 2 ^ i : Nat) : Int) := by
  rw [bAnd_eq, bXor_eq]
  exact fin_clr i hi g hg hb
theorem fin_gone0 : ((List.range 6).all fun i => (List.range 64).all fun g => (List.range (2 ^ i)).all fun h => (g &&& h != h) || (decide (bt (g - h) i = bt g i) && ((bt g i != 1) || decide (g &&& (h + 2 ^ i) = h + 2 ^ i)) && decide (h + 2 ^ i = h ||| 2 ^ i) && decide (h + 2 ^ i < 2 ^ (i + 1)) && decide (2 ^ i ≤ 32))) = true := by decide +kernel
theorem fin_gone (i : Nat) (hi : i < 6) (g : Nat) (hg : g < 64) (h : Nat) (hh : h < 2 ^ i) (hs : g &&& h = h) : bt (g - h) i = bt g i ∧ (bt g i = 1 → g &&& (h + 2 ^ i) = h + 2 ^ i) ∧ h + 2 ^ i = h ||| 2 ^ i ∧ h + 2 ^ i < 2 ^ (i + 1) ∧ 2 ^ i ≤ 32 := by
  have h1 := List.all_eq_true.mp (List.all_eq_true.mp (List.all_eq_true.mp fin_gone0 i (List.mem_range.mpr hi)) g (List.mem_range.mpr hg)) h (List.mem_range.mpr hh)
  simp only [Bool.or_eq_true, Bool.and_eq_true, bne_iff_ne, decide_eq_true_eq] at h1
  obtain ⟨⟨⟨⟨a1, a2⟩, a3⟩, a4⟩, a5⟩ := h1.resolve_left (fun z => z hs)
  exact ⟨a1, fun q => a2.resolve_left (fun z => z q), a3, a4, a5⟩
theorem gone_ok {td : TD} {g z mo : Nat} (hg : g < 64) : ∀ i, i ≤ 6 → goneF td g z mo i < 2 ^ i ∧ g &&& goneF td g z mo i = goneF td g z mo i := by
  intro i
  induction i with
  | zero => exact fun _ => ⟨Nat.le_refl 1, by show g &&& 0 = 0; exact Nat.and_zero g⟩
  | succ i ih =>
    intro hi
    obtain ⟨h1, h2⟩ := ih (by omega)
    obtain ⟨f1, f2, f3, f4, f5⟩ := fin_gone i (by omega) g hg _ h1 h2
    unfold goneF
    split
    · rename_i hc
      exact ⟨f4, f2 hc.1⟩
    · exact ⟨by rw [Nat.pow_succ]; omega, h2⟩
section GOBY
variable {Γ : aR} {ρ κ : Nat} {G : aG} {M : aM} {Q : aQ}
theorem goBy_loop1 {a t z mo met hm : Nat} {td : TD} (hρ : 1 ≤ ρ) (hN : NS G a) (hT : TS G t) (hok : TDok td) (hR : RT G M t td) (h0 : M a 0 = (mo : Int)) (hmo : mo < 100) (h3 : M a 3 = (met : Int)) (hm2 : met < 2147483648) (hhm : hm < 1000000) :
    ∀ (k i : Nat), i + k = tdA td →
      WP Γ ρ 0 26 52 [vR (some a), vR (some t), vI z, vI (tdA td : Nat), vJ] [] G (wr M a 4 ((hm + unmF td met mo (tdA td) : Nat) : Int)) Q →
      WP Γ ρ 0 26 2 [vR (some a), vR (some t), vI z, vI i, vJ] [] G (wr M a 4 ((hm + unmF td met mo i : Nat) : Int)) Q := by
  obtain ⟨o1, o2, o3, o4, o5, o6, o7, o8, o9⟩ := id hok
  obtain ⟨r1, r2, r3, r4, r5, r6, r7⟩ := id hR
  have n1 : t ≠ a := ne_OO hT.1 hN.1 (by decide)
  have n5 : rfA G t 5 ≠ a := ne_AO hT.2.2.2.2.1.2 hN.1
  have n8 : rfA G t 8 ≠ a := ne_AO hT.2.2.2.2.2.2.2.2 hN.1
  intro k
  induction k with
  | zero =>
    intro i hi h
    obtain rfl : i = tdA td := by omega
    refine blk bk_n_goBy_2 ?_
    simp (disch := omega) only [st_iconst, st_bipush, st_sipush, st_ldc, st_ldc_w, st_lconst, st_ldc2_w, st_iload_n, st_iload, st_lload_n, st_lload, st_aload_n, st_aload, st_istore_n, st_istore, st_lstore_n, st_lstore, st_astore_n, st_astore, st_iinc, st_iadd, st_isub, st_imul, st_idiv, st_irem, st_iand, st_ior, st_ixor, st_ishl, st_ishr, st_iushr, st_ladd, st_lmul, st_ldiv, st_lrem, st_land, st_lor, st_lxor, st_lshl, st_lshr, st_lcmp, st_i2l, st_l2i, st_i2c, st_dup, st_pop, st_dup2, st_iaload0, st_iaload1, st_caload, st_baload, st_laload, st_aaload, st_iastore, st_castore, st_bastore, st_lastore, st_aastore, st_arraylength0, st_arraylength1, st_getfield, st_putfield0, st_putfield1, st_putfield2, st_putfield3, st_getstatic, st_new, st_newarray, st_anewarray, st_goto, st_ifCond, st_if_icmp, st_tableswitch, st_lookupswitch, st_ireturn, st_lreturn, st_return, st_invokevirtual, st_invokestatic0, st_invokestatic1, st_invokespecial0, st_invokespecial1, cZ_eq, cZ_ne, cZ_lt, cZ_ge, cZ_gt, cZ_le, vcb_n, vcb_c, sw_n, sw_c, ↓pI_d, ↓pL_d, ↓pR_d, ↓pA_d, isI_d, isL_d, isL_di, isL_dr, isL_dj, isA_d, inc_c, stO, fV, List.getD_cons_zero, List.getD_cons_succ, List.set_cons_zero, List.set_cons_succ, List.take_succ_cons, List.take_zero, List.drop_succ_cons, List.drop_zero, List.reverse_cons, List.reverse_nil, List.nil_append, List.cons_append, List.append_nil, Option.toList_some, Option.toList_none, List.length_cons, List.length_nil, Nat.reduceAdd, Nat.reduceSub, Nat.reduceLeDiff, Nat.reduceEqDiff, Nat.add_eq, not_false_eq_true, not_true_eq_false, true_and, and_true, false_or, or_true, true_or, or_false, and_self, one_ne_zero_nat, w32_id, w32_n, Int.toNat_natCast, Int.reduceToNat, Nat.zero_add, Nat.zero_le, Nat.le_refl, Int.reduceEq, Int.reduceLT, Int.reduceLE, Int.reduceAdd, Int.reduceSub, Int.reduceMul, t_imp, f_imp, hT.1, wr_c, r2]
    exact ⟨fun _ => h, fun h9 => absurd (Int.le_refl _) h9⟩
  | succ k ih =>
    intro i hi h
    have hia : i < tdA td := by omega
    obtain ⟨q1, q2, q3, q4⟩ := r7 i hia
    have hA := o9 i hia
    have hu := unmF_le (met := met) (mo := mo) hok i (by omega)
    have i5 : inA G (rfA G t 5) 0 (i : Int) := in_of hT.2.2.2.2.1.2 (by omega) (by omega) (by decide)
    have i8 : inA G (rfA G t 8) 0 (i : Int) := in_of hT.2.2.2.2.2.2.2.2 (by omega) (by omega) (by decide)
    have b01 := bt_01 met i
    have next : WP Γ ρ 0 26 46 [vR (some a), vR (some t), vI z, vI i, vJ] [] G (wr M a 4 ((hm + unmF td met mo (i + 1) : Nat) : Int)) Q := by
      refine blk bk_n_goBy_46 ?_
      simp (disch := omega) only [st_iconst, st_bipush, st_sipush, st_ldc, st_ldc_w, st_lconst, st_ldc2_w, st_iload_n, st_iload, st_lload_n, st_lload, st_aload_n, st_aload, st_istore_n, st_istore, st_lstore_n, st_lstore, st_astore_n, st_astore, st_iinc, st_iadd, st_isub, st_imul, st_idiv, st_irem, st_iand, st_ior, st_ixor, st_ishl, st_ishr, st_iushr, st_ladd, st_lmul, st_ldiv, st_lrem, st_land, st_lor, st_lxor, st_lshl, st_lshr, st_lcmp, st_i2l, st_l2i, st_i2c, st_dup, st_pop, st_dup2, st_iaload0, st_iaload1, st_caload, st_baload, st_laload, st_aaload, st_iastore, st_castore, st_bastore, st_lastore, st_aastore, st_arraylength0, st_arraylength1, st_getfield, st_putfield0, st_putfield1, st_putfield2, st_putfield3, st_getstatic, st_new, st_newarray, st_anewarray, st_goto, st_ifCond, st_if_icmp, st_tableswitch, st_lookupswitch, st_ireturn, st_lreturn, st_return, st_invokevirtual, st_invokestatic0, st_invokestatic1, st_invokespecial0, st_invokespecial1, cZ_eq, cZ_ne, cZ_lt, cZ_ge, cZ_gt, cZ_le, vcb_n, vcb_c, sw_n, sw_c, ↓pI_d, ↓pL_d, ↓pR_d, ↓pA_d, isI_d, isL_d, isL_di, isL_dr, isL_dj, isA_d, inc_c, stO, fV, List.getD_cons_zero, List.getD_cons_succ, List.set_cons_zero, List.set_cons_succ, List.take_succ_cons, List.take_zero, List.drop_succ_cons, List.drop_zero, List.reverse_cons, List.reverse_nil, List.nil_append, List.cons_append, List.append_nil, Option.toList_some, Option.toList_none, List.length_cons, List.length_nil, Nat.reduceAdd, Nat.reduceSub, Nat.reduceLeDiff, Nat.reduceEqDiff, Nat.add_eq, not_false_eq_true, not_true_eq_false, true_and, and_true, false_or, or_true, true_or, or_false, and_self, one_ne_zero_nat, w32_id, w32_n, Int.toNat_natCast, Int.reduceToNat, Nat.zero_add, Nat.zero_le, Nat.le_refl, Int.reduceEq, Int.reduceLT, Int.reduceLE, Int.reduceAdd, Int.reduceSub, Int.reduceMul, t_imp, f_imp]
      exact ih (i + 1) (by omega) h
    have eu : unmF td met mo (i + 1) = unmF td met mo i + (if tdM td i = mo ∧ bt met i = 0 then tdH td i else 0) := rfl
    refine blk bk_n_goBy_2 ?_
    simp (disch := omega) only [st_iconst, st_bipush, st_sipush, st_ldc, st_ldc_w, st_lconst, st_ldc2_w, st_iload_n, st_iload, st_lload_n, st_lload, st_aload_n, st_aload, st_istore_n, st_istore, st_lstore_n, st_lstore, st_astore_n, st_astore, st_iinc, st_iadd, st_isub, st_imul, st_idiv, st_irem, st_iand, st_ior, st_ixor, st_ishl, st_ishr, st_iushr, st_ladd, st_lmul, st_ldiv, st_lrem, st_land, st_lor, st_lxor, st_lshl, st_lshr, st_lcmp, st_i2l, st_l2i, st_i2c, st_dup, st_pop, st_dup2, st_iaload0, st_iaload1, st_caload, st_baload, st_laload, st_aaload, st_iastore, st_castore, st_bastore, st_lastore, st_aastore, st_arraylength0, st_arraylength1, st_getfield, st_putfield0, st_putfield1, st_putfield2, st_putfield3, st_getstatic, st_new, st_newarray, st_anewarray, st_goto, st_ifCond, st_if_icmp, st_tableswitch, st_lookupswitch, st_ireturn, st_lreturn, st_return, st_invokevirtual, st_invokestatic0, st_invokestatic1, st_invokespecial0, st_invokespecial1, cZ_eq, cZ_ne, cZ_lt, cZ_ge, cZ_gt, cZ_le, vcb_n, vcb_c, sw_n, sw_c, ↓pI_d, ↓pL_d, ↓pR_d, ↓pA_d, isI_d, isL_d, isL_di, isL_dr, isL_dj, isA_d, inc_c, stO, fV, List.getD_cons_zero, List.getD_cons_succ, List.set_cons_zero, List.set_cons_succ, List.take_succ_cons, List.take_zero, List.drop_succ_cons, List.drop_zero, List.reverse_cons, List.reverse_nil, List.nil_append, List.cons_append, List.append_nil, Option.toList_some, Option.toList_none, List.length_cons, List.length_nil, Nat.reduceAdd, Nat.reduceSub, Nat.reduceLeDiff, Nat.reduceEqDiff, Nat.add_eq, not_false_eq_true, not_true_eq_false, true_and, and_true, false_or, or_true, true_or, or_false, and_self, one_ne_zero_nat, w32_id, w32_n, Int.toNat_natCast, Int.reduceToNat, Nat.zero_add, Nat.zero_le, Nat.le_refl, Int.reduceEq, Int.reduceLT, Int.reduceLE, Int.reduceAdd, Int.reduceSub, Int.reduceMul, t_imp, f_imp, hT.1, hN.1, wr_c, wr_o, r2, hT.2.2.2.2.1.1, i5, q1, h0]
    refine ⟨fun h9 => absurd h9 (by omega), fun _ => ⟨fun h1 => ?_, fun h1 => ⟨hρ, ?_⟩⟩⟩
    · rw [eu, if_neg (by omega)] at next
      exact next
    refine s_n_isMet hN.1 (by rw [wr_o _ _ (by decide)]; exact h3) hm2 (by omega) ?_
    refine blk bk_n_goBy_28 ?_
    simp (disch := omega) only [st_iconst, st_bipush, st_sipush, st_ldc, st_ldc_w, st_lconst, st_ldc2_w, st_iload_n, st_iload, st_lload_n, st_lload, st_aload_n, st_aload, st_istore_n, st_istore, st_lstore_n, st_lstore, st_astore_n, st_astore, st_iinc, st_iadd, st_isub, st_imul, st_idiv, st_irem, st_iand, st_ior, st_ixor, st_ishl, st_ishr, st_iushr, st_ladd, st_lmul, st_ldiv, st_lrem, st_land, st_lor, st_lxor, st_lshl, st_lshr, st_lcmp, st_i2l, st_l2i, st_i2c, st_dup, st_pop, st_dup2, st_iaload0, st_iaload1, st_caload, st_baload, st_laload, st_aaload, st_iastore, st_castore, st_bastore, st_lastore, st_aastore, st_arraylength0, st_arraylength1, st_getfield, st_putfield0, st_putfield1, st_putfield2, st_putfield3, st_getstatic, st_new, st_newarray, st_anewarray, st_goto, st_ifCond, st_if_icmp, st_tableswitch, st_lookupswitch, st_ireturn, st_lreturn, st_return, st_invokevirtual, st_invokestatic0, st_invokestatic1, st_invokespecial0, st_invokespecial1, cZ_eq, cZ_ne, cZ_lt, cZ_ge, cZ_gt, cZ_le, vcb_n, vcb_c, sw_n, sw_c, ↓pI_d, ↓pL_d, ↓pR_d, ↓pA_d, isI_d, isL_d, isL_di, isL_dr, isL_dj, isA_d, inc_c, stO, fV, List.getD_cons_zero, List.getD_cons_succ, List.set_cons_zero, List.set_cons_succ, List.take_succ_cons, List.take_zero, List.drop_succ_cons, List.drop_zero, List.reverse_cons, List.reverse_nil, List.nil_append, List.cons_append, List.append_nil, Option.toList_some, Option.toList_none, List.length_cons, List.length_nil, Nat.reduceAdd, Nat.reduceSub, Nat.reduceLeDiff, Nat.reduceEqDiff, Nat.add_eq, not_false_eq_true, not_true_eq_false, true_and, and_true, false_or, or_true, true_or, or_false, and_self, one_ne_zero_nat, w32_id, w32_n, Int.toNat_natCast, Int.reduceToNat, Nat.zero_add, Nat.zero_le, Nat.le_refl, Int.reduceEq, Int.reduceLT, Int.reduceLE, Int.reduceAdd, Int.reduceSub, Int.reduceMul, t_imp, f_imp, hT.1, hN.1, hT.2.2.2.2.2.2.2.1, i8, wr_c, wr_s, q4, wr_wr]
    refine ⟨fun h2 => ?_, fun h2 => ?_⟩
    · rw [eu, if_neg (by omega)] at next
      exact next
    · rw [eu, if_pos (by omega)] at next
      rw [← Int.natCast_add, Nat.add_assoc]
      exact next
/-- how the memory stands when i names have been looked at -/
def gbI (G : aG) (M0 M : aM) (a z mo g lo i : Nat) (td : TD) (ti : Nat → Nat) : Prop := (∀ c, c ≠ a → c ≠ rfA G a 5 → M c = M0 c) ∧ M a 0 = (mo : Int) ∧ M a 1 = ((g - goneF td g z mo i : Nat) : Int) ∧ M a 2 = ((lo ||| goneF td g z mo i : Nat) : Int) ∧ M a 3 = M0 a 3 ∧ M a 4 = M0 a 4 ∧ ∀ p, p < tdN td → M (rfA G a 5) p = ((if p < i then restF td g ti p else ti p : Nat) : Int)
theorem goBy_loop2 {a t z mo g lo : Nat} {td : TD} {ti : Nat → Nat} {M0 : aM} (hρ : 2 ≤ ρ) (hN : NS G a) (hT : TS G t) (hok : TDok td) (hR : RT G M0 t td) (hmo : mo < 100) (hz : z < 10000) (hg : g < 64) (hlo : lo < 64) (hti : ∀ p, p < tdN td → ti p ≤ 30) (hd : rfA G a 5 ≠ rfA G t 1) :
    ∀ (k i : Nat) (M : aM), i + k = tdN td → gbI G M0 M a z mo g lo i td ti →
      (∀ M' : aM, gbI G M0 M' a z mo g lo (tdN td) td ti → WP Γ ρ 0 26 133 [vR (some a), vR (some t), vI z, vI (cntF td g z mo (tdN td) : Nat), vI (tdN td : Nat)] [] G M' Q) →
      WP Γ ρ 0 26 57 [vR (some a), vR (some t), vI z, vI (cntF td g z mo i : Nat), vI i] [] G M Q := by
  obtain ⟨o1, o2, o3, o4, o5, o6, o7, o8, o9⟩ := id hok
  obtain ⟨r1, r2, r3, r4, r5, r6, r7⟩ := id hR
  have n1 : t ≠ a := ne_OO hT.1 hN.1 (by decide)
  have n2 : t ≠ rfA G a 5 := (ne_AO hN.2.2 hT.1).symm
  have n3 : a ≠ rfA G a 5 := (ne_AO hN.2.2 hN.1).symm
  have n4 : rfA G a 5 ≠ a := n3.symm
  intro k
  induction k with
  | zero =>
    intro i M hi hI h
    obtain rfl : i = tdN td := by omega
    have e1 : M t 0 = (tdN td : Int) := by rw [hI.1 t n1 n2]; exact r1
    refine blk bk_n_goBy_57 ?_
    simp (disch := omega) only [st_iconst, st_bipush, st_sipush, st_ldc, st_ldc_w, st_lconst, st_ldc2_w, st_iload_n, st_iload, st_lload_n, st_lload, st_aload_n, st_aload, st_istore_n, st_istore, st_lstore_n, st_lstore, st_astore_n, st_astore, st_iinc, st_iadd, st_isub, st_imul, st_idiv, st_irem, st_iand, st_ior, st_ixor, st_ishl, st_ishr, st_iushr, st_ladd, st_lmul, st_ldiv, st_lrem, st_land, st_lor, st_lxor, st_lshl, st_lshr, st_lcmp, st_i2l, st_l2i, st_i2c, st_dup, st_pop, st_dup2, st_iaload0, st_iaload1, st_caload, st_baload, st_laload, st_aaload, st_iastore, st_castore, st_bastore, st_lastore, st_aastore, st_arraylength0, st_arraylength1, st_getfield, st_putfield0, st_putfield1, st_putfield2, st_putfield3, st_getstatic, st_new, st_newarray, st_anewarray, st_goto, st_ifCond, st_if_icmp, st_tableswitch, st_lookupswitch, st_ireturn, st_lreturn, st_return, st_invokevirtual, st_invokestatic0, st_invokestatic1, st_invokespecial0, st_invokespecial1, cZ_eq, cZ_ne, cZ_lt, cZ_ge, cZ_gt, cZ_le, vcb_n, vcb_c, sw_n, sw_c, ↓pI_d, ↓pL_d, ↓pR_d, ↓pA_d, isI_d, isL_d, isL_di, isL_dr, isL_dj, isA_d, inc_c, stO, fV, List.getD_cons_zero, List.getD_cons_succ, List.set_cons_zero, List.set_cons_succ, List.take_succ_cons, List.take_zero, List.drop_succ_cons, List.drop_zero, List.reverse_cons, List.reverse_nil, List.nil_append, List.cons_append, List.append_nil, Option.toList_some, Option.toList_none, List.length_cons, List.length_nil, Nat.reduceAdd, Nat.reduceSub, Nat.reduceLeDiff, Nat.reduceEqDiff, Nat.add_eq, not_false_eq_true, not_true_eq_false, true_and, and_true, false_or, or_true, true_or, or_false, and_self, one_ne_zero_nat, w32_id, w32_n, Int.toNat_natCast, Int.reduceToNat, Nat.zero_add, Nat.zero_le, Nat.le_refl, Int.reduceEq, Int.reduceLT, Int.reduceLE, Int.reduceAdd, Int.reduceSub, Int.reduceMul, t_imp, f_imp, hT.1, e1]
    exact ⟨fun _ => h M hI, fun h9 => absurd (Int.le_refl _) h9⟩
  | succ k ih =>
    intro i M hi hI h
    obtain ⟨m1, m2, m3, m4, m5, m6, m7⟩ := id hI
    have hin : i < tdN td := by omega
    have e1 : M t 0 = (tdN td : Int) := by rw [m1 t n1 n2]; exact r1
    have e2 : M t 10 = (tdRe td : Int) := by rw [m1 t n1 n2]; exact r4
    have e3 : M t 11 = (tdW td : Int) := by rw [m1 t n1 n2]; exact r5
    obtain ⟨g1, g2⟩ := gone_ok (td := td) (z := z) (mo := mo) hg i (by omega)
    obtain ⟨f1, f2, f3, f4, f5⟩ := fin_gone i (by omega) g hg _ g1 g2
    have hlo2 : lo ||| goneF td g z mo i < 64 := Nat.or_lt_two_pow (n := 6) hlo (by omega)
    have b01 := bt_01 g i
    have hc : cntF td g z mo (i + 1) = if bt g i = 1 ∧ drawF z i mo < tdW td then cntF td g z mo i + 1 else cntF td g z mo i := rfl
    have hgo : goneF td g z mo (i + 1) = if bt g i = 1 ∧ drawF z i mo < tdW td then goneF td g z mo i + 2 ^ i else goneF td g z mo i := rfl
    have cnt_le : ∀ j, cntF td g z mo j ≤ j := by
      intro j
      induction j with
      | zero => exact Nat.le_refl 0
      | succ j ihj => unfold cntF; split <;> omega
    have hcl := cnt_le i
    have next : ∀ (M' : aM), gbI G M0 M' a z mo g lo (i + 1) td ti → WP Γ ρ 0 26 127 [vR (some a), vR (some t), vI z, vI (cntF td g z mo (i + 1) : Nat), vI i] [] G M' Q := by
      intro M' hI'
      refine blk bk_n_goBy_127 ?_
      simp (disch := omega) only [st_iconst, st_bipush, st_sipush, st_ldc, st_ldc_w, st_lconst, st_ldc2_w, st_iload_n, st_iload, st_lload_n, st_lload, st_aload_n, st_aload, st_istore_n, st_istore, st_lstore_n, st_lstore, st_astore_n, st_astore, st_iinc, st_iadd, st_isub, st_imul, st_idiv, st_irem, st_iand, st_ior, st_ixor, st_ishl, st_ishr, st_iushr, st_ladd, st_lmul, st_ldiv, st_lrem, st_land, st_lor, st_lxor, st_lshl, st_lshr, st_lcmp, st_i2l, st_l2i, st_i2c, st_dup, st_pop, st_dup2, st_iaload0, st_iaload1, st_caload, st_baload, st_laload, st_aaload, st_iastore, st_castore, st_bastore, st_lastore, st_aastore, st_arraylength0, st_arraylength1, st_getfield, st_putfield0, st_putfield1, st_putfield2, st_putfield3, st_getstatic, st_new, st_newarray, st_anewarray, st_goto, st_ifCond, st_if_icmp, st_tableswitch, st_lookupswitch, st_ireturn, st_lreturn, st_return, st_invokevirtual, st_invokestatic0, st_invokestatic1, st_invokespecial0, st_invokespecial1, cZ_eq, cZ_ne, cZ_lt, cZ_ge, cZ_gt, cZ_le, vcb_n, vcb_c, sw_n, sw_c, ↓pI_d, ↓pL_d, ↓pR_d, ↓pA_d, isI_d, isL_d, isL_di, isL_dr, isL_dj, isA_d, inc_c, stO, fV, List.getD_cons_zero, List.getD_cons_succ, List.set_cons_zero, List.set_cons_succ, List.take_succ_cons, List.take_zero, List.drop_succ_cons, List.drop_zero, List.reverse_cons, List.reverse_nil, List.nil_append, List.cons_append, List.append_nil, Option.toList_some, Option.toList_none, List.length_cons, List.length_nil, Nat.reduceAdd, Nat.reduceSub, Nat.reduceLeDiff, Nat.reduceEqDiff, Nat.add_eq, not_false_eq_true, not_true_eq_false, true_and, and_true, false_or, or_true, true_or, or_false, and_self, one_ne_zero_nat, w32_id, w32_n, Int.toNat_natCast, Int.reduceToNat, Nat.zero_add, Nat.zero_le, Nat.le_refl, Int.reduceEq, Int.reduceLT, Int.reduceLE, Int.reduceAdd, Int.reduceSub, Int.reduceMul, t_imp, f_imp]
      exact ih (i + 1) M' (by omega) hI' h
    refine blk bk_n_goBy_57 ?_
    simp (disch := omega) only [st_iconst, st_bipush, st_sipush, st_ldc, st_ldc_w, st_lconst, st_ldc2_w, st_iload_n, st_iload, st_lload_n, st_lload, st_aload_n, st_aload, st_istore_n, st_istore, st_lstore_n, st_lstore, st_astore_n, st_astore, st_iinc, st_iadd, st_isub, st_imul, st_idiv, st_irem, st_iand, st_ior, st_ixor, st_ishl, st_ishr, st_iushr, st_ladd, st_lmul, st_ldiv, st_lrem, st_land, st_lor, st_lxor, st_lshl, st_lshr, st_lcmp, st_i2l, st_l2i, st_i2c, st_dup, st_pop, st_dup2, st_iaload0, st_iaload1, st_caload, st_baload, st_laload, st_aaload, st_iastore, st_castore, st_bastore, st_lastore, st_aastore, st_arraylength0, st_arraylength1, st_getfield, st_putfield0, st_putfield1, st_putfield2, st_putfield3, st_getstatic, st_new, st_newarray, st_anewarray, st_goto, st_ifCond, st_if_icmp, st_tableswitch, st_lookupswitch, st_ireturn, st_lreturn, st_return, st_invokevirtual, st_invokestatic0, st_invokestatic1, st_invokespecial0, st_invokespecial1, cZ_eq, cZ_ne, cZ_lt, cZ_ge, cZ_gt, cZ_le, vcb_n, vcb_c, sw_n, sw_c, ↓pI_d, ↓pL_d, ↓pR_d, ↓pA_d, isI_d, isL_d, isL_di, isL_dr, isL_dj, isA_d, inc_c, stO, fV, List.getD_cons_zero, List.getD_cons_succ, List.set_cons_zero, List.set_cons_succ, List.take_succ_cons, List.take_zero, List.drop_succ_cons, List.drop_zero, List.reverse_cons, List.reverse_nil, List.nil_append, List.cons_append, List.append_nil, Option.toList_some, Option.toList_none, List.length_cons, List.length_nil, Nat.reduceAdd, Nat.reduceSub, Nat.reduceLeDiff, Nat.reduceEqDiff, Nat.add_eq, not_false_eq_true, not_true_eq_false, true_and, and_true, false_or, or_true, true_or, or_false, and_self, one_ne_zero_nat, w32_id, w32_n, Int.toNat_natCast, Int.reduceToNat, Nat.zero_add, Nat.zero_le, Nat.le_refl, Int.reduceEq, Int.reduceLT, Int.reduceLE, Int.reduceAdd, Int.reduceSub, Int.reduceMul, t_imp, f_imp, hT.1, hN.1, e1]
    refine ⟨fun h9 => absurd h9 (by omega), fun _ => ⟨by omega, ?_⟩⟩
    refine s_n_grazes (g := g - goneF td g z mo i) hN.1 m3 (by omega) (by omega) ?_
    rw [f1]
    refine blk bk_n_goBy_72 ?_
    simp (disch := omega) only [st_iconst, st_bipush, st_sipush, st_ldc, st_ldc_w, st_lconst, st_ldc2_w, st_iload_n, st_iload, st_lload_n, st_lload, st_aload_n, st_aload, st_istore_n, st_istore, st_lstore_n, st_lstore, st_astore_n, st_astore, st_iinc, st_iadd, st_isub, st_imul, st_idiv, st_irem, st_iand, st_ior, st_ixor, st_ishl, st_ishr, st_iushr, st_ladd, st_lmul, st_ldiv, st_lrem, st_land, st_lor, st_lxor, st_lshl, st_lshr, st_lcmp, st_i2l, st_l2i, st_i2c, st_dup, st_pop, st_dup2, st_iaload0, st_iaload1, st_caload, st_baload, st_laload, st_aaload, st_iastore, st_castore, st_bastore, st_lastore, st_aastore, st_arraylength0, st_arraylength1, st_getfield, st_putfield0, st_putfield1, st_putfield2, st_putfield3, st_getstatic, st_new, st_newarray, st_anewarray, st_goto, st_ifCond, st_if_icmp, st_tableswitch, st_lookupswitch, st_ireturn, st_lreturn, st_return, st_invokevirtual, st_invokestatic0, st_invokestatic1, st_invokespecial0, st_invokespecial1, cZ_eq, cZ_ne, cZ_lt, cZ_ge, cZ_gt, cZ_le, vcb_n, vcb_c, sw_n, sw_c, ↓pI_d, ↓pL_d, ↓pR_d, ↓pA_d, isI_d, isL_d, isL_di, isL_dr, isL_dj, isA_d, inc_c, stO, fV, List.getD_cons_zero, List.getD_cons_succ, List.set_cons_zero, List.set_cons_succ, List.take_succ_cons, List.take_zero, List.drop_succ_cons, List.drop_zero, List.reverse_cons, List.reverse_nil, List.nil_append, List.cons_append, List.append_nil, Option.toList_some, Option.toList_none, List.length_cons, List.length_nil, Nat.reduceAdd, Nat.reduceSub, Nat.reduceLeDiff, Nat.reduceEqDiff, Nat.add_eq, not_false_eq_true, not_true_eq_false, true_and, and_true, false_or, or_true, true_or, or_false, and_self, one_ne_zero_nat, w32_id, w32_n, Int.toNat_natCast, Int.reduceToNat, Nat.zero_add, Nat.zero_le, Nat.le_refl, Int.reduceEq, Int.reduceLT, Int.reduceLE, Int.reduceAdd, Int.reduceSub, Int.reduceMul, t_imp, f_imp, hT.1, hN.1]
    refine ⟨fun h1 => ?_, fun h1 => ⟨by omega, ?_⟩⟩
    · have hn := next M
      rw [hc, if_neg (by omega)] at hn
      refine hn ⟨m1, m2, by rw [hgo, if_neg (by omega)]; exact m3, by rw [hgo, if_neg (by omega)]; exact m4, m5, m6, fun p hp => ?_⟩
      rw [m7 p hp]
      by_cases hpi : p < i
      · rw [if_pos hpi, if_pos (by omega)]
      · rw [if_neg hpi]
        by_cases hpe : p = i
        · subst hpe
          rw [if_pos (by omega)]
          unfold restF
          rw [if_neg (by omega)]
        · rw [if_neg (by omega)]
    have hti2 := hti i hin
    have ei : M (rfA G a 5) i = (ti i : Int) := by rw [m7 i hin, if_neg (by omega)]
    refine s_n_rest (x := ti i) (r := tdRe td) (by omega) hN hT (by omega) ei e2 (by omega) (by omega) ?_
    refine blk bk_n_goBy_82 ?_
    simp (disch := omega) only [st_iconst, st_bipush, st_sipush, st_ldc, st_ldc_w, st_lconst, st_ldc2_w, st_iload_n, st_iload, st_lload_n, st_lload, st_aload_n, st_aload, st_istore_n, st_istore, st_lstore_n, st_lstore, st_astore_n, st_astore, st_iinc, st_iadd, st_isub, st_imul, st_idiv, st_irem, st_iand, st_ior, st_ixor, st_ishl, st_ishr, st_iushr, st_ladd, st_lmul, st_ldiv, st_lrem, st_land, st_lor, st_lxor, st_lshl, st_lshr, st_lcmp, st_i2l, st_l2i, st_i2c, st_dup, st_pop, st_dup2, st_iaload0, st_iaload1, st_caload, st_baload, st_laload, st_aaload, st_iastore, st_castore, st_bastore, st_lastore, st_aastore, st_arraylength0, st_arraylength1, st_getfield, st_putfield0, st_putfield1, st_putfield2, st_putfield3, st_getstatic, st_new, st_newarray, st_anewarray, st_goto, st_ifCond, st_if_icmp, st_tableswitch, st_lookupswitch, st_ireturn, st_lreturn, st_return, st_invokevirtual, st_invokestatic0, st_invokestatic1, st_invokespecial0, st_invokespecial1, cZ_eq, cZ_ne, cZ_lt, cZ_ge, cZ_gt, cZ_le, vcb_n, vcb_c, sw_n, sw_c, ↓pI_d, ↓pL_d, ↓pR_d, ↓pA_d, isI_d, isL_d, isL_di, isL_dr, isL_dj, isA_d, inc_c, stO, fV, List.getD_cons_zero, List.getD_cons_succ, List.set_cons_zero, List.set_cons_succ, List.take_succ_cons, List.take_zero, List.drop_succ_cons, List.drop_zero, List.reverse_cons, List.reverse_nil, List.nil_append, List.cons_append, List.append_nil, Option.toList_some, Option.toList_none, List.length_cons, List.length_nil, Nat.reduceAdd, Nat.reduceSub, Nat.reduceLeDiff, Nat.reduceEqDiff, Nat.add_eq, not_false_eq_true, not_true_eq_false, true_and, and_true, false_or, or_true, true_or, or_false, and_self, one_ne_zero_nat, w32_id, w32_n, Int.toNat_natCast, Int.reduceToNat, Nat.zero_add, Nat.zero_le, Nat.le_refl, Int.reduceEq, Int.reduceLT, Int.reduceLE, Int.reduceAdd, Int.reduceSub, Int.reduceMul, t_imp, f_imp, hN.1]
    refine ⟨by omega, ?_⟩
    refine s_n_draw (m := mo) hN.1 (by rw [wr_c _ _ _ n3]; exact m2) hz (by omega) hmo ?_
    have hdr : drawF z i mo < 10 := Nat.mod_lt _ (by decide)
    have hbg : bt (g - goneF td g z mo i) i = 1 := by omega
    have etd : ∀ p, p < tdN td → wr M (rfA G a 5) i ((ti i - tdRe td : Nat) : Int) (rfA G a 5) p = ((if p < i + 1 then restF td g ti p else ti p : Nat) : Int) := by
      intro p hp
      by_cases hpe : p = i
      · subst hpe
        rw [wr_s, if_pos (by omega)]
        unfold restF
        rw [if_pos (by omega)]
      · rw [wr_o _ _ hpe, m7 p hp]
        by_cases hpi : p < i
        · rw [if_pos hpi, if_pos (by omega)]
        · rw [if_neg hpi, if_neg (by omega)]
    refine blk bk_n_goBy_89 ?_
    simp (disch := omega) only [st_iconst, st_bipush, st_sipush, st_ldc, st_ldc_w, st_lconst, st_ldc2_w, st_iload_n, st_iload, st_lload_n, st_lload, st_aload_n, st_aload, st_istore_n, st_istore, st_lstore_n, st_lstore, st_astore_n, st_astore, st_iinc, st_iadd, st_isub, st_imul, st_idiv, st_irem, st_iand, st_ior, st_ixor, st_ishl, st_ishr, st_iushr, st_ladd, st_lmul, st_ldiv, st_lrem, st_land, st_lor, st_lxor, st_lshl, st_lshr, st_lcmp, st_i2l, st_l2i, st_i2c, st_dup, st_pop, st_dup2, st_iaload0, st_iaload1, st_caload, st_baload, st_laload, st_aaload, st_iastore, st_castore, st_bastore, st_lastore, st_aastore, st_arraylength0, st_arraylength1, st_getfield, st_putfield0, st_putfield1, st_putfield2, st_putfield3, st_getstatic, st_new, st_newarray, st_anewarray, st_goto, st_ifCond, st_if_icmp, st_tableswitch, st_lookupswitch, st_ireturn, st_lreturn, st_return, st_invokevirtual, st_invokestatic0, st_invokestatic1, st_invokespecial0, st_invokespecial1, cZ_eq, cZ_ne, cZ_lt, cZ_ge, cZ_gt, cZ_le, vcb_n, vcb_c, sw_n, sw_c, ↓pI_d, ↓pL_d, ↓pR_d, ↓pA_d, isI_d, isL_d, isL_di, isL_dr, isL_dj, isA_d, inc_c, stO, fV, List.getD_cons_zero, List.getD_cons_succ, List.set_cons_zero, List.set_cons_succ, List.take_succ_cons, List.take_zero, List.drop_succ_cons, List.drop_zero, List.reverse_cons, List.reverse_nil, List.nil_append, List.cons_append, List.append_nil, Option.toList_some, Option.toList_none, List.length_cons, List.length_nil, Nat.reduceAdd, Nat.reduceSub, Nat.reduceLeDiff, Nat.reduceEqDiff, Nat.add_eq, not_false_eq_true, not_true_eq_false, true_and, and_true, false_or, or_true, true_or, or_false, and_self, one_ne_zero_nat, w32_id, w32_n, Int.toNat_natCast, Int.reduceToNat, Nat.zero_add, Nat.zero_le, Nat.le_refl, Int.reduceEq, Int.reduceLT, Int.reduceLE, Int.reduceAdd, Int.reduceSub, Int.reduceMul, t_imp, f_imp, hT.1, hN.1, wr_c, wr_o, wr_s, e3, m3, m4, shl1I, clrI, orI]
    refine ⟨fun h2 => ?_, fun h2 => ?_⟩
    · have hn := next (wr M (rfA G a 5) i ((ti i - tdRe td : Nat) : Int))
      rw [hc, if_neg (by omega)] at hn
      refine hn ⟨fun c h5 h6 => ?_, ?_, ?_, ?_, ?_, ?_, etd⟩
      · rw [wr_c _ _ _ h6]
        exact m1 c h5 h6
      · rw [wr_c _ _ _ n3]
        exact m2
      · rw [wr_c _ _ _ n3, hgo, if_neg (by omega)]
        exact m3
      · rw [wr_c _ _ _ n3, hgo, if_neg (by omega)]
        exact m4
      · rw [wr_c _ _ _ n3]
        exact m5
      · rw [wr_c _ _ _ n3]
        exact m6
    · have hn := next (wr (wr (wr M (rfA G a 5) i ((ti i - tdRe td : Nat) : Int)) a 1 ((g - goneF td g z mo i - 2 ^ i : Nat) : Int)) a 2 (((lo ||| goneF td g z mo i) ||| 2 ^ i : Nat) : Int))
      rw [hc, if_pos (by omega), Int.natCast_add] at hn
      refine hn ⟨fun c h5 h6 => ?_, ?_, ?_, ?_, ?_, ?_, fun p hp => ?_⟩
      · rw [wr_c _ _ _ h5, wr_c _ _ _ h5, wr_c _ _ _ h6]
        exact m1 c h5 h6
      · rw [wr_o _ _ (by decide), wr_o _ _ (by decide), wr_c _ _ _ n3]
        exact m2
      · rw [wr_o _ _ (by decide), wr_s, hgo, if_pos (by omega)]
        congr 1
        omega
      · rw [wr_s, hgo, if_pos (by omega), f3, Nat.or_assoc]
      · rw [wr_o _ _ (by decide), wr_o _ _ (by decide), wr_c _ _ _ n3]
        exact m5
      · rw [wr_o _ _ (by decide), wr_o _ _ (by decide), wr_c _ _ _ n3]
        exact m6
      · rw [wr_c _ _ _ n4, wr_c _ _ _ n4]
        exact etd p hp
theorem cntF_le {td : TD} {g z mo : Nat} : ∀ j, cntF td g z mo j ≤ j := by
  intro j
  induction j with
  | zero => exact Nat.le_refl 0
  | succ j ihj => unfold cntF; split <;> omega
theorem s_n_goBy {a t z mo met hm g lo : Nat} {td : TD} {ti : Nat → Nat} (hρ : 2 ≤ ρ) (hN : NS G a) (hT : TS G t) (hok : TDok td) (hR : RT G M t td) (hz : z < 10000) (h0 : M a 0 = (mo : Int)) (hmo : mo < 99) (h1 : M a 1 = (g : Int)) (hg : g < 64) (h2 : M a 2 = (lo : Int)) (hlo : lo < 64) (h3 : M a 3 = (met : Int)) (hm2 : met < 2147483648) (h4 : M a 4 = (hm : Int)) (hhm : hm < 1000000) (h5 : ∀ p, p < tdN td → M (rfA G a 5) p = (ti p : Int)) (hti : ∀ p, p < tdN td → ti p ≤ 30) (hd : rfA G a 5 ≠ rfA G t 1)
    (hQ : ∀ M' : aM, (∀ c, c ≠ a → c ≠ rfA G a 5 → M' c = M c) → M' a 0 = ((mo + 1 : Nat) : Int) → M' a 1 = ((g - goneF td g z mo (tdN td) : Nat) : Int) → M' a 2 = ((lo ||| goneF td g z mo (tdN td) : Nat) : Int) → M' a 3 = (met : Int) → M' a 4 = ((hm + unmF td met mo (tdA td) : Nat) : Int) → (∀ p, p < tdN td → M' (rfA G a 5) p = (restF td g ti p : Int)) → Q (some (vI (cntF td g z mo (tdN td) : Nat))) G M') : WPm Γ ρ 0 26 [vR (some a), vR (some t), vI z] G M Q := by
  have n3 : a ≠ rfA G a 5 := (ne_AO hN.2.2 hN.1).symm
  have n1 : t ≠ a := ne_OO hT.1 hN.1 (by decide)
  refine WPm_of (L := [vR (some a), vR (some t), vI z, vJ, vJ]) 2 (by decide) (Nat.le_of_ble_eq_true rfl) rfl ?_
  refine blk bk_n_goBy_0 ?_
  simp (disch := omega) only [st_iconst, st_bipush, st_sipush, st_ldc, st_ldc_w, st_lconst, st_ldc2_w, st_iload_n, st_iload, st_lload_n, st_lload, st_aload_n, st_aload, st_istore_n, st_istore, st_lstore_n, st_lstore, st_astore_n, st_astore, st_iinc, st_iadd, st_isub, st_imul, st_idiv, st_irem, st_iand, st_ior, st_ixor, st_ishl, st_ishr, st_iushr, st_ladd, st_lmul, st_ldiv, st_lrem, st_land, st_lor, st_lxor, st_lshl, st_lshr, st_lcmp, st_i2l, st_l2i, st_i2c, st_dup, st_pop, st_dup2, st_iaload0, st_iaload1, st_caload, st_baload, st_laload, st_aaload, st_iastore, st_castore, st_bastore, st_lastore, st_aastore, st_arraylength0, st_arraylength1, st_getfield, st_putfield0, st_putfield1, st_putfield2, st_putfield3, st_getstatic, st_new, st_newarray, st_anewarray, st_goto, st_ifCond, st_if_icmp, st_tableswitch, st_lookupswitch, st_ireturn, st_lreturn, st_return, st_invokevirtual, st_invokestatic0, st_invokestatic1, st_invokespecial0, st_invokespecial1, cZ_eq, cZ_ne, cZ_lt, cZ_ge, cZ_gt, cZ_le, vcb_n, vcb_c, sw_n, sw_c, ↓pI_d, ↓pL_d, ↓pR_d, ↓pA_d, isI_d, isL_d, isL_di, isL_dr, isL_dj, isA_d, inc_c, stO, fV, List.getD_cons_zero, List.getD_cons_succ, List.set_cons_zero, List.set_cons_succ, List.take_succ_cons, List.take_zero, List.drop_succ_cons, List.drop_zero, List.reverse_cons, List.reverse_nil, List.nil_append, List.cons_append, List.append_nil, Option.toList_some, Option.toList_none, List.length_cons, List.length_nil, Nat.reduceAdd, Nat.reduceSub, Nat.reduceLeDiff, Nat.reduceEqDiff, Nat.add_eq, not_false_eq_true, not_true_eq_false, true_and, and_true, false_or, or_true, true_or, or_false, and_self, one_ne_zero_nat, w32_id, w32_n, Int.toNat_natCast, Int.reduceToNat, Nat.zero_add, Nat.zero_le, Nat.le_refl, Int.reduceEq, Int.reduceLT, Int.reduceLE, Int.reduceAdd, Int.reduceSub, Int.reduceMul, t_imp, f_imp]
  have e0 : M = wr M a 4 ((hm + unmF td met mo 0 : Nat) : Int) := (wr_id h4).symm
  rw [e0]
  have hR2 : RT G (wr M a 4 ((hm + unmF td met mo (tdA td) : Nat) : Int)) t td := by
    obtain ⟨r1, r2, r3, r4, r5, r6, r7⟩ := hR
    have k1 : rfA G t 1 ≠ a := ne_AO hT.2.1.2 hN.1
    have k2 : rfA G t 2 ≠ a := ne_AO hT.2.2.1.2 hN.1
    have k3 : rfA G t 3 ≠ a := ne_AO hT.2.2.2.1.2 hN.1
    have k5 : rfA G t 5 ≠ a := ne_AO hT.2.2.2.2.1.2 hN.1
    have k6 : rfA G t 6 ≠ a := ne_AO hT.2.2.2.2.2.1.2 hN.1
    have k7 : rfA G t 7 ≠ a := ne_AO hT.2.2.2.2.2.2.1.2 hN.1
    have k8 : rfA G t 8 ≠ a := ne_AO hT.2.2.2.2.2.2.2.2 hN.1
    unfold RT
    rw [wr_c _ _ _ n1, wr_c _ _ _ k1, wr_c _ _ _ k2, wr_c _ _ _ k3, wr_c _ _ _ k5, wr_c _ _ _ k6, wr_c _ _ _ k7, wr_c _ _ _ k8]
    exact ⟨r1, r2, r3, r4, r5, r6, r7⟩
  have hu := unmF_le (met := met) (mo := mo) hok (tdA td) (Nat.le_refl _)
  have hA10 := hok.2.1
  have hc6 := cntF_le (td := td) (g := g) (z := z) (mo := mo) (tdN td)
  have hN6 := hok.1
  refine goBy_loop1 (by omega) hN hT hok hR h0 (by omega) h3 hm2 hhm (tdA td) 0 (by omega) ?_
  refine blk bk_n_goBy_52 ?_
  simp (disch := omega) only [st_iconst, st_bipush, st_sipush, st_ldc, st_ldc_w, st_lconst, st_ldc2_w, st_iload_n, st_iload, st_lload_n, st_lload, st_aload_n, st_aload, st_istore_n, st_istore, st_lstore_n, st_lstore, st_astore_n, st_astore, st_iinc, st_iadd, st_isub, st_imul, st_idiv, st_irem, st_iand, st_ior, st_ixor, st_ishl, st_ishr, st_iushr, st_ladd, st_lmul, st_ldiv, st_lrem, st_land, st_lor, st_lxor, st_lshl, st_lshr, st_lcmp, st_i2l, st_l2i, st_i2c, st_dup, st_pop, st_dup2, st_iaload0, st_iaload1, st_caload, st_baload, st_laload, st_aaload, st_iastore, st_castore, st_bastore, st_lastore, st_aastore, st_arraylength0, st_arraylength1, st_getfield, st_putfield0, st_putfield1, st_putfield2, st_putfield3, st_getstatic, st_new, st_newarray, st_anewarray, st_goto, st_ifCond, st_if_icmp, st_tableswitch, st_lookupswitch, st_ireturn, st_lreturn, st_return, st_invokevirtual, st_invokestatic0, st_invokestatic1, st_invokespecial0, st_invokespecial1, cZ_eq, cZ_ne, cZ_lt, cZ_ge, cZ_gt, cZ_le, vcb_n, vcb_c, sw_n, sw_c, ↓pI_d, ↓pL_d, ↓pR_d, ↓pA_d, isI_d, isL_d, isL_di, isL_dr, isL_dj, isA_d, inc_c, stO, fV, List.getD_cons_zero, List.getD_cons_succ, List.set_cons_zero, List.set_cons_succ, List.take_succ_cons, List.take_zero, List.drop_succ_cons, List.drop_zero, List.reverse_cons, List.reverse_nil, List.nil_append, List.cons_append, List.append_nil, Option.toList_some, Option.toList_none, List.length_cons, List.length_nil, Nat.reduceAdd, Nat.reduceSub, Nat.reduceLeDiff, Nat.reduceEqDiff, Nat.add_eq, not_false_eq_true, not_true_eq_false, true_and, and_true, false_or, or_true, true_or, or_false, and_self, one_ne_zero_nat, w32_id, w32_n, Int.toNat_natCast, Int.reduceToNat, Nat.zero_add, Nat.zero_le, Nat.le_refl, Int.reduceEq, Int.reduceLT, Int.reduceLE, Int.reduceAdd, Int.reduceSub, Int.reduceMul, t_imp, f_imp]
  refine goBy_loop2 (z := z) (mo := mo) (g := g) (lo := lo) (ti := ti) hρ hN hT hok hR2 (by omega) hz hg hlo hti hd (tdN td) 0 _ (by omega) ⟨fun _ _ _ => rfl, ?_, ?_, ?_, rfl, rfl, fun p hp => ?_⟩ (fun M' hI => ?_)
  · rw [wr_o _ _ (by decide)]
    exact h0
  · rw [wr_o _ _ (by decide)]
    exact h1
  · rw [wr_o _ _ (by decide)]
    show _ = ((lo ||| 0 : Nat) : Int)
    rw [Nat.or_zero]
    exact h2
  · rw [wr_c _ _ _ n3.symm, if_neg (by omega)]
    exact h5 p hp
  · obtain ⟨m1, m2, m3, m4, m5, m6, m7⟩ := hI
    refine blk bk_n_goBy_133 ?_
    simp (disch := omega) only [st_iconst, st_bipush, st_sipush, st_ldc, st_ldc_w, st_lconst, st_ldc2_w, st_iload_n, st_iload, st_lload_n, st_lload, st_aload_n, st_aload, st_istore_n, st_istore, st_lstore_n, st_lstore, st_astore_n, st_astore, st_iinc, st_iadd, st_isub, st_imul, st_idiv, st_irem, st_iand, st_ior, st_ixor, st_ishl, st_ishr, st_iushr, st_ladd, st_lmul, st_ldiv, st_lrem, st_land, st_lor, st_lxor, st_lshl, st_lshr, st_lcmp, st_i2l, st_l2i, st_i2c, st_dup, st_pop, st_dup2, st_iaload0, st_iaload1, st_caload, st_baload, st_laload, st_aaload, st_iastore, st_castore, st_bastore, st_lastore, st_aastore, st_arraylength0, st_arraylength1, st_getfield, st_putfield0, st_putfield1, st_putfield2, st_putfield3, st_getstatic, st_new, st_newarray, st_anewarray, st_goto, st_ifCond, st_if_icmp, st_tableswitch, st_lookupswitch, st_ireturn, st_lreturn, st_return, st_invokevirtual, st_invokestatic0, st_invokestatic1, st_invokespecial0, st_invokespecial1, cZ_eq, cZ_ne, cZ_lt, cZ_ge, cZ_gt, cZ_le, vcb_n, vcb_c, sw_n, sw_c, ↓pI_d, ↓pL_d, ↓pR_d, ↓pA_d, isI_d, isL_d, isL_di, isL_dr, isL_dj, isA_d, inc_c, stO, fV, List.getD_cons_zero, List.getD_cons_succ, List.set_cons_zero, List.set_cons_succ, List.take_succ_cons, List.take_zero, List.drop_succ_cons, List.drop_zero, List.reverse_cons, List.reverse_nil, List.nil_append, List.cons_append, List.append_nil, Option.toList_some, Option.toList_none, List.length_cons, List.length_nil, Nat.reduceAdd, Nat.reduceSub, Nat.reduceLeDiff, Nat.reduceEqDiff, Nat.add_eq, not_false_eq_true, not_true_eq_false, true_and, and_true, false_or, or_true, true_or, or_false, and_self, one_ne_zero_nat, w32_id, w32_n, Int.toNat_natCast, Int.reduceToNat, Nat.zero_add, Nat.zero_le, Nat.le_refl, Int.reduceEq, Int.reduceLT, Int.reduceLE, Int.reduceAdd, Int.reduceSub, Int.reduceMul, t_imp, f_imp, hN.1, m2]
    refine hQ _ (fun c q1 q2 => ?_) ?_ ?_ ?_ ?_ ?_ (fun p hp => ?_)
    · rw [wr_c _ _ _ q1, m1 c q1 q2, wr_c _ _ _ q1]
    · rw [wr_s]
      omega
    · rw [wr_o _ _ (by decide)]
      exact m3
    · rw [wr_o _ _ (by decide)]
      exact m4
    · rw [wr_o _ _ (by decide), m5, wr_o _ _ (by decide)]
      exact h3
    · rw [wr_o _ _ (by decide), m6, wr_s]
    · rw [wr_c _ _ _ n3.symm, m7 p hp, if_pos hp]
end GOBY
