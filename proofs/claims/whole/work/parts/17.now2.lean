/-! ===== Now: become, begin, draw ===== -/
theorem cpy_in {f g : Nat → Int} {n j : Nat} (h : j < n) : va_cpy f g 0 0 n j = f j := by
  unfold va_cpy
  rw [if_pos ⟨Nat.zero_le _, by omega⟩]
  congr 1
  omega
def drawF (z p m : Nat) : Nat := (7919 * z + 6151 * p + 12289 * m + 1) * (7919 * z + 6151 * p + 12289 * m + 1) % 65521 / 8 % 10
section NOW2
variable {Γ : aR} {ρ κ : Nat} {G : aG} {M : aM} {Q : aQ}
theorem s_n_become {a b : Nat} (hρ : 1 ≤ ρ) (hA : NS G a) (hB : NS G b) (hab : a ≠ b) (ht : rfA G a 5 ≠ rfA G b 5)
    (hQ : ∀ M' : aM, (∀ k, k < 5 → M' a k = M b k) → (∀ p, p < 6 → M' (rfA G a 5) p = M (rfA G b 5) p) → (∀ c, c ≠ a → c ≠ rfA G a 5 → M' c = M c) → Q none G M') : WPm Γ ρ 0 20 [vR (some a), vR (some b)] G M Q := by
  have n1 : a ≠ rfA G a 5 := (ne_AO hA.2.2 hA.1).symm
  have n2 : b ≠ rfA G a 5 := (ne_AO hA.2.2 hB.1).symm
  have n3 : a ≠ rfA G b 5 := (ne_AO hB.2.2 hA.1).symm
  refine WPm_of (L := [vR (some a), vR (some b)]) 0 (by decide) (Nat.le_of_ble_eq_true rfl) rfl ?_
  refine blk bk_n_become_0 ?_
  simp (disch := omega) only [st_iconst, st_bipush, st_sipush, st_ldc, st_ldc_w, st_lconst, st_ldc2_w, st_iload_n, st_iload, st_lload_n, st_lload, st_aload_n, st_aload, st_istore_n, st_istore, st_lstore_n, st_lstore, st_astore_n, st_astore, st_iinc, st_iadd, st_isub, st_imul, st_idiv, st_irem, st_iand, st_ior, st_ixor, st_ishl, st_ishr, st_iushr, st_ladd, st_lmul, st_ldiv, st_lrem, st_land, st_lor, st_lxor, st_lshl, st_lshr, st_lcmp, st_i2l, st_l2i, st_i2c, st_dup, st_pop, st_dup2, st_iaload0, st_iaload1, st_caload, st_baload, st_laload, st_aaload, st_iastore, st_castore, st_bastore, st_lastore, st_aastore, st_arraylength0, st_arraylength1, st_getfield, st_putfield0, st_putfield1, st_putfield2, st_putfield3, st_getstatic, st_new, st_newarray, st_anewarray, st_goto, st_ifCond, st_if_icmp, st_tableswitch, st_lookupswitch, st_ireturn, st_lreturn, st_return, st_invokevirtual, st_invokestatic0, st_invokestatic1, st_invokespecial0, st_invokespecial1, cZ_eq, cZ_ne, cZ_lt, cZ_ge, cZ_gt, cZ_le, vcb_n, vcb_c, sw_n, sw_c, ↓pI_d, ↓pL_d, ↓pR_d, ↓pA_d, isI_d, isL_d, isL_di, isL_dr, isL_dj, isA_d, inc_c, stO, fV, List.getD_cons_zero, List.getD_cons_succ, List.set_cons_zero, List.set_cons_succ, List.take_succ_cons, List.take_zero, List.drop_succ_cons, List.drop_zero, List.reverse_cons, List.reverse_nil, List.nil_append, List.cons_append, List.append_nil, Option.toList_some, Option.toList_none, List.length_cons, List.length_nil, Nat.reduceAdd, Nat.reduceSub, Nat.reduceLeDiff, Nat.reduceEqDiff, Nat.add_eq, not_false_eq_true, not_true_eq_false, true_and, and_true, false_or, or_true, true_or, or_false, and_self, one_ne_zero_nat, w32_id, w32_n, Int.toNat_natCast, Int.reduceToNat, Nat.zero_add, Nat.zero_le, Nat.le_refl, Int.reduceEq, Int.reduceLT, Int.reduceLE, Int.reduceAdd, Int.reduceSub, Int.reduceMul, t_imp, f_imp, hA.1, hB.1, hA.2.1, hB.2.1, wr_c]
  refine ⟨hρ, ⟨6, 6, hB.2.2, hA.2.2, by decide, by decide⟩, ?_⟩
  refine hQ _ (fun k hk => ?_) (fun p hp => ?_) (fun c h1 h2 => ?_)
  · rw [va_up_ne _ _ n1]
    rcases (show k = 0 ∨ k = 1 ∨ k = 2 ∨ k = 3 ∨ k = 4 by omega) with rfl | rfl | rfl | rfl | rfl
    · rw [wr_o _ _ (by decide), wr_o _ _ (by decide), wr_o _ _ (by decide), wr_o _ _ (by decide), wr_s]
    · rw [wr_o _ _ (by decide), wr_o _ _ (by decide), wr_o _ _ (by decide), wr_s]
    · rw [wr_o _ _ (by decide), wr_o _ _ (by decide), wr_s]
    · rw [wr_o _ _ (by decide), wr_s]
    · rw [wr_s]
  · rw [va_up_self]
    show va_cpy _ _ 0 0 6 p = _
    rw [cpy_in hp]
  · rw [va_up_ne _ _ h2, wr_c _ _ _ h1, wr_c _ _ _ h1, wr_c _ _ _ h1, wr_c _ _ _ h1, wr_c _ _ _ h1]
theorem s_n_begin {a t : Nat} (hρ : 1 ≤ ρ) (hA : NS G a) (hT : TS G t) (ht : rfA G a 5 ≠ rfA G t 2)
    (hQ : ∀ M' : aM, (∀ k, k < 5 → M' a k = 0) → (∀ p, p < 6 → M' (rfA G a 5) p = M (rfA G t 2) p) → (∀ c, c ≠ a → c ≠ rfA G a 5 → M' c = M c) → Q none G M') : WPm Γ ρ 0 19 [vR (some a), vR (some t)] G M Q := by
  have n1 : a ≠ rfA G a 5 := (ne_AO hA.2.2 hA.1).symm
  have n3 : a ≠ rfA G t 2 := (ne_AO hT.2.2.1.2 hA.1).symm
  refine WPm_of (L := [vR (some a), vR (some t)]) 0 (by decide) (Nat.le_of_ble_eq_true rfl) rfl ?_
  refine blk bk_n_begin_0 ?_
  simp (disch := omega) only [st_iconst, st_bipush, st_sipush, st_ldc, st_ldc_w, st_lconst, st_ldc2_w, st_iload_n, st_iload, st_lload_n, st_lload, st_aload_n, st_aload, st_istore_n, st_istore, st_lstore_n, st_lstore, st_astore_n, st_astore, st_iinc, st_iadd, st_isub, st_imul, st_idiv, st_irem, st_iand, st_ior, st_ixor, st_ishl, st_ishr, st_iushr, st_ladd, st_lmul, st_ldiv, st_lrem, st_land, st_lor, st_lxor, st_lshl, st_lshr, st_lcmp, st_i2l, st_l2i, st_i2c, st_dup, st_pop, st_dup2, st_iaload0, st_iaload1, st_caload, st_baload, st_laload, st_aaload, st_iastore, st_castore, st_bastore, st_lastore, st_aastore, st_arraylength0, st_arraylength1, st_getfield, st_putfield0, st_putfield1, st_putfield2, st_putfield3, st_getstatic, st_new, st_newarray, st_anewarray, st_goto, st_ifCond, st_if_icmp, st_tableswitch, st_lookupswitch, st_ireturn, st_lreturn, st_return, st_invokevirtual, st_invokestatic0, st_invokestatic1, st_invokespecial0, st_invokespecial1, cZ_eq, cZ_ne, cZ_lt, cZ_ge, cZ_gt, cZ_le, vcb_n, vcb_c, sw_n, sw_c, ↓pI_d, ↓pL_d, ↓pR_d, ↓pA_d, isI_d, isL_d, isL_di, isL_dr, isL_dj, isA_d, inc_c, stO, fV, List.getD_cons_zero, List.getD_cons_succ, List.set_cons_zero, List.set_cons_succ, List.take_succ_cons, List.take_zero, List.drop_succ_cons, List.drop_zero, List.reverse_cons, List.reverse_nil, List.nil_append, List.cons_append, List.append_nil, Option.toList_some, Option.toList_none, List.length_cons, List.length_nil, Nat.reduceAdd, Nat.reduceSub, Nat.reduceLeDiff, Nat.reduceEqDiff, Nat.add_eq, not_false_eq_true, not_true_eq_false, true_and, and_true, false_or, or_true, true_or, or_false, and_self, one_ne_zero_nat, w32_id, w32_n, Int.toNat_natCast, Int.reduceToNat, Nat.zero_add, Nat.zero_le, Nat.le_refl, Int.reduceEq, Int.reduceLT, Int.reduceLE, Int.reduceAdd, Int.reduceSub, Int.reduceMul, t_imp, f_imp, hA.1, hT.1, hA.2.1, hT.2.2.1.1, wr_c]
  refine ⟨hρ, ⟨6, 6, hT.2.2.1.2, hA.2.2, by decide, by decide⟩, ?_⟩
  refine hQ _ (fun k hk => ?_) (fun p hp => ?_) (fun c h1 h2 => ?_)
  · rw [va_up_ne _ _ n1]
    rcases (show k = 0 ∨ k = 1 ∨ k = 2 ∨ k = 3 ∨ k = 4 by omega) with rfl | rfl | rfl | rfl | rfl
    · rw [wr_o _ _ (by decide), wr_o _ _ (by decide), wr_o _ _ (by decide), wr_o _ _ (by decide), wr_s]
    · rw [wr_o _ _ (by decide), wr_o _ _ (by decide), wr_o _ _ (by decide), wr_s]
    · rw [wr_o _ _ (by decide), wr_o _ _ (by decide), wr_s]
    · rw [wr_o _ _ (by decide), wr_s]
    · rw [wr_s]
  · rw [va_up_self]
    show va_cpy _ _ 0 0 6 p = _
    rw [cpy_in hp]
  · rw [va_up_ne _ _ h2, wr_c _ _ _ h1, wr_c _ _ _ h1, wr_c _ _ _ h1, wr_c _ _ _ h1, wr_c _ _ _ h1]
end NOW2
