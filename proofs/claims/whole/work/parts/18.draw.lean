section DRAW
variable {Γ : aR} {ρ κ : Nat} {G : aG} {M : aM} {Q : aQ}
theorem s_n_draw {a z p m : Nat} (hA : isObj G a 4) (hm : M a 0 = (m : Int)) (hz : z < 10000) (hp : p < 100) (hm2 : m < 100) (hQ : Q (some (vI (drawF z p m : Nat))) G M) : WPm Γ ρ 0 27 [vR (some a), vI z, vI p] G M Q := by
  refine WPm_of (L := [vR (some a), vI z, vI p, vJ, vJ]) 2 (by decide) (Nat.le_of_ble_eq_true rfl) rfl ?_
  refine blk bk_n_draw_0 ?_
  simp (disch := omega) only [st_iconst, st_bipush, st_sipush, st_ldc, st_ldc_w, st_lconst, st_ldc2_w, st_iload_n, st_iload, st_lload_n, st_lload, st_aload_n, st_aload, st_istore_n, st_istore, st_lstore_n, st_lstore, st_astore_n, st_astore, st_iinc, st_iadd, st_isub, st_imul, st_idiv, st_irem, st_iand, st_ior, st_ixor, st_ishl, st_ishr, st_iushr, st_ladd, st_lmul, st_ldiv, st_lrem, st_land, st_lor, st_lxor, st_lshl, st_lshr, st_lcmp, st_i2l, st_l2i, st_i2c, st_dup, st_pop, st_dup2, st_iaload0, st_iaload1, st_caload, st_baload, st_laload, st_aaload, st_iastore, st_castore, st_bastore, st_lastore, st_aastore, st_arraylength0, st_arraylength1, st_getfield, st_putfield0, st_putfield1, st_putfield2, st_putfield3, st_getstatic, st_new, st_newarray, st_anewarray, st_goto, st_ifCond, st_if_icmp, st_tableswitch, st_lookupswitch, st_ireturn, st_lreturn, st_return, st_invokevirtual, st_invokestatic0, st_invokestatic1, st_invokespecial0, st_invokespecial1, cZ_eq, cZ_ne, cZ_lt, cZ_ge, cZ_gt, cZ_le, vcb_n, vcb_c, sw_n, sw_c, ↓pI_d, ↓pL_d, ↓pR_d, ↓pA_d, isI_d, isL_d, isL_di, isL_dr, isL_dj, isA_d, inc_c, stO, fV, List.getD_cons_zero, List.getD_cons_succ, List.set_cons_zero, List.set_cons_succ, List.take_succ_cons, List.take_zero, List.drop_succ_cons, List.drop_zero, List.reverse_cons, List.reverse_nil, List.nil_append, List.cons_append, List.append_nil, Option.toList_some, Option.toList_none, List.length_cons, List.length_nil, Nat.reduceAdd, Nat.reduceSub, Nat.reduceLeDiff, Nat.reduceEqDiff, Nat.add_eq, not_false_eq_true, not_true_eq_false, true_and, and_true, false_or, or_true, true_or, or_false, and_self, one_ne_zero_nat, w32_id, w32_n, Int.toNat_natCast, Int.reduceToNat, Nat.zero_add, Nat.zero_le, Nat.le_refl, Int.reduceEq, Int.reduceLT, Int.reduceLE, Int.reduceAdd, Int.reduceSub, Int.reduceMul, t_imp, f_imp, hA, hm]
  have hq : 7919 * z + 6151 * p + 12289 * m + 1 < 100000000 := by omega
  have e : (7919 * (z : Int) + 6151 * (p : Int) + 12289 * (m : Int) + 1) = ((7919 * z + 6151 * p + 12289 * m + 1 : Nat) : Int) := by omega
  rw [e]
  unfold drawF at hQ
  generalize 7919 * z + 6151 * p + 12289 * m + 1 = q at hq hQ
  have hqq : q * q < 10000000000000000 := Nat.lt_of_lt_of_le (Nat.mul_lt_mul'' hq hq) (Nat.le_of_ble_eq_true rfl)
  have e2 : w64 ((q : Int) * (q : Int)) = ((q * q : Nat) : Int) := by
    rw [← Int.natCast_mul]
    generalize q * q = u at hqq
    exact w64_id (by omega) (by omega)
  have c1 : w64 65521 = ((65521 : Nat) : Int) := w64_id (by decide) (by decide)
  have c2 : w64 8 = ((8 : Nat) : Int) := w64_id (by decide) (by decide)
  have c3 : w64 10 = ((10 : Nat) : Int) := w64_id (by decide) (by decide)
  rw [e2, c1, tMn, c2]
  generalize q * q = u at hQ
  have c4 : w64 ((u % 65521 : Nat) : Int) = ((u % 65521 : Nat) : Int) := w64_id (by omega) (by omega)
  rw [c4, tDn, c3]
  have c5 : w64 ((u % 65521 / 8 : Nat) : Int) = ((u % 65521 / 8 : Nat) : Int) := w64_id (by omega) (by omega)
  rw [c5, tMn]
  exact ⟨by decide, by decide, by decide, hQ⟩
end DRAW
