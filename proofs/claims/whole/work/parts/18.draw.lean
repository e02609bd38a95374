section DRAW
variable {Γ : aR} {ρ κ : Nat} {G : aG} {M : aM} {Q : aQ}
theorem s_n_draw {a z p m : Nat} (hA : isObj G a 4) (hm : M a 0 = (m : Int)) (hz : z < 10000) (hp : p < 100) (hm2 : m < 100) (hQ : Q (some (vI (drawF z p m : Nat))) G M) : WPm Γ ρ 0 27 [vR (some a), vI z, vI p] G M Q := by
  refine WPm_of (L := [vR (some a), vI z, vI p, vJ, vJ]) 2 (by decide) (Nat.le_of_ble_eq_true rfl) rfl ?_
  refine blk bk_n_draw_0 ?_
  simp (disch := omega) only [vcb, step, ↓pI_c, ↓pL_c, ↓pR_c, ↓pA_c, isI_c, isL_c, isL_i, isL_r, isL_j, isA_c, inc_c, stO, fV, cZ, sw, List.getD_cons_zero, List.getD_cons_succ, List.set_cons_zero, List.set_cons_succ, List.take_succ_cons, List.take_zero, List.drop_succ_cons, List.drop_zero, List.reverse_cons, List.reverse_nil, List.nil_append, List.cons_append, List.append_nil, Option.toList_some, Option.toList_none, List.length_cons, List.length_nil, Nat.reduceAdd, Nat.reduceSub, Nat.reduceLeDiff, Nat.reduceEqDiff, Nat.add_eq, not_false_eq_true, not_true_eq_false, true_and, and_true, false_or, or_true, true_or, or_false, and_self, one_ne_zero_nat, w32_id, w32_n, Int.toNat_natCast, Int.reduceToNat, Nat.zero_add, Nat.zero_le, Nat.le_refl, Int.reduceEq, Int.reduceLT, Int.reduceLE, Int.reduceAdd, Int.reduceSub, Int.reduceMul, t_imp, f_imp, hA, hm]
  sorry
end DRAW
