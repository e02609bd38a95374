/-! ===== the class's plan: weigh ===== -/
/-- what is listed of name p: its ways, their harm, how many -/
def pRow (M : aM) (ad : Nat → Nat) (σ : SG) (n p : Nat) : Prop := M (ad 69) p = (plCc (plK σ n p) (2 ^ n) : Int) ∧ ∀ u, u < 2 ^ n → plK σ n p u = true → M (ad (56 + p)) (plCc (plK σ n p) u) = (u : Int) ∧ M (ad (63 + p)) (plCc (plK σ n p) u) = (plC σ n p u : Int)
section WEIGH2
variable {Γ : aR} {ρ κ bd : Nat} {G : aG} {M : aM} {Q : aQ} {ad : Nat → Nat} {σ : SG}
theorem plCc_lost {n p : Nat} (h : ¬ bt (ndL (gNd σ)) p = 0) : ∀ u, plCc (plK σ n p) (u + 1) = plCc (plK σ n p) 1 := by
  intro u
  induction u with
  | zero => rfl
  | succ u ih =>
    have e : plCc (plK σ n p) (u + 1 + 1) = plCc (plK σ n p) (u + 1) + (if plK σ n p (u + 1) = true then 1 else 0) := rfl
    rw [e, if_neg (fun hc => by have := (plCd_iff.mp hc).1; omega), Nat.add_zero, ih]
theorem s_p_weigh {p n : Nat} (hρ : 6 ≤ ρ) (hB : CB G ad) (hS : SOK σ) (hN : pN M ad σ) (hp : p < tdN (gTd σ)) (hn1 : 1 ≤ n) (hn : n ≤ 5) (hQ : ∀ M' : aM, (∀ c, c ≠ ad 53 → c ≠ ad 54 → c ≠ ad (56 + p) → c ≠ ad (63 + p) → c ≠ ad 69 → M' c = M c) → (∀ q, q ≠ p → M' (ad 69) q = M (ad 69) q) → pRow M' ad σ n p → Q (some (vI (plLm σ n p : Nat))) G M') : WPm Γ ρ 0 31 [vR (some (ad 51)), vR (some (ad 3)), vR (some (ad 19)), vI p, vI n] G M Q := by
  obtain ⟨n0, n1, n2, n3, n4, n5⟩ := cvNo hN.2.1
  have h6 : tdN (gTd σ) ≤ 6 := hS.1.1
  have hlo := lt64 h6 hS.2.1.2.2.1
  have hp6 : p < 6 := by omega
  have rt := rows_t p hp6
  have r56 : gR G (ad 55) p = some (ad (56 + p)) := cb_r hB rt.1
  have r63 : gR G (ad 62) p = some (ad (63 + p)) := cb_r hB rt.2.1
  have a56 : isArr G (ad (56 + p)) 0 32 := cb_a hB (by omega) rt.2.2.1
  have a63 : isArr G (ad (63 + p)) 0 32 := cb_a hB (by omega) rt.2.2.2
  have j55 : inA G (ad 55) 5 (p : Int) := in_of (cA55 hB) (by omega) (by omega) (by decide)
  have j62 : inA G (ad 62) 5 (p : Int) := in_of (cA62 hB) (by omega) (by omega) (by decide)
  have j69 : inA G (ad 69) 0 (p : Int) := in_of (cA69 hB) (by omega) (by omega) (by decide)
  have d1 : ad 54 ≠ ad (56 + p) := cb_ne hB (by decide) (by omega) (by omega)
  have d2 : ad 54 ≠ ad (63 + p) := cb_ne hB (by decide) (by omega) (by omega)
  have d3 : ad (56 + p) ≠ ad (63 + p) := cb_ne hB (by omega) (by omega) (by omega)
  have d4 : ad 54 ≠ ad 53 := cb_ne hB (by decide) (by decide) (by decide)
  have d5 : ad (56 + p) ≠ ad 53 := cb_ne hB (by omega) (by decide) (by omega)
  have d6 : ad (63 + p) ≠ ad 53 := cb_ne hB (by omega) (by decide) (by omega)
  have d7 : ad (56 + p) ≠ ad 54 := Ne.symm d1
  have d8 : ad (63 + p) ≠ ad 54 := Ne.symm d2
  have d9 : ad 54 ≠ ad 69 := cb_ne hB (by decide) (by decide) (by decide)
  have d10 : ad (56 + p) ≠ ad 69 := cb_ne hB (by omega) (by decide) (by omega)
  have d11 : ad (63 + p) ≠ ad 69 := cb_ne hB (by omega) (by decide) (by omega)
  have d12 : ad (63 + p) ≠ ad (56 + p) := Ne.symm d3
  have pw : 2 ^ n ≤ 32 := Nat.pow_le_pow_right (n := 2) (by decide) hn
  have pw1 : 1 < 2 ^ n := Nat.one_lt_two_pow (by omega)
  have c90 : ∀ w, plC σ n p w ≤ 90 := fun w => plC_90 hS hp
  have b01 := bt_01 (ndL (gNd σ)) p
  have main : ∀ A : Nat, (A = if bt (ndL (gNd σ)) p = 0 then 2 ^ n else 1) → WP Γ ρ 0 31 16 [vR (some (ad 51)), vR (some (ad 3)), vR (some (ad 19)), vI p, vI n, vJ, vJ, vJ, vJ, vJ] [vI A] G M Q := by
    intro A hA
    have hA1 : 1 ≤ A ∧ A ≤ 32 := by split at hA <;> omega
    have loop : ∀ (r w : Nat) (lw : Nat → Nat) (M' : aM) (v8 v9 : aV), w + r = A → ¬ isL v8 → ¬ isL v9 → (∀ c, c ≠ ad 53 → c ≠ ad 54 → c ≠ ad (56 + p) → c ≠ ad (63 + p) → M' c = M c) → (∀ v, v < w → M' (ad 54) v = (lw v : Int) ∧ lw v ≤ 2147483647 ∧ lwP (plC σ n p) lw v) → (∀ u, u < w → plK σ n p u = true → M' (ad (56 + p)) (plCc (plK σ n p) u) = (u : Int) ∧ M' (ad (63 + p)) (plCc (plK σ n p) u) = (plC σ n p u : Int)) → WP Γ ρ 0 31 24 [vR (some (ad 51)), vR (some (ad 3)), vR (some (ad 19)), vI p, vI n, vI A, vI (plCc (plK σ n p) w : Nat), vI w, v8, v9] [] G M' Q := by
      intro r
      induction r with
      | zero =>
        intro w lw M' v8 v9 hw hv8 hv9 ho hl hr
        obtain rfl : w = A := by omega
        have lA := hl (w - 1) (by omega)
        have j54 : inA G (ad 54) 0 ((w : Int) - 1) := in_of (cA54 hB) (by omega) (by omega) (by decide)
        have tn : ((w : Int) - 1).toNat = w - 1 := by omega
        have hcc : plCc (plK σ n p) w = plCc (plK σ n p) (2 ^ n) := by
          by_cases hz : bt (ndL (gNd σ)) p = 0
          · rw [if_pos hz] at hA
            rw [hA]
          · rw [if_neg hz] at hA
            have := plCc_lost (n := n) hz (2 ^ n - 1)
            rw [show 2 ^ n - 1 + 1 = 2 ^ n by omega] at this
            rw [this, hA]
        have hlm : lw (w - 1) = plLm σ n p := by
          unfold plLm
          by_cases hz : bt (ndL (gNd σ)) p = 0
          · rw [if_pos hz] at hA ⊢
            rw [hA] at lA ⊢
            obtain ⟨x, x1, x2, x3⟩ := lA.2.2.2
            obtain ⟨y, y1, y2⟩ := plMi_ex (g := plC σ n p) (2 ^ n - 1)
            have hxle := fin_sub_lt x2
            have h1 := plMi_le (g := plC σ n p) (2 ^ n - 1) x hxle
            have h2 := lA.2.2.1 y (by omega) (fin_full2 n hn y (by omega))
            omega
          · rw [if_neg hz] at hA ⊢
            subst hA
            obtain ⟨x, x1, x2, x3⟩ := lA.2.2.2
            have hxle := fin_sub_lt x2
            rw [x3, show x = 0 by omega]
        have hm90 : lw (w - 1) ≤ 2147483647 := lA.2.1
        have fin := hQ (wr M' (ad 69) p (plCc (plK σ n p) (2 ^ n) : Nat)) (fun c h1 h2 h3 h4 h5 => by rw [wr_c _ _ _ h5]; exact ho c h1 h2 h3 h4) (fun q hq => by rw [wr_o _ _ hq, ho _ (cb_ne hB (by decide) (by decide) (by decide)) (Ne.symm d9) (Ne.symm d10) (Ne.symm d11)]) ⟨wr_s _ _ _ _, fun u hu hc => by
          rw [wr_c _ _ _ d10, wr_c _ _ _ d11]
          refine hr u ?_ hc
          by_cases hz : bt (ndL (gNd σ)) p = 0
          · rw [if_pos hz] at hA
            omega
          · have := (plCd_iff.mp hc).1
            omega⟩
        rw [← hlm] at fin
        have mA : wr M' (ad 69) p (plCc (plK σ n p) (2 ^ n) : Nat) (ad 54) (w - 1) = (lw (w - 1) : Int) := by rw [wr_c _ _ _ d9]; exact lA.1
        rw [hcc]
        clear hr hl lA hQ hlm hcc
        generalize plCc (plK σ n p) (2 ^ n) = cn at *
        generalize lw (w - 1) = ll at *
        refine blk bk_p_weigh_24 ?_
        simp (disch := omega) only [st_iconst, st_bipush, st_sipush, st_ldc, st_ldc_w, st_lconst, st_ldc2_w, st_iload_n, st_iload, st_lload_n, st_lload, st_aload_n, st_aload, st_istore_n, st_istore, st_lstore_n, st_lstore, st_astore_n, st_astore, st_iinc, st_iadd, st_isub, st_imul, st_idiv, st_irem, st_iand, st_ior, st_ixor, st_ishl, st_ishr, st_iushr, st_ladd, st_lmul, st_ldiv, st_lrem, st_land, st_lor, st_lxor, st_lshl, st_lshr, st_lcmp, st_i2l, st_l2i, st_i2c, st_dup, st_pop, st_dup2, st_iaload0, st_iaload1, st_caload, st_baload, st_laload, st_aaload, st_iastore, st_castore, st_bastore, st_lastore, st_aastore, st_arraylength0, st_arraylength1, st_getfield, st_putfield0, st_putfield1, st_putfield2, st_putfield3, st_getstatic, st_new, st_newarray, st_anewarray, st_goto, st_ifCond, st_if_icmp, st_tableswitch, st_lookupswitch, st_ireturn, st_lreturn, st_return, st_invokevirtual, st_invokestatic0, st_invokestatic1, st_invokespecial0, st_invokespecial1, cZ_eq, cZ_ne, cZ_lt, cZ_ge, cZ_gt, cZ_le, vcb_n, vcb_c, sw_n, sw_c, ↓pI_d, ↓pL_d, ↓pR_d, ↓pA_d, isI_d, isL_d, isL_di, isL_dr, isL_dj, isA_d, inc_c, stO, fV, List.getD_cons_zero, List.getD_cons_succ, List.set_cons_zero, List.set_cons_succ, List.take_succ_cons, List.take_zero, List.drop_succ_cons, List.drop_zero, List.reverse_cons, List.reverse_nil, List.nil_append, List.cons_append, List.append_nil, Option.toList_some, Option.toList_none, List.length_cons, List.length_nil, Nat.reduceAdd, Nat.reduceSub, Nat.reduceLeDiff, Nat.reduceEqDiff, Nat.add_eq, not_false_eq_true, not_true_eq_false, true_and, and_true, false_or, or_true, true_or, or_false, and_self, one_ne_zero_nat, w32_id, w32_n, Int.toNat_natCast, Int.reduceToNat, Nat.zero_add, Nat.zero_le, Nat.le_refl, Int.reduceEq, Int.reduceLT, Int.reduceLE, Int.reduceAdd, Int.reduceSub, Int.reduceMul, t_imp, f_imp]
        refine ⟨fun _ => ?_, fun q => absurd (Int.le_refl _) q⟩
        refine blk bk_p_weigh_104 ?_
        simp (disch := omega) only [st_iconst, st_bipush, st_sipush, st_ldc, st_ldc_w, st_lconst, st_ldc2_w, st_iload_n, st_iload, st_lload_n, st_lload, st_aload_n, st_aload, st_istore_n, st_istore, st_lstore_n, st_lstore, st_astore_n, st_astore, st_iinc, st_iadd, st_isub, st_imul, st_idiv, st_irem, st_iand, st_ior, st_ixor, st_ishl, st_ishr, st_iushr, st_ladd, st_lmul, st_ldiv, st_lrem, st_land, st_lor, st_lxor, st_lshl, st_lshr, st_lcmp, st_i2l, st_l2i, st_i2c, st_dup, st_pop, st_dup2, st_iaload0, st_iaload1, st_caload, st_baload, st_laload, st_aaload, st_iastore, st_castore, st_bastore, st_lastore, st_aastore, st_arraylength0, st_arraylength1, st_getfield, st_putfield0, st_putfield1, st_putfield2, st_putfield3, st_getstatic, st_new, st_newarray, st_anewarray, st_goto, st_ifCond, st_if_icmp, st_tableswitch, st_lookupswitch, st_ireturn, st_lreturn, st_return, st_invokevirtual, st_invokestatic0, st_invokestatic1, st_invokespecial0, st_invokespecial1, cZ_eq, cZ_ne, cZ_lt, cZ_ge, cZ_gt, cZ_le, vcb_n, vcb_c, sw_n, sw_c, ↓pI_d, ↓pL_d, ↓pR_d, ↓pA_d, isI_d, isL_d, isL_di, isL_dr, isL_dj, isA_d, inc_c, stO, fV, List.getD_cons_zero, List.getD_cons_succ, List.set_cons_zero, List.set_cons_succ, List.take_succ_cons, List.take_zero, List.drop_succ_cons, List.drop_zero, List.reverse_cons, List.reverse_nil, List.nil_append, List.cons_append, List.append_nil, Option.toList_some, Option.toList_none, List.length_cons, List.length_nil, Nat.reduceAdd, Nat.reduceSub, Nat.reduceLeDiff, Nat.reduceEqDiff, Nat.add_eq, not_false_eq_true, not_true_eq_false, true_and, and_true, false_or, or_true, true_or, or_false, and_self, one_ne_zero_nat, w32_id, w32_n, Int.toNat_natCast, Int.reduceToNat, Nat.zero_add, Nat.zero_le, Nat.le_refl, Int.reduceEq, Int.reduceLT, Int.reduceLE, Int.reduceAdd, Int.reduceSub, Int.reduceMul, t_imp, f_imp, cO51 hB, cR51_4 hB, j69, cR51_1 hB, j54, tn, mA]
        exact fin
      | succ r ih =>
        intro w lw M' v8 v9 hw hv8 hv9 ho hl hr
        have hw32 : w < 32 := by omega
        have wis := plWi_s hw32 (fun v hv => (hl v hv).2.2)
        have wim := plWi_m (lw := lw) (w := w) 5
        have call1 : WPm Γ (ρ - 1) 0 32 [vR (some (ad 51)), vI w] G M' (fun u G' M2 => WP Γ ρ 0 31 37 [vR (some (ad 51)), vR (some (ad 3)), vR (some (ad 19)), vI p, vI n, vI A, vI (plCc (plK σ n p) w : Nat), vI w, v8, v9] u.toList G' M2 Q) := by
          refine s_p_leastOfSmaller (lw := lw) (by omega) hB hw32 (fun v hv => ⟨(hl v hv).1, (hl v hv).2.1⟩) ?_
          have N2 : pN M' ad σ := pN_z hB (fun c h1 h2 => ho c (h2 53 (by decide) (by decide)) (h2 54 (by decide) (by decide)) (h2 _ (by omega) (by omega)) (h2 _ (by omega) (by omega))) hN
          have hccw := plCc_le (plK σ n p) w
          have call2 : WPm Γ (ρ - 1) 0 33 [vR (some (ad 51)), vR (some (ad 3)), vR (some (ad 19)), vI p, vI w, vI n] G M' (fun u G' M2 => WP Γ ρ 0 31 50 [vR (some (ad 51)), vR (some (ad 3)), vR (some (ad 19)), vI p, vI n, vI A, vI (plCc (plK σ n p) w : Nat), vI w, vI (plWi lw w 5 : Nat), v9] u.toList G' M2 Q) := by
            refine s_p_harmOf (by omega) hB hS N2 hp hw32 hn (fun M2 o2 => ?_)
            have hc90 := c90 w
            have j54 : inA G (ad 54) 0 (w : Int) := in_of (cA54 hB) (by omega) (by omega) (by decide)
            have hcd : plK σ n p w = true ↔ plC σ n p w < plWi lw w 5 := by
              refine plCd_iff.trans ⟨fun hc => ?_, fun hc => ⟨?_, fun v hv hs => ?_⟩⟩
              · rcases wis.2 with h1 | ⟨x, x1, x2, x3, x4⟩
                · omega
                · have := hc.2 x x3 x2
                  omega
              · by_cases hz : bt (ndL (gNd σ)) p = 0
                · exact .inr hz
                · rw [if_neg hz] at hA
                  omega
              · have := wis.1 v (by omega) hs (by omega)
                omega
            have hmn : (if (plC σ n p w : Int) < (plWi lw w 5 : Int) then (plC σ n p w : Int) else (plWi lw w 5 : Int)) = ((if plC σ n p w < plWi lw w 5 then plC σ n p w else plWi lw w 5 : Nat) : Int) := by split <;> split <;> omega
            have ejc : plCc (plK σ n p) (w + 1) = plCc (plK σ n p) w + (if plK σ n p w = true then 1 else 0) := rfl
            have next : ∀ M3 : aM, (∀ c, c ≠ ad 53 → c ≠ ad 54 → c ≠ ad (56 + p) → c ≠ ad (63 + p) → M3 c = M c) → M3 (ad 54) = (wr M2 (ad 54) w ((if plC σ n p w < plWi lw w 5 then plC σ n p w else plWi lw w 5 : Nat) : Int)) (ad 54) → (∀ u, u < w + 1 → plK σ n p u = true → M3 (ad (56 + p)) (plCc (plK σ n p) u) = (u : Int) ∧ M3 (ad (63 + p)) (plCc (plK σ n p) u) = (plC σ n p u : Int)) → WP Γ ρ 0 31 24 [vR (some (ad 51)), vR (some (ad 3)), vR (some (ad 19)), vI p, vI n, vI A, vI (plCc (plK σ n p) (w + 1) : Nat), vI ((w + 1 : Nat) : Int), vI (plWi lw w 5 : Nat), vI (plC σ n p w : Nat)] [] G M3 Q := by
              intro M3 o3 h54 r3
              refine ih (w + 1) (va_up lw w (if plC σ n p w < plWi lw w 5 then plC σ n p w else plWi lw w 5)) M3 _ _ (by omega) (fun h => h) (fun h => h) o3 (fun v hv => ?_) r3
              rw [h54]
              by_cases e : v = w
              · subst e
                rw [wr_s, va_up_self]
                refine ⟨rfl, by split <;> omega, ?_⟩
                unfold lwP
                rw [va_up_self]
                refine ⟨fun x hx hs => ?_, ?_⟩
                · by_cases ex : x = v
                  · subst ex
                    split <;> omega
                  · have := wis.1 x hx hs ex
                    split <;> omega
                · by_cases hlt : plC σ n p v < plWi lw v 5
                  · exact ⟨v, hw32, Nat.and_self v, by rw [if_pos hlt]⟩
                  · rcases wis.2 with h1 | ⟨x, x1, x2, x3, x4⟩
                    · omega
                    · exact ⟨x, x1, x2, by rw [if_neg hlt]; exact x4⟩
              · rw [wr_o _ _ e, va_up_ne _ _ e, o2 _ d4]
                have hv2 := hl v (by omega)
                refine ⟨hv2.1, hv2.2.1, ?_⟩
                unfold lwP
                rw [va_up_ne _ _ e]
                exact hv2.2.2
            have no : ¬ plK σ n p w = true → WP Γ ρ 0 31 98 [vR (some (ad 51)), vR (some (ad 3)), vR (some (ad 19)), vI p, vI n, vI A, vI (plCc (plK σ n p) w : Nat), vI w, vI (plWi lw w 5 : Nat), vI (plC σ n p w : Nat)] [] G (wr M2 (ad 54) w ((if plC σ n p w < plWi lw w 5 then plC σ n p w else plWi lw w 5 : Nat) : Int)) Q := by
              intro hc
              rw [if_neg hc, Nat.add_zero] at ejc
              have hnx := next (wr M2 (ad 54) w ((if plC σ n p w < plWi lw w 5 then plC σ n p w else plWi lw w 5 : Nat) : Int)) (fun c h1 h2 h3 h4 => by rw [wr_c _ _ _ h2, o2 _ h1]; exact ho c h1 h2 h3 h4) rfl (fun u hu huc => by
                rw [wr_c _ _ _ d7, wr_c _ _ _ d8, o2 _ d5, o2 _ d6]
                refine hr u ?_ huc
                by_cases e : u = w
                · subst e
                  exact absurd huc hc
                · omega)
              rw [ejc] at hnx
              clear next hr hl wis hQ ih hcd hmn
              generalize (if plC σ n p w < plWi lw w 5 then plC σ n p w else plWi lw w 5) = mn at *
              generalize plCc (plK σ n p) w = cn at *
              generalize plWi lw w 5 = wi at *
              generalize plC σ n p w = cw at *
              refine blk bk_p_weigh_98 ?_
              simp (disch := omega) only [st_iconst, st_bipush, st_sipush, st_ldc, st_ldc_w, st_lconst, st_ldc2_w, st_iload_n, st_iload, st_lload_n, st_lload, st_aload_n, st_aload, st_istore_n, st_istore, st_lstore_n, st_lstore, st_astore_n, st_astore, st_iinc, st_iadd, st_isub, st_imul, st_idiv, st_irem, st_iand, st_ior, st_ixor, st_ishl, st_ishr, st_iushr, st_ladd, st_lmul, st_ldiv, st_lrem, st_land, st_lor, st_lxor, st_lshl, st_lshr, st_lcmp, st_i2l, st_l2i, st_i2c, st_dup, st_pop, st_dup2, st_iaload0, st_iaload1, st_caload, st_baload, st_laload, st_aaload, st_iastore, st_castore, st_bastore, st_lastore, st_aastore, st_arraylength0, st_arraylength1, st_getfield, st_putfield0, st_putfield1, st_putfield2, st_putfield3, st_getstatic, st_new, st_newarray, st_anewarray, st_goto, st_ifCond, st_if_icmp, st_tableswitch, st_lookupswitch, st_ireturn, st_lreturn, st_return, st_invokevirtual, st_invokestatic0, st_invokestatic1, st_invokespecial0, st_invokespecial1, cZ_eq, cZ_ne, cZ_lt, cZ_ge, cZ_gt, cZ_le, vcb_n, vcb_c, sw_n, sw_c, ↓pI_d, ↓pL_d, ↓pR_d, ↓pA_d, isI_d, isL_d, isL_di, isL_dr, isL_dj, isA_d, inc_c, stO, fV, List.getD_cons_zero, List.getD_cons_succ, List.set_cons_zero, List.set_cons_succ, List.take_succ_cons, List.take_zero, List.drop_succ_cons, List.drop_zero, List.reverse_cons, List.reverse_nil, List.nil_append, List.cons_append, List.append_nil, Option.toList_some, Option.toList_none, List.length_cons, List.length_nil, Nat.reduceAdd, Nat.reduceSub, Nat.reduceLeDiff, Nat.reduceEqDiff, Nat.add_eq, not_false_eq_true, not_true_eq_false, true_and, and_true, false_or, or_true, true_or, or_false, and_self, one_ne_zero_nat, w32_id, w32_n, Int.toNat_natCast, Int.reduceToNat, Nat.zero_add, Nat.zero_le, Nat.le_refl, Int.reduceEq, Int.reduceLT, Int.reduceLE, Int.reduceAdd, Int.reduceSub, Int.reduceMul, t_imp, f_imp]
              exact hnx
            have yes : plK σ n p w = true → WP Γ ρ 0 31 98 [vR (some (ad 51)), vR (some (ad 3)), vR (some (ad 19)), vI p, vI n, vI A, vI ((plCc (plK σ n p) w : Int) + 1), vI w, vI (plWi lw w 5 : Nat), vI (plC σ n p w : Nat)] [] G (wr (wr (wr M2 (ad 54) w ((if plC σ n p w < plWi lw w 5 then plC σ n p w else plWi lw w 5 : Nat) : Int)) (ad (56 + p)) (plCc (plK σ n p) w) (w : Int)) (ad (63 + p)) (plCc (plK σ n p) w) (plC σ n p w : Int)) Q := by
              intro hc
              rw [if_pos hc] at ejc
              have hnx := next (wr (wr (wr M2 (ad 54) w ((if plC σ n p w < plWi lw w 5 then plC σ n p w else plWi lw w 5 : Nat) : Int)) (ad (56 + p)) (plCc (plK σ n p) w) (w : Int)) (ad (63 + p)) (plCc (plK σ n p) w) (plC σ n p w : Int)) (fun c h1 h2 h3 h4 => by rw [wr_c _ _ _ h4, wr_c _ _ _ h3, wr_c _ _ _ h2, o2 _ h1]; exact ho c h1 h2 h3 h4) (by rw [wr_c _ _ _ d2, wr_c _ _ _ d1]) (fun u hu huc => by
                rw [wr_c _ _ _ d3]
                by_cases e : u = w
                · subst e
                  rw [wr_s, wr_s]
                  exact ⟨rfl, rfl⟩
                · have hlt := plCc_lt (cd := plK σ n p) (show u < w by omega) huc
                  rw [wr_o _ _ (by omega), wr_o _ _ (by omega), wr_c _ _ _ d12, wr_c _ _ _ d7, wr_c _ _ _ d8, o2 _ d5, o2 _ d6]
                  exact hr u (by omega) huc)
              rw [ejc] at hnx
              clear next hr hl wis hQ ih hcd hmn
              generalize (if plC σ n p w < plWi lw w 5 then plC σ n p w else plWi lw w 5) = mn at *
              generalize plCc (plK σ n p) w = cn at *
              generalize plWi lw w 5 = wi at *
              generalize plC σ n p w = cw at *
              refine blk bk_p_weigh_98 ?_
              simp (disch := omega) only [st_iconst, st_bipush, st_sipush, st_ldc, st_ldc_w, st_lconst, st_ldc2_w, st_iload_n, st_iload, st_lload_n, st_lload, st_aload_n, st_aload, st_istore_n, st_istore, st_lstore_n, st_lstore, st_astore_n, st_astore, st_iinc, st_iadd, st_isub, st_imul, st_idiv, st_irem, st_iand, st_ior, st_ixor, st_ishl, st_ishr, st_iushr, st_ladd, st_lmul, st_ldiv, st_lrem, st_land, st_lor, st_lxor, st_lshl, st_lshr, st_lcmp, st_i2l, st_l2i, st_i2c, st_dup, st_pop, st_dup2, st_iaload0, st_iaload1, st_caload, st_baload, st_laload, st_aaload, st_iastore, st_castore, st_bastore, st_lastore, st_aastore, st_arraylength0, st_arraylength1, st_getfield, st_putfield0, st_putfield1, st_putfield2, st_putfield3, st_getstatic, st_new, st_newarray, st_anewarray, st_goto, st_ifCond, st_if_icmp, st_tableswitch, st_lookupswitch, st_ireturn, st_lreturn, st_return, st_invokevirtual, st_invokestatic0, st_invokestatic1, st_invokespecial0, st_invokespecial1, cZ_eq, cZ_ne, cZ_lt, cZ_ge, cZ_gt, cZ_le, vcb_n, vcb_c, sw_n, sw_c, ↓pI_d, ↓pL_d, ↓pR_d, ↓pA_d, isI_d, isL_d, isL_di, isL_dr, isL_dj, isA_d, inc_c, stO, fV, List.getD_cons_zero, List.getD_cons_succ, List.set_cons_zero, List.set_cons_succ, List.take_succ_cons, List.take_zero, List.drop_succ_cons, List.drop_zero, List.reverse_cons, List.reverse_nil, List.nil_append, List.cons_append, List.append_nil, Option.toList_some, Option.toList_none, List.length_cons, List.length_nil, Nat.reduceAdd, Nat.reduceSub, Nat.reduceLeDiff, Nat.reduceEqDiff, Nat.add_eq, not_false_eq_true, not_true_eq_false, true_and, and_true, false_or, or_true, true_or, or_false, and_self, one_ne_zero_nat, w32_id, w32_n, Int.toNat_natCast, Int.reduceToNat, Nat.zero_add, Nat.zero_le, Nat.le_refl, Int.reduceEq, Int.reduceLT, Int.reduceLE, Int.reduceAdd, Int.reduceSub, Int.reduceMul, t_imp, f_imp]
              exact hnx
            clear next hr hl wis hQ ih ejc
            have jc1 : inA G (ad (56 + p)) 0 (plCc (plK σ n p) w : Int) := in_of a56 (by omega) (by omega) (by decide)
            have jc2 : inA G (ad (63 + p)) 0 (plCc (plK σ n p) w : Int) := in_of a63 (by omega) (by omega) (by decide)
            generalize hcc2 : plCc (plK σ n p) w = cn at *
            generalize plWi lw w 5 = wi at *
            generalize plC σ n p w = cw at *
            refine blk bk_p_weigh_50 ?_
            simp (disch := omega) only [st_iconst, st_bipush, st_sipush, st_ldc, st_ldc_w, st_lconst, st_ldc2_w, st_iload_n, st_iload, st_lload_n, st_lload, st_aload_n, st_aload, st_istore_n, st_istore, st_lstore_n, st_lstore, st_astore_n, st_astore, st_iinc, st_iadd, st_isub, st_imul, st_idiv, st_irem, st_iand, st_ior, st_ixor, st_ishl, st_ishr, st_iushr, st_ladd, st_lmul, st_ldiv, st_lrem, st_land, st_lor, st_lxor, st_lshl, st_lshr, st_lcmp, st_i2l, st_l2i, st_i2c, st_dup, st_pop, st_dup2, st_iaload0, st_iaload1, st_caload, st_baload, st_laload, st_aaload, st_iastore, st_castore, st_bastore, st_lastore, st_aastore, st_arraylength0, st_arraylength1, st_getfield, st_putfield0, st_putfield1, st_putfield2, st_putfield3, st_getstatic, st_new, st_newarray, st_anewarray, st_goto, st_ifCond, st_if_icmp, st_tableswitch, st_lookupswitch, st_ireturn, st_lreturn, st_return, st_invokevirtual, st_invokestatic0, st_invokestatic1, st_invokespecial0, st_invokespecial1, cZ_eq, cZ_ne, cZ_lt, cZ_ge, cZ_gt, cZ_le, vcb_n, vcb_c, sw_n, sw_c, ↓pI_d, ↓pL_d, ↓pR_d, ↓pA_d, isI_d, isL_d, isL_di, isL_dr, isL_dj, isA_d, inc_c, stO, fV, List.getD_cons_zero, List.getD_cons_succ, List.set_cons_zero, List.set_cons_succ, List.take_succ_cons, List.take_zero, List.drop_succ_cons, List.drop_zero, List.reverse_cons, List.reverse_nil, List.nil_append, List.cons_append, List.append_nil, Option.toList_some, Option.toList_none, List.length_cons, List.length_nil, Nat.reduceAdd, Nat.reduceSub, Nat.reduceLeDiff, Nat.reduceEqDiff, Nat.add_eq, not_false_eq_true, not_true_eq_false, true_and, and_true, false_or, or_true, true_or, or_false, and_self, one_ne_zero_nat, w32_id, w32_n, Int.toNat_natCast, Int.reduceToNat, Nat.zero_add, Nat.zero_le, Nat.le_refl, Int.reduceEq, Int.reduceLT, Int.reduceLE, Int.reduceAdd, Int.reduceSub, Int.reduceMul, t_imp, f_imp, cO51 hB, cR51_1 hB, hv9]
            refine ⟨by omega, s_j_min (by omega) (by omega) (by omega) (by omega) ?_⟩
            rw [hmn]
            generalize (if cw < wi then cw else wi) = mn at *
            refine blk bk_p_weigh_65 ?_
            simp (disch := omega) only [st_iconst, st_bipush, st_sipush, st_ldc, st_ldc_w, st_lconst, st_ldc2_w, st_iload_n, st_iload, st_lload_n, st_lload, st_aload_n, st_aload, st_istore_n, st_istore, st_lstore_n, st_lstore, st_astore_n, st_astore, st_iinc, st_iadd, st_isub, st_imul, st_idiv, st_irem, st_iand, st_ior, st_ixor, st_ishl, st_ishr, st_iushr, st_ladd, st_lmul, st_ldiv, st_lrem, st_land, st_lor, st_lxor, st_lshl, st_lshr, st_lcmp, st_i2l, st_l2i, st_i2c, st_dup, st_pop, st_dup2, st_iaload0, st_iaload1, st_caload, st_baload, st_laload, st_aaload, st_iastore, st_castore, st_bastore, st_lastore, st_aastore, st_arraylength0, st_arraylength1, st_getfield, st_putfield0, st_putfield1, st_putfield2, st_putfield3, st_getstatic, st_new, st_newarray, st_anewarray, st_goto, st_ifCond, st_if_icmp, st_tableswitch, st_lookupswitch, st_ireturn, st_lreturn, st_return, st_invokevirtual, st_invokestatic0, st_invokestatic1, st_invokespecial0, st_invokespecial1, cZ_eq, cZ_ne, cZ_lt, cZ_ge, cZ_gt, cZ_le, vcb_n, vcb_c, sw_n, sw_c, ↓pI_d, ↓pL_d, ↓pR_d, ↓pA_d, isI_d, isL_d, isL_di, isL_dr, isL_dj, isA_d, inc_c, stO, fV, List.getD_cons_zero, List.getD_cons_succ, List.set_cons_zero, List.set_cons_succ, List.take_succ_cons, List.take_zero, List.drop_succ_cons, List.drop_zero, List.reverse_cons, List.reverse_nil, List.nil_append, List.cons_append, List.append_nil, Option.toList_some, Option.toList_none, List.length_cons, List.length_nil, Nat.reduceAdd, Nat.reduceSub, Nat.reduceLeDiff, Nat.reduceEqDiff, Nat.add_eq, not_false_eq_true, not_true_eq_false, true_and, and_true, false_or, or_true, true_or, or_false, and_self, one_ne_zero_nat, w32_id, w32_n, Int.toNat_natCast, Int.reduceToNat, Nat.zero_add, Nat.zero_le, Nat.le_refl, Int.reduceEq, Int.reduceLT, Int.reduceLE, Int.reduceAdd, Int.reduceSub, Int.reduceMul, t_imp, f_imp, cO51 hB, cR51_2 hB, cR51_3 hB, j54, j55, j62, r56, r63, jc1, jc2]
            exact ⟨fun q => no (fun hk => by have := hcd.mp hk; omega), fun q => yes (hcd.mpr (by omega))⟩
          clear hr hl wis hQ ih
          generalize plCc (plK σ n p) w = cn at *
          generalize plWi lw w 5 = wi at *
          refine blk bk_p_weigh_37 ?_
          simp (disch := omega) only [st_iconst, st_bipush, st_sipush, st_ldc, st_ldc_w, st_lconst, st_ldc2_w, st_iload_n, st_iload, st_lload_n, st_lload, st_aload_n, st_aload, st_istore_n, st_istore, st_lstore_n, st_lstore, st_astore_n, st_astore, st_iinc, st_iadd, st_isub, st_imul, st_idiv, st_irem, st_iand, st_ior, st_ixor, st_ishl, st_ishr, st_iushr, st_ladd, st_lmul, st_ldiv, st_lrem, st_land, st_lor, st_lxor, st_lshl, st_lshr, st_lcmp, st_i2l, st_l2i, st_i2c, st_dup, st_pop, st_dup2, st_iaload0, st_iaload1, st_caload, st_baload, st_laload, st_aaload, st_iastore, st_castore, st_bastore, st_lastore, st_aastore, st_arraylength0, st_arraylength1, st_getfield, st_putfield0, st_putfield1, st_putfield2, st_putfield3, st_getstatic, st_new, st_newarray, st_anewarray, st_goto, st_ifCond, st_if_icmp, st_tableswitch, st_lookupswitch, st_ireturn, st_lreturn, st_return, st_invokevirtual, st_invokestatic0, st_invokestatic1, st_invokespecial0, st_invokespecial1, cZ_eq, cZ_ne, cZ_lt, cZ_ge, cZ_gt, cZ_le, vcb_n, vcb_c, sw_n, sw_c, ↓pI_d, ↓pL_d, ↓pR_d, ↓pA_d, isI_d, isL_d, isL_di, isL_dr, isL_dj, isA_d, inc_c, stO, fV, List.getD_cons_zero, List.getD_cons_succ, List.set_cons_zero, List.set_cons_succ, List.take_succ_cons, List.take_zero, List.drop_succ_cons, List.drop_zero, List.reverse_cons, List.reverse_nil, List.nil_append, List.cons_append, List.append_nil, Option.toList_some, Option.toList_none, List.length_cons, List.length_nil, Nat.reduceAdd, Nat.reduceSub, Nat.reduceLeDiff, Nat.reduceEqDiff, Nat.add_eq, not_false_eq_true, not_true_eq_false, true_and, and_true, false_or, or_true, true_or, or_false, and_self, one_ne_zero_nat, w32_id, w32_n, Int.toNat_natCast, Int.reduceToNat, Nat.zero_add, Nat.zero_le, Nat.le_refl, Int.reduceEq, Int.reduceLT, Int.reduceLE, Int.reduceAdd, Int.reduceSub, Int.reduceMul, t_imp, f_imp, cO51 hB, hv8]
          exact ⟨by omega, call2⟩
        clear hr hl wis hQ ih
        generalize plCc (plK σ n p) w = cn at *
        refine blk bk_p_weigh_24 ?_
        simp (disch := omega) only [st_iconst, st_bipush, st_sipush, st_ldc, st_ldc_w, st_lconst, st_ldc2_w, st_iload_n, st_iload, st_lload_n, st_lload, st_aload_n, st_aload, st_istore_n, st_istore, st_lstore_n, st_lstore, st_astore_n, st_astore, st_iinc, st_iadd, st_isub, st_imul, st_idiv, st_irem, st_iand, st_ior, st_ixor, st_ishl, st_ishr, st_iushr, st_ladd, st_lmul, st_ldiv, st_lrem, st_land, st_lor, st_lxor, st_lshl, st_lshr, st_lcmp, st_i2l, st_l2i, st_i2c, st_dup, st_pop, st_dup2, st_iaload0, st_iaload1, st_caload, st_baload, st_laload, st_aaload, st_iastore, st_castore, st_bastore, st_lastore, st_aastore, st_arraylength0, st_arraylength1, st_getfield, st_putfield0, st_putfield1, st_putfield2, st_putfield3, st_getstatic, st_new, st_newarray, st_anewarray, st_goto, st_ifCond, st_if_icmp, st_tableswitch, st_lookupswitch, st_ireturn, st_lreturn, st_return, st_invokevirtual, st_invokestatic0, st_invokestatic1, st_invokespecial0, st_invokespecial1, cZ_eq, cZ_ne, cZ_lt, cZ_ge, cZ_gt, cZ_le, vcb_n, vcb_c, sw_n, sw_c, ↓pI_d, ↓pL_d, ↓pR_d, ↓pA_d, isI_d, isL_d, isL_di, isL_dr, isL_dj, isA_d, inc_c, stO, fV, List.getD_cons_zero, List.getD_cons_succ, List.set_cons_zero, List.set_cons_succ, List.take_succ_cons, List.take_zero, List.drop_succ_cons, List.drop_zero, List.reverse_cons, List.reverse_nil, List.nil_append, List.cons_append, List.append_nil, Option.toList_some, Option.toList_none, List.length_cons, List.length_nil, Nat.reduceAdd, Nat.reduceSub, Nat.reduceLeDiff, Nat.reduceEqDiff, Nat.add_eq, not_false_eq_true, not_true_eq_false, true_and, and_true, false_or, or_true, true_or, or_false, and_self, one_ne_zero_nat, w32_id, w32_n, Int.toNat_natCast, Int.reduceToNat, Nat.zero_add, Nat.zero_le, Nat.le_refl, Int.reduceEq, Int.reduceLT, Int.reduceLE, Int.reduceAdd, Int.reduceSub, Int.reduceMul, t_imp, f_imp, cO51 hB]
        exact ⟨fun q => absurd q (by omega), fun _ => ⟨by omega, call1⟩⟩
    have go := loop A 0 (fun _ => 0) M vJ vJ (by omega) (fun h => h) (fun h => h) (fun _ _ _ _ _ => rfl) (fun v hv => absurd hv (Nat.not_lt_zero _)) (fun u hu => absurd hu (Nat.not_lt_zero _))
    clear loop hQ
    refine blk bk_p_weigh_16 ?_
    simp (disch := omega) only [st_iconst, st_bipush, st_sipush, st_ldc, st_ldc_w, st_lconst, st_ldc2_w, st_iload_n, st_iload, st_lload_n, st_lload, st_aload_n, st_aload, st_istore_n, st_istore, st_lstore_n, st_lstore, st_astore_n, st_astore, st_iinc, st_iadd, st_isub, st_imul, st_idiv, st_irem, st_iand, st_ior, st_ixor, st_ishl, st_ishr, st_iushr, st_ladd, st_lmul, st_ldiv, st_lrem, st_land, st_lor, st_lxor, st_lshl, st_lshr, st_lcmp, st_i2l, st_l2i, st_i2c, st_dup, st_pop, st_dup2, st_iaload0, st_iaload1, st_caload, st_baload, st_laload, st_aaload, st_iastore, st_castore, st_bastore, st_lastore, st_aastore, st_arraylength0, st_arraylength1, st_getfield, st_putfield0, st_putfield1, st_putfield2, st_putfield3, st_getstatic, st_new, st_newarray, st_anewarray, st_goto, st_ifCond, st_if_icmp, st_tableswitch, st_lookupswitch, st_ireturn, st_lreturn, st_return, st_invokevirtual, st_invokestatic0, st_invokestatic1, st_invokespecial0, st_invokespecial1, cZ_eq, cZ_ne, cZ_lt, cZ_ge, cZ_gt, cZ_le, vcb_n, vcb_c, sw_n, sw_c, ↓pI_d, ↓pL_d, ↓pR_d, ↓pA_d, isI_d, isL_d, isL_di, isL_dr, isL_dj, isA_d, inc_c, stO, fV, List.getD_cons_zero, List.getD_cons_succ, List.set_cons_zero, List.set_cons_succ, List.take_succ_cons, List.take_zero, List.drop_succ_cons, List.drop_zero, List.reverse_cons, List.reverse_nil, List.nil_append, List.cons_append, List.append_nil, Option.toList_some, Option.toList_none, List.length_cons, List.length_nil, Nat.reduceAdd, Nat.reduceSub, Nat.reduceLeDiff, Nat.reduceEqDiff, Nat.add_eq, not_false_eq_true, not_true_eq_false, true_and, and_true, false_or, or_true, true_or, or_false, and_self, one_ne_zero_nat, w32_id, w32_n, Int.toNat_natCast, Int.reduceToNat, Nat.zero_add, Nat.zero_le, Nat.le_refl, Int.reduceEq, Int.reduceLT, Int.reduceLE, Int.reduceAdd, Int.reduceSub, Int.reduceMul, t_imp, f_imp]
    exact go
  clear hQ
  refine WPm_of (L := [vR (some (ad 51)), vR (some (ad 3)), vR (some (ad 19)), vI p, vI n, vJ, vJ, vJ, vJ, vJ]) 5 (by decide) (Nat.le_of_ble_eq_true rfl) rfl ?_
  refine blk bk_p_weigh_0 ?_
  simp (disch := omega) only [st_iconst, st_bipush, st_sipush, st_ldc, st_ldc_w, st_lconst, st_ldc2_w, st_iload_n, st_iload, st_lload_n, st_lload, st_aload_n, st_aload, st_istore_n, st_istore, st_lstore_n, st_lstore, st_astore_n, st_astore, st_iinc, st_iadd, st_isub, st_imul, st_idiv, st_irem, st_iand, st_ior, st_ixor, st_ishl, st_ishr, st_iushr, st_ladd, st_lmul, st_ldiv, st_lrem, st_land, st_lor, st_lxor, st_lshl, st_lshr, st_lcmp, st_i2l, st_l2i, st_i2c, st_dup, st_pop, st_dup2, st_iaload0, st_iaload1, st_caload, st_baload, st_laload, st_aaload, st_iastore, st_castore, st_bastore, st_lastore, st_aastore, st_arraylength0, st_arraylength1, st_getfield, st_putfield0, st_putfield1, st_putfield2, st_putfield3, st_getstatic, st_new, st_newarray, st_anewarray, st_goto, st_ifCond, st_if_icmp, st_tableswitch, st_lookupswitch, st_ireturn, st_lreturn, st_return, st_invokevirtual, st_invokestatic0, st_invokestatic1, st_invokespecial0, st_invokespecial1, cZ_eq, cZ_ne, cZ_lt, cZ_ge, cZ_gt, cZ_le, vcb_n, vcb_c, sw_n, sw_c, ↓pI_d, ↓pL_d, ↓pR_d, ↓pA_d, isI_d, isL_d, isL_di, isL_dr, isL_dj, isA_d, inc_c, stO, fV, List.getD_cons_zero, List.getD_cons_succ, List.set_cons_zero, List.set_cons_succ, List.take_succ_cons, List.take_zero, List.drop_succ_cons, List.drop_zero, List.reverse_cons, List.reverse_nil, List.nil_append, List.cons_append, List.append_nil, Option.toList_some, Option.toList_none, List.length_cons, List.length_nil, Nat.reduceAdd, Nat.reduceSub, Nat.reduceLeDiff, Nat.reduceEqDiff, Nat.add_eq, not_false_eq_true, not_true_eq_false, true_and, and_true, false_or, or_true, true_or, or_false, and_self, one_ne_zero_nat, w32_id, w32_n, Int.toNat_natCast, Int.reduceToNat, Nat.zero_add, Nat.zero_le, Nat.le_refl, Int.reduceEq, Int.reduceLT, Int.reduceLE, Int.reduceAdd, Int.reduceSub, Int.reduceMul, t_imp, f_imp, cO19 hB]
  refine ⟨by omega, s_n_isLost (cO19 hB) n2 (by omega) (by omega) ?_⟩
  refine blk bk_p_weigh_5 ?_
  simp (disch := omega) only [st_iconst, st_bipush, st_sipush, st_ldc, st_ldc_w, st_lconst, st_ldc2_w, st_iload_n, st_iload, st_lload_n, st_lload, st_aload_n, st_aload, st_istore_n, st_istore, st_lstore_n, st_lstore, st_astore_n, st_astore, st_iinc, st_iadd, st_isub, st_imul, st_idiv, st_irem, st_iand, st_ior, st_ixor, st_ishl, st_ishr, st_iushr, st_ladd, st_lmul, st_ldiv, st_lrem, st_land, st_lor, st_lxor, st_lshl, st_lshr, st_lcmp, st_i2l, st_l2i, st_i2c, st_dup, st_pop, st_dup2, st_iaload0, st_iaload1, st_caload, st_baload, st_laload, st_aaload, st_iastore, st_castore, st_bastore, st_lastore, st_aastore, st_arraylength0, st_arraylength1, st_getfield, st_putfield0, st_putfield1, st_putfield2, st_putfield3, st_getstatic, st_new, st_newarray, st_anewarray, st_goto, st_ifCond, st_if_icmp, st_tableswitch, st_lookupswitch, st_ireturn, st_lreturn, st_return, st_invokevirtual, st_invokestatic0, st_invokestatic1, st_invokespecial0, st_invokespecial1, cZ_eq, cZ_ne, cZ_lt, cZ_ge, cZ_gt, cZ_le, vcb_n, vcb_c, sw_n, sw_c, ↓pI_d, ↓pL_d, ↓pR_d, ↓pA_d, isI_d, isL_d, isL_di, isL_dr, isL_dj, isA_d, inc_c, stO, fV, List.getD_cons_zero, List.getD_cons_succ, List.set_cons_zero, List.set_cons_succ, List.take_succ_cons, List.take_zero, List.drop_succ_cons, List.drop_zero, List.reverse_cons, List.reverse_nil, List.nil_append, List.cons_append, List.append_nil, Option.toList_some, Option.toList_none, List.length_cons, List.length_nil, Nat.reduceAdd, Nat.reduceSub, Nat.reduceLeDiff, Nat.reduceEqDiff, Nat.add_eq, not_false_eq_true, not_true_eq_false, true_and, and_true, false_or, or_true, true_or, or_false, and_self, one_ne_zero_nat, w32_id, w32_n, Int.toNat_natCast, Int.reduceToNat, Nat.zero_add, Nat.zero_le, Nat.le_refl, Int.reduceEq, Int.reduceLT, Int.reduceLE, Int.reduceAdd, Int.reduceSub, Int.reduceMul, t_imp, f_imp]
  refine ⟨fun q => ?_, fun q => ?_⟩
  · refine blk bk_p_weigh_12 ?_
    simp (disch := omega) only [st_iconst, st_bipush, st_sipush, st_ldc, st_ldc_w, st_lconst, st_ldc2_w, st_iload_n, st_iload, st_lload_n, st_lload, st_aload_n, st_aload, st_istore_n, st_istore, st_lstore_n, st_lstore, st_astore_n, st_astore, st_iinc, st_iadd, st_isub, st_imul, st_idiv, st_irem, st_iand, st_ior, st_ixor, st_ishl, st_ishr, st_iushr, st_ladd, st_lmul, st_ldiv, st_lrem, st_land, st_lor, st_lxor, st_lshl, st_lshr, st_lcmp, st_i2l, st_l2i, st_i2c, st_dup, st_pop, st_dup2, st_iaload0, st_iaload1, st_caload, st_baload, st_laload, st_aaload, st_iastore, st_castore, st_bastore, st_lastore, st_aastore, st_arraylength0, st_arraylength1, st_getfield, st_putfield0, st_putfield1, st_putfield2, st_putfield3, st_getstatic, st_new, st_newarray, st_anewarray, st_goto, st_ifCond, st_if_icmp, st_tableswitch, st_lookupswitch, st_ireturn, st_lreturn, st_return, st_invokevirtual, st_invokestatic0, st_invokestatic1, st_invokespecial0, st_invokespecial1, cZ_eq, cZ_ne, cZ_lt, cZ_ge, cZ_gt, cZ_le, vcb_n, vcb_c, sw_n, sw_c, ↓pI_d, ↓pL_d, ↓pR_d, ↓pA_d, isI_d, isL_d, isL_di, isL_dr, isL_dj, isA_d, inc_c, stO, fV, List.getD_cons_zero, List.getD_cons_succ, List.set_cons_zero, List.set_cons_succ, List.take_succ_cons, List.take_zero, List.drop_succ_cons, List.drop_zero, List.reverse_cons, List.reverse_nil, List.nil_append, List.cons_append, List.append_nil, Option.toList_some, Option.toList_none, List.length_cons, List.length_nil, Nat.reduceAdd, Nat.reduceSub, Nat.reduceLeDiff, Nat.reduceEqDiff, Nat.add_eq, not_false_eq_true, not_true_eq_false, true_and, and_true, false_or, or_true, true_or, or_false, and_self, one_ne_zero_nat, w32_id, w32_n, Int.toNat_natCast, Int.reduceToNat, Nat.zero_add, Nat.zero_le, Nat.le_refl, Int.reduceEq, Int.reduceLT, Int.reduceLE, Int.reduceAdd, Int.reduceSub, Int.reduceMul, t_imp, f_imp, shl1I]
    exact main (2 ^ n) (by rw [if_pos (by omega)])
  · exact main 1 (by rw [if_neg (by omega)])
end WEIGH2
