/-! ===== the class's plan: harmOf, leastOfSmaller, weigh ===== -/
def PZ (ad : Nat → Nat) (M M' : aM) : Prop := ∀ c, c ≠ ad 51 → (∀ i, 53 ≤ i → i ≤ 73 → c ≠ ad i) → M' c = M c
theorem PZ_r (ad : Nat → Nat) (M : aM) : PZ ad M M := fun _ _ _ => rfl
theorem PZ_t {ad : Nat → Nat} {M M' M2 : aM} (h1 : PZ ad M M') (h2 : PZ ad M' M2) : PZ ad M M2 := fun c a b => (h2 c a b).trans (h1 c a b)
theorem PZ_w {ad : Nat → Nat} {M M' : aM} {i k : Nat} {v : Int} (hi : i = 51 ∨ (53 ≤ i ∧ i ≤ 73)) (h : PZ ad M M') : PZ ad M (wr M' (ad i) k v) := fun c a b => by
  rw [wr_c _ _ _ (by rcases hi with rfl | hi; exact a; exact b i hi.1 hi.2)]
  exact h c a b
theorem PZ_o {ad : Nat → Nat} {M M' : aM} {i : Nat} (hi : 53 ≤ i ∧ i ≤ 73) (h : ∀ c, c ≠ ad i → M' c = M c) : PZ ad M M' := fun c _ b => h c (b i hi.1 hi.2)
def pN (M : aM) (ad : Nat → Nat) (σ : SG) : Prop := cTo (vw M ad) (gTd σ) ∧ cvN (vw M ad) 19 (tdN (gTd σ)) (gNd σ) ∧ M (ad 52) 2 = (ndL (gNd σ) : Int) ∧ M (ad 52) 3 = (ndE (gNd σ) : Int)
theorem PZ_i {G : aG} {ad : Nat → Nat} {M M' : aM} {i : Nat} (hB : CB G ad) (h : PZ ad M M') (h1 : i < 83) (h2 : i < 51 ∨ i = 52 ∨ 73 < i) : M' (ad i) = M (ad i) := h _ (cb_ne hB h1 (by decide) (by omega)) (fun j a b => cb_ne hB h1 (by omega) (by omega))
theorem pN_z {G : aG} {ad : Nat → Nat} {M M' : aM} {σ : SG} (hB : CB G ad) (h : PZ ad M M') (hp : pN M ad σ) : pN M' ad σ := by
  refine ⟨cTo_k (V := vw M ad) (V' := vw M' ad) (fun i a b => PZ_i (i := i) hB h (by omega) (by omega)) hp.1, cvN_k (V := vw M ad) (V' := vw M' ad) (PZ_i (i := 19) hB h (by decide) (by decide)) (PZ_i (i := 20) hB h (by decide) (by decide)) hp.2.1, ?_, ?_⟩
  · rw [PZ_i hB h (by decide) (by decide)]
    exact hp.2.2.1
  · rw [PZ_i hB h (by decide) (by decide)]
    exact hp.2.2.2
theorem rows_t : ∀ p, p < 6 → (55, p, 56 + p) ∈ ctR ∧ (62, p, 63 + p) ∈ ctR ∧ ctT.getD (56 + p) (.inl 0) = .inr (0, 32) ∧ ctT.getD (63 + p) (.inl 0) = .inr (0, 32) := by decide
def plWi (lw : Nat → Nat) (w : Nat) : Nat → Nat
  | 0 => 2147483647
  | m + 1 => if bt w m = 1 then (if lw (w - 2 ^ m) < plWi lw w m then lw (w - 2 ^ m) else plWi lw w m) else plWi lw w m
theorem plWi_m {lw : Nat → Nat} {w : Nat} : ∀ m, plWi lw w m ≤ 2147483647 := by
  intro m
  induction m with
  | zero => exact Nat.le_refl _
  | succ m ih =>
    show (if bt w m = 1 then (if lw (w - 2 ^ m) < plWi lw w m then lw (w - 2 ^ m) else plWi lw w m) else plWi lw w m) ≤ _
    split
    · split <;> omega
    · exact ih
theorem plWi_p {lw : Nat → Nat} {w : Nat} : ∀ m, (∀ j, j < m → bt w j = 1 → plWi lw w m ≤ lw (w - 2 ^ j)) ∧ (plWi lw w m = 2147483647 ∨ ∃ j, j < m ∧ bt w j = 1 ∧ plWi lw w m = lw (w - 2 ^ j)) := by
  intro m
  induction m with
  | zero => exact ⟨fun j hj => absurd hj (Nat.not_lt_zero _), .inl rfl⟩
  | succ m ih =>
    have e : plWi lw w (m + 1) = if bt w m = 1 then (if lw (w - 2 ^ m) < plWi lw w m then lw (w - 2 ^ m) else plWi lw w m) else plWi lw w m := rfl
    rw [e]
    by_cases hb : bt w m = 1
    · rw [if_pos hb]
      by_cases hl : lw (w - 2 ^ m) < plWi lw w m
      · rw [if_pos hl]
        refine ⟨fun j hj hbj => ?_, .inr ⟨m, by omega, hb, rfl⟩⟩
        by_cases ej : j = m
        · subst ej
          exact Nat.le_refl _
        · have := ih.1 j (by omega) hbj
          omega
      · rw [if_neg hl]
        refine ⟨fun j hj hbj => ?_, ?_⟩
        · by_cases ej : j = m
          · subst ej
            omega
          · exact ih.1 j (by omega) hbj
        · rcases ih.2 with h | ⟨j, h1, h2, h3⟩
          · exact .inl h
          · exact .inr ⟨j, by omega, h2, h3⟩
    · rw [if_neg hb]
      refine ⟨fun j hj hbj => ?_, ?_⟩
      · by_cases ej : j = m
        · subst ej
          exact absurd hbj hb
        · exact ih.1 j (by omega) hbj
      · rcases ih.2 with h | ⟨j, h1, h2, h3⟩
        · exact .inl h
        · exact .inr ⟨j, by omega, h2, h3⟩
/-- the least of all ways within v -/
def lwP (c lw : Nat → Nat) (v : Nat) : Prop := (∀ x, x < 32 → x &&& v = x → lw v ≤ c x) ∧ ∃ x, x < 32 ∧ x &&& v = x ∧ lw v = c x
theorem plWi_s {c lw : Nat → Nat} {w : Nat} (hw : w < 32) (h : ∀ v, v < w → lwP c lw v) : (∀ x, x < 32 → x &&& w = x → x ≠ w → plWi lw w 5 ≤ c x) ∧ (plWi lw w 5 = 2147483647 ∨ ∃ x, x < 32 ∧ x &&& w = x ∧ x < w ∧ plWi lw w 5 = c x) := by
  have hp := plWi_p (lw := lw) (w := w) 5
  refine ⟨fun x hx hs hn => ?_, ?_⟩
  · obtain ⟨m, hm, hb, hs2⟩ := fin_sbA hw hx hs hn
    have f := fin_sbB (v := x) hw hx hm hb
    exact Nat.le_trans (hp.1 m hm hb) ((h _ f.1).1 x hx hs2)
  · rcases hp.2 with h1 | ⟨m, hm, hb, he⟩
    · exact .inl h1
    · have f0 := fin_sbB (v := 0) hw (by decide) hm hb
      obtain ⟨x, hx, hs, hc⟩ := (h _ f0.1).2
      have f := fin_sbB (v := x) hw hx hm hb
      have f2 := f.2.2 hs
      exact .inr ⟨x, hx, f2.1, f2.2, he.trans hc⟩
section WEIGH
variable {Γ : aR} {ρ κ bd : Nat} {G : aG} {M : aM} {Q : aQ} {ad : Nat → Nat} {σ : SG}
theorem s_p_harmOf {p w n : Nat} (hρ : 4 ≤ ρ) (hB : CB G ad) (hS : SOK σ) (hN : pN M ad σ) (hp : p < tdN (gTd σ)) (hw : w < 32) (hn : n ≤ 5) (hQ : ∀ M' : aM, (∀ c, c ≠ ad 53 → M' c = M c) → Q (some (vI (plC σ n p w : Nat))) G M') : WPm Γ ρ 0 33 [vR (some (ad 51)), vR (some (ad 3)), vR (some (ad 19)), vI p, vI w, vI n] G M Q := by
  obtain ⟨n0, n1, n2, n3, n4, n5⟩ := cvNo hN.2.1
  have h6 : tdN (gTd σ) ≤ 6 := hS.1.1
  have hR := (vw_RT hB).mp hN.1
  have hlo := lt64 h6 hS.2.1.2.2.1
  have hmet : ndE (gNd σ) < 1024 := hS.2.1.2.2.2.1
  have hmo : ndM (gNd σ) ≤ 12 := hS.2.1.1
  have f52 : rfA G (ad 52) 5 = ad 53 := cF52_5 hB
  have f31 : rfA G (ad 3) 1 = ad 4 := cF3_1 hB
  have c4 : ad 53 ≠ ad 4 := cb_ne hB (by decide) (by decide) (by decide)
  have c52 : ad 52 ≠ ad 53 := cb_ne hB (by decide) (by decide) (by decide)
  have c19 : ad 19 ≠ ad 53 := cb_ne hB (by decide) (by decide) (by decide)
  have j20 : inA G (ad 20) 0 (p : Int) := in_of (cA20 hB) (by omega) (by omega) (by decide)
  have j53 : inA G (ad 53) 0 (p : Int) := in_of (cA53 hB) (by omega) (by omega) (by decide)
  have t5 := n5 p hp
  unfold plC at hQ
  have bs := fun k => plS_b (lo := ndL (gNd σ)) (met := ndE (gNd σ)) (mo := ndM (gNd σ)) (w := w) hS.1 hp (hS.2.1.2.2.2.2.2.2 p hp) k
  have RTk : ∀ x : Int, RT G (wr M (ad 53) p x) (ad 3) (gTd σ) := fun x => (vw_RT hB).mp (cTo_k (fun i a b => vw_c hB _ _ _ (by decide) (by omega) (by omega)) hN.1)
  have loop : ∀ (r k : Nat), k + r = n → WP Γ ρ 0 33 21 [vR (some (ad 51)), vR (some (ad 3)), vR (some (ad 19)), vI p, vI w, vI n, vI ((plS (gTd σ) (ndL (gNd σ)) (ndE (gNd σ)) p (ndM (gNd σ)) (ndT (gNd σ) p) w k).2 : Nat), vI k] [] G (wr M (ad 53) p ((plS (gTd σ) (ndL (gNd σ)) (ndE (gNd σ)) p (ndM (gNd σ)) (ndT (gNd σ) p) w k).1 : Nat)) Q := by
    intro r
    induction r with
    | zero =>
      intro k hk
      obtain rfl : k = n := by omega
      have fin := hQ (wr M (ad 53) p ((plS (gTd σ) (ndL (gNd σ)) (ndE (gNd σ)) p (ndM (gNd σ)) (ndT (gNd σ) p) w k).1 : Nat)) (fun c hc => wr_c _ _ _ hc)
      clear hQ bs
      generalize plS (gTd σ) (ndL (gNd σ)) (ndE (gNd σ)) p (ndM (gNd σ)) (ndT (gNd σ) p) w k = s at *
      refine blk bk_p_harmOf_21 ?_
      simp (disch := omega) only [st_iconst, st_bipush, st_sipush, st_ldc, st_ldc_w, st_lconst, st_ldc2_w, st_iload_n, st_iload, st_lload_n, st_lload, st_aload_n, st_aload, st_istore_n, st_istore, st_lstore_n, st_lstore, st_astore_n, st_astore, st_iinc, st_iadd, st_isub, st_imul, st_idiv, st_irem, st_iand, st_ior, st_ixor, st_ishl, st_ishr, st_iushr, st_ladd, st_lmul, st_ldiv, st_lrem, st_land, st_lor, st_lxor, st_lshl, st_lshr, st_lcmp, st_i2l, st_l2i, st_i2c, st_dup, st_pop, st_dup2, st_iaload0, st_iaload1, st_caload, st_baload, st_laload, st_aaload, st_iastore, st_castore, st_bastore, st_lastore, st_aastore, st_arraylength0, st_arraylength1, st_getfield, st_putfield0, st_putfield1, st_putfield2, st_putfield3, st_getstatic, st_new, st_newarray, st_anewarray, st_goto, st_ifCond, st_if_icmp, st_tableswitch, st_lookupswitch, st_ireturn, st_lreturn, st_return, st_invokevirtual, st_invokestatic0, st_invokestatic1, st_invokespecial0, st_invokespecial1, cZ_eq, cZ_ne, cZ_lt, cZ_ge, cZ_gt, cZ_le, vcb_n, vcb_c, sw_n, sw_c, ↓pI_d, ↓pL_d, ↓pR_d, ↓pA_d, isI_d, isL_d, isL_di, isL_dr, isL_dj, isA_d, inc_c, stO, fV, List.getD_cons_zero, List.getD_cons_succ, List.set_cons_zero, List.set_cons_succ, List.take_succ_cons, List.take_zero, List.drop_succ_cons, List.drop_zero, List.reverse_cons, List.reverse_nil, List.nil_append, List.cons_append, List.append_nil, Option.toList_some, Option.toList_none, List.length_cons, List.length_nil, Nat.reduceAdd, Nat.reduceSub, Nat.reduceLeDiff, Nat.reduceEqDiff, Nat.add_eq, not_false_eq_true, not_true_eq_false, true_and, and_true, false_or, or_true, true_or, or_false, and_self, one_ne_zero_nat, w32_id, w32_n, Int.toNat_natCast, Int.reduceToNat, Nat.zero_add, Nat.zero_le, Nat.le_refl, Int.reduceEq, Int.reduceLT, Int.reduceLE, Int.reduceAdd, Int.reduceSub, Int.reduceMul, t_imp, f_imp]
      refine ⟨fun _ => ?_, fun q => absurd (Int.le_refl _) q⟩
      refine blk bk_p_harmOf_71 ?_
      simp (disch := omega) only [st_iconst, st_bipush, st_sipush, st_ldc, st_ldc_w, st_lconst, st_ldc2_w, st_iload_n, st_iload, st_lload_n, st_lload, st_aload_n, st_aload, st_istore_n, st_istore, st_lstore_n, st_lstore, st_astore_n, st_astore, st_iinc, st_iadd, st_isub, st_imul, st_idiv, st_irem, st_iand, st_ior, st_ixor, st_ishl, st_ishr, st_iushr, st_ladd, st_lmul, st_ldiv, st_lrem, st_land, st_lor, st_lxor, st_lshl, st_lshr, st_lcmp, st_i2l, st_l2i, st_i2c, st_dup, st_pop, st_dup2, st_iaload0, st_iaload1, st_caload, st_baload, st_laload, st_aaload, st_iastore, st_castore, st_bastore, st_lastore, st_aastore, st_arraylength0, st_arraylength1, st_getfield, st_putfield0, st_putfield1, st_putfield2, st_putfield3, st_getstatic, st_new, st_newarray, st_anewarray, st_goto, st_ifCond, st_if_icmp, st_tableswitch, st_lookupswitch, st_ireturn, st_lreturn, st_return, st_invokevirtual, st_invokestatic0, st_invokestatic1, st_invokespecial0, st_invokespecial1, cZ_eq, cZ_ne, cZ_lt, cZ_ge, cZ_gt, cZ_le, vcb_n, vcb_c, sw_n, sw_c, ↓pI_d, ↓pL_d, ↓pR_d, ↓pA_d, isI_d, isL_d, isL_di, isL_dr, isL_dj, isA_d, inc_c, stO, fV, List.getD_cons_zero, List.getD_cons_succ, List.set_cons_zero, List.set_cons_succ, List.take_succ_cons, List.take_zero, List.drop_succ_cons, List.drop_zero, List.reverse_cons, List.reverse_nil, List.nil_append, List.cons_append, List.append_nil, Option.toList_some, Option.toList_none, List.length_cons, List.length_nil, Nat.reduceAdd, Nat.reduceSub, Nat.reduceLeDiff, Nat.reduceEqDiff, Nat.add_eq, not_false_eq_true, not_true_eq_false, true_and, and_true, false_or, or_true, true_or, or_false, and_self, one_ne_zero_nat, w32_id, w32_n, Int.toNat_natCast, Int.reduceToNat, Nat.zero_add, Nat.zero_le, Nat.le_refl, Int.reduceEq, Int.reduceLT, Int.reduceLE, Int.reduceAdd, Int.reduceSub, Int.reduceMul, t_imp, f_imp]
      exact fin
    | succ r ih =>
      intro k hk
      have hnx := ih (k + 1) (by omega)
      have e : plS (gTd σ) (ndL (gNd σ)) (ndE (gNd σ)) p (ndM (gNd σ)) (ndT (gNd σ) p) w (k + 1) = ((if bt w k = 0 then (plL (gTd σ) (ndL (gNd σ)) (ndE (gNd σ)) p (ndM (gNd σ)) w k (plS (gTd σ) (ndL (gNd σ)) (ndE (gNd σ)) p (ndM (gNd σ)) (ndT (gNd σ) p) w k).1).1 else (plL (gTd σ) (ndL (gNd σ)) (ndE (gNd σ)) p (ndM (gNd σ)) w k (plS (gTd σ) (ndL (gNd σ)) (ndE (gNd σ)) p (ndM (gNd σ)) (ndT (gNd σ) p) w k).1).1 - tdRe (gTd σ)), (plS (gTd σ) (ndL (gNd σ)) (ndE (gNd σ)) p (ndM (gNd σ)) (ndT (gNd σ) p) w k).2 + (plL (gTd σ) (ndL (gNd σ)) (ndE (gNd σ)) p (ndM (gNd σ)) w k (plS (gTd σ) (ndL (gNd σ)) (ndE (gNd σ)) p (ndM (gNd σ)) (ndT (gNd σ) p) w k).1).2) := rfl
      rw [e] at hnx
      have b1 := (bs k).1
      clear e ih hQ bs
      generalize plS (gTd σ) (ndL (gNd σ)) (ndE (gNd σ)) p (ndM (gNd σ)) (ndT (gNd σ) p) w k = s at *
      obtain ⟨x, h⟩ := s
      dsimp only at hnx b1 ⊢
      have e1 : (ndM (gNd σ) : Int) + (k : Int) = ((ndM (gNd σ) + k : Nat) : Int) := by omega
      have b01 := bt_01 w k
      have call : ∀ gr : Nat, gr = bt w k → WP Γ ρ 0 33 59 [vR (some (ad 51)), vR (some (ad 3)), vR (some (ad 19)), vI p, vI w, vI n, vI h, vI k] [vI gr, vI ((ndM (gNd σ) + k : Nat) : Int), vI p, vR (some (ad 3)), vR (some (ad 52)), vI h] G (wr M (ad 53) p (x : Int)) Q := by
        intro gr hg
        refine blk bk_p_harmOf_59 ?_
        simp (disch := omega) only [st_iconst, st_bipush, st_sipush, st_ldc, st_ldc_w, st_lconst, st_ldc2_w, st_iload_n, st_iload, st_lload_n, st_lload, st_aload_n, st_aload, st_istore_n, st_istore, st_lstore_n, st_lstore, st_astore_n, st_astore, st_iinc, st_iadd, st_isub, st_imul, st_idiv, st_irem, st_iand, st_ior, st_ixor, st_ishl, st_ishr, st_iushr, st_ladd, st_lmul, st_ldiv, st_lrem, st_land, st_lor, st_lxor, st_lshl, st_lshr, st_lcmp, st_i2l, st_l2i, st_i2c, st_dup, st_pop, st_dup2, st_iaload0, st_iaload1, st_caload, st_baload, st_laload, st_aaload, st_iastore, st_castore, st_bastore, st_lastore, st_aastore, st_arraylength0, st_arraylength1, st_getfield, st_putfield0, st_putfield1, st_putfield2, st_putfield3, st_getstatic, st_new, st_newarray, st_anewarray, st_goto, st_ifCond, st_if_icmp, st_tableswitch, st_lookupswitch, st_ireturn, st_lreturn, st_return, st_invokevirtual, st_invokestatic0, st_invokestatic1, st_invokespecial0, st_invokespecial1, cZ_eq, cZ_ne, cZ_lt, cZ_ge, cZ_gt, cZ_le, vcb_n, vcb_c, sw_n, sw_c, ↓pI_d, ↓pL_d, ↓pR_d, ↓pA_d, isI_d, isL_d, isL_di, isL_dr, isL_dj, isA_d, inc_c, stO, fV, List.getD_cons_zero, List.getD_cons_succ, List.set_cons_zero, List.set_cons_succ, List.take_succ_cons, List.take_zero, List.drop_succ_cons, List.drop_zero, List.reverse_cons, List.reverse_nil, List.nil_append, List.cons_append, List.append_nil, Option.toList_some, Option.toList_none, List.length_cons, List.length_nil, Nat.reduceAdd, Nat.reduceSub, Nat.reduceLeDiff, Nat.reduceEqDiff, Nat.add_eq, not_false_eq_true, not_true_eq_false, true_and, and_true, false_or, or_true, true_or, or_false, and_self, one_ne_zero_nat, w32_id, w32_n, Int.toNat_natCast, Int.reduceToNat, Nat.zero_add, Nat.zero_le, Nat.le_refl, Int.reduceEq, Int.reduceLT, Int.reduceLE, Int.reduceAdd, Int.reduceSub, Int.reduceMul, t_imp, f_imp, cO52 hB]
        refine ⟨by omega, s_n_live (met := ndE (gNd σ)) (lo := ndL (gNd σ)) (x := x) (td := gTd σ) (by omega) (cb_N52 hB) (cb_T3 hB) hS.1 (RTk x) hp (by rw [f52, f31]; exact c4) (by omega) (by rw [wr_c _ _ _ c52]; exact hN.2.2.2) (by omega) (by rw [wr_c _ _ _ c52]; exact hN.2.2.1) (by omega) (by omega) (by rw [f52]; exact wr_s _ _ _ _) b1 (fun aw haw hiff q hq => ?_)⟩
        have hq2 : q = plL (gTd σ) (ndL (gNd σ)) (ndE (gNd σ)) p (ndM (gNd σ)) w k x := by
          rw [hq]
          unfold plL
          have : aw = if bt w k = 0 ∧ bt (ndL (gNd σ)) p = 0 then 0 else 1 := by
            rw [hg] at hiff
            by_cases hc : bt w k = 0 ∧ bt (ndL (gNd σ)) p = 0
            · rw [if_pos hc]
              exact hiff.mpr hc
            · rw [if_neg hc]
              have : ¬ aw = 0 := fun z => hc (hiff.mp z)
              omega
          rw [this]
        rw [← hq2, ← hg] at hnx
        rw [f52, wr_wr]
        rw [Int.natCast_add] at hnx
        clear hq hq2
        generalize (if gr = 0 then q.1 else q.1 - tdRe (gTd σ)) = y at *
        refine blk bk_p_harmOf_62 ?_
        simp (disch := omega) only [st_iconst, st_bipush, st_sipush, st_ldc, st_ldc_w, st_lconst, st_ldc2_w, st_iload_n, st_iload, st_lload_n, st_lload, st_aload_n, st_aload, st_istore_n, st_istore, st_lstore_n, st_lstore, st_astore_n, st_astore, st_iinc, st_iadd, st_isub, st_imul, st_idiv, st_irem, st_iand, st_ior, st_ixor, st_ishl, st_ishr, st_iushr, st_ladd, st_lmul, st_ldiv, st_lrem, st_land, st_lor, st_lxor, st_lshl, st_lshr, st_lcmp, st_i2l, st_l2i, st_i2c, st_dup, st_pop, st_dup2, st_iaload0, st_iaload1, st_caload, st_baload, st_laload, st_aaload, st_iastore, st_castore, st_bastore, st_lastore, st_aastore, st_arraylength0, st_arraylength1, st_getfield, st_putfield0, st_putfield1, st_putfield2, st_putfield3, st_getstatic, st_new, st_newarray, st_anewarray, st_goto, st_ifCond, st_if_icmp, st_tableswitch, st_lookupswitch, st_ireturn, st_lreturn, st_return, st_invokevirtual, st_invokestatic0, st_invokestatic1, st_invokespecial0, st_invokespecial1, cZ_eq, cZ_ne, cZ_lt, cZ_ge, cZ_gt, cZ_le, vcb_n, vcb_c, sw_n, sw_c, ↓pI_d, ↓pL_d, ↓pR_d, ↓pA_d, isI_d, isL_d, isL_di, isL_dr, isL_dj, isA_d, inc_c, stO, fV, List.getD_cons_zero, List.getD_cons_succ, List.set_cons_zero, List.set_cons_succ, List.take_succ_cons, List.take_zero, List.drop_succ_cons, List.drop_zero, List.reverse_cons, List.reverse_nil, List.nil_append, List.cons_append, List.append_nil, Option.toList_some, Option.toList_none, List.length_cons, List.length_nil, Nat.reduceAdd, Nat.reduceSub, Nat.reduceLeDiff, Nat.reduceEqDiff, Nat.add_eq, not_false_eq_true, not_true_eq_false, true_and, and_true, false_or, or_true, true_or, or_false, and_self, one_ne_zero_nat, w32_id, w32_n, Int.toNat_natCast, Int.reduceToNat, Nat.zero_add, Nat.zero_le, Nat.le_refl, Int.reduceEq, Int.reduceLT, Int.reduceLE, Int.reduceAdd, Int.reduceSub, Int.reduceMul, t_imp, f_imp]
        exact hnx
      have mm : wr M (ad 53) p (x : Int) (ad 19) 0 = (ndM (gNd σ) : Int) := by rw [wr_c _ _ _ c19]; exact n0
      refine blk bk_p_harmOf_21 ?_
      simp (disch := omega) only [st_iconst, st_bipush, st_sipush, st_ldc, st_ldc_w, st_lconst, st_ldc2_w, st_iload_n, st_iload, st_lload_n, st_lload, st_aload_n, st_aload, st_istore_n, st_istore, st_lstore_n, st_lstore, st_astore_n, st_astore, st_iinc, st_iadd, st_isub, st_imul, st_idiv, st_irem, st_iand, st_ior, st_ixor, st_ishl, st_ishr, st_iushr, st_ladd, st_lmul, st_ldiv, st_lrem, st_land, st_lor, st_lxor, st_lshl, st_lshr, st_lcmp, st_i2l, st_l2i, st_i2c, st_dup, st_pop, st_dup2, st_iaload0, st_iaload1, st_caload, st_baload, st_laload, st_aaload, st_iastore, st_castore, st_bastore, st_lastore, st_aastore, st_arraylength0, st_arraylength1, st_getfield, st_putfield0, st_putfield1, st_putfield2, st_putfield3, st_getstatic, st_new, st_newarray, st_anewarray, st_goto, st_ifCond, st_if_icmp, st_tableswitch, st_lookupswitch, st_ireturn, st_lreturn, st_return, st_invokevirtual, st_invokestatic0, st_invokestatic1, st_invokespecial0, st_invokespecial1, cZ_eq, cZ_ne, cZ_lt, cZ_ge, cZ_gt, cZ_le, vcb_n, vcb_c, sw_n, sw_c, ↓pI_d, ↓pL_d, ↓pR_d, ↓pA_d, isI_d, isL_d, isL_di, isL_dr, isL_dj, isA_d, inc_c, stO, fV, List.getD_cons_zero, List.getD_cons_succ, List.set_cons_zero, List.set_cons_succ, List.take_succ_cons, List.take_zero, List.drop_succ_cons, List.drop_zero, List.reverse_cons, List.reverse_nil, List.nil_append, List.cons_append, List.append_nil, Option.toList_some, Option.toList_none, List.length_cons, List.length_nil, Nat.reduceAdd, Nat.reduceSub, Nat.reduceLeDiff, Nat.reduceEqDiff, Nat.add_eq, not_false_eq_true, not_true_eq_false, true_and, and_true, false_or, or_true, true_or, or_false, and_self, one_ne_zero_nat, w32_id, w32_n, Int.toNat_natCast, Int.reduceToNat, Nat.zero_add, Nat.zero_le, Nat.le_refl, Int.reduceEq, Int.reduceLT, Int.reduceLE, Int.reduceAdd, Int.reduceSub, Int.reduceMul, t_imp, f_imp, cO51 hB, cR51_0 hB, cO52 hB, cO19 hB, mm, e1, btI]
      refine ⟨fun q => absurd q (by omega), fun _ => ⟨fun q => ?_, fun q => ?_⟩⟩
      · refine blk bk_p_harmOf_58 ?_
        simp (disch := omega) only [st_iconst, st_bipush, st_sipush, st_ldc, st_ldc_w, st_lconst, st_ldc2_w, st_iload_n, st_iload, st_lload_n, st_lload, st_aload_n, st_aload, st_istore_n, st_istore, st_lstore_n, st_lstore, st_astore_n, st_astore, st_iinc, st_iadd, st_isub, st_imul, st_idiv, st_irem, st_iand, st_ior, st_ixor, st_ishl, st_ishr, st_iushr, st_ladd, st_lmul, st_ldiv, st_lrem, st_land, st_lor, st_lxor, st_lshl, st_lshr, st_lcmp, st_i2l, st_l2i, st_i2c, st_dup, st_pop, st_dup2, st_iaload0, st_iaload1, st_caload, st_baload, st_laload, st_aaload, st_iastore, st_castore, st_bastore, st_lastore, st_aastore, st_arraylength0, st_arraylength1, st_getfield, st_putfield0, st_putfield1, st_putfield2, st_putfield3, st_getstatic, st_new, st_newarray, st_anewarray, st_goto, st_ifCond, st_if_icmp, st_tableswitch, st_lookupswitch, st_ireturn, st_lreturn, st_return, st_invokevirtual, st_invokestatic0, st_invokestatic1, st_invokespecial0, st_invokespecial1, cZ_eq, cZ_ne, cZ_lt, cZ_ge, cZ_gt, cZ_le, vcb_n, vcb_c, sw_n, sw_c, ↓pI_d, ↓pL_d, ↓pR_d, ↓pA_d, isI_d, isL_d, isL_di, isL_dr, isL_dj, isA_d, inc_c, stO, fV, List.getD_cons_zero, List.getD_cons_succ, List.set_cons_zero, List.set_cons_succ, List.take_succ_cons, List.take_zero, List.drop_succ_cons, List.drop_zero, List.reverse_cons, List.reverse_nil, List.nil_append, List.cons_append, List.append_nil, Option.toList_some, Option.toList_none, List.length_cons, List.length_nil, Nat.reduceAdd, Nat.reduceSub, Nat.reduceLeDiff, Nat.reduceEqDiff, Nat.add_eq, not_false_eq_true, not_true_eq_false, true_and, and_true, false_or, or_true, true_or, or_false, and_self, one_ne_zero_nat, w32_id, w32_n, Int.toNat_natCast, Int.reduceToNat, Nat.zero_add, Nat.zero_le, Nat.le_refl, Int.reduceEq, Int.reduceLT, Int.reduceLE, Int.reduceAdd, Int.reduceSub, Int.reduceMul, t_imp, f_imp]
        exact call 0 (by omega)
      · exact call 1 (by omega)
  have go := loop n 0 (by omega)
  have e0 : plS (gTd σ) (ndL (gNd σ)) (ndE (gNd σ)) p (ndM (gNd σ)) (ndT (gNd σ) p) w 0 = (ndT (gNd σ) p, 0) := rfl
  rw [e0] at go
  clear loop hQ bs
  refine WPm_of (L := [vR (some (ad 51)), vR (some (ad 3)), vR (some (ad 19)), vI p, vI w, vI n, vJ, vJ]) 2 (by decide) (Nat.le_of_ble_eq_true rfl) rfl ?_
  refine blk bk_p_harmOf_0 ?_
  simp (disch := omega) only [st_iconst, st_bipush, st_sipush, st_ldc, st_ldc_w, st_lconst, st_ldc2_w, st_iload_n, st_iload, st_lload_n, st_lload, st_aload_n, st_aload, st_istore_n, st_istore, st_lstore_n, st_lstore, st_astore_n, st_astore, st_iinc, st_iadd, st_isub, st_imul, st_idiv, st_irem, st_iand, st_ior, st_ixor, st_ishl, st_ishr, st_iushr, st_ladd, st_lmul, st_ldiv, st_lrem, st_land, st_lor, st_lxor, st_lshl, st_lshr, st_lcmp, st_i2l, st_l2i, st_i2c, st_dup, st_pop, st_dup2, st_iaload0, st_iaload1, st_caload, st_baload, st_laload, st_aaload, st_iastore, st_castore, st_bastore, st_lastore, st_aastore, st_arraylength0, st_arraylength1, st_getfield, st_putfield0, st_putfield1, st_putfield2, st_putfield3, st_getstatic, st_new, st_newarray, st_anewarray, st_goto, st_ifCond, st_if_icmp, st_tableswitch, st_lookupswitch, st_ireturn, st_lreturn, st_return, st_invokevirtual, st_invokestatic0, st_invokestatic1, st_invokespecial0, st_invokespecial1, cZ_eq, cZ_ne, cZ_lt, cZ_ge, cZ_gt, cZ_le, vcb_n, vcb_c, sw_n, sw_c, ↓pI_d, ↓pL_d, ↓pR_d, ↓pA_d, isI_d, isL_d, isL_di, isL_dr, isL_dj, isA_d, inc_c, stO, fV, List.getD_cons_zero, List.getD_cons_succ, List.set_cons_zero, List.set_cons_succ, List.take_succ_cons, List.take_zero, List.drop_succ_cons, List.drop_zero, List.reverse_cons, List.reverse_nil, List.nil_append, List.cons_append, List.append_nil, Option.toList_some, Option.toList_none, List.length_cons, List.length_nil, Nat.reduceAdd, Nat.reduceSub, Nat.reduceLeDiff, Nat.reduceEqDiff, Nat.add_eq, not_false_eq_true, not_true_eq_false, true_and, and_true, false_or, or_true, true_or, or_false, and_self, one_ne_zero_nat, w32_id, w32_n, Int.toNat_natCast, Int.reduceToNat, Nat.zero_add, Nat.zero_le, Nat.le_refl, Int.reduceEq, Int.reduceLT, Int.reduceLE, Int.reduceAdd, Int.reduceSub, Int.reduceMul, t_imp, f_imp, cO51 hB, cR51_0 hB, cO52 hB, cR52_5 hB, cO19 hB, cR19_5 hB, j20, j53, t5]
  exact go
theorem s_p_leastOfSmaller {w : Nat} {lw : Nat → Nat} (hρ : 1 ≤ ρ) (hB : CB G ad) (hw : w < 32) (h : ∀ v, v < w → M (ad 54) v = (lw v : Int) ∧ lw v ≤ 2147483647) (hQ : Q (some (vI (plWi lw w 5 : Nat))) G M) : WPm Γ ρ 0 32 [vR (some (ad 51)), vI w] G M Q := by
  have loop : ∀ (r m : Nat), m + r = 5 → WP Γ ρ 0 32 5 [vR (some (ad 51)), vI w, vI (plWi lw w m : Nat), vI m] [] G M Q := by
    intro r
    induction r with
    | zero =>
      intro m hm
      obtain rfl : m = 5 := by omega
      generalize plWi lw w 5 = x at *
      refine blk bk_p_leastOfSmaller_5 ?_
      simp (disch := omega) only [st_iconst, st_bipush, st_sipush, st_ldc, st_ldc_w, st_lconst, st_ldc2_w, st_iload_n, st_iload, st_lload_n, st_lload, st_aload_n, st_aload, st_istore_n, st_istore, st_lstore_n, st_lstore, st_astore_n, st_astore, st_iinc, st_iadd, st_isub, st_imul, st_idiv, st_irem, st_iand, st_ior, st_ixor, st_ishl, st_ishr, st_iushr, st_ladd, st_lmul, st_ldiv, st_lrem, st_land, st_lor, st_lxor, st_lshl, st_lshr, st_lcmp, st_i2l, st_l2i, st_i2c, st_dup, st_pop, st_dup2, st_iaload0, st_iaload1, st_caload, st_baload, st_laload, st_aaload, st_iastore, st_castore, st_bastore, st_lastore, st_aastore, st_arraylength0, st_arraylength1, st_getfield, st_putfield0, st_putfield1, st_putfield2, st_putfield3, st_getstatic, st_new, st_newarray, st_anewarray, st_goto, st_ifCond, st_if_icmp, st_tableswitch, st_lookupswitch, st_ireturn, st_lreturn, st_return, st_invokevirtual, st_invokestatic0, st_invokestatic1, st_invokespecial0, st_invokespecial1, cZ_eq, cZ_ne, cZ_lt, cZ_ge, cZ_gt, cZ_le, vcb_n, vcb_c, sw_n, sw_c, ↓pI_d, ↓pL_d, ↓pR_d, ↓pA_d, isI_d, isL_d, isL_di, isL_dr, isL_dj, isA_d, inc_c, stO, fV, List.getD_cons_zero, List.getD_cons_succ, List.set_cons_zero, List.set_cons_succ, List.take_succ_cons, List.take_zero, List.drop_succ_cons, List.drop_zero, List.reverse_cons, List.reverse_nil, List.nil_append, List.cons_append, List.append_nil, Option.toList_some, Option.toList_none, List.length_cons, List.length_nil, Nat.reduceAdd, Nat.reduceSub, Nat.reduceLeDiff, Nat.reduceEqDiff, Nat.add_eq, not_false_eq_true, not_true_eq_false, true_and, and_true, false_or, or_true, true_or, or_false, and_self, one_ne_zero_nat, w32_id, w32_n, Int.toNat_natCast, Int.reduceToNat, Nat.zero_add, Nat.zero_le, Nat.le_refl, Int.reduceEq, Int.reduceLT, Int.reduceLE, Int.reduceAdd, Int.reduceSub, Int.reduceMul, t_imp, f_imp]
      refine ⟨fun _ => ?_, fun q => absurd (by decide) q⟩
      refine blk bk_p_leastOfSmaller_42 ?_
      simp (disch := omega) only [st_iconst, st_bipush, st_sipush, st_ldc, st_ldc_w, st_lconst, st_ldc2_w, st_iload_n, st_iload, st_lload_n, st_lload, st_aload_n, st_aload, st_istore_n, st_istore, st_lstore_n, st_lstore, st_astore_n, st_astore, st_iinc, st_iadd, st_isub, st_imul, st_idiv, st_irem, st_iand, st_ior, st_ixor, st_ishl, st_ishr, st_iushr, st_ladd, st_lmul, st_ldiv, st_lrem, st_land, st_lor, st_lxor, st_lshl, st_lshr, st_lcmp, st_i2l, st_l2i, st_i2c, st_dup, st_pop, st_dup2, st_iaload0, st_iaload1, st_caload, st_baload, st_laload, st_aaload, st_iastore, st_castore, st_bastore, st_lastore, st_aastore, st_arraylength0, st_arraylength1, st_getfield, st_putfield0, st_putfield1, st_putfield2, st_putfield3, st_getstatic, st_new, st_newarray, st_anewarray, st_goto, st_ifCond, st_if_icmp, st_tableswitch, st_lookupswitch, st_ireturn, st_lreturn, st_return, st_invokevirtual, st_invokestatic0, st_invokestatic1, st_invokespecial0, st_invokespecial1, cZ_eq, cZ_ne, cZ_lt, cZ_ge, cZ_gt, cZ_le, vcb_n, vcb_c, sw_n, sw_c, ↓pI_d, ↓pL_d, ↓pR_d, ↓pA_d, isI_d, isL_d, isL_di, isL_dr, isL_dj, isA_d, inc_c, stO, fV, List.getD_cons_zero, List.getD_cons_succ, List.set_cons_zero, List.set_cons_succ, List.take_succ_cons, List.take_zero, List.drop_succ_cons, List.drop_zero, List.reverse_cons, List.reverse_nil, List.nil_append, List.cons_append, List.append_nil, Option.toList_some, Option.toList_none, List.length_cons, List.length_nil, Nat.reduceAdd, Nat.reduceSub, Nat.reduceLeDiff, Nat.reduceEqDiff, Nat.add_eq, not_false_eq_true, not_true_eq_false, true_and, and_true, false_or, or_true, true_or, or_false, and_self, one_ne_zero_nat, w32_id, w32_n, Int.toNat_natCast, Int.reduceToNat, Nat.zero_add, Nat.zero_le, Nat.le_refl, Int.reduceEq, Int.reduceLT, Int.reduceLE, Int.reduceAdd, Int.reduceSub, Int.reduceMul, t_imp, f_imp]
      exact hQ
    | succ r ih =>
      intro m hm
      have hnx := ih (m + 1) (by omega)
      have e : plWi lw w (m + 1) = if bt w m = 1 then (if lw (w - 2 ^ m) < plWi lw w m then lw (w - 2 ^ m) else plWi lw w m) else plWi lw w m := rfl
      rw [e] at hnx
      have hm2 := plWi_m (lw := lw) (w := w) m
      have b01 := bt_01 w m
      clear e ih hQ
      generalize plWi lw w m = x at *
      by_cases hb : bt w m = 1
      · rw [if_pos hb] at hnx
        have f := (fin_sbB (v := 0) hw (by decide) (show m < 5 by omega) hb).1
        have hv := h _ f
        have jl : inA G (ad 54) 0 ((w - 2 ^ m : Nat) : Int) := in_of (cA54 hB) (by omega) (by omega) (by decide)
        have cl := clrI (g := w) (i := m) (by omega) (by omega) hb
        have hm2p : 2 ^ m < 64 := Nat.pow_lt_pow_right (n := 6) (by decide) (show m < 6 by omega)
        generalize w - 2 ^ m = z at *
        refine blk bk_p_leastOfSmaller_5 ?_
        simp (disch := omega) only [st_iconst, st_bipush, st_sipush, st_ldc, st_ldc_w, st_lconst, st_ldc2_w, st_iload_n, st_iload, st_lload_n, st_lload, st_aload_n, st_aload, st_istore_n, st_istore, st_lstore_n, st_lstore, st_astore_n, st_astore, st_iinc, st_iadd, st_isub, st_imul, st_idiv, st_irem, st_iand, st_ior, st_ixor, st_ishl, st_ishr, st_iushr, st_ladd, st_lmul, st_ldiv, st_lrem, st_land, st_lor, st_lxor, st_lshl, st_lshr, st_lcmp, st_i2l, st_l2i, st_i2c, st_dup, st_pop, st_dup2, st_iaload0, st_iaload1, st_caload, st_baload, st_laload, st_aaload, st_iastore, st_castore, st_bastore, st_lastore, st_aastore, st_arraylength0, st_arraylength1, st_getfield, st_putfield0, st_putfield1, st_putfield2, st_putfield3, st_getstatic, st_new, st_newarray, st_anewarray, st_goto, st_ifCond, st_if_icmp, st_tableswitch, st_lookupswitch, st_ireturn, st_lreturn, st_return, st_invokevirtual, st_invokestatic0, st_invokestatic1, st_invokespecial0, st_invokespecial1, cZ_eq, cZ_ne, cZ_lt, cZ_ge, cZ_gt, cZ_le, vcb_n, vcb_c, sw_n, sw_c, ↓pI_d, ↓pL_d, ↓pR_d, ↓pA_d, isI_d, isL_d, isL_di, isL_dr, isL_dj, isA_d, inc_c, stO, fV, List.getD_cons_zero, List.getD_cons_succ, List.set_cons_zero, List.set_cons_succ, List.take_succ_cons, List.take_zero, List.drop_succ_cons, List.drop_zero, List.reverse_cons, List.reverse_nil, List.nil_append, List.cons_append, List.append_nil, Option.toList_some, Option.toList_none, List.length_cons, List.length_nil, Nat.reduceAdd, Nat.reduceSub, Nat.reduceLeDiff, Nat.reduceEqDiff, Nat.add_eq, not_false_eq_true, not_true_eq_false, true_and, and_true, false_or, or_true, true_or, or_false, and_self, one_ne_zero_nat, w32_id, w32_n, Int.toNat_natCast, Int.reduceToNat, Nat.zero_add, Nat.zero_le, Nat.le_refl, Int.reduceEq, Int.reduceLT, Int.reduceLE, Int.reduceAdd, Int.reduceSub, Int.reduceMul, t_imp, f_imp, cO51 hB, cR51_1 hB, btI, shl1I, cl, jl, hv.1]
        refine ⟨fun q => absurd q (by omega), fun _ => ⟨fun q => absurd hb (by omega), fun _ => ⟨by omega, s_j_min (by omega) (by omega) (by omega) (by omega) ?_⟩⟩⟩
        have e2 : (if (lw z : Int) < (x : Int) then (lw z : Int) else (x : Int)) = ((if lw z < x then lw z else x : Nat) : Int) := by split <;> split <;> omega
        rw [e2]
        generalize (if lw z < x then lw z else x) = y at *
        refine blk bk_p_leastOfSmaller_35 ?_
        simp (disch := omega) only [st_iconst, st_bipush, st_sipush, st_ldc, st_ldc_w, st_lconst, st_ldc2_w, st_iload_n, st_iload, st_lload_n, st_lload, st_aload_n, st_aload, st_istore_n, st_istore, st_lstore_n, st_lstore, st_astore_n, st_astore, st_iinc, st_iadd, st_isub, st_imul, st_idiv, st_irem, st_iand, st_ior, st_ixor, st_ishl, st_ishr, st_iushr, st_ladd, st_lmul, st_ldiv, st_lrem, st_land, st_lor, st_lxor, st_lshl, st_lshr, st_lcmp, st_i2l, st_l2i, st_i2c, st_dup, st_pop, st_dup2, st_iaload0, st_iaload1, st_caload, st_baload, st_laload, st_aaload, st_iastore, st_castore, st_bastore, st_lastore, st_aastore, st_arraylength0, st_arraylength1, st_getfield, st_putfield0, st_putfield1, st_putfield2, st_putfield3, st_getstatic, st_new, st_newarray, st_anewarray, st_goto, st_ifCond, st_if_icmp, st_tableswitch, st_lookupswitch, st_ireturn, st_lreturn, st_return, st_invokevirtual, st_invokestatic0, st_invokestatic1, st_invokespecial0, st_invokespecial1, cZ_eq, cZ_ne, cZ_lt, cZ_ge, cZ_gt, cZ_le, vcb_n, vcb_c, sw_n, sw_c, ↓pI_d, ↓pL_d, ↓pR_d, ↓pA_d, isI_d, isL_d, isL_di, isL_dr, isL_dj, isA_d, inc_c, stO, fV, List.getD_cons_zero, List.getD_cons_succ, List.set_cons_zero, List.set_cons_succ, List.take_succ_cons, List.take_zero, List.drop_succ_cons, List.drop_zero, List.reverse_cons, List.reverse_nil, List.nil_append, List.cons_append, List.append_nil, Option.toList_some, Option.toList_none, List.length_cons, List.length_nil, Nat.reduceAdd, Nat.reduceSub, Nat.reduceLeDiff, Nat.reduceEqDiff, Nat.add_eq, not_false_eq_true, not_true_eq_false, true_and, and_true, false_or, or_true, true_or, or_false, and_self, one_ne_zero_nat, w32_id, w32_n, Int.toNat_natCast, Int.reduceToNat, Nat.zero_add, Nat.zero_le, Nat.le_refl, Int.reduceEq, Int.reduceLT, Int.reduceLE, Int.reduceAdd, Int.reduceSub, Int.reduceMul, t_imp, f_imp]
        refine blk bk_p_leastOfSmaller_36 ?_
        simp (disch := omega) only [st_iconst, st_bipush, st_sipush, st_ldc, st_ldc_w, st_lconst, st_ldc2_w, st_iload_n, st_iload, st_lload_n, st_lload, st_aload_n, st_aload, st_istore_n, st_istore, st_lstore_n, st_lstore, st_astore_n, st_astore, st_iinc, st_iadd, st_isub, st_imul, st_idiv, st_irem, st_iand, st_ior, st_ixor, st_ishl, st_ishr, st_iushr, st_ladd, st_lmul, st_ldiv, st_lrem, st_land, st_lor, st_lxor, st_lshl, st_lshr, st_lcmp, st_i2l, st_l2i, st_i2c, st_dup, st_pop, st_dup2, st_iaload0, st_iaload1, st_caload, st_baload, st_laload, st_aaload, st_iastore, st_castore, st_bastore, st_lastore, st_aastore, st_arraylength0, st_arraylength1, st_getfield, st_putfield0, st_putfield1, st_putfield2, st_putfield3, st_getstatic, st_new, st_newarray, st_anewarray, st_goto, st_ifCond, st_if_icmp, st_tableswitch, st_lookupswitch, st_ireturn, st_lreturn, st_return, st_invokevirtual, st_invokestatic0, st_invokestatic1, st_invokespecial0, st_invokespecial1, cZ_eq, cZ_ne, cZ_lt, cZ_ge, cZ_gt, cZ_le, vcb_n, vcb_c, sw_n, sw_c, ↓pI_d, ↓pL_d, ↓pR_d, ↓pA_d, isI_d, isL_d, isL_di, isL_dr, isL_dj, isA_d, inc_c, stO, fV, List.getD_cons_zero, List.getD_cons_succ, List.set_cons_zero, List.set_cons_succ, List.take_succ_cons, List.take_zero, List.drop_succ_cons, List.drop_zero, List.reverse_cons, List.reverse_nil, List.nil_append, List.cons_append, List.append_nil, Option.toList_some, Option.toList_none, List.length_cons, List.length_nil, Nat.reduceAdd, Nat.reduceSub, Nat.reduceLeDiff, Nat.reduceEqDiff, Nat.add_eq, not_false_eq_true, not_true_eq_false, true_and, and_true, false_or, or_true, true_or, or_false, and_self, one_ne_zero_nat, w32_id, w32_n, Int.toNat_natCast, Int.reduceToNat, Nat.zero_add, Nat.zero_le, Nat.le_refl, Int.reduceEq, Int.reduceLT, Int.reduceLE, Int.reduceAdd, Int.reduceSub, Int.reduceMul, t_imp, f_imp]
        exact hnx
      · rw [if_neg hb] at hnx
        refine blk bk_p_leastOfSmaller_5 ?_
        simp (disch := omega) only [st_iconst, st_bipush, st_sipush, st_ldc, st_ldc_w, st_lconst, st_ldc2_w, st_iload_n, st_iload, st_lload_n, st_lload, st_aload_n, st_aload, st_istore_n, st_istore, st_lstore_n, st_lstore, st_astore_n, st_astore, st_iinc, st_iadd, st_isub, st_imul, st_idiv, st_irem, st_iand, st_ior, st_ixor, st_ishl, st_ishr, st_iushr, st_ladd, st_lmul, st_ldiv, st_lrem, st_land, st_lor, st_lxor, st_lshl, st_lshr, st_lcmp, st_i2l, st_l2i, st_i2c, st_dup, st_pop, st_dup2, st_iaload0, st_iaload1, st_caload, st_baload, st_laload, st_aaload, st_iastore, st_castore, st_bastore, st_lastore, st_aastore, st_arraylength0, st_arraylength1, st_getfield, st_putfield0, st_putfield1, st_putfield2, st_putfield3, st_getstatic, st_new, st_newarray, st_anewarray, st_goto, st_ifCond, st_if_icmp, st_tableswitch, st_lookupswitch, st_ireturn, st_lreturn, st_return, st_invokevirtual, st_invokestatic0, st_invokestatic1, st_invokespecial0, st_invokespecial1, cZ_eq, cZ_ne, cZ_lt, cZ_ge, cZ_gt, cZ_le, vcb_n, vcb_c, sw_n, sw_c, ↓pI_d, ↓pL_d, ↓pR_d, ↓pA_d, isI_d, isL_d, isL_di, isL_dr, isL_dj, isA_d, inc_c, stO, fV, List.getD_cons_zero, List.getD_cons_succ, List.set_cons_zero, List.set_cons_succ, List.take_succ_cons, List.take_zero, List.drop_succ_cons, List.drop_zero, List.reverse_cons, List.reverse_nil, List.nil_append, List.cons_append, List.append_nil, Option.toList_some, Option.toList_none, List.length_cons, List.length_nil, Nat.reduceAdd, Nat.reduceSub, Nat.reduceLeDiff, Nat.reduceEqDiff, Nat.add_eq, not_false_eq_true, not_true_eq_false, true_and, and_true, false_or, or_true, true_or, or_false, and_self, one_ne_zero_nat, w32_id, w32_n, Int.toNat_natCast, Int.reduceToNat, Nat.zero_add, Nat.zero_le, Nat.le_refl, Int.reduceEq, Int.reduceLT, Int.reduceLE, Int.reduceAdd, Int.reduceSub, Int.reduceMul, t_imp, f_imp, cO51 hB, cR51_1 hB, btI]
        refine ⟨fun q => absurd q (by omega), fun _ => ⟨fun q => ?_, fun q => absurd (by omega) q⟩⟩
        refine blk bk_p_leastOfSmaller_36 ?_
        simp (disch := omega) only [st_iconst, st_bipush, st_sipush, st_ldc, st_ldc_w, st_lconst, st_ldc2_w, st_iload_n, st_iload, st_lload_n, st_lload, st_aload_n, st_aload, st_istore_n, st_istore, st_lstore_n, st_lstore, st_astore_n, st_astore, st_iinc, st_iadd, st_isub, st_imul, st_idiv, st_irem, st_iand, st_ior, st_ixor, st_ishl, st_ishr, st_iushr, st_ladd, st_lmul, st_ldiv, st_lrem, st_land, st_lor, st_lxor, st_lshl, st_lshr, st_lcmp, st_i2l, st_l2i, st_i2c, st_dup, st_pop, st_dup2, st_iaload0, st_iaload1, st_caload, st_baload, st_laload, st_aaload, st_iastore, st_castore, st_bastore, st_lastore, st_aastore, st_arraylength0, st_arraylength1, st_getfield, st_putfield0, st_putfield1, st_putfield2, st_putfield3, st_getstatic, st_new, st_newarray, st_anewarray, st_goto, st_ifCond, st_if_icmp, st_tableswitch, st_lookupswitch, st_ireturn, st_lreturn, st_return, st_invokevirtual, st_invokestatic0, st_invokestatic1, st_invokespecial0, st_invokespecial1, cZ_eq, cZ_ne, cZ_lt, cZ_ge, cZ_gt, cZ_le, vcb_n, vcb_c, sw_n, sw_c, ↓pI_d, ↓pL_d, ↓pR_d, ↓pA_d, isI_d, isL_d, isL_di, isL_dr, isL_dj, isA_d, inc_c, stO, fV, List.getD_cons_zero, List.getD_cons_succ, List.set_cons_zero, List.set_cons_succ, List.take_succ_cons, List.take_zero, List.drop_succ_cons, List.drop_zero, List.reverse_cons, List.reverse_nil, List.nil_append, List.cons_append, List.append_nil, Option.toList_some, Option.toList_none, List.length_cons, List.length_nil, Nat.reduceAdd, Nat.reduceSub, Nat.reduceLeDiff, Nat.reduceEqDiff, Nat.add_eq, not_false_eq_true, not_true_eq_false, true_and, and_true, false_or, or_true, true_or, or_false, and_self, one_ne_zero_nat, w32_id, w32_n, Int.toNat_natCast, Int.reduceToNat, Nat.zero_add, Nat.zero_le, Nat.le_refl, Int.reduceEq, Int.reduceLT, Int.reduceLE, Int.reduceAdd, Int.reduceSub, Int.reduceMul, t_imp, f_imp]
        exact hnx
  have go := loop 5 0 (by decide)
  refine WPm_of (L := [vR (some (ad 51)), vI w, vJ, vJ]) 2 (by decide) (Nat.le_of_ble_eq_true rfl) rfl ?_
  refine blk bk_p_leastOfSmaller_0 ?_
  simp (disch := omega) only [st_iconst, st_bipush, st_sipush, st_ldc, st_ldc_w, st_lconst, st_ldc2_w, st_iload_n, st_iload, st_lload_n, st_lload, st_aload_n, st_aload, st_istore_n, st_istore, st_lstore_n, st_lstore, st_astore_n, st_astore, st_iinc, st_iadd, st_isub, st_imul, st_idiv, st_irem, st_iand, st_ior, st_ixor, st_ishl, st_ishr, st_iushr, st_ladd, st_lmul, st_ldiv, st_lrem, st_land, st_lor, st_lxor, st_lshl, st_lshr, st_lcmp, st_i2l, st_l2i, st_i2c, st_dup, st_pop, st_dup2, st_iaload0, st_iaload1, st_caload, st_baload, st_laload, st_aaload, st_iastore, st_castore, st_bastore, st_lastore, st_aastore, st_arraylength0, st_arraylength1, st_getfield, st_putfield0, st_putfield1, st_putfield2, st_putfield3, st_getstatic, st_new, st_newarray, st_anewarray, st_goto, st_ifCond, st_if_icmp, st_tableswitch, st_lookupswitch, st_ireturn, st_lreturn, st_return, st_invokevirtual, st_invokestatic0, st_invokestatic1, st_invokespecial0, st_invokespecial1, cZ_eq, cZ_ne, cZ_lt, cZ_ge, cZ_gt, cZ_le, vcb_n, vcb_c, sw_n, sw_c, ↓pI_d, ↓pL_d, ↓pR_d, ↓pA_d, isI_d, isL_d, isL_di, isL_dr, isL_dj, isA_d, inc_c, stO, fV, List.getD_cons_zero, List.getD_cons_succ, List.set_cons_zero, List.set_cons_succ, List.take_succ_cons, List.take_zero, List.drop_succ_cons, List.drop_zero, List.reverse_cons, List.reverse_nil, List.nil_append, List.cons_append, List.append_nil, Option.toList_some, Option.toList_none, List.length_cons, List.length_nil, Nat.reduceAdd, Nat.reduceSub, Nat.reduceLeDiff, Nat.reduceEqDiff, Nat.add_eq, not_false_eq_true, not_true_eq_false, true_and, and_true, false_or, or_true, true_or, or_false, and_self, one_ne_zero_nat, w32_id, w32_n, Int.toNat_natCast, Int.reduceToNat, Nat.zero_add, Nat.zero_le, Nat.le_refl, Int.reduceEq, Int.reduceLT, Int.reduceLE, Int.reduceAdd, Int.reduceSub, Int.reduceMul, t_imp, f_imp]
  exact go
end WEIGH
