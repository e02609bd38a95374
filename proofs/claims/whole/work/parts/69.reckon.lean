/-! ===== the reference's plan: reckons, may ===== -/
theorem tn_32 (p w : Nat) : ((32 : Int) * (p : Int) + (w : Int)).toNat = 32 * p + w := by omega
theorem tn_32z (p : Nat) : ((32 : Int) * (p : Int)).toNat = 32 * p := by omega
theorem and_mask (x : Nat) : x &&& 559240 = 0 ↔ bt x 3 = 0 ∧ bt x 7 = 0 ∧ bt x 11 = 0 ∧ bt x 15 = 0 ∧ bt x 19 = 0 := by
  have key : ∀ i, (559240 : Nat).testBit i = true ↔ i = 3 ∨ i = 7 ∨ i = 11 ∨ i = 15 ∨ i = 19 := by
    intro i
    by_cases h : i < 20
    · have : ∀ j, j < 20 → ((559240 : Nat).testBit j = true ↔ j = 3 ∨ j = 7 ∨ j = 11 ∨ j = 15 ∨ j = 19) := by decide +kernel
      exact this i h
    · have h1 : (559240 : Nat).testBit i = false := Nat.testBit_lt_two_pow (Nat.lt_of_lt_of_le (show 559240 < 2 ^ 20 by decide) (Nat.pow_le_pow_right (by decide) (by omega)))
      rw [h1]
      exact ⟨fun q => (by cases q), fun q => (by omega)⟩
  have b0 : ∀ i, bt x i = 0 ↔ x.testBit i = false := by
    intro i
    rw [bt_t]
    cases x.testBit i
    · exact ⟨fun _ => rfl, fun _ => rfl⟩
    · exact ⟨fun q => (by cases q), fun q => (by cases q)⟩
  constructor
  · intro h
    have hb : ∀ i, (559240 : Nat).testBit i = true → bt x i = 0 := by
      intro i hi
      have : (x &&& 559240).testBit i = false := by rw [h]; exact Nat.zero_testBit i
      rw [Nat.testBit_and, hi, Bool.and_true] at this
      exact (b0 i).mpr this
    exact ⟨hb 3 (by decide), hb 7 (by decide), hb 11 (by decide), hb 15 (by decide), hb 19 (by decide)⟩
  · rintro ⟨h3, h7, h11, h15, h19⟩
    apply Nat.eq_of_testBit_eq
    intro i
    rw [Nat.zero_testBit, Nat.testBit_and]
    by_cases hi : (559240 : Nat).testBit i = true
    · rcases (key i).mp hi with rfl | rfl | rfl | rfl | rfl
      · rw [(b0 _).mp h3, Bool.false_and]
      · rw [(b0 _).mp h7, Bool.false_and]
      · rw [(b0 _).mp h11, Bool.false_and]
      · rw [(b0 _).mp h15, Bool.false_and]
      · rw [(b0 _).mp h19, Bool.false_and]
    · rw [Bool.not_eq_true] at hi
      rw [hi, Bool.and_false]
theorem dig_mask {x e0 e1 e2 e3 e4 : Nat} (hx : x = e0 + 16 * e1 + 256 * e2 + 4096 * e3 + 65536 * e4) (h0 : e0 ≤ 8) (h1 : e1 ≤ 8) (h2 : e2 ≤ 8) (h3 : e3 ≤ 8) (h4 : e4 ≤ 8) : x &&& 559240 = 0 ↔ e0 ≤ 7 ∧ e1 ≤ 7 ∧ e2 ≤ 7 ∧ e3 ≤ 7 ∧ e4 ≤ 7 := by
  rw [and_mask]
  unfold bt
  subst hx
  omega
theorem smF_ib (f : Nat → Nat) : ∀ p, smF (fun q => plIb (f q)) p = smF (fun q => bt (f q) 0) p + 16 * smF (fun q => bt (f q) 1) p + 256 * smF (fun q => bt (f q) 2) p + 4096 * smF (fun q => bt (f q) 3) p + 65536 * smF (fun q => bt (f q) 4) p := by
  intro p
  induction p with
  | zero => rfl
  | succ p ih =>
    show smF (fun q => plIb (f q)) p + plIb (f p) = (smF (fun q => bt (f q) 0) p + bt (f p) 0) + 16 * (smF (fun q => bt (f q) 1) p + bt (f p) 1) + 256 * (smF (fun q => bt (f q) 2) p + bt (f p) 2) + 4096 * (smF (fun q => bt (f q) 3) p + bt (f p) 3) + 65536 * (smF (fun q => bt (f q) 4) p + bt (f p) 4)
    rw [ih]
    unfold plIb
    omega
/-- room by those ahead, month by month, is the meadow's room -/
theorem plFe_cnt {σ : SG} {f : Nat → Nat} {p w : Nat} (hS : SOK σ) (hc : ∀ j, j < 5 → smF (fun q => bt (f q) j) p ≤ tdRo (gTd σ)) : plFe (plM0 σ + smF (fun q => plIb (f q)) p) w = true ↔ ∀ j, j < 5 → bt w j = 1 → smF (fun q => bt (f q) j) p < tdRo (gTd σ) := by
  have r4 := hS.1.2.2.2.1
  have c0 := hc 0 (by decide)
  have c1 := hc 1 (by decide)
  have c2 := hc 2 (by decide)
  have c3 := hc 3 (by decide)
  have c4 := hc 4 (by decide)
  have b0 := bt_01 w 0
  have b1 := bt_01 w 1
  have b2 := bt_01 w 2
  have b3 := bt_01 w 3
  have b4 := bt_01 w 4
  have e := smF_ib f p
  unfold plFe
  rw [decide_eq_true_eq, dig_mask (e0 := 7 - tdRo (gTd σ) + smF (fun q => bt (f q) 0) p + bt w 0) (e1 := 7 - tdRo (gTd σ) + smF (fun q => bt (f q) 1) p + bt w 1) (e2 := 7 - tdRo (gTd σ) + smF (fun q => bt (f q) 2) p + bt w 2) (e3 := 7 - tdRo (gTd σ) + smF (fun q => bt (f q) 3) p + bt w 3) (e4 := 7 - tdRo (gTd σ) + smF (fun q => bt (f q) 4) p + bt w 4) (by unfold plM0 plIb at *; omega) (by omega) (by omega) (by omega) (by omega) (by omega)]
  constructor
  · intro h j hj hb
    rcases (show j = 0 ∨ j = 1 ∨ j = 2 ∨ j = 3 ∨ j = 4 by omega) with rfl | rfl | rfl | rfl | rfl <;> omega
  · intro h
    have g0 := h 0 (by decide)
    have g1 := h 1 (by decide)
    have g2 := h 2 (by decide)
    have g3 := h 3 (by decide)
    have g4 := h 4 (by decide)
    omega
def mRk (G : aG) (m : Nat) (M M' : aM) : Prop := (∀ c, c ≠ m → c ≠ rfA G m 18 → c ≠ rfA G m 20 → c ≠ rfA G m 23 → M' c = M c) ∧ ∀ k, k ≠ 19 → M' m k = M m k
theorem mRk_r (G : aG) (m : Nat) (M : aM) : mRk G m M M := ⟨fun _ _ _ _ _ => rfl, fun _ _ => rfl⟩
theorem mRk_t {G : aG} {m : Nat} {M M' M2 : aM} (h1 : mRk G m M M') (h2 : mRk G m M' M2) : mRk G m M M2 := ⟨fun c a b d e => (h2.1 c a b d e).trans (h1.1 c a b d e), fun k a => (h2.2 k a).trans (h1.2 k a)⟩
theorem mRk_w {G : aG} {m j k : Nat} {v : Int} {M M' : aM} (hM : MdS G m) (hj : j = 18 ∨ j = 20 ∨ j = 23) (h : mRk G m M M') : mRk G m M (wr M' (rfA G m j) k v) := by
  refine ⟨fun c a b d e => ?_, fun k a => ?_⟩
  · rw [wr_c _ _ _ (by rcases hj with rfl | rfl | rfl; exact b; exact d; exact e)]
    exact h.1 c a b d e
  · rw [wr_c _ _ _ (by rcases hj with rfl | rfl | rfl <;> exact Ne.symm (md_m hM (by decide)))]
    exact h.2 k a
theorem mRk_19 {G : aG} {m : Nat} {v : Int} {M M' : aM} (h : mRk G m M M') : mRk G m M (wr M' m 19 v) := ⟨fun c a b d e => by rw [wr_c _ _ _ a]; exact h.1 c a b d e, fun k a => by rw [wr_o _ _ a]; exact h.2 k a⟩
theorem MV_rk {G : aG} {m : Nat} {M M' : aM} {σ : SG} (hM : MdS G m) (h : mRk G m M M') (hV : MV G M m σ) : MV G M' m σ := MV_k hV (fun k hk => h.2 k (by omega)) (fun k hk => by rcases hk with rfl | rfl | rfl | rfl | rfl | rfl | rfl | rfl <;> exact h.1 _ (md_m hM (by decide)) (md_ne hM (by decide) (by decide) (by decide)) (md_ne hM (by decide) (by decide) (by decide)) (md_ne hM (by decide) (by decide) (by decide)))
section RECK
variable {Γ : aR} {ρ κ bd m : Nat} {G : aG} {M : aM} {Q : aQ} {ad : Nat → Nat} {σ : SG}
theorem s_m_reckons {n : Nat} (hρ : 4 ≤ ρ) (hM : MdS G m) (hV : MV G M m σ) (hS : SOK σ) (hn1 : 1 ≤ n) (hn : n ≤ 5) (hQ : ∀ M' : aM, mRk G m M M' → (∀ p w, p < tdN (gTd σ) → w < 2 ^ n → M' (rfA G m 20) (32 * p + w) = (plC σ n p w : Int)) → (∀ q, q ≤ tdN (gTd σ) → M' (rfA G m 23) q = (plLf (plLm σ n) (tdN (gTd σ) - q) q : Int)) → Q none G M') : WPm Γ ρ 0 117 [vR (some m), vI n] G M Q := by
  have h6 : tdN (gTd σ) ≤ 6 := hS.1.1
  have pw : 2 ^ n ≤ 32 := Nat.pow_le_pow_right (n := 2) (by decide) hn
  have pw1 : 1 < 2 ^ n := Nat.one_lt_two_pow (by omega)
  have hlo := lt64 h6 hS.2.1.2.2.1
  have hmet : ndE (gNd σ) < 1024 := hS.2.1.2.2.2.1
  have hmo : ndM (gNd σ) ≤ 12 := hS.2.1.1
  have c18m : rfA G m 18 ≠ m := md_m hM (by decide)
  have c20m : rfA G m 20 ≠ m := md_m hM (by decide)
  have c23m : rfA G m 23 ≠ m := md_m hM (by decide)
  have c2018 : rfA G m 20 ≠ rfA G m 18 := md_ne hM (by decide) (by decide) (by decide)
  have c2320 : rfA G m 23 ≠ rfA G m 20 := md_ne hM (by decide) (by decide) (by decide)
  have j0 : inA G (rfA G m 3) 0 0 := in_of (mdA3 hM) (by decide) (by decide) (by decide)
  have i0 : inA G (rfA G m 5) 0 0 := in_of (mdA5 hM) (by decide) (by decide) (by decide)
  have i8 : inA G (rfA G m 5) 0 8 := in_of (mdA5 hM) (by decide) (by decide) (by decide)
  have cb := fun p w hp => plC_90 (σ := σ) (n := n) (p := p) (w := w) hS hp
  -- the second half: left
  have left : ∀ (q : Nat) (M' : aM) (v3 v4 v5 : aV), q ≤ tdN (gTd σ) → ¬ isL v3 → ¬ isL v4 → ¬ isL v5 → mRk G m M M' → (∀ p w, p < tdN (gTd σ) → w < 2 ^ n → M' (rfA G m 20) (32 * p + w) = (plC σ n p w : Int)) → (∀ j, q ≤ j → j ≤ tdN (gTd σ) → M' (rfA G m 23) j = (plLf (plLm σ n) (tdN (gTd σ) - j) j : Int)) → WP Γ ρ 0 117 108 [vR (some m), vI n, vI ((q : Int) - 1), v3, v4, v5] [] G M' Q := by
    intro q
    induction q with
    | zero =>
      intro M' v3 v4 v5 hq hv3 hv4 hv5 hF hC hL
      have fin := hQ M' hF hC (fun j hj => hL j (Nat.zero_le _) hj)
      clear hQ hC hL
      refine blk bk_m_reckons_108 ?_
      simp (disch := omega) only [st_iconst, st_bipush, st_sipush, st_ldc, st_ldc_w, st_lconst, st_ldc2_w, st_iload_n, st_iload, st_lload_n, st_lload, st_aload_n, st_aload, st_istore_n, st_istore, st_lstore_n, st_lstore, st_astore_n, st_astore, st_iinc, st_iadd, st_isub, st_imul, st_idiv, st_irem, st_iand, st_ior, st_ixor, st_ishl, st_ishr, st_iushr, st_ladd, st_lmul, st_ldiv, st_lrem, st_land, st_lor, st_lxor, st_lshl, st_lshr, st_lcmp, st_i2l, st_l2i, st_i2c, st_dup, st_pop, st_dup2, st_iaload0, st_iaload1, st_caload, st_baload, st_laload, st_aaload, st_iastore, st_castore, st_bastore, st_lastore, st_aastore, st_arraylength0, st_arraylength1, st_getfield, st_putfield0, st_putfield1, st_putfield2, st_putfield3, st_getstatic, st_new, st_newarray, st_anewarray, st_goto, st_ifCond, st_if_icmp, st_tableswitch, st_lookupswitch, st_ireturn, st_lreturn, st_return, st_invokevirtual, st_invokestatic0, st_invokestatic1, st_invokespecial0, st_invokespecial1, cZ_eq, cZ_ne, cZ_lt, cZ_ge, cZ_gt, cZ_le, vcb_n, vcb_c, sw_n, sw_c, ↓pI_d, ↓pL_d, ↓pR_d, ↓pA_d, isI_d, isL_d, isL_di, isL_dr, isL_dj, isA_d, inc_c, stO, fV, List.getD_cons_zero, List.getD_cons_succ, List.set_cons_zero, List.set_cons_succ, List.take_succ_cons, List.take_zero, List.drop_succ_cons, List.drop_zero, List.reverse_cons, List.reverse_nil, List.nil_append, List.cons_append, List.append_nil, Option.toList_some, Option.toList_none, List.length_cons, List.length_nil, Nat.reduceAdd, Nat.reduceSub, Nat.reduceLeDiff, Nat.reduceEqDiff, Nat.add_eq, not_false_eq_true, not_true_eq_false, true_and, and_true, false_or, or_true, true_or, or_false, and_self, one_ne_zero_nat, w32_id, w32_n, Int.toNat_natCast, Int.reduceToNat, Nat.zero_add, Nat.zero_le, Nat.le_refl, Int.reduceEq, Int.reduceLT, Int.reduceLE, Int.reduceAdd, Int.reduceSub, Int.reduceMul, t_imp, f_imp]
      refine ⟨fun _ => ?_, fun q => absurd (by omega) q⟩
      refine blk bk_m_reckons_202 ?_
      simp (disch := omega) only [st_iconst, st_bipush, st_sipush, st_ldc, st_ldc_w, st_lconst, st_ldc2_w, st_iload_n, st_iload, st_lload_n, st_lload, st_aload_n, st_aload, st_istore_n, st_istore, st_lstore_n, st_lstore, st_astore_n, st_astore, st_iinc, st_iadd, st_isub, st_imul, st_idiv, st_irem, st_iand, st_ior, st_ixor, st_ishl, st_ishr, st_iushr, st_ladd, st_lmul, st_ldiv, st_lrem, st_land, st_lor, st_lxor, st_lshl, st_lshr, st_lcmp, st_i2l, st_l2i, st_i2c, st_dup, st_pop, st_dup2, st_iaload0, st_iaload1, st_caload, st_baload, st_laload, st_aaload, st_iastore, st_castore, st_bastore, st_lastore, st_aastore, st_arraylength0, st_arraylength1, st_getfield, st_putfield0, st_putfield1, st_putfield2, st_putfield3, st_getstatic, st_new, st_newarray, st_anewarray, st_goto, st_ifCond, st_if_icmp, st_tableswitch, st_lookupswitch, st_ireturn, st_lreturn, st_return, st_invokevirtual, st_invokestatic0, st_invokestatic1, st_invokespecial0, st_invokespecial1, cZ_eq, cZ_ne, cZ_lt, cZ_ge, cZ_gt, cZ_le, vcb_n, vcb_c, sw_n, sw_c, ↓pI_d, ↓pL_d, ↓pR_d, ↓pA_d, isI_d, isL_d, isL_di, isL_dr, isL_dj, isA_d, inc_c, stO, fV, List.getD_cons_zero, List.getD_cons_succ, List.set_cons_zero, List.set_cons_succ, List.take_succ_cons, List.take_zero, List.drop_succ_cons, List.drop_zero, List.reverse_cons, List.reverse_nil, List.nil_append, List.cons_append, List.append_nil, Option.toList_some, Option.toList_none, List.length_cons, List.length_nil, Nat.reduceAdd, Nat.reduceSub, Nat.reduceLeDiff, Nat.reduceEqDiff, Nat.add_eq, not_false_eq_true, not_true_eq_false, true_and, and_true, false_or, or_true, true_or, or_false, and_self, one_ne_zero_nat, w32_id, w32_n, Int.toNat_natCast, Int.reduceToNat, Nat.zero_add, Nat.zero_le, Nat.le_refl, Int.reduceEq, Int.reduceLT, Int.reduceLE, Int.reduceAdd, Int.reduceSub, Int.reduceMul, t_imp, f_imp]
      exact fin
    | succ q ih =>
      intro M' v3 v4 v5 hq hv3 hv4 hv5 hF hC hL
      have hqN : q < tdN (gTd σ) := by omega
      obtain ⟨n0, n1, n2, n3, n4, n5⟩ := mv0 (MV_rk hM hF hV).2.1
      have b01 := bt_01 (ndL (gNd σ)) q
      have eqq : (((q + 1 : Nat) : Int) - 1) = (q : Int) := by omega
      have jq : inA G (rfA G m 23) 0 (q : Int) := in_of (mdA23 hM) (by omega) (by omega) (by decide)
      have jq1 : inA G (rfA G m 23) 0 ((q : Int) + 1) := in_of (mdA23 hM) (by omega) (by omega) (by decide)
      have tn1 : ((q : Int) + 1).toNat = q + 1 := by omega
      have l1 := hL (q + 1) (Nat.le_refl _) (by omega)
      have hlf : plLf (plLm σ n) (tdN (gTd σ) - q) q = plLf (plLm σ n) (tdN (gTd σ) - (q + 1)) (q + 1) + plLm σ n q := by
        rw [show tdN (gTd σ) - q = (tdN (gTd σ) - (q + 1)) + 1 by omega]
        rfl
      have inner : ∀ (r b : Nat) (ls : Nat) (v5 : aV), b + r = 2 ^ n → 1 ≤ b → ¬ isL v5 → (ls = if bt (ndL (gNd σ)) q = 0 then plMi (plC σ n q) (b - 1) else plC σ n q 0) → ls ≤ 90 → WP Γ ρ 0 117 125 [vR (some m), vI n, vI q, vI ls, vI b, v5] [] G M' Q := by
        intro r
        induction r with
        | zero =>
          intro b ls v5 hb hb1 hv5 hls hls9
          obtain rfl : b = 2 ^ n := by omega
          have els : ls = plLm σ n q := hls
          have hnx := ih (wr M' (rfA G m 23) q ((plLf (plLm σ n) (tdN (gTd σ) - q) q : Nat) : Int)) (vI ls) (vI (2 ^ n : Nat)) v5 (by omega) (fun h => h) (fun h => h) hv5 (mRk_w hM (by omega) hF) (fun p w hp hw => by rw [wr_c _ _ _ (Ne.symm c2320)]; exact hC p w hp hw) (fun j h1 h2 => by
            by_cases e : j = q
            · subst e
              exact wr_s _ _ _ _
            · rw [wr_o _ _ e]
              exact hL j (by omega) h2)
          rw [hlf, ← els, Int.natCast_add] at hnx
          clear hQ hC hL ih hls els hlf
          generalize plLf (plLm σ n) (tdN (gTd σ) - (q + 1)) (q + 1) = lf at *
          refine blk bk_m_reckons_125 ?_
          simp (disch := omega) only [st_iconst, st_bipush, st_sipush, st_ldc, st_ldc_w, st_lconst, st_ldc2_w, st_iload_n, st_iload, st_lload_n, st_lload, st_aload_n, st_aload, st_istore_n, st_istore, st_lstore_n, st_lstore, st_astore_n, st_astore, st_iinc, st_iadd, st_isub, st_imul, st_idiv, st_irem, st_iand, st_ior, st_ixor, st_ishl, st_ishr, st_iushr, st_ladd, st_lmul, st_ldiv, st_lrem, st_land, st_lor, st_lxor, st_lshl, st_lshr, st_lcmp, st_i2l, st_l2i, st_i2c, st_dup, st_pop, st_dup2, st_iaload0, st_iaload1, st_caload, st_baload, st_laload, st_aaload, st_iastore, st_castore, st_bastore, st_lastore, st_aastore, st_arraylength0, st_arraylength1, st_getfield, st_putfield0, st_putfield1, st_putfield2, st_putfield3, st_getstatic, st_new, st_newarray, st_anewarray, st_goto, st_ifCond, st_if_icmp, st_tableswitch, st_lookupswitch, st_ireturn, st_lreturn, st_return, st_invokevirtual, st_invokestatic0, st_invokestatic1, st_invokespecial0, st_invokespecial1, cZ_eq, cZ_ne, cZ_lt, cZ_ge, cZ_gt, cZ_le, vcb_n, vcb_c, sw_n, sw_c, ↓pI_d, ↓pL_d, ↓pR_d, ↓pA_d, isI_d, isL_d, isL_di, isL_dr, isL_dj, isA_d, inc_c, stO, fV, List.getD_cons_zero, List.getD_cons_succ, List.set_cons_zero, List.set_cons_succ, List.take_succ_cons, List.take_zero, List.drop_succ_cons, List.drop_zero, List.reverse_cons, List.reverse_nil, List.nil_append, List.cons_append, List.append_nil, Option.toList_some, Option.toList_none, List.length_cons, List.length_nil, Nat.reduceAdd, Nat.reduceSub, Nat.reduceLeDiff, Nat.reduceEqDiff, Nat.add_eq, not_false_eq_true, not_true_eq_false, true_and, and_true, false_or, or_true, true_or, or_false, and_self, one_ne_zero_nat, w32_id, w32_n, Int.toNat_natCast, Int.reduceToNat, Nat.zero_add, Nat.zero_le, Nat.le_refl, Int.reduceEq, Int.reduceLT, Int.reduceLE, Int.reduceAdd, Int.reduceSub, Int.reduceMul, t_imp, f_imp, shl1I]
          refine ⟨fun _ => ?_, fun q => absurd (Int.le_refl _) q⟩
          refine blk bk_m_reckons_180 ?_
          simp (disch := omega) only [st_iconst, st_bipush, st_sipush, st_ldc, st_ldc_w, st_lconst, st_ldc2_w, st_iload_n, st_iload, st_lload_n, st_lload, st_aload_n, st_aload, st_istore_n, st_istore, st_lstore_n, st_lstore, st_astore_n, st_astore, st_iinc, st_iadd, st_isub, st_imul, st_idiv, st_irem, st_iand, st_ior, st_ixor, st_ishl, st_ishr, st_iushr, st_ladd, st_lmul, st_ldiv, st_lrem, st_land, st_lor, st_lxor, st_lshl, st_lshr, st_lcmp, st_i2l, st_l2i, st_i2c, st_dup, st_pop, st_dup2, st_iaload0, st_iaload1, st_caload, st_baload, st_laload, st_aaload, st_iastore, st_castore, st_bastore, st_lastore, st_aastore, st_arraylength0, st_arraylength1, st_getfield, st_putfield0, st_putfield1, st_putfield2, st_putfield3, st_getstatic, st_new, st_newarray, st_anewarray, st_goto, st_ifCond, st_if_icmp, st_tableswitch, st_lookupswitch, st_ireturn, st_lreturn, st_return, st_invokevirtual, st_invokestatic0, st_invokestatic1, st_invokespecial0, st_invokespecial1, cZ_eq, cZ_ne, cZ_lt, cZ_ge, cZ_gt, cZ_le, vcb_n, vcb_c, sw_n, sw_c, ↓pI_d, ↓pL_d, ↓pR_d, ↓pA_d, isI_d, isL_d, isL_di, isL_dr, isL_dj, isA_d, inc_c, stO, fV, List.getD_cons_zero, List.getD_cons_succ, List.set_cons_zero, List.set_cons_succ, List.take_succ_cons, List.take_zero, List.drop_succ_cons, List.drop_zero, List.reverse_cons, List.reverse_nil, List.nil_append, List.cons_append, List.append_nil, Option.toList_some, Option.toList_none, List.length_cons, List.length_nil, Nat.reduceAdd, Nat.reduceSub, Nat.reduceLeDiff, Nat.reduceEqDiff, Nat.add_eq, not_false_eq_true, not_true_eq_false, true_and, and_true, false_or, or_true, true_or, or_false, and_self, one_ne_zero_nat, w32_id, w32_n, Int.toNat_natCast, Int.reduceToNat, Nat.zero_add, Nat.zero_le, Nat.le_refl, Int.reduceEq, Int.reduceLT, Int.reduceLE, Int.reduceAdd, Int.reduceSub, Int.reduceMul, t_imp, f_imp, hM.1, mdG23 hM, jq, jq1, tn1, l1]
          have e5 : (q : Int) + -1 = (q : Int) - 1 := rfl
          rw [e5]
          exact hnx
        | succ r ih2 =>
          intro b ls v5 hb hb1 hv5 hls hls9
          have cq := hC q b hqN (by omega)
          have cq90 := cb q b hqN
          have jc : inA G (rfA G m 20) 0 (32 * (q : Int) + (b : Int)) := in_of (mdA20 hM) (by omega) (by omega) (by decide)
          have es : plMi (plC σ n q) (b - 1 + 1) = if plC σ n q (b - 1 + 1) < plMi (plC σ n q) (b - 1) then plC σ n q (b - 1 + 1) else plMi (plC σ n q) (b - 1) := rfl
          rw [show b - 1 + 1 = b by omega] at es
          have hnx := fun ls' h9 he => ih2 (b + 1) ls' (vI (plC σ n q b : Nat)) (by omega) (by omega) (fun h => h) he h9
          rw [show b + 1 - 1 = b by omega] at hnx
          rw [es] at hnx
          clear hQ hC hL ih ih2 es hlf
          generalize plC σ n q b = cw at *
          generalize plMi (plC σ n q) (b - 1) = mi at *
          generalize plC σ n q 0 = c0 at *
          refine blk bk_m_reckons_125 ?_
          simp (disch := omega) only [st_iconst, st_bipush, st_sipush, st_ldc, st_ldc_w, st_lconst, st_ldc2_w, st_iload_n, st_iload, st_lload_n, st_lload, st_aload_n, st_aload, st_istore_n, st_istore, st_lstore_n, st_lstore, st_astore_n, st_astore, st_iinc, st_iadd, st_isub, st_imul, st_idiv, st_irem, st_iand, st_ior, st_ixor, st_ishl, st_ishr, st_iushr, st_ladd, st_lmul, st_ldiv, st_lrem, st_land, st_lor, st_lxor, st_lshl, st_lshr, st_lcmp, st_i2l, st_l2i, st_i2c, st_dup, st_pop, st_dup2, st_iaload0, st_iaload1, st_caload, st_baload, st_laload, st_aaload, st_iastore, st_castore, st_bastore, st_lastore, st_aastore, st_arraylength0, st_arraylength1, st_getfield, st_putfield0, st_putfield1, st_putfield2, st_putfield3, st_getstatic, st_new, st_newarray, st_anewarray, st_goto, st_ifCond, st_if_icmp, st_tableswitch, st_lookupswitch, st_ireturn, st_lreturn, st_return, st_invokevirtual, st_invokestatic0, st_invokestatic1, st_invokespecial0, st_invokespecial1, cZ_eq, cZ_ne, cZ_lt, cZ_ge, cZ_gt, cZ_le, vcb_n, vcb_c, sw_n, sw_c, ↓pI_d, ↓pL_d, ↓pR_d, ↓pA_d, isI_d, isL_d, isL_di, isL_dr, isL_dj, isA_d, inc_c, stO, fV, List.getD_cons_zero, List.getD_cons_succ, List.set_cons_zero, List.set_cons_succ, List.take_succ_cons, List.take_zero, List.drop_succ_cons, List.drop_zero, List.reverse_cons, List.reverse_nil, List.nil_append, List.cons_append, List.append_nil, Option.toList_some, Option.toList_none, List.length_cons, List.length_nil, Nat.reduceAdd, Nat.reduceSub, Nat.reduceLeDiff, Nat.reduceEqDiff, Nat.add_eq, not_false_eq_true, not_true_eq_false, true_and, and_true, false_or, or_true, true_or, or_false, and_self, one_ne_zero_nat, w32_id, w32_n, Int.toNat_natCast, Int.reduceToNat, Nat.zero_add, Nat.zero_le, Nat.le_refl, Int.reduceEq, Int.reduceLT, Int.reduceLE, Int.reduceAdd, Int.reduceSub, Int.reduceMul, t_imp, f_imp, shl1I, hM.1, mdG20 hM, jc, tn_32, cq, mdG5 hM, i8, n2, hv5]
          refine ⟨fun q => absurd q (by omega), fun _ => ⟨by omega, s_m_has (by omega) (by omega) ?_⟩⟩
          have keep : ¬ (bt (ndL (gNd σ)) q = 0 ∧ cw < ls) → WP Γ ρ 0 117 172 [vR (some m), vI n, vI q, vI ls, vI b, vI cw] [] G M' Q := by
            intro hc
            have hh := hnx ls hls9 (by
              by_cases hz : bt (ndL (gNd σ)) q = 0
              · rw [if_pos hz] at hls ⊢
                rw [if_neg (by omega)]
                exact hls
              · rw [if_neg hz] at hls ⊢
                exact hls)
            refine blk bk_m_reckons_172 ?_
            simp (disch := omega) only [st_iconst, st_bipush, st_sipush, st_ldc, st_ldc_w, st_lconst, st_ldc2_w, st_iload_n, st_iload, st_lload_n, st_lload, st_aload_n, st_aload, st_istore_n, st_istore, st_lstore_n, st_lstore, st_astore_n, st_astore, st_iinc, st_iadd, st_isub, st_imul, st_idiv, st_irem, st_iand, st_ior, st_ixor, st_ishl, st_ishr, st_iushr, st_ladd, st_lmul, st_ldiv, st_lrem, st_land, st_lor, st_lxor, st_lshl, st_lshr, st_lcmp, st_i2l, st_l2i, st_i2c, st_dup, st_pop, st_dup2, st_iaload0, st_iaload1, st_caload, st_baload, st_laload, st_aaload, st_iastore, st_castore, st_bastore, st_lastore, st_aastore, st_arraylength0, st_arraylength1, st_getfield, st_putfield0, st_putfield1, st_putfield2, st_putfield3, st_getstatic, st_new, st_newarray, st_anewarray, st_goto, st_ifCond, st_if_icmp, st_tableswitch, st_lookupswitch, st_ireturn, st_lreturn, st_return, st_invokevirtual, st_invokestatic0, st_invokestatic1, st_invokespecial0, st_invokespecial1, cZ_eq, cZ_ne, cZ_lt, cZ_ge, cZ_gt, cZ_le, vcb_n, vcb_c, sw_n, sw_c, ↓pI_d, ↓pL_d, ↓pR_d, ↓pA_d, isI_d, isL_d, isL_di, isL_dr, isL_dj, isA_d, inc_c, stO, fV, List.getD_cons_zero, List.getD_cons_succ, List.set_cons_zero, List.set_cons_succ, List.take_succ_cons, List.take_zero, List.drop_succ_cons, List.drop_zero, List.reverse_cons, List.reverse_nil, List.nil_append, List.cons_append, List.append_nil, Option.toList_some, Option.toList_none, List.length_cons, List.length_nil, Nat.reduceAdd, Nat.reduceSub, Nat.reduceLeDiff, Nat.reduceEqDiff, Nat.add_eq, not_false_eq_true, not_true_eq_false, true_and, and_true, false_or, or_true, true_or, or_false, and_self, one_ne_zero_nat, w32_id, w32_n, Int.toNat_natCast, Int.reduceToNat, Nat.zero_add, Nat.zero_le, Nat.le_refl, Int.reduceEq, Int.reduceLT, Int.reduceLE, Int.reduceAdd, Int.reduceSub, Int.reduceMul, t_imp, f_imp]
            refine blk bk_m_reckons_173 ?_
            simp (disch := omega) only [st_iconst, st_bipush, st_sipush, st_ldc, st_ldc_w, st_lconst, st_ldc2_w, st_iload_n, st_iload, st_lload_n, st_lload, st_aload_n, st_aload, st_istore_n, st_istore, st_lstore_n, st_lstore, st_astore_n, st_astore, st_iinc, st_iadd, st_isub, st_imul, st_idiv, st_irem, st_iand, st_ior, st_ixor, st_ishl, st_ishr, st_iushr, st_ladd, st_lmul, st_ldiv, st_lrem, st_land, st_lor, st_lxor, st_lshl, st_lshr, st_lcmp, st_i2l, st_l2i, st_i2c, st_dup, st_pop, st_dup2, st_iaload0, st_iaload1, st_caload, st_baload, st_laload, st_aaload, st_iastore, st_castore, st_bastore, st_lastore, st_aastore, st_arraylength0, st_arraylength1, st_getfield, st_putfield0, st_putfield1, st_putfield2, st_putfield3, st_getstatic, st_new, st_newarray, st_anewarray, st_goto, st_ifCond, st_if_icmp, st_tableswitch, st_lookupswitch, st_ireturn, st_lreturn, st_return, st_invokevirtual, st_invokestatic0, st_invokestatic1, st_invokespecial0, st_invokespecial1, cZ_eq, cZ_ne, cZ_lt, cZ_ge, cZ_gt, cZ_le, vcb_n, vcb_c, sw_n, sw_c, ↓pI_d, ↓pL_d, ↓pR_d, ↓pA_d, isI_d, isL_d, isL_di, isL_dr, isL_dj, isA_d, inc_c, stO, fV, List.getD_cons_zero, List.getD_cons_succ, List.set_cons_zero, List.set_cons_succ, List.take_succ_cons, List.take_zero, List.drop_succ_cons, List.drop_zero, List.reverse_cons, List.reverse_nil, List.nil_append, List.cons_append, List.append_nil, Option.toList_some, Option.toList_none, List.length_cons, List.length_nil, Nat.reduceAdd, Nat.reduceSub, Nat.reduceLeDiff, Nat.reduceEqDiff, Nat.add_eq, not_false_eq_true, not_true_eq_false, true_and, and_true, false_or, or_true, true_or, or_false, and_self, one_ne_zero_nat, w32_id, w32_n, Int.toNat_natCast, Int.reduceToNat, Nat.zero_add, Nat.zero_le, Nat.le_refl, Int.reduceEq, Int.reduceLT, Int.reduceLE, Int.reduceAdd, Int.reduceSub, Int.reduceMul, t_imp, f_imp]
            exact hh
          refine blk bk_m_reckons_158 ?_
          simp (disch := omega) only [st_iconst, st_bipush, st_sipush, st_ldc, st_ldc_w, st_lconst, st_ldc2_w, st_iload_n, st_iload, st_lload_n, st_lload, st_aload_n, st_aload, st_istore_n, st_istore, st_lstore_n, st_lstore, st_astore_n, st_astore, st_iinc, st_iadd, st_isub, st_imul, st_idiv, st_irem, st_iand, st_ior, st_ixor, st_ishl, st_ishr, st_iushr, st_ladd, st_lmul, st_ldiv, st_lrem, st_land, st_lor, st_lxor, st_lshl, st_lshr, st_lcmp, st_i2l, st_l2i, st_i2c, st_dup, st_pop, st_dup2, st_iaload0, st_iaload1, st_caload, st_baload, st_laload, st_aaload, st_iastore, st_castore, st_bastore, st_lastore, st_aastore, st_arraylength0, st_arraylength1, st_getfield, st_putfield0, st_putfield1, st_putfield2, st_putfield3, st_getstatic, st_new, st_newarray, st_anewarray, st_goto, st_ifCond, st_if_icmp, st_tableswitch, st_lookupswitch, st_ireturn, st_lreturn, st_return, st_invokevirtual, st_invokestatic0, st_invokestatic1, st_invokespecial0, st_invokespecial1, cZ_eq, cZ_ne, cZ_lt, cZ_ge, cZ_gt, cZ_le, vcb_n, vcb_c, sw_n, sw_c, ↓pI_d, ↓pL_d, ↓pR_d, ↓pA_d, isI_d, isL_d, isL_di, isL_dr, isL_dj, isA_d, inc_c, stO, fV, List.getD_cons_zero, List.getD_cons_succ, List.set_cons_zero, List.set_cons_succ, List.take_succ_cons, List.take_zero, List.drop_succ_cons, List.drop_zero, List.reverse_cons, List.reverse_nil, List.nil_append, List.cons_append, List.append_nil, Option.toList_some, Option.toList_none, List.length_cons, List.length_nil, Nat.reduceAdd, Nat.reduceSub, Nat.reduceLeDiff, Nat.reduceEqDiff, Nat.add_eq, not_false_eq_true, not_true_eq_false, true_and, and_true, false_or, or_true, true_or, or_false, and_self, one_ne_zero_nat, w32_id, w32_n, Int.toNat_natCast, Int.reduceToNat, Nat.zero_add, Nat.zero_le, Nat.le_refl, Int.reduceEq, Int.reduceLT, Int.reduceLE, Int.reduceAdd, Int.reduceSub, Int.reduceMul, t_imp, f_imp]
          refine ⟨fun q1 => keep (by omega), fun q1 => ⟨fun q2 => keep (by omega), fun q2 => ?_⟩⟩
          have hh := hnx cw cq90 (by rw [if_pos (by omega)] at hls ⊢; rw [if_pos (by omega)])
          refine blk bk_m_reckons_173 ?_
          simp (disch := omega) only [st_iconst, st_bipush, st_sipush, st_ldc, st_ldc_w, st_lconst, st_ldc2_w, st_iload_n, st_iload, st_lload_n, st_lload, st_aload_n, st_aload, st_istore_n, st_istore, st_lstore_n, st_lstore, st_astore_n, st_astore, st_iinc, st_iadd, st_isub, st_imul, st_idiv, st_irem, st_iand, st_ior, st_ixor, st_ishl, st_ishr, st_iushr, st_ladd, st_lmul, st_ldiv, st_lrem, st_land, st_lor, st_lxor, st_lshl, st_lshr, st_lcmp, st_i2l, st_l2i, st_i2c, st_dup, st_pop, st_dup2, st_iaload0, st_iaload1, st_caload, st_baload, st_laload, st_aaload, st_iastore, st_castore, st_bastore, st_lastore, st_aastore, st_arraylength0, st_arraylength1, st_getfield, st_putfield0, st_putfield1, st_putfield2, st_putfield3, st_getstatic, st_new, st_newarray, st_anewarray, st_goto, st_ifCond, st_if_icmp, st_tableswitch, st_lookupswitch, st_ireturn, st_lreturn, st_return, st_invokevirtual, st_invokestatic0, st_invokestatic1, st_invokespecial0, st_invokespecial1, cZ_eq, cZ_ne, cZ_lt, cZ_ge, cZ_gt, cZ_le, vcb_n, vcb_c, sw_n, sw_c, ↓pI_d, ↓pL_d, ↓pR_d, ↓pA_d, isI_d, isL_d, isL_di, isL_dr, isL_dj, isA_d, inc_c, stO, fV, List.getD_cons_zero, List.getD_cons_succ, List.set_cons_zero, List.set_cons_succ, List.take_succ_cons, List.take_zero, List.drop_succ_cons, List.drop_zero, List.reverse_cons, List.reverse_nil, List.nil_append, List.cons_append, List.append_nil, Option.toList_some, Option.toList_none, List.length_cons, List.length_nil, Nat.reduceAdd, Nat.reduceSub, Nat.reduceLeDiff, Nat.reduceEqDiff, Nat.add_eq, not_false_eq_true, not_true_eq_false, true_and, and_true, false_or, or_true, true_or, or_false, and_self, one_ne_zero_nat, w32_id, w32_n, Int.toNat_natCast, Int.reduceToNat, Nat.zero_add, Nat.zero_le, Nat.le_refl, Int.reduceEq, Int.reduceLT, Int.reduceLE, Int.reduceAdd, Int.reduceSub, Int.reduceMul, t_imp, f_imp]
          exact hh
      have c0 := hC q 0 hqN (by omega)
      rw [Nat.add_zero] at c0
      have go := inner (2 ^ n - 1) 1 (plC σ n q 0) v5 (by omega) (Nat.le_refl _) hv5 (by
        by_cases hz : bt (ndL (gNd σ)) q = 0
        · rw [if_pos hz]
          rfl
        · rw [if_neg hz]) (cb q 0 hqN)
      have jc0 : inA G (rfA G m 20) 0 (32 * (q : Int)) := in_of (mdA20 hM) (by omega) (by omega) (by decide)
      rw [eqq]
      clear hQ hC hL ih inner hlf
      generalize plC σ n q 0 = cz at *
      refine blk bk_m_reckons_108 ?_
      simp (disch := omega) only [st_iconst, st_bipush, st_sipush, st_ldc, st_ldc_w, st_lconst, st_ldc2_w, st_iload_n, st_iload, st_lload_n, st_lload, st_aload_n, st_aload, st_istore_n, st_istore, st_lstore_n, st_lstore, st_astore_n, st_astore, st_iinc, st_iadd, st_isub, st_imul, st_idiv, st_irem, st_iand, st_ior, st_ixor, st_ishl, st_ishr, st_iushr, st_ladd, st_lmul, st_ldiv, st_lrem, st_land, st_lor, st_lxor, st_lshl, st_lshr, st_lcmp, st_i2l, st_l2i, st_i2c, st_dup, st_pop, st_dup2, st_iaload0, st_iaload1, st_caload, st_baload, st_laload, st_aaload, st_iastore, st_castore, st_bastore, st_lastore, st_aastore, st_arraylength0, st_arraylength1, st_getfield, st_putfield0, st_putfield1, st_putfield2, st_putfield3, st_getstatic, st_new, st_newarray, st_anewarray, st_goto, st_ifCond, st_if_icmp, st_tableswitch, st_lookupswitch, st_ireturn, st_lreturn, st_return, st_invokevirtual, st_invokestatic0, st_invokestatic1, st_invokespecial0, st_invokespecial1, cZ_eq, cZ_ne, cZ_lt, cZ_ge, cZ_gt, cZ_le, vcb_n, vcb_c, sw_n, sw_c, ↓pI_d, ↓pL_d, ↓pR_d, ↓pA_d, isI_d, isL_d, isL_di, isL_dr, isL_dj, isA_d, inc_c, stO, fV, List.getD_cons_zero, List.getD_cons_succ, List.set_cons_zero, List.set_cons_succ, List.take_succ_cons, List.take_zero, List.drop_succ_cons, List.drop_zero, List.reverse_cons, List.reverse_nil, List.nil_append, List.cons_append, List.append_nil, Option.toList_some, Option.toList_none, List.length_cons, List.length_nil, Nat.reduceAdd, Nat.reduceSub, Nat.reduceLeDiff, Nat.reduceEqDiff, Nat.add_eq, not_false_eq_true, not_true_eq_false, true_and, and_true, false_or, or_true, true_or, or_false, and_self, one_ne_zero_nat, w32_id, w32_n, Int.toNat_natCast, Int.reduceToNat, Nat.zero_add, Nat.zero_le, Nat.le_refl, Int.reduceEq, Int.reduceLT, Int.reduceLE, Int.reduceAdd, Int.reduceSub, Int.reduceMul, t_imp, f_imp, hM.1, mdG20 hM, jc0, tn_32z, c0, hv3, hv4]
      exact ⟨fun q => absurd q (by omega), fun _ => go⟩
  -- the first half: costs
  have costs : ∀ (r p : Nat) (M' : aM) (v3 v4 : aV), p + r = tdN (gTd σ) → ¬ isL v3 → ¬ isL v4 → mRk G m M M' → (∀ q w, q < p → w < 2 ^ n → M' (rfA G m 20) (32 * q + w) = (plC σ n q w : Int)) → WP Γ ρ 0 117 2 [vR (some m), vI n, vI p, v3, v4, vJ] [] G M' Q := by
    intro r
    induction r with
    | zero =>
      intro p M' v3 v4 hp hv3 hv4 hF hC
      obtain rfl : p = tdN (gTd σ) := by omega
      obtain ⟨t0, t4, t9, t10, t11, tp, ta⟩ := (MV_rk hM hF hV).1
      have jN : inA G (rfA G m 23) 0 (tdN (gTd σ) : Int) := in_of (mdA23 hM) (by omega) (by omega) (by decide)
      have go := left (tdN (gTd σ)) (wr M' (rfA G m 23) (tdN (gTd σ)) 0) v3 v4 vJ (Nat.le_refl _) hv3 hv4 (fun h => h) (mRk_w hM (by omega) hF) (fun p w hp hw => by rw [wr_c _ _ _ (Ne.symm c2320)]; exact hC p w hp hw) (fun j h1 h2 => by
        obtain rfl : j = tdN (gTd σ) := by omega
        rw [wr_s, Nat.sub_self]
        rfl)
      have t0' : wr M' (rfA G m 23) (tdN (gTd σ)) 0 (rfA G m 3) 0 = (tdN (gTd σ) : Int) := by rw [wr_c _ _ _ (md_ne hM (by decide) (by decide) (by decide))]; exact t0
      clear left hQ hC
      refine blk bk_m_reckons_2 ?_
      simp (disch := omega) only [st_iconst, st_bipush, st_sipush, st_ldc, st_ldc_w, st_lconst, st_ldc2_w, st_iload_n, st_iload, st_lload_n, st_lload, st_aload_n, st_aload, st_istore_n, st_istore, st_lstore_n, st_lstore, st_astore_n, st_astore, st_iinc, st_iadd, st_isub, st_imul, st_idiv, st_irem, st_iand, st_ior, st_ixor, st_ishl, st_ishr, st_iushr, st_ladd, st_lmul, st_ldiv, st_lrem, st_land, st_lor, st_lxor, st_lshl, st_lshr, st_lcmp, st_i2l, st_l2i, st_i2c, st_dup, st_pop, st_dup2, st_iaload0, st_iaload1, st_caload, st_baload, st_laload, st_aaload, st_iastore, st_castore, st_bastore, st_lastore, st_aastore, st_arraylength0, st_arraylength1, st_getfield, st_putfield0, st_putfield1, st_putfield2, st_putfield3, st_getstatic, st_new, st_newarray, st_anewarray, st_goto, st_ifCond, st_if_icmp, st_tableswitch, st_lookupswitch, st_ireturn, st_lreturn, st_return, st_invokevirtual, st_invokestatic0, st_invokestatic1, st_invokespecial0, st_invokespecial1, cZ_eq, cZ_ne, cZ_lt, cZ_ge, cZ_gt, cZ_le, vcb_n, vcb_c, sw_n, sw_c, ↓pI_d, ↓pL_d, ↓pR_d, ↓pA_d, isI_d, isL_d, isL_di, isL_dr, isL_dj, isA_d, inc_c, stO, fV, List.getD_cons_zero, List.getD_cons_succ, List.set_cons_zero, List.set_cons_succ, List.take_succ_cons, List.take_zero, List.drop_succ_cons, List.drop_zero, List.reverse_cons, List.reverse_nil, List.nil_append, List.cons_append, List.append_nil, Option.toList_some, Option.toList_none, List.length_cons, List.length_nil, Nat.reduceAdd, Nat.reduceSub, Nat.reduceLeDiff, Nat.reduceEqDiff, Nat.add_eq, not_false_eq_true, not_true_eq_false, true_and, and_true, false_or, or_true, true_or, or_false, and_self, one_ne_zero_nat, w32_id, w32_n, Int.toNat_natCast, Int.reduceToNat, Nat.zero_add, Nat.zero_le, Nat.le_refl, Int.reduceEq, Int.reduceLT, Int.reduceLE, Int.reduceAdd, Int.reduceSub, Int.reduceMul, t_imp, f_imp, hM.1, mdG3 hM, j0, t0]
      refine ⟨fun _ => ?_, fun q => absurd (Int.le_refl _) q⟩
      refine blk bk_m_reckons_87 ?_
      simp (disch := omega) only [st_iconst, st_bipush, st_sipush, st_ldc, st_ldc_w, st_lconst, st_ldc2_w, st_iload_n, st_iload, st_lload_n, st_lload, st_aload_n, st_aload, st_istore_n, st_istore, st_lstore_n, st_lstore, st_astore_n, st_astore, st_iinc, st_iadd, st_isub, st_imul, st_idiv, st_irem, st_iand, st_ior, st_ixor, st_ishl, st_ishr, st_iushr, st_ladd, st_lmul, st_ldiv, st_lrem, st_land, st_lor, st_lxor, st_lshl, st_lshr, st_lcmp, st_i2l, st_l2i, st_i2c, st_dup, st_pop, st_dup2, st_iaload0, st_iaload1, st_caload, st_baload, st_laload, st_aaload, st_iastore, st_castore, st_bastore, st_lastore, st_aastore, st_arraylength0, st_arraylength1, st_getfield, st_putfield0, st_putfield1, st_putfield2, st_putfield3, st_getstatic, st_new, st_newarray, st_anewarray, st_goto, st_ifCond, st_if_icmp, st_tableswitch, st_lookupswitch, st_ireturn, st_lreturn, st_return, st_invokevirtual, st_invokestatic0, st_invokestatic1, st_invokespecial0, st_invokespecial1, cZ_eq, cZ_ne, cZ_lt, cZ_ge, cZ_gt, cZ_le, vcb_n, vcb_c, sw_n, sw_c, ↓pI_d, ↓pL_d, ↓pR_d, ↓pA_d, isI_d, isL_d, isL_di, isL_dr, isL_dj, isA_d, inc_c, stO, fV, List.getD_cons_zero, List.getD_cons_succ, List.set_cons_zero, List.set_cons_succ, List.take_succ_cons, List.take_zero, List.drop_succ_cons, List.drop_zero, List.reverse_cons, List.reverse_nil, List.nil_append, List.cons_append, List.append_nil, Option.toList_some, Option.toList_none, List.length_cons, List.length_nil, Nat.reduceAdd, Nat.reduceSub, Nat.reduceLeDiff, Nat.reduceEqDiff, Nat.add_eq, not_false_eq_true, not_true_eq_false, true_and, and_true, false_or, or_true, true_or, or_false, and_self, one_ne_zero_nat, w32_id, w32_n, Int.toNat_natCast, Int.reduceToNat, Nat.zero_add, Nat.zero_le, Nat.le_refl, Int.reduceEq, Int.reduceLT, Int.reduceLE, Int.reduceAdd, Int.reduceSub, Int.reduceMul, t_imp, f_imp, hM.1, mdG23 hM, mdG3 hM, j0, t0, t0', jN]
      exact go
    | succ r ih =>
      intro p M' v3 v4 hp hv3 hv4 hF hC
      have hpN : p < tdN (gTd σ) := by omega
      obtain ⟨t0, t4, t9, t10, t11, tp, ta⟩ := (MV_rk hM hF hV).1
      have inner : ∀ (r b : Nat) (M2 : aM) (v4 : aV), b + r = 2 ^ n → ¬ isL v4 → mRk G m M M2 → (∀ q w, (q < p ∧ w < 2 ^ n) ∨ (q = p ∧ w < b) → M2 (rfA G m 20) (32 * q + w) = (plC σ n q w : Int)) → WP Γ ρ 0 117 14 [vR (some m), vI n, vI p, vI b, v4, vJ] [] G M2 Q := by
        intro r
        induction r with
        | zero =>
          intro b M2 v4 hb hv4 F2 C2
          obtain rfl : b = 2 ^ n := by omega
          have hnx := ih (p + 1) M2 (vI (2 ^ n : Nat)) v4 (by omega) (fun h => h) hv4 F2 (fun q w hq hw => C2 q w (by omega))
          clear hQ hC C2 ih left
          refine blk bk_m_reckons_14 ?_
          simp (disch := omega) only [st_iconst, st_bipush, st_sipush, st_ldc, st_ldc_w, st_lconst, st_ldc2_w, st_iload_n, st_iload, st_lload_n, st_lload, st_aload_n, st_aload, st_istore_n, st_istore, st_lstore_n, st_lstore, st_astore_n, st_astore, st_iinc, st_iadd, st_isub, st_imul, st_idiv, st_irem, st_iand, st_ior, st_ixor, st_ishl, st_ishr, st_iushr, st_ladd, st_lmul, st_ldiv, st_lrem, st_land, st_lor, st_lxor, st_lshl, st_lshr, st_lcmp, st_i2l, st_l2i, st_i2c, st_dup, st_pop, st_dup2, st_iaload0, st_iaload1, st_caload, st_baload, st_laload, st_aaload, st_iastore, st_castore, st_bastore, st_lastore, st_aastore, st_arraylength0, st_arraylength1, st_getfield, st_putfield0, st_putfield1, st_putfield2, st_putfield3, st_getstatic, st_new, st_newarray, st_anewarray, st_goto, st_ifCond, st_if_icmp, st_tableswitch, st_lookupswitch, st_ireturn, st_lreturn, st_return, st_invokevirtual, st_invokestatic0, st_invokestatic1, st_invokespecial0, st_invokespecial1, cZ_eq, cZ_ne, cZ_lt, cZ_ge, cZ_gt, cZ_le, vcb_n, vcb_c, sw_n, sw_c, ↓pI_d, ↓pL_d, ↓pR_d, ↓pA_d, isI_d, isL_d, isL_di, isL_dr, isL_dj, isA_d, inc_c, stO, fV, List.getD_cons_zero, List.getD_cons_succ, List.set_cons_zero, List.set_cons_succ, List.take_succ_cons, List.take_zero, List.drop_succ_cons, List.drop_zero, List.reverse_cons, List.reverse_nil, List.nil_append, List.cons_append, List.append_nil, Option.toList_some, Option.toList_none, List.length_cons, List.length_nil, Nat.reduceAdd, Nat.reduceSub, Nat.reduceLeDiff, Nat.reduceEqDiff, Nat.add_eq, not_false_eq_true, not_true_eq_false, true_and, and_true, false_or, or_true, true_or, or_false, and_self, one_ne_zero_nat, w32_id, w32_n, Int.toNat_natCast, Int.reduceToNat, Nat.zero_add, Nat.zero_le, Nat.le_refl, Int.reduceEq, Int.reduceLT, Int.reduceLE, Int.reduceAdd, Int.reduceSub, Int.reduceMul, t_imp, f_imp, shl1I]
          refine ⟨fun _ => ?_, fun q => absurd (Int.le_refl _) q⟩
          refine blk bk_m_reckons_81 ?_
          simp (disch := omega) only [st_iconst, st_bipush, st_sipush, st_ldc, st_ldc_w, st_lconst, st_ldc2_w, st_iload_n, st_iload, st_lload_n, st_lload, st_aload_n, st_aload, st_istore_n, st_istore, st_lstore_n, st_lstore, st_astore_n, st_astore, st_iinc, st_iadd, st_isub, st_imul, st_idiv, st_irem, st_iand, st_ior, st_ixor, st_ishl, st_ishr, st_iushr, st_ladd, st_lmul, st_ldiv, st_lrem, st_land, st_lor, st_lxor, st_lshl, st_lshr, st_lcmp, st_i2l, st_l2i, st_i2c, st_dup, st_pop, st_dup2, st_iaload0, st_iaload1, st_caload, st_baload, st_laload, st_aaload, st_iastore, st_castore, st_bastore, st_lastore, st_aastore, st_arraylength0, st_arraylength1, st_getfield, st_putfield0, st_putfield1, st_putfield2, st_putfield3, st_getstatic, st_new, st_newarray, st_anewarray, st_goto, st_ifCond, st_if_icmp, st_tableswitch, st_lookupswitch, st_ireturn, st_lreturn, st_return, st_invokevirtual, st_invokestatic0, st_invokestatic1, st_invokespecial0, st_invokespecial1, cZ_eq, cZ_ne, cZ_lt, cZ_ge, cZ_gt, cZ_le, vcb_n, vcb_c, sw_n, sw_c, ↓pI_d, ↓pL_d, ↓pR_d, ↓pA_d, isI_d, isL_d, isL_di, isL_dr, isL_dj, isA_d, inc_c, stO, fV, List.getD_cons_zero, List.getD_cons_succ, List.set_cons_zero, List.set_cons_succ, List.take_succ_cons, List.take_zero, List.drop_succ_cons, List.drop_zero, List.reverse_cons, List.reverse_nil, List.nil_append, List.cons_append, List.append_nil, Option.toList_some, Option.toList_none, List.length_cons, List.length_nil, Nat.reduceAdd, Nat.reduceSub, Nat.reduceLeDiff, Nat.reduceEqDiff, Nat.add_eq, not_false_eq_true, not_true_eq_false, true_and, and_true, false_or, or_true, true_or, or_false, and_self, one_ne_zero_nat, w32_id, w32_n, Int.toNat_natCast, Int.reduceToNat, Nat.zero_add, Nat.zero_le, Nat.le_refl, Int.reduceEq, Int.reduceLT, Int.reduceLE, Int.reduceAdd, Int.reduceSub, Int.reduceMul, t_imp, f_imp]
          exact hnx
        | succ r ih2 =>
          intro b M2 v4 hb hv4 F2 C2
          have hb32 : b < 32 := by omega
          have bs := fun k => plS_b (lo := ndL (gNd σ)) (met := ndE (gNd σ)) (mo := ndM (gNd σ)) (w := b) hS.1 hpN (hS.2.1.2.2.2.2.2.2 p hpN) k
          have bs9 : ∀ k, (plS (gTd σ) (ndL (gNd σ)) (ndE (gNd σ)) p (ndM (gNd σ)) (ndT (gNd σ) p) b k).2 ≤ 90 := fun k => plC_90 (n := k) (w := b) hS hpN
          have months : ∀ (r k : Nat) (M3 : aM), k + r = n → mRk G m M2 M3 → M3 (rfA G m 20) = M2 (rfA G m 20) → M3 (rfA G m 18) p = ((plS (gTd σ) (ndL (gNd σ)) (ndE (gNd σ)) p (ndM (gNd σ)) (ndT (gNd σ) p) b k).1 : Int) → M3 m 19 = ((plS (gTd σ) (ndL (gNd σ)) (ndE (gNd σ)) p (ndM (gNd σ)) (ndT (gNd σ) p) b k).2 : Int) → WP Γ ρ 0 117 28 [vR (some m), vI n, vI p, vI b, vI k, vJ] [] G M3 Q := by
            intro r
            induction r with
            | zero =>
              intro k M3 hk F3 h20 h18 h19
              obtain rfl : k = n := by omega
              have e19 : M3 m 19 = (plC σ k p b : Int) := h19
              have jc : inA G (rfA G m 20) 0 (32 * (p : Int) + (b : Int)) := in_of (mdA20 hM) (by omega) (by omega) (by decide)
              have hnx := ih2 (b + 1) (wr M3 (rfA G m 20) (32 * p + b) (plC σ k p b : Int)) (vI (k : Nat)) (by omega) (fun h => h) (mRk_w hM (by omega) (mRk_t F2 F3)) (fun q w hq => by
                by_cases e : 32 * q + w = 32 * p + b
                · obtain ⟨rfl, rfl⟩ : q = p ∧ w = b := by omega
                  exact wr_s _ _ _ _
                · rw [wr_o _ _ e, h20]
                  exact C2 q w (by omega))
              clear hQ hC C2 ih ih2 left bs bs9 h19 h18
              generalize plC σ k p b = cw at *
              refine blk bk_m_reckons_28 ?_
              simp (disch := omega) only [st_iconst, st_bipush, st_sipush, st_ldc, st_ldc_w, st_lconst, st_ldc2_w, st_iload_n, st_iload, st_lload_n, st_lload, st_aload_n, st_aload, st_istore_n, st_istore, st_lstore_n, st_lstore, st_astore_n, st_astore, st_iinc, st_iadd, st_isub, st_imul, st_idiv, st_irem, st_iand, st_ior, st_ixor, st_ishl, st_ishr, st_iushr, st_ladd, st_lmul, st_ldiv, st_lrem, st_land, st_lor, st_lxor, st_lshl, st_lshr, st_lcmp, st_i2l, st_l2i, st_i2c, st_dup, st_pop, st_dup2, st_iaload0, st_iaload1, st_caload, st_baload, st_laload, st_aaload, st_iastore, st_castore, st_bastore, st_lastore, st_aastore, st_arraylength0, st_arraylength1, st_getfield, st_putfield0, st_putfield1, st_putfield2, st_putfield3, st_getstatic, st_new, st_newarray, st_anewarray, st_goto, st_ifCond, st_if_icmp, st_tableswitch, st_lookupswitch, st_ireturn, st_lreturn, st_return, st_invokevirtual, st_invokestatic0, st_invokestatic1, st_invokespecial0, st_invokespecial1, cZ_eq, cZ_ne, cZ_lt, cZ_ge, cZ_gt, cZ_le, vcb_n, vcb_c, sw_n, sw_c, ↓pI_d, ↓pL_d, ↓pR_d, ↓pA_d, isI_d, isL_d, isL_di, isL_dr, isL_dj, isA_d, inc_c, stO, fV, List.getD_cons_zero, List.getD_cons_succ, List.set_cons_zero, List.set_cons_succ, List.take_succ_cons, List.take_zero, List.drop_succ_cons, List.drop_zero, List.reverse_cons, List.reverse_nil, List.nil_append, List.cons_append, List.append_nil, Option.toList_some, Option.toList_none, List.length_cons, List.length_nil, Nat.reduceAdd, Nat.reduceSub, Nat.reduceLeDiff, Nat.reduceEqDiff, Nat.add_eq, not_false_eq_true, not_true_eq_false, true_and, and_true, false_or, or_true, true_or, or_false, and_self, one_ne_zero_nat, w32_id, w32_n, Int.toNat_natCast, Int.reduceToNat, Nat.zero_add, Nat.zero_le, Nat.le_refl, Int.reduceEq, Int.reduceLT, Int.reduceLE, Int.reduceAdd, Int.reduceSub, Int.reduceMul, t_imp, f_imp]
              refine ⟨fun _ => ?_, fun q => absurd (Int.le_refl _) q⟩
              refine blk bk_m_reckons_60 ?_
              simp (disch := omega) only [st_iconst, st_bipush, st_sipush, st_ldc, st_ldc_w, st_lconst, st_ldc2_w, st_iload_n, st_iload, st_lload_n, st_lload, st_aload_n, st_aload, st_istore_n, st_istore, st_lstore_n, st_lstore, st_astore_n, st_astore, st_iinc, st_iadd, st_isub, st_imul, st_idiv, st_irem, st_iand, st_ior, st_ixor, st_ishl, st_ishr, st_iushr, st_ladd, st_lmul, st_ldiv, st_lrem, st_land, st_lor, st_lxor, st_lshl, st_lshr, st_lcmp, st_i2l, st_l2i, st_i2c, st_dup, st_pop, st_dup2, st_iaload0, st_iaload1, st_caload, st_baload, st_laload, st_aaload, st_iastore, st_castore, st_bastore, st_lastore, st_aastore, st_arraylength0, st_arraylength1, st_getfield, st_putfield0, st_putfield1, st_putfield2, st_putfield3, st_getstatic, st_new, st_newarray, st_anewarray, st_goto, st_ifCond, st_if_icmp, st_tableswitch, st_lookupswitch, st_ireturn, st_lreturn, st_return, st_invokevirtual, st_invokestatic0, st_invokestatic1, st_invokespecial0, st_invokespecial1, cZ_eq, cZ_ne, cZ_lt, cZ_ge, cZ_gt, cZ_le, vcb_n, vcb_c, sw_n, sw_c, ↓pI_d, ↓pL_d, ↓pR_d, ↓pA_d, isI_d, isL_d, isL_di, isL_dr, isL_dj, isA_d, inc_c, stO, fV, List.getD_cons_zero, List.getD_cons_succ, List.set_cons_zero, List.set_cons_succ, List.take_succ_cons, List.take_zero, List.drop_succ_cons, List.drop_zero, List.reverse_cons, List.reverse_nil, List.nil_append, List.cons_append, List.append_nil, Option.toList_some, Option.toList_none, List.length_cons, List.length_nil, Nat.reduceAdd, Nat.reduceSub, Nat.reduceLeDiff, Nat.reduceEqDiff, Nat.add_eq, not_false_eq_true, not_true_eq_false, true_and, and_true, false_or, or_true, true_or, or_false, and_self, one_ne_zero_nat, w32_id, w32_n, Int.toNat_natCast, Int.reduceToNat, Nat.zero_add, Nat.zero_le, Nat.le_refl, Int.reduceEq, Int.reduceLT, Int.reduceLE, Int.reduceAdd, Int.reduceSub, Int.reduceMul, t_imp, f_imp, hM.1, mdG20 hM, jc, tn_32, e19]
              exact hnx
            | succ r ih3 =>
              intro k M3 hk F3 h20 h18 h19
              have F30 := mRk_t F2 F3
              have V3 := MV_rk hM F30 hV
              obtain ⟨n0, n1, n2, n3, n4, n5⟩ := mv0 V3.2.1
              have hnx := ih3 (k + 1)
              have e : plS (gTd σ) (ndL (gNd σ)) (ndE (gNd σ)) p (ndM (gNd σ)) (ndT (gNd σ) p) b (k + 1) = ((if bt b k = 0 then (plL (gTd σ) (ndL (gNd σ)) (ndE (gNd σ)) p (ndM (gNd σ)) b k (plS (gTd σ) (ndL (gNd σ)) (ndE (gNd σ)) p (ndM (gNd σ)) (ndT (gNd σ) p) b k).1).1 else (plL (gTd σ) (ndL (gNd σ)) (ndE (gNd σ)) p (ndM (gNd σ)) b k (plS (gTd σ) (ndL (gNd σ)) (ndE (gNd σ)) p (ndM (gNd σ)) (ndT (gNd σ) p) b k).1).1 - tdRe (gTd σ)), (plS (gTd σ) (ndL (gNd σ)) (ndE (gNd σ)) p (ndM (gNd σ)) (ndT (gNd σ) p) b k).2 + (plL (gTd σ) (ndL (gNd σ)) (ndE (gNd σ)) p (ndM (gNd σ)) b k (plS (gTd σ) (ndL (gNd σ)) (ndE (gNd σ)) p (ndM (gNd σ)) (ndT (gNd σ) p) b k).1).2) := rfl
              rw [e] at hnx
              have b1 := (bs k).1
              have b9 := bs9 k
              clear e ih3 hQ bs bs9 C2 hC ih ih2 left
              generalize plS (gTd σ) (ndL (gNd σ)) (ndE (gNd σ)) p (ndM (gNd σ)) (ndT (gNd σ) p) b k = s at *
              obtain ⟨x, h⟩ := s
              dsimp only at hnx b1 b9 h18 h19
              have e1 : (ndM (gNd σ) : Int) + (k : Int) = ((ndM (gNd σ) + k : Nat) : Int) := by omega
              have b01 := bt_01 b k
              refine blk bk_m_reckons_28 ?_
              simp (disch := omega) only [st_iconst, st_bipush, st_sipush, st_ldc, st_ldc_w, st_lconst, st_ldc2_w, st_iload_n, st_iload, st_lload_n, st_lload, st_aload_n, st_aload, st_istore_n, st_istore, st_lstore_n, st_lstore, st_astore_n, st_astore, st_iinc, st_iadd, st_isub, st_imul, st_idiv, st_irem, st_iand, st_ior, st_ixor, st_ishl, st_ishr, st_iushr, st_ladd, st_lmul, st_ldiv, st_lrem, st_land, st_lor, st_lxor, st_lshl, st_lshr, st_lcmp, st_i2l, st_l2i, st_i2c, st_dup, st_pop, st_dup2, st_iaload0, st_iaload1, st_caload, st_baload, st_laload, st_aaload, st_iastore, st_castore, st_bastore, st_lastore, st_aastore, st_arraylength0, st_arraylength1, st_getfield, st_putfield0, st_putfield1, st_putfield2, st_putfield3, st_getstatic, st_new, st_newarray, st_anewarray, st_goto, st_ifCond, st_if_icmp, st_tableswitch, st_lookupswitch, st_ireturn, st_lreturn, st_return, st_invokevirtual, st_invokestatic0, st_invokestatic1, st_invokespecial0, st_invokespecial1, cZ_eq, cZ_ne, cZ_lt, cZ_ge, cZ_gt, cZ_le, vcb_n, vcb_c, sw_n, sw_c, ↓pI_d, ↓pL_d, ↓pR_d, ↓pA_d, isI_d, isL_d, isL_di, isL_dr, isL_dj, isA_d, inc_c, stO, fV, List.getD_cons_zero, List.getD_cons_succ, List.set_cons_zero, List.set_cons_succ, List.take_succ_cons, List.take_zero, List.drop_succ_cons, List.drop_zero, List.reverse_cons, List.reverse_nil, List.nil_append, List.cons_append, List.append_nil, Option.toList_some, Option.toList_none, List.length_cons, List.length_nil, Nat.reduceAdd, Nat.reduceSub, Nat.reduceLeDiff, Nat.reduceEqDiff, Nat.add_eq, not_false_eq_true, not_true_eq_false, true_and, and_true, false_or, or_true, true_or, or_false, and_self, one_ne_zero_nat, w32_id, w32_n, Int.toNat_natCast, Int.reduceToNat, Nat.zero_add, Nat.zero_le, Nat.le_refl, Int.reduceEq, Int.reduceLT, Int.reduceLE, Int.reduceAdd, Int.reduceSub, Int.reduceMul, t_imp, f_imp, hM.1, mdG5 hM, i0, n0, e1]
              refine ⟨fun q => absurd q (by omega), fun _ => ⟨by omega, s_m_has (by omega) (by omega) ?_⟩⟩
              refine blk bk_m_reckons_51 ?_
              simp (disch := omega) only [st_iconst, st_bipush, st_sipush, st_ldc, st_ldc_w, st_lconst, st_ldc2_w, st_iload_n, st_iload, st_lload_n, st_lload, st_aload_n, st_aload, st_istore_n, st_istore, st_lstore_n, st_lstore, st_astore_n, st_astore, st_iinc, st_iadd, st_isub, st_imul, st_idiv, st_irem, st_iand, st_ior, st_ixor, st_ishl, st_ishr, st_iushr, st_ladd, st_lmul, st_ldiv, st_lrem, st_land, st_lor, st_lxor, st_lshl, st_lshr, st_lcmp, st_i2l, st_l2i, st_i2c, st_dup, st_pop, st_dup2, st_iaload0, st_iaload1, st_caload, st_baload, st_laload, st_aaload, st_iastore, st_castore, st_bastore, st_lastore, st_aastore, st_arraylength0, st_arraylength1, st_getfield, st_putfield0, st_putfield1, st_putfield2, st_putfield3, st_getstatic, st_new, st_newarray, st_anewarray, st_goto, st_ifCond, st_if_icmp, st_tableswitch, st_lookupswitch, st_ireturn, st_lreturn, st_return, st_invokevirtual, st_invokestatic0, st_invokestatic1, st_invokespecial0, st_invokespecial1, cZ_eq, cZ_ne, cZ_lt, cZ_ge, cZ_gt, cZ_le, vcb_n, vcb_c, sw_n, sw_c, ↓pI_d, ↓pL_d, ↓pR_d, ↓pA_d, isI_d, isL_d, isL_di, isL_dr, isL_dj, isA_d, inc_c, stO, fV, List.getD_cons_zero, List.getD_cons_succ, List.set_cons_zero, List.set_cons_succ, List.take_succ_cons, List.take_zero, List.drop_succ_cons, List.drop_zero, List.reverse_cons, List.reverse_nil, List.nil_append, List.cons_append, List.append_nil, Option.toList_some, Option.toList_none, List.length_cons, List.length_nil, Nat.reduceAdd, Nat.reduceSub, Nat.reduceLeDiff, Nat.reduceEqDiff, Nat.add_eq, not_false_eq_true, not_true_eq_false, true_and, and_true, false_or, or_true, true_or, or_false, and_self, one_ne_zero_nat, w32_id, w32_n, Int.toNat_natCast, Int.reduceToNat, Nat.zero_add, Nat.zero_le, Nat.le_refl, Int.reduceEq, Int.reduceLT, Int.reduceLE, Int.reduceAdd, Int.reduceSub, Int.reduceMul, t_imp, f_imp, hM.1]
              refine ⟨by omega, s_m_goes (met := ndE (gNd σ)) (lo := ndL (gNd σ)) (x := x) (td := gTd σ) (h0 := h) (by omega) hM hS.1 V3.1 hpN (by omega) n3 (by omega) n2 (by omega) (by omega) (by omega) h19 h18 b1 (fun aw haw hiff q hq => ?_)⟩
              have hq2 : q = plL (gTd σ) (ndL (gNd σ)) (ndE (gNd σ)) p (ndM (gNd σ)) b k x := by
                rw [hq]
                unfold plL
                have : aw = if bt b k = 0 ∧ bt (ndL (gNd σ)) p = 0 then 0 else 1 := by
                  by_cases hc : bt b k = 0 ∧ bt (ndL (gNd σ)) p = 0
                  · rw [if_pos hc]
                    exact hiff.mpr hc
                  · rw [if_neg hc]
                    have : ¬ aw = 0 := fun z => hc (hiff.mp z)
                    omega
                rw [this]
              rw [← hq2] at hnx
              have hh := hnx (wr (wr M3 (rfA G m 18) p ((if bt b k = 0 then q.1 else q.1 - tdRe (gTd σ) : Nat) : Int)) m 19 ((h + q.2 : Nat) : Int)) (by omega) (mRk_19 (mRk_w hM (by omega) F3)) (by rw [wr_c _ _ _ c20m, wr_c _ _ _ c2018]; exact h20) (by rw [wr_c _ _ _ c18m, wr_s]) (wr_s _ _ _ _)
              clear hnx hq hq2
              generalize (if bt b k = 0 then q.1 else q.1 - tdRe (gTd σ)) = y at *
              refine blk bk_m_reckons_54 ?_
              simp (disch := omega) only [st_iconst, st_bipush, st_sipush, st_ldc, st_ldc_w, st_lconst, st_ldc2_w, st_iload_n, st_iload, st_lload_n, st_lload, st_aload_n, st_aload, st_istore_n, st_istore, st_lstore_n, st_lstore, st_astore_n, st_astore, st_iinc, st_iadd, st_isub, st_imul, st_idiv, st_irem, st_iand, st_ior, st_ixor, st_ishl, st_ishr, st_iushr, st_ladd, st_lmul, st_ldiv, st_lrem, st_land, st_lor, st_lxor, st_lshl, st_lshr, st_lcmp, st_i2l, st_l2i, st_i2c, st_dup, st_pop, st_dup2, st_iaload0, st_iaload1, st_caload, st_baload, st_laload, st_aaload, st_iastore, st_castore, st_bastore, st_lastore, st_aastore, st_arraylength0, st_arraylength1, st_getfield, st_putfield0, st_putfield1, st_putfield2, st_putfield3, st_getstatic, st_new, st_newarray, st_anewarray, st_goto, st_ifCond, st_if_icmp, st_tableswitch, st_lookupswitch, st_ireturn, st_lreturn, st_return, st_invokevirtual, st_invokestatic0, st_invokestatic1, st_invokespecial0, st_invokespecial1, cZ_eq, cZ_ne, cZ_lt, cZ_ge, cZ_gt, cZ_le, vcb_n, vcb_c, sw_n, sw_c, ↓pI_d, ↓pL_d, ↓pR_d, ↓pA_d, isI_d, isL_d, isL_di, isL_dr, isL_dj, isA_d, inc_c, stO, fV, List.getD_cons_zero, List.getD_cons_succ, List.set_cons_zero, List.set_cons_succ, List.take_succ_cons, List.take_zero, List.drop_succ_cons, List.drop_zero, List.reverse_cons, List.reverse_nil, List.nil_append, List.cons_append, List.append_nil, Option.toList_some, Option.toList_none, List.length_cons, List.length_nil, Nat.reduceAdd, Nat.reduceSub, Nat.reduceLeDiff, Nat.reduceEqDiff, Nat.add_eq, not_false_eq_true, not_true_eq_false, true_and, and_true, false_or, or_true, true_or, or_false, and_self, one_ne_zero_nat, w32_id, w32_n, Int.toNat_natCast, Int.reduceToNat, Nat.zero_add, Nat.zero_le, Nat.le_refl, Int.reduceEq, Int.reduceLT, Int.reduceLE, Int.reduceAdd, Int.reduceSub, Int.reduceMul, t_imp, f_imp]
              exact hh
          have call : WPm Γ (ρ - 1) 0 115 [vR (some m)] G M2 (fun u G' M3 => WP Γ ρ 0 117 25 [vR (some m), vI n, vI p, vI b, v4, vJ] u.toList G' M3 Q) := by
            refine s_m_tires hM (fun M3 a1 a2 a3 a4 => ?_)
            have n5 := (mv0 (MV_rk hM F2 hV).2.1).2.2.2.2.2
            have go := months n 0 M3 (by omega) ⟨fun c h1 h2 _ _ => a4 c h1 h2, a3⟩ (a4 _ c20m c2018) (by rw [a1 p (by omega)]; exact n5 p hpN) a2
            clear months hQ hC C2 ih ih2 left bs bs9
            refine blk bk_m_reckons_25 ?_
            simp (disch := omega) only [st_iconst, st_bipush, st_sipush, st_ldc, st_ldc_w, st_lconst, st_ldc2_w, st_iload_n, st_iload, st_lload_n, st_lload, st_aload_n, st_aload, st_istore_n, st_istore, st_lstore_n, st_lstore, st_astore_n, st_astore, st_iinc, st_iadd, st_isub, st_imul, st_idiv, st_irem, st_iand, st_ior, st_ixor, st_ishl, st_ishr, st_iushr, st_ladd, st_lmul, st_ldiv, st_lrem, st_land, st_lor, st_lxor, st_lshl, st_lshr, st_lcmp, st_i2l, st_l2i, st_i2c, st_dup, st_pop, st_dup2, st_iaload0, st_iaload1, st_caload, st_baload, st_laload, st_aaload, st_iastore, st_castore, st_bastore, st_lastore, st_aastore, st_arraylength0, st_arraylength1, st_getfield, st_putfield0, st_putfield1, st_putfield2, st_putfield3, st_getstatic, st_new, st_newarray, st_anewarray, st_goto, st_ifCond, st_if_icmp, st_tableswitch, st_lookupswitch, st_ireturn, st_lreturn, st_return, st_invokevirtual, st_invokestatic0, st_invokestatic1, st_invokespecial0, st_invokespecial1, cZ_eq, cZ_ne, cZ_lt, cZ_ge, cZ_gt, cZ_le, vcb_n, vcb_c, sw_n, sw_c, ↓pI_d, ↓pL_d, ↓pR_d, ↓pA_d, isI_d, isL_d, isL_di, isL_dr, isL_dj, isA_d, inc_c, stO, fV, List.getD_cons_zero, List.getD_cons_succ, List.set_cons_zero, List.set_cons_succ, List.take_succ_cons, List.take_zero, List.drop_succ_cons, List.drop_zero, List.reverse_cons, List.reverse_nil, List.nil_append, List.cons_append, List.append_nil, Option.toList_some, Option.toList_none, List.length_cons, List.length_nil, Nat.reduceAdd, Nat.reduceSub, Nat.reduceLeDiff, Nat.reduceEqDiff, Nat.add_eq, not_false_eq_true, not_true_eq_false, true_and, and_true, false_or, or_true, true_or, or_false, and_self, one_ne_zero_nat, w32_id, w32_n, Int.toNat_natCast, Int.reduceToNat, Nat.zero_add, Nat.zero_le, Nat.le_refl, Int.reduceEq, Int.reduceLT, Int.reduceLE, Int.reduceAdd, Int.reduceSub, Int.reduceMul, t_imp, f_imp, hv4]
            exact go
          clear months hQ hC C2 ih ih2 left bs bs9
          refine blk bk_m_reckons_14 ?_
          simp (disch := omega) only [st_iconst, st_bipush, st_sipush, st_ldc, st_ldc_w, st_lconst, st_ldc2_w, st_iload_n, st_iload, st_lload_n, st_lload, st_aload_n, st_aload, st_istore_n, st_istore, st_lstore_n, st_lstore, st_astore_n, st_astore, st_iinc, st_iadd, st_isub, st_imul, st_idiv, st_irem, st_iand, st_ior, st_ixor, st_ishl, st_ishr, st_iushr, st_ladd, st_lmul, st_ldiv, st_lrem, st_land, st_lor, st_lxor, st_lshl, st_lshr, st_lcmp, st_i2l, st_l2i, st_i2c, st_dup, st_pop, st_dup2, st_iaload0, st_iaload1, st_caload, st_baload, st_laload, st_aaload, st_iastore, st_castore, st_bastore, st_lastore, st_aastore, st_arraylength0, st_arraylength1, st_getfield, st_putfield0, st_putfield1, st_putfield2, st_putfield3, st_getstatic, st_new, st_newarray, st_anewarray, st_goto, st_ifCond, st_if_icmp, st_tableswitch, st_lookupswitch, st_ireturn, st_lreturn, st_return, st_invokevirtual, st_invokestatic0, st_invokestatic1, st_invokespecial0, st_invokespecial1, cZ_eq, cZ_ne, cZ_lt, cZ_ge, cZ_gt, cZ_le, vcb_n, vcb_c, sw_n, sw_c, ↓pI_d, ↓pL_d, ↓pR_d, ↓pA_d, isI_d, isL_d, isL_di, isL_dr, isL_dj, isA_d, inc_c, stO, fV, List.getD_cons_zero, List.getD_cons_succ, List.set_cons_zero, List.set_cons_succ, List.take_succ_cons, List.take_zero, List.drop_succ_cons, List.drop_zero, List.reverse_cons, List.reverse_nil, List.nil_append, List.cons_append, List.append_nil, Option.toList_some, Option.toList_none, List.length_cons, List.length_nil, Nat.reduceAdd, Nat.reduceSub, Nat.reduceLeDiff, Nat.reduceEqDiff, Nat.add_eq, not_false_eq_true, not_true_eq_false, true_and, and_true, false_or, or_true, true_or, or_false, and_self, one_ne_zero_nat, w32_id, w32_n, Int.toNat_natCast, Int.reduceToNat, Nat.zero_add, Nat.zero_le, Nat.le_refl, Int.reduceEq, Int.reduceLT, Int.reduceLE, Int.reduceAdd, Int.reduceSub, Int.reduceMul, t_imp, f_imp, shl1I, hM.1]
          exact ⟨fun q => absurd q (by omega), fun _ => ⟨by omega, call⟩⟩
      have go := inner (2 ^ n) 0 M' v4 (by omega) hv4 hF (fun q w hq => hC q w (by omega) (by omega))
      clear inner hQ hC ih left
      refine blk bk_m_reckons_2 ?_
      simp (disch := omega) only [st_iconst, st_bipush, st_sipush, st_ldc, st_ldc_w, st_lconst, st_ldc2_w, st_iload_n, st_iload, st_lload_n, st_lload, st_aload_n, st_aload, st_istore_n, st_istore, st_lstore_n, st_lstore, st_astore_n, st_astore, st_iinc, st_iadd, st_isub, st_imul, st_idiv, st_irem, st_iand, st_ior, st_ixor, st_ishl, st_ishr, st_iushr, st_ladd, st_lmul, st_ldiv, st_lrem, st_land, st_lor, st_lxor, st_lshl, st_lshr, st_lcmp, st_i2l, st_l2i, st_i2c, st_dup, st_pop, st_dup2, st_iaload0, st_iaload1, st_caload, st_baload, st_laload, st_aaload, st_iastore, st_castore, st_bastore, st_lastore, st_aastore, st_arraylength0, st_arraylength1, st_getfield, st_putfield0, st_putfield1, st_putfield2, st_putfield3, st_getstatic, st_new, st_newarray, st_anewarray, st_goto, st_ifCond, st_if_icmp, st_tableswitch, st_lookupswitch, st_ireturn, st_lreturn, st_return, st_invokevirtual, st_invokestatic0, st_invokestatic1, st_invokespecial0, st_invokespecial1, cZ_eq, cZ_ne, cZ_lt, cZ_ge, cZ_gt, cZ_le, vcb_n, vcb_c, sw_n, sw_c, ↓pI_d, ↓pL_d, ↓pR_d, ↓pA_d, isI_d, isL_d, isL_di, isL_dr, isL_dj, isA_d, inc_c, stO, fV, List.getD_cons_zero, List.getD_cons_succ, List.set_cons_zero, List.set_cons_succ, List.take_succ_cons, List.take_zero, List.drop_succ_cons, List.drop_zero, List.reverse_cons, List.reverse_nil, List.nil_append, List.cons_append, List.append_nil, Option.toList_some, Option.toList_none, List.length_cons, List.length_nil, Nat.reduceAdd, Nat.reduceSub, Nat.reduceLeDiff, Nat.reduceEqDiff, Nat.add_eq, not_false_eq_true, not_true_eq_false, true_and, and_true, false_or, or_true, true_or, or_false, and_self, one_ne_zero_nat, w32_id, w32_n, Int.toNat_natCast, Int.reduceToNat, Nat.zero_add, Nat.zero_le, Nat.le_refl, Int.reduceEq, Int.reduceLT, Int.reduceLE, Int.reduceAdd, Int.reduceSub, Int.reduceMul, t_imp, f_imp, hM.1, mdG3 hM, j0, t0, hv3]
      exact ⟨fun q => absurd q (by omega), fun _ => go⟩
  have go := costs (tdN (gTd σ)) 0 M vJ vJ (by omega) (fun h => h) (fun h => h) (mRk_r _ _ _) (fun q w hq => absurd hq (Nat.not_lt_zero _))
  clear costs left hQ
  refine WPm_of (L := [vR (some m), vI n, vJ, vJ, vJ, vJ]) 4 (by decide) (Nat.le_of_ble_eq_true rfl) rfl ?_
  refine blk bk_m_reckons_0 ?_
  simp (disch := omega) only [st_iconst, st_bipush, st_sipush, st_ldc, st_ldc_w, st_lconst, st_ldc2_w, st_iload_n, st_iload, st_lload_n, st_lload, st_aload_n, st_aload, st_istore_n, st_istore, st_lstore_n, st_lstore, st_astore_n, st_astore, st_iinc, st_iadd, st_isub, st_imul, st_idiv, st_irem, st_iand, st_ior, st_ixor, st_ishl, st_ishr, st_iushr, st_ladd, st_lmul, st_ldiv, st_lrem, st_land, st_lor, st_lxor, st_lshl, st_lshr, st_lcmp, st_i2l, st_l2i, st_i2c, st_dup, st_pop, st_dup2, st_iaload0, st_iaload1, st_caload, st_baload, st_laload, st_aaload, st_iastore, st_castore, st_bastore, st_lastore, st_aastore, st_arraylength0, st_arraylength1, st_getfield, st_putfield0, st_putfield1, st_putfield2, st_putfield3, st_getstatic, st_new, st_newarray, st_anewarray, st_goto, st_ifCond, st_if_icmp, st_tableswitch, st_lookupswitch, st_ireturn, st_lreturn, st_return, st_invokevirtual, st_invokestatic0, st_invokestatic1, st_invokespecial0, st_invokespecial1, cZ_eq, cZ_ne, cZ_lt, cZ_ge, cZ_gt, cZ_le, vcb_n, vcb_c, sw_n, sw_c, ↓pI_d, ↓pL_d, ↓pR_d, ↓pA_d, isI_d, isL_d, isL_di, isL_dr, isL_dj, isA_d, inc_c, stO, fV, List.getD_cons_zero, List.getD_cons_succ, List.set_cons_zero, List.set_cons_succ, List.take_succ_cons, List.take_zero, List.drop_succ_cons, List.drop_zero, List.reverse_cons, List.reverse_nil, List.nil_append, List.cons_append, List.append_nil, Option.toList_some, Option.toList_none, List.length_cons, List.length_nil, Nat.reduceAdd, Nat.reduceSub, Nat.reduceLeDiff, Nat.reduceEqDiff, Nat.add_eq, not_false_eq_true, not_true_eq_false, true_and, and_true, false_or, or_true, true_or, or_false, and_self, one_ne_zero_nat, w32_id, w32_n, Int.toNat_natCast, Int.reduceToNat, Nat.zero_add, Nat.zero_le, Nat.le_refl, Int.reduceEq, Int.reduceLT, Int.reduceLE, Int.reduceAdd, Int.reduceSub, Int.reduceMul, t_imp, f_imp]
  exact go
end RECK
