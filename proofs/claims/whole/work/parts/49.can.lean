/-! ===== can, ask: class and reference ===== -/
theorem bt_ext {a b : Nat} (ha : a < 64) (hb : b < 64) (h : ∀ p, p < 6 → bt a p = bt b p) : a = b := by
  have h0 := h 0 (by decide)
  have h1 := h 1 (by decide)
  have h2 := h 2 (by decide)
  have h3 := h 3 (by decide)
  have h4 := h 4 (by decide)
  have h5 := h 5 (by decide)
  unfold bt at *
  omega
theorem bt_and (a b p : Nat) : bt (a &&& b) p = 1 ↔ bt a p = 1 ∧ bt b p = 1 := by
  rw [bt_t, bt_t, bt_t, Nat.testBit_and]
  cases a.testBit p <;> cases b.testBit p <;> decide
theorem bt_hi {a n p : Nat} (h : a < 2 ^ n) (hp : n ≤ p) : bt a p = 0 := by
  unfold bt
  rw [Nat.div_eq_of_lt (Nat.lt_of_lt_of_le h (Nat.pow_le_pow_right (by decide) hp))]
theorem fin_full : ∀ n, n ≤ 6 → ∀ p, p < n → bt (2 ^ n - 1) p = 1 := by decide +kernel
theorem alF_l2 (ok : Nat → Bool) {n : Nat} : ∀ i, alF ok n i < 2 ^ n := by
  intro i
  have hp : 0 < 2 ^ n := Nat.two_pow_pos n
  induction i with
  | zero => show 2 ^ n - 1 < 2 ^ n; omega
  | succ i ih =>
    rw [alF_s]
    split
    · exact Nat.lt_of_le_of_lt Nat.and_le_left ih
    · exact ih
theorem alF_b (ok : Nat → Bool) {n p : Nat} (hn : n ≤ 6) (hp : p < n) : ∀ i, bt (alF ok n i) p = 1 ↔ wiF ok p i = cnF ok i := by
  intro i
  induction i with
  | zero => exact ⟨fun _ => rfl, fun _ => fin_full n hn p hp⟩
  | succ i ih =>
    have hl := wiF_le ok p i
    have b01 := bt_01 i p
    rw [alF_s, wiF_s, cnF_s]
    split
    · rw [bt_and, ih]
      omega
    · exact ih
theorem soF_l2 (ok : Nat → Bool) {n : Nat} : ∀ i, i ≤ 2 ^ n → soF ok i < 2 ^ n := by
  intro i
  have hp : 0 < 2 ^ n := Nat.two_pow_pos n
  induction i with
  | zero => exact fun _ => hp
  | succ i ih =>
    intro hi
    rw [soF_s]
    split
    · exact Nat.or_lt_two_pow (ih (by omega)) (by omega)
    · exact ih (by omega)
theorem soF_b (ok : Nat → Bool) {p : Nat} : ∀ i, bt (soF ok i) p = 1 ↔ 0 < wiF ok p i := by
  intro i
  induction i with
  | zero =>
    show bt 0 p = 1 ↔ 0 < 0
    unfold bt
    rw [Nat.zero_div]
    decide
  | succ i ih =>
    have b01 := bt_01 i p
    rw [soF_s, wiF_s]
    split
    · rw [bt_or2, ih]
      omega
    · exact ih
def eaF (c : Nat → Bool) : Nat → Nat
  | 0 => 0
  | i + 1 => eaF c i ||| (if c i = true then 2 ^ i else 0)
theorem eaF_l (c : Nat → Bool) : ∀ i, eaF c i < 2 ^ i := by
  intro i
  induction i with
  | zero => exact Nat.one_pos
  | succ i ih =>
    have h2 : 2 ^ (i + 1) = 2 ^ i * 2 := Nat.pow_succ 2 i
    have hp : 0 < 2 ^ i := Nat.two_pow_pos i
    refine Nat.or_lt_two_pow (by omega) ?_
    split <;> omega
theorem eaF_b (c : Nat → Bool) {p : Nat} (hp : p < 6) : ∀ i, i ≤ 6 → (bt (eaF c i) p = 1 ↔ p < i ∧ c p = true) := by
  intro i
  induction i with
  | zero =>
    intro _
    show bt 0 p = 1 ↔ _
    unfold bt
    rw [Nat.zero_div]
    exact ⟨fun h => absurd h (by decide), fun h => absurd h.1 (by omega)⟩
  | succ i ih =>
    intro hi
    show bt (eaF c i ||| (if c i = true then 2 ^ i else 0)) p = 1 ↔ _
    rw [bt_or2, ih (by omega)]
    by_cases hc : c i = true
    · rw [if_pos hc, bt_pw (by omega) hp]
      constructor
      · rintro (h | rfl)
        · exact ⟨by omega, h.2⟩
        · exact ⟨by omega, hc⟩
      · intro h
        by_cases hpi : p = i
        · exact Or.inr hpi
        · exact Or.inl ⟨by omega, h.2⟩
    · rw [if_neg hc]
      have h0 : ¬ bt 0 p = 1 := by
        unfold bt
        rw [Nat.zero_div]
        decide
      constructor
      · rintro (h | h)
        · exact ⟨by omega, h.2⟩
        · exact absurd h h0
      · intro h
        by_cases hpi : p = i
        · subst hpi
          exact absurd h.2 hc
        · exact Or.inl ⟨by omega, h.2⟩
theorem ea_al (ok : Nat → Bool) {n : Nat} (hn : n ≤ 6) : eaF (fun p => decide (wiF ok p (2 ^ n) = cnF ok (2 ^ n))) n = alF ok n (2 ^ n) := by
  refine bt_ext (lt64 hn (eaF_l _ n)) (lt64 hn (alF_l2 ok _)) (fun p hp => ?_)
  have h1 := eaF_b (fun p => decide (wiF ok p (2 ^ n) = cnF ok (2 ^ n))) hp n hn
  have a1 := bt_01 (eaF (fun p => decide (wiF ok p (2 ^ n) = cnF ok (2 ^ n))) n) p
  have a2 := bt_01 (alF ok n (2 ^ n)) p
  rw [decide_eq_true_iff] at h1
  by_cases hpn : p < n
  · have h2 := alF_b ok hn hpn (2 ^ n)
    omega
  · have := bt_hi (alF_l2 ok (n := n) (2 ^ n)) (show n ≤ p by omega)
    omega
theorem ea_so (ok : Nat → Bool) {n : Nat} (hn : n ≤ 6) : eaF (fun p => decide (0 < wiF ok p (2 ^ n))) n = soF ok (2 ^ n) := by
  refine bt_ext (lt64 hn (eaF_l _ n)) (lt64 hn (soF_l2 ok _ (Nat.le_refl _))) (fun p hp => ?_)
  have h1 := eaF_b (fun p => decide (0 < wiF ok p (2 ^ n))) hp n hn
  have a1 := bt_01 (eaF (fun p => decide (0 < wiF ok p (2 ^ n))) n) p
  have a2 := bt_01 (soF ok (2 ^ n)) p
  rw [decide_eq_true_iff] at h1
  have h2 := soF_b ok (p := p) (2 ^ n)
  by_cases hpn : p < n
  · omega
  · have := bt_hi (soF_l2 ok (n := n) (2 ^ n) (Nat.le_refl _)) (show n ≤ p by omega)
    omega
theorem f_cn {ok : Nat → Bool} {f : Nat → Nat} (h0 : f 0 = 0) (h : ∀ i, f (i + 1) = if ok i = true then f i + 1 else f i) : ∀ i, f i = cnF ok i := by
  intro i
  induction i with
  | zero => exact h0
  | succ i ih => rw [h, ih, cnF_s]
theorem f_wi {ok : Nat → Bool} {f : Nat → Nat} {p : Nat} (h0 : f 0 = 0) (h : ∀ i, f (i + 1) = if ok i = true then f i + bt i p else f i) : ∀ i, f i = wiF ok p i := by
  intro i
  induction i with
  | zero => exact h0
  | succ i ih => rw [h, ih, wiF_s]
def okS (σ : SG) : Nat → Bool := okF (tdRo (gTd σ)) (gAm σ) (gGz σ) (gFz σ)
def rCan (σ : SG) (y : Int) : Int := if y = 0 then (cnF (okS σ) (2 ^ tdN (gTd σ)) : Int) else if y = 1 then (if cnF (okS σ) (2 ^ tdN (gTd σ)) = 0 then -9 else (alF (okS σ) (tdN (gTd σ)) (2 ^ tdN (gTd σ)) : Int)) else if y = 2 then (soF (okS σ) (2 ^ tdN (gTd σ)) : Int) else -1
def rAsk (σ : SG) : Int := if cnF (okS σ) (2 ^ tdN (gTd σ)) ≤ 1 then -9 else mtI (asF (cnF (okS σ) (2 ^ tdN (gTd σ))) (fun p => wiF (okS σ) p (2 ^ tdN (gTd σ))) (tdN (gTd σ))).1
section PUBA
variable {Γ : aR} {ρ κ bd : Nat} {G : aG} {M : aM} {Q : aQ} {ad : Nat → Nat} {m : Nat} {σ : SG}
theorem cv_78 {M' : aM} (hB : CB G ad) (hV : CV bd (vw M ad) σ) (q : ∀ c, c ≠ ad 78 → c ≠ ad 81 → M' c = M c) (h3 : M' (ad 78) 3 = M (ad 78) 3) : CV bd (vw M' ad) σ := by
  have e : ∀ i, i < 83 → i ≠ 78 → i ≠ 81 → vw M' ad i = vw M ad i := fun i h1 h2 h3 => q _ (cb_ne hB h1 (by decide) h2) (cb_ne hB h1 (by decide) h3)
  exact CV_k (fun i hi => e i (by omega) (by omega) (by omega)) (e 72 (by decide) (by decide) (by decide)) (e 75 (by decide) (by decide) (by decide)) (e 79 (by decide) (by decide) (by decide)) (e 80 (by decide) (by decide) (by decide)) (by rw [e 74 (by decide) (by decide) (by decide)]) h3 (by rw [e 82 (by decide) (by decide) (by decide)]) (by rw [e 51 (by decide) (by decide) (by decide)]) hV
theorem cv_RG (hB : CB G ad) (hV : CV bd (vw M ad) σ) (hS : SOK σ) : RG G M (ad 78) (gFz σ) (gAm σ) (gGz σ) := by
  refine ⟨hV.2.2.2.2.2.2.1.1, hS.2.2.2.2.2.2.1, fun i hi => ?_⟩
  rw [cF78_0 hB, cF78_1 hB]
  have h := hV.2.2.2.2.2.2.1.2 i hi
  exact ⟨h.1, h.2, hS.2.2.2.2.2.2.2 i hi⟩
theorem mv_RG (hV : MV G M m σ) (hS : SOK σ) : RGm G M m (gFz σ) (gAm σ) (gGz σ) := by
  refine ⟨hV.2.2.2.2.2.2.1.1, hS.2.2.2.2.2.2.1, fun i hi => ?_⟩
  have h := hV.2.2.2.2.2.2.1.2 i hi
  exact ⟨h.1, h.2, hS.2.2.2.2.2.2.2 i hi⟩
theorem c_can {y : Int} (hρ : 8 ≤ ρ) (hB : CB G ad) (hV : CV bd (vw M ad) σ) (hS : SOK σ) (hy1 : -2147483648 ≤ y) (hy2 : y < 2147483648) (hQ : ∀ M' : aM, CV bd (vw M' ad) σ → FrC ad M M' → Q (some (vI (rCan σ y))) G M') : WPm Γ ρ 0 76 [vR (some (ad 0)), vI y] G M Q := by
  obtain ⟨t0, t4, t9, t10, t11, tp, ta⟩ := cvT hV.1
  have hn : tdN (gTd σ) ≤ 6 := hS.1.1
  have hp2 := p2n hn
  refine WPm_of (L := [vR (some (ad 0)), vI y]) 0 (by decide) (Nat.le_of_ble_eq_true rfl) rfl ?_
  refine blk bk_g_can_0 ?_
  simp (disch := omega) only [st_iconst, st_bipush, st_sipush, st_ldc, st_ldc_w, st_lconst, st_ldc2_w, st_iload_n, st_iload, st_lload_n, st_lload, st_aload_n, st_aload, st_istore_n, st_istore, st_lstore_n, st_lstore, st_astore_n, st_astore, st_iinc, st_iadd, st_isub, st_imul, st_idiv, st_irem, st_iand, st_ior, st_ixor, st_ishl, st_ishr, st_iushr, st_ladd, st_lmul, st_ldiv, st_lrem, st_land, st_lor, st_lxor, st_lshl, st_lshr, st_lcmp, st_i2l, st_l2i, st_i2c, st_dup, st_pop, st_dup2, st_iaload0, st_iaload1, st_caload, st_baload, st_laload, st_aaload, st_iastore, st_castore, st_bastore, st_lastore, st_aastore, st_arraylength0, st_arraylength1, st_getfield, st_putfield0, st_putfield1, st_putfield2, st_putfield3, st_getstatic, st_new, st_newarray, st_anewarray, st_goto, st_ifCond, st_if_icmp, st_tableswitch, st_lookupswitch, st_ireturn, st_lreturn, st_return, st_invokevirtual, st_invokestatic0, st_invokestatic1, st_invokespecial0, st_invokespecial1, cZ_eq, cZ_ne, cZ_lt, cZ_ge, cZ_gt, cZ_le, vcb_n, vcb_c, sw_n, sw_c, ↓pI_d, ↓pL_d, ↓pR_d, ↓pA_d, isI_d, isL_d, isL_di, isL_dr, isL_dj, isA_d, inc_c, stO, fV, List.getD_cons_zero, List.getD_cons_succ, List.set_cons_zero, List.set_cons_succ, List.take_succ_cons, List.take_zero, List.drop_succ_cons, List.drop_zero, List.reverse_cons, List.reverse_nil, List.nil_append, List.cons_append, List.append_nil, Option.toList_some, Option.toList_none, List.length_cons, List.length_nil, Nat.reduceAdd, Nat.reduceSub, Nat.reduceLeDiff, Nat.reduceEqDiff, Nat.add_eq, not_false_eq_true, not_true_eq_false, true_and, and_true, false_or, or_true, true_or, or_false, and_self, one_ne_zero_nat, w32_id, w32_n, Int.toNat_natCast, Int.reduceToNat, Nat.zero_add, Nat.zero_le, Nat.le_refl, Int.reduceEq, Int.reduceLT, Int.reduceLE, Int.reduceAdd, Int.reduceSub, Int.reduceMul, t_imp, f_imp, cO0 hB, cR0_9 hB, cR0_1 hB, cO78 hB]
  refine ⟨by omega, s_r_weigh (by omega) (cb_G hB) (cO3 hB) t0 hn t9 hS.1.2.2.2.1 (cv_RG hB hV hS) (fun M' hI => ?_)⟩
  obtain ⟨q1, q2, q3, q4, q5, q6⟩ := hI
  rw [cF78_2 hB] at q1 q6
  have hq := hQ M' (cv_78 hB hV q1 q2) (fun c hc => q1 c (hc 78 (by decide)) (hc 81 (by decide)))
  unfold rCan okS at hq
  have hcl := cnF_le (okF (tdRo (gTd σ)) (gAm σ) (gGz σ) (gFz σ)) (2 ^ tdN (gTd σ))
  generalize cnF (okF (tdRo (gTd σ)) (gAm σ) (gGz σ) (gFz σ)) (2 ^ tdN (gTd σ)) = cn at *
  generalize alF (okF (tdRo (gTd σ)) (gAm σ) (gGz σ) (gFz σ)) (tdN (gTd σ)) (2 ^ tdN (gTd σ)) = al at *
  generalize soF (okF (tdRo (gTd σ)) (gAm σ) (gGz σ) (gFz σ)) (2 ^ tdN (gTd σ)) = so at *
  refine blk bk_g_can_11 ?_
  simp (disch := omega) only [st_iconst, st_bipush, st_sipush, st_ldc, st_ldc_w, st_lconst, st_ldc2_w, st_iload_n, st_iload, st_lload_n, st_lload, st_aload_n, st_aload, st_istore_n, st_istore, st_lstore_n, st_lstore, st_astore_n, st_astore, st_iinc, st_iadd, st_isub, st_imul, st_idiv, st_irem, st_iand, st_ior, st_ixor, st_ishl, st_ishr, st_iushr, st_ladd, st_lmul, st_ldiv, st_lrem, st_land, st_lor, st_lxor, st_lshl, st_lshr, st_lcmp, st_i2l, st_l2i, st_i2c, st_dup, st_pop, st_dup2, st_iaload0, st_iaload1, st_caload, st_baload, st_laload, st_aaload, st_iastore, st_castore, st_bastore, st_lastore, st_aastore, st_arraylength0, st_arraylength1, st_getfield, st_putfield0, st_putfield1, st_putfield2, st_putfield3, st_getstatic, st_new, st_newarray, st_anewarray, st_goto, st_ifCond, st_if_icmp, st_tableswitch, st_lookupswitch, st_ireturn, st_lreturn, st_return, st_invokevirtual, st_invokestatic0, st_invokestatic1, st_invokespecial0, st_invokespecial1, cZ_eq, cZ_ne, cZ_lt, cZ_ge, cZ_gt, cZ_le, vcb_n, vcb_c, sw_n, sw_c, ↓pI_d, ↓pL_d, ↓pR_d, ↓pA_d, isI_d, isL_d, isL_di, isL_dr, isL_dj, isA_d, inc_c, stO, fV, List.getD_cons_zero, List.getD_cons_succ, List.set_cons_zero, List.set_cons_succ, List.take_succ_cons, List.take_zero, List.drop_succ_cons, List.drop_zero, List.reverse_cons, List.reverse_nil, List.nil_append, List.cons_append, List.append_nil, Option.toList_some, Option.toList_none, List.length_cons, List.length_nil, Nat.reduceAdd, Nat.reduceSub, Nat.reduceLeDiff, Nat.reduceEqDiff, Nat.add_eq, not_false_eq_true, not_true_eq_false, true_and, and_true, false_or, or_true, true_or, or_false, and_self, one_ne_zero_nat, w32_id, w32_n, Int.toNat_natCast, Int.reduceToNat, Nat.zero_add, Nat.zero_le, Nat.le_refl, Int.reduceEq, Int.reduceLT, Int.reduceLE, Int.reduceAdd, Int.reduceSub, Int.reduceMul, t_imp, f_imp]
  refine ⟨fun e => ?_, fun e0 => ⟨fun e => ?_, fun e1 => ⟨fun e => ?_, fun e2 => ?_⟩⟩⟩
  · rw [if_pos e] at hq
    refine blk bk_g_can_40 ?_
    simp (disch := omega) only [st_iconst, st_bipush, st_sipush, st_ldc, st_ldc_w, st_lconst, st_ldc2_w, st_iload_n, st_iload, st_lload_n, st_lload, st_aload_n, st_aload, st_istore_n, st_istore, st_lstore_n, st_lstore, st_astore_n, st_astore, st_iinc, st_iadd, st_isub, st_imul, st_idiv, st_irem, st_iand, st_ior, st_ixor, st_ishl, st_ishr, st_iushr, st_ladd, st_lmul, st_ldiv, st_lrem, st_land, st_lor, st_lxor, st_lshl, st_lshr, st_lcmp, st_i2l, st_l2i, st_i2c, st_dup, st_pop, st_dup2, st_iaload0, st_iaload1, st_caload, st_baload, st_laload, st_aaload, st_iastore, st_castore, st_bastore, st_lastore, st_aastore, st_arraylength0, st_arraylength1, st_getfield, st_putfield0, st_putfield1, st_putfield2, st_putfield3, st_getstatic, st_new, st_newarray, st_anewarray, st_goto, st_ifCond, st_if_icmp, st_tableswitch, st_lookupswitch, st_ireturn, st_lreturn, st_return, st_invokevirtual, st_invokestatic0, st_invokestatic1, st_invokespecial0, st_invokespecial1, cZ_eq, cZ_ne, cZ_lt, cZ_ge, cZ_gt, cZ_le, vcb_n, vcb_c, sw_n, sw_c, ↓pI_d, ↓pL_d, ↓pR_d, ↓pA_d, isI_d, isL_d, isL_di, isL_dr, isL_dj, isA_d, inc_c, stO, fV, List.getD_cons_zero, List.getD_cons_succ, List.set_cons_zero, List.set_cons_succ, List.take_succ_cons, List.take_zero, List.drop_succ_cons, List.drop_zero, List.reverse_cons, List.reverse_nil, List.nil_append, List.cons_append, List.append_nil, Option.toList_some, Option.toList_none, List.length_cons, List.length_nil, Nat.reduceAdd, Nat.reduceSub, Nat.reduceLeDiff, Nat.reduceEqDiff, Nat.add_eq, not_false_eq_true, not_true_eq_false, true_and, and_true, false_or, or_true, true_or, or_false, and_self, one_ne_zero_nat, w32_id, w32_n, Int.toNat_natCast, Int.reduceToNat, Nat.zero_add, Nat.zero_le, Nat.le_refl, Int.reduceEq, Int.reduceLT, Int.reduceLE, Int.reduceAdd, Int.reduceSub, Int.reduceMul, t_imp, f_imp, cO0 hB, cR0_9 hB, cO78 hB, q3]
    exact hq
  · rw [if_neg e0, if_pos e] at hq
    refine blk bk_g_can_48 ?_
    simp (disch := omega) only [st_iconst, st_bipush, st_sipush, st_ldc, st_ldc_w, st_lconst, st_ldc2_w, st_iload_n, st_iload, st_lload_n, st_lload, st_aload_n, st_aload, st_istore_n, st_istore, st_lstore_n, st_lstore, st_astore_n, st_astore, st_iinc, st_iadd, st_isub, st_imul, st_idiv, st_irem, st_iand, st_ior, st_ixor, st_ishl, st_ishr, st_iushr, st_ladd, st_lmul, st_ldiv, st_lrem, st_land, st_lor, st_lxor, st_lshl, st_lshr, st_lcmp, st_i2l, st_l2i, st_i2c, st_dup, st_pop, st_dup2, st_iaload0, st_iaload1, st_caload, st_baload, st_laload, st_aaload, st_iastore, st_castore, st_bastore, st_lastore, st_aastore, st_arraylength0, st_arraylength1, st_getfield, st_putfield0, st_putfield1, st_putfield2, st_putfield3, st_getstatic, st_new, st_newarray, st_anewarray, st_goto, st_ifCond, st_if_icmp, st_tableswitch, st_lookupswitch, st_ireturn, st_lreturn, st_return, st_invokevirtual, st_invokestatic0, st_invokestatic1, st_invokespecial0, st_invokespecial1, cZ_eq, cZ_ne, cZ_lt, cZ_ge, cZ_gt, cZ_le, vcb_n, vcb_c, sw_n, sw_c, ↓pI_d, ↓pL_d, ↓pR_d, ↓pA_d, isI_d, isL_d, isL_di, isL_dr, isL_dj, isA_d, inc_c, stO, fV, List.getD_cons_zero, List.getD_cons_succ, List.set_cons_zero, List.set_cons_succ, List.take_succ_cons, List.take_zero, List.drop_succ_cons, List.drop_zero, List.reverse_cons, List.reverse_nil, List.nil_append, List.cons_append, List.append_nil, Option.toList_some, Option.toList_none, List.length_cons, List.length_nil, Nat.reduceAdd, Nat.reduceSub, Nat.reduceLeDiff, Nat.reduceEqDiff, Nat.add_eq, not_false_eq_true, not_true_eq_false, true_and, and_true, false_or, or_true, true_or, or_false, and_self, one_ne_zero_nat, w32_id, w32_n, Int.toNat_natCast, Int.reduceToNat, Nat.zero_add, Nat.zero_le, Nat.le_refl, Int.reduceEq, Int.reduceLT, Int.reduceLE, Int.reduceAdd, Int.reduceSub, Int.reduceMul, t_imp, f_imp, cO0 hB, cR0_9 hB, cO78 hB, q3]
    refine ⟨fun h => ?_, fun h => ?_⟩
    · rw [if_neg (by omega)] at hq
      refine blk bk_g_can_63 ?_
      simp (disch := omega) only [st_iconst, st_bipush, st_sipush, st_ldc, st_ldc_w, st_lconst, st_ldc2_w, st_iload_n, st_iload, st_lload_n, st_lload, st_aload_n, st_aload, st_istore_n, st_istore, st_lstore_n, st_lstore, st_astore_n, st_astore, st_iinc, st_iadd, st_isub, st_imul, st_idiv, st_irem, st_iand, st_ior, st_ixor, st_ishl, st_ishr, st_iushr, st_ladd, st_lmul, st_ldiv, st_lrem, st_land, st_lor, st_lxor, st_lshl, st_lshr, st_lcmp, st_i2l, st_l2i, st_i2c, st_dup, st_pop, st_dup2, st_iaload0, st_iaload1, st_caload, st_baload, st_laload, st_aaload, st_iastore, st_castore, st_bastore, st_lastore, st_aastore, st_arraylength0, st_arraylength1, st_getfield, st_putfield0, st_putfield1, st_putfield2, st_putfield3, st_getstatic, st_new, st_newarray, st_anewarray, st_goto, st_ifCond, st_if_icmp, st_tableswitch, st_lookupswitch, st_ireturn, st_lreturn, st_return, st_invokevirtual, st_invokestatic0, st_invokestatic1, st_invokespecial0, st_invokespecial1, cZ_eq, cZ_ne, cZ_lt, cZ_ge, cZ_gt, cZ_le, vcb_n, vcb_c, sw_n, sw_c, ↓pI_d, ↓pL_d, ↓pR_d, ↓pA_d, isI_d, isL_d, isL_di, isL_dr, isL_dj, isA_d, inc_c, stO, fV, List.getD_cons_zero, List.getD_cons_succ, List.set_cons_zero, List.set_cons_succ, List.take_succ_cons, List.take_zero, List.drop_succ_cons, List.drop_zero, List.reverse_cons, List.reverse_nil, List.nil_append, List.cons_append, List.append_nil, Option.toList_some, Option.toList_none, List.length_cons, List.length_nil, Nat.reduceAdd, Nat.reduceSub, Nat.reduceLeDiff, Nat.reduceEqDiff, Nat.add_eq, not_false_eq_true, not_true_eq_false, true_and, and_true, false_or, or_true, true_or, or_false, and_self, one_ne_zero_nat, w32_id, w32_n, Int.toNat_natCast, Int.reduceToNat, Nat.zero_add, Nat.zero_le, Nat.le_refl, Int.reduceEq, Int.reduceLT, Int.reduceLE, Int.reduceAdd, Int.reduceSub, Int.reduceMul, t_imp, f_imp, cO0 hB, cR0_9 hB, cO78 hB, q4]
      refine blk bk_g_can_70 ?_
      simp (disch := omega) only [st_iconst, st_bipush, st_sipush, st_ldc, st_ldc_w, st_lconst, st_ldc2_w, st_iload_n, st_iload, st_lload_n, st_lload, st_aload_n, st_aload, st_istore_n, st_istore, st_lstore_n, st_lstore, st_astore_n, st_astore, st_iinc, st_iadd, st_isub, st_imul, st_idiv, st_irem, st_iand, st_ior, st_ixor, st_ishl, st_ishr, st_iushr, st_ladd, st_lmul, st_ldiv, st_lrem, st_land, st_lor, st_lxor, st_lshl, st_lshr, st_lcmp, st_i2l, st_l2i, st_i2c, st_dup, st_pop, st_dup2, st_iaload0, st_iaload1, st_caload, st_baload, st_laload, st_aaload, st_iastore, st_castore, st_bastore, st_lastore, st_aastore, st_arraylength0, st_arraylength1, st_getfield, st_putfield0, st_putfield1, st_putfield2, st_putfield3, st_getstatic, st_new, st_newarray, st_anewarray, st_goto, st_ifCond, st_if_icmp, st_tableswitch, st_lookupswitch, st_ireturn, st_lreturn, st_return, st_invokevirtual, st_invokestatic0, st_invokestatic1, st_invokespecial0, st_invokespecial1, cZ_eq, cZ_ne, cZ_lt, cZ_ge, cZ_gt, cZ_le, vcb_n, vcb_c, sw_n, sw_c, ↓pI_d, ↓pL_d, ↓pR_d, ↓pA_d, isI_d, isL_d, isL_di, isL_dr, isL_dj, isA_d, inc_c, stO, fV, List.getD_cons_zero, List.getD_cons_succ, List.set_cons_zero, List.set_cons_succ, List.take_succ_cons, List.take_zero, List.drop_succ_cons, List.drop_zero, List.reverse_cons, List.reverse_nil, List.nil_append, List.cons_append, List.append_nil, Option.toList_some, Option.toList_none, List.length_cons, List.length_nil, Nat.reduceAdd, Nat.reduceSub, Nat.reduceLeDiff, Nat.reduceEqDiff, Nat.add_eq, not_false_eq_true, not_true_eq_false, true_and, and_true, false_or, or_true, true_or, or_false, and_self, one_ne_zero_nat, w32_id, w32_n, Int.toNat_natCast, Int.reduceToNat, Nat.zero_add, Nat.zero_le, Nat.le_refl, Int.reduceEq, Int.reduceLT, Int.reduceLE, Int.reduceAdd, Int.reduceSub, Int.reduceMul, t_imp, f_imp]
      exact hq
    · rw [if_pos (by omega)] at hq
      refine blk bk_g_can_70 ?_
      simp (disch := omega) only [st_iconst, st_bipush, st_sipush, st_ldc, st_ldc_w, st_lconst, st_ldc2_w, st_iload_n, st_iload, st_lload_n, st_lload, st_aload_n, st_aload, st_istore_n, st_istore, st_lstore_n, st_lstore, st_astore_n, st_astore, st_iinc, st_iadd, st_isub, st_imul, st_idiv, st_irem, st_iand, st_ior, st_ixor, st_ishl, st_ishr, st_iushr, st_ladd, st_lmul, st_ldiv, st_lrem, st_land, st_lor, st_lxor, st_lshl, st_lshr, st_lcmp, st_i2l, st_l2i, st_i2c, st_dup, st_pop, st_dup2, st_iaload0, st_iaload1, st_caload, st_baload, st_laload, st_aaload, st_iastore, st_castore, st_bastore, st_lastore, st_aastore, st_arraylength0, st_arraylength1, st_getfield, st_putfield0, st_putfield1, st_putfield2, st_putfield3, st_getstatic, st_new, st_newarray, st_anewarray, st_goto, st_ifCond, st_if_icmp, st_tableswitch, st_lookupswitch, st_ireturn, st_lreturn, st_return, st_invokevirtual, st_invokestatic0, st_invokestatic1, st_invokespecial0, st_invokespecial1, cZ_eq, cZ_ne, cZ_lt, cZ_ge, cZ_gt, cZ_le, vcb_n, vcb_c, sw_n, sw_c, ↓pI_d, ↓pL_d, ↓pR_d, ↓pA_d, isI_d, isL_d, isL_di, isL_dr, isL_dj, isA_d, inc_c, stO, fV, List.getD_cons_zero, List.getD_cons_succ, List.set_cons_zero, List.set_cons_succ, List.take_succ_cons, List.take_zero, List.drop_succ_cons, List.drop_zero, List.reverse_cons, List.reverse_nil, List.nil_append, List.cons_append, List.append_nil, Option.toList_some, Option.toList_none, List.length_cons, List.length_nil, Nat.reduceAdd, Nat.reduceSub, Nat.reduceLeDiff, Nat.reduceEqDiff, Nat.add_eq, not_false_eq_true, not_true_eq_false, true_and, and_true, false_or, or_true, true_or, or_false, and_self, one_ne_zero_nat, w32_id, w32_n, Int.toNat_natCast, Int.reduceToNat, Nat.zero_add, Nat.zero_le, Nat.le_refl, Int.reduceEq, Int.reduceLT, Int.reduceLE, Int.reduceAdd, Int.reduceSub, Int.reduceMul, t_imp, f_imp]
      exact hq
  · rw [if_neg e0, if_neg e1, if_pos e] at hq
    refine blk bk_g_can_71 ?_
    simp (disch := omega) only [st_iconst, st_bipush, st_sipush, st_ldc, st_ldc_w, st_lconst, st_ldc2_w, st_iload_n, st_iload, st_lload_n, st_lload, st_aload_n, st_aload, st_istore_n, st_istore, st_lstore_n, st_lstore, st_astore_n, st_astore, st_iinc, st_iadd, st_isub, st_imul, st_idiv, st_irem, st_iand, st_ior, st_ixor, st_ishl, st_ishr, st_iushr, st_ladd, st_lmul, st_ldiv, st_lrem, st_land, st_lor, st_lxor, st_lshl, st_lshr, st_lcmp, st_i2l, st_l2i, st_i2c, st_dup, st_pop, st_dup2, st_iaload0, st_iaload1, st_caload, st_baload, st_laload, st_aaload, st_iastore, st_castore, st_bastore, st_lastore, st_aastore, st_arraylength0, st_arraylength1, st_getfield, st_putfield0, st_putfield1, st_putfield2, st_putfield3, st_getstatic, st_new, st_newarray, st_anewarray, st_goto, st_ifCond, st_if_icmp, st_tableswitch, st_lookupswitch, st_ireturn, st_lreturn, st_return, st_invokevirtual, st_invokestatic0, st_invokestatic1, st_invokespecial0, st_invokespecial1, cZ_eq, cZ_ne, cZ_lt, cZ_ge, cZ_gt, cZ_le, vcb_n, vcb_c, sw_n, sw_c, ↓pI_d, ↓pL_d, ↓pR_d, ↓pA_d, isI_d, isL_d, isL_di, isL_dr, isL_dj, isA_d, inc_c, stO, fV, List.getD_cons_zero, List.getD_cons_succ, List.set_cons_zero, List.set_cons_succ, List.take_succ_cons, List.take_zero, List.drop_succ_cons, List.drop_zero, List.reverse_cons, List.reverse_nil, List.nil_append, List.cons_append, List.append_nil, Option.toList_some, Option.toList_none, List.length_cons, List.length_nil, Nat.reduceAdd, Nat.reduceSub, Nat.reduceLeDiff, Nat.reduceEqDiff, Nat.add_eq, not_false_eq_true, not_true_eq_false, true_and, and_true, false_or, or_true, true_or, or_false, and_self, one_ne_zero_nat, w32_id, w32_n, Int.toNat_natCast, Int.reduceToNat, Nat.zero_add, Nat.zero_le, Nat.le_refl, Int.reduceEq, Int.reduceLT, Int.reduceLE, Int.reduceAdd, Int.reduceSub, Int.reduceMul, t_imp, f_imp, cO0 hB, cR0_9 hB, cO78 hB, q5]
    exact hq
  · rw [if_neg e0, if_neg e1, if_neg e2] at hq
    refine blk bk_g_can_79 ?_
    simp (disch := omega) only [st_iconst, st_bipush, st_sipush, st_ldc, st_ldc_w, st_lconst, st_ldc2_w, st_iload_n, st_iload, st_lload_n, st_lload, st_aload_n, st_aload, st_istore_n, st_istore, st_lstore_n, st_lstore, st_astore_n, st_astore, st_iinc, st_iadd, st_isub, st_imul, st_idiv, st_irem, st_iand, st_ior, st_ixor, st_ishl, st_ishr, st_iushr, st_ladd, st_lmul, st_ldiv, st_lrem, st_land, st_lor, st_lxor, st_lshl, st_lshr, st_lcmp, st_i2l, st_l2i, st_i2c, st_dup, st_pop, st_dup2, st_iaload0, st_iaload1, st_caload, st_baload, st_laload, st_aaload, st_iastore, st_castore, st_bastore, st_lastore, st_aastore, st_arraylength0, st_arraylength1, st_getfield, st_putfield0, st_putfield1, st_putfield2, st_putfield3, st_getstatic, st_new, st_newarray, st_anewarray, st_goto, st_ifCond, st_if_icmp, st_tableswitch, st_lookupswitch, st_ireturn, st_lreturn, st_return, st_invokevirtual, st_invokestatic0, st_invokestatic1, st_invokespecial0, st_invokespecial1, cZ_eq, cZ_ne, cZ_lt, cZ_ge, cZ_gt, cZ_le, vcb_n, vcb_c, sw_n, sw_c, ↓pI_d, ↓pL_d, ↓pR_d, ↓pA_d, isI_d, isL_d, isL_di, isL_dr, isL_dj, isA_d, inc_c, stO, fV, List.getD_cons_zero, List.getD_cons_succ, List.set_cons_zero, List.set_cons_succ, List.take_succ_cons, List.take_zero, List.drop_succ_cons, List.drop_zero, List.reverse_cons, List.reverse_nil, List.nil_append, List.cons_append, List.append_nil, Option.toList_some, Option.toList_none, List.length_cons, List.length_nil, Nat.reduceAdd, Nat.reduceSub, Nat.reduceLeDiff, Nat.reduceEqDiff, Nat.add_eq, not_false_eq_true, not_true_eq_false, true_and, and_true, false_or, or_true, true_or, or_false, and_self, one_ne_zero_nat, w32_id, w32_n, Int.toNat_natCast, Int.reduceToNat, Nat.zero_add, Nat.zero_le, Nat.le_refl, Int.reduceEq, Int.reduceLT, Int.reduceLE, Int.reduceAdd, Int.reduceSub, Int.reduceMul, t_imp, f_imp]
    exact hq
theorem c_ask (hρ : 8 ≤ ρ) (hB : CB G ad) (hV : CV bd (vw M ad) σ) (hS : SOK σ) (hQ : ∀ M' : aM, CV bd (vw M' ad) σ → FrC ad M M' → Q (some (vI (rAsk σ))) G M') : WPm Γ ρ 0 77 [vR (some (ad 0))] G M Q := by
  obtain ⟨t0, t4, t9, t10, t11, tp, ta⟩ := cvT hV.1
  have hn : tdN (gTd σ) ≤ 6 := hS.1.1
  have hp2 := p2n hn
  refine WPm_of (L := [vR (some (ad 0))]) 0 (by decide) (Nat.le_of_ble_eq_true rfl) rfl ?_
  refine blk bk_g_ask_0 ?_
  simp (disch := omega) only [st_iconst, st_bipush, st_sipush, st_ldc, st_ldc_w, st_lconst, st_ldc2_w, st_iload_n, st_iload, st_lload_n, st_lload, st_aload_n, st_aload, st_istore_n, st_istore, st_lstore_n, st_lstore, st_astore_n, st_astore, st_iinc, st_iadd, st_isub, st_imul, st_idiv, st_irem, st_iand, st_ior, st_ixor, st_ishl, st_ishr, st_iushr, st_ladd, st_lmul, st_ldiv, st_lrem, st_land, st_lor, st_lxor, st_lshl, st_lshr, st_lcmp, st_i2l, st_l2i, st_i2c, st_dup, st_pop, st_dup2, st_iaload0, st_iaload1, st_caload, st_baload, st_laload, st_aaload, st_iastore, st_castore, st_bastore, st_lastore, st_aastore, st_arraylength0, st_arraylength1, st_getfield, st_putfield0, st_putfield1, st_putfield2, st_putfield3, st_getstatic, st_new, st_newarray, st_anewarray, st_goto, st_ifCond, st_if_icmp, st_tableswitch, st_lookupswitch, st_ireturn, st_lreturn, st_return, st_invokevirtual, st_invokestatic0, st_invokestatic1, st_invokespecial0, st_invokespecial1, cZ_eq, cZ_ne, cZ_lt, cZ_ge, cZ_gt, cZ_le, vcb_n, vcb_c, sw_n, sw_c, ↓pI_d, ↓pL_d, ↓pR_d, ↓pA_d, isI_d, isL_d, isL_di, isL_dr, isL_dj, isA_d, inc_c, stO, fV, List.getD_cons_zero, List.getD_cons_succ, List.set_cons_zero, List.set_cons_succ, List.take_succ_cons, List.take_zero, List.drop_succ_cons, List.drop_zero, List.reverse_cons, List.reverse_nil, List.nil_append, List.cons_append, List.append_nil, Option.toList_some, Option.toList_none, List.length_cons, List.length_nil, Nat.reduceAdd, Nat.reduceSub, Nat.reduceLeDiff, Nat.reduceEqDiff, Nat.add_eq, not_false_eq_true, not_true_eq_false, true_and, and_true, false_or, or_true, true_or, or_false, and_self, one_ne_zero_nat, w32_id, w32_n, Int.toNat_natCast, Int.reduceToNat, Nat.zero_add, Nat.zero_le, Nat.le_refl, Int.reduceEq, Int.reduceLT, Int.reduceLE, Int.reduceAdd, Int.reduceSub, Int.reduceMul, t_imp, f_imp, cO0 hB, cR0_9 hB, cR0_1 hB, cO78 hB]
  refine ⟨by omega, s_r_weigh (by omega) (cb_G hB) (cO3 hB) t0 hn t9 hS.1.2.2.2.1 (cv_RG hB hV hS) (fun M' hI => ?_)⟩
  obtain ⟨q1, q2, q3, q4, q5, q6⟩ := hI
  rw [cF78_2 hB] at q1
  have hq := hQ M' (cv_78 hB hV q1 q2) (fun c hc => q1 c (hc 78 (by decide)) (hc 81 (by decide)))
  unfold rAsk okS at hq
  have hcl := cnF_le (okF (tdRo (gTd σ)) (gAm σ) (gGz σ) (gFz σ)) (2 ^ tdN (gTd σ))
  have e3 : M' (ad 3) 0 = (tdN (gTd σ) : Int) := by rw [q1 _ (cb_ne hB (by decide) (by decide) (by decide)) (cb_ne hB (by decide) (by decide) (by decide))]; exact t0
  refine blk bk_g_ask_11 ?_
  simp (disch := omega) only [st_iconst, st_bipush, st_sipush, st_ldc, st_ldc_w, st_lconst, st_ldc2_w, st_iload_n, st_iload, st_lload_n, st_lload, st_aload_n, st_aload, st_istore_n, st_istore, st_lstore_n, st_lstore, st_astore_n, st_astore, st_iinc, st_iadd, st_isub, st_imul, st_idiv, st_irem, st_iand, st_ior, st_ixor, st_ishl, st_ishr, st_iushr, st_ladd, st_lmul, st_ldiv, st_lrem, st_land, st_lor, st_lxor, st_lshl, st_lshr, st_lcmp, st_i2l, st_l2i, st_i2c, st_dup, st_pop, st_dup2, st_iaload0, st_iaload1, st_caload, st_baload, st_laload, st_aaload, st_iastore, st_castore, st_bastore, st_lastore, st_aastore, st_arraylength0, st_arraylength1, st_getfield, st_putfield0, st_putfield1, st_putfield2, st_putfield3, st_getstatic, st_new, st_newarray, st_anewarray, st_goto, st_ifCond, st_if_icmp, st_tableswitch, st_lookupswitch, st_ireturn, st_lreturn, st_return, st_invokevirtual, st_invokestatic0, st_invokestatic1, st_invokespecial0, st_invokespecial1, cZ_eq, cZ_ne, cZ_lt, cZ_ge, cZ_gt, cZ_le, vcb_n, vcb_c, sw_n, sw_c, ↓pI_d, ↓pL_d, ↓pR_d, ↓pA_d, isI_d, isL_d, isL_di, isL_dr, isL_dj, isA_d, inc_c, stO, fV, List.getD_cons_zero, List.getD_cons_succ, List.set_cons_zero, List.set_cons_succ, List.take_succ_cons, List.take_zero, List.drop_succ_cons, List.drop_zero, List.reverse_cons, List.reverse_nil, List.nil_append, List.cons_append, List.append_nil, Option.toList_some, Option.toList_none, List.length_cons, List.length_nil, Nat.reduceAdd, Nat.reduceSub, Nat.reduceLeDiff, Nat.reduceEqDiff, Nat.add_eq, not_false_eq_true, not_true_eq_false, true_and, and_true, false_or, or_true, true_or, or_false, and_self, one_ne_zero_nat, w32_id, w32_n, Int.toNat_natCast, Int.reduceToNat, Nat.zero_add, Nat.zero_le, Nat.le_refl, Int.reduceEq, Int.reduceLT, Int.reduceLE, Int.reduceAdd, Int.reduceSub, Int.reduceMul, t_imp, f_imp, cO0 hB, cR0_9 hB, cR0_1 hB, cO78 hB]
  refine ⟨by omega, s_r_nextToAsk (wi := fun p => wiF (okF (tdRo (gTd σ)) (gAm σ) (gGz σ) (gFz σ)) p (2 ^ tdN (gTd σ))) (by omega) (cb_G hB) (cO3 hB) e3 hn q3 (by omega) q6 (fun p _ => wiF_le _ p _) ?_⟩
  generalize (if cnF (okF (tdRo (gTd σ)) (gAm σ) (gGz σ) (gFz σ)) (2 ^ tdN (gTd σ)) ≤ 1 then (-9 : Int) else mtI (asF (cnF (okF (tdRo (gTd σ)) (gAm σ) (gGz σ) (gFz σ)) (2 ^ tdN (gTd σ))) (fun p => wiF (okF (tdRo (gTd σ)) (gAm σ) (gGz σ) (gFz σ)) p (2 ^ tdN (gTd σ))) (tdN (gTd σ))).1) = r at *
  refine blk bk_g_ask_22 ?_
  simp (disch := omega) only [st_iconst, st_bipush, st_sipush, st_ldc, st_ldc_w, st_lconst, st_ldc2_w, st_iload_n, st_iload, st_lload_n, st_lload, st_aload_n, st_aload, st_istore_n, st_istore, st_lstore_n, st_lstore, st_astore_n, st_astore, st_iinc, st_iadd, st_isub, st_imul, st_idiv, st_irem, st_iand, st_ior, st_ixor, st_ishl, st_ishr, st_iushr, st_ladd, st_lmul, st_ldiv, st_lrem, st_land, st_lor, st_lxor, st_lshl, st_lshr, st_lcmp, st_i2l, st_l2i, st_i2c, st_dup, st_pop, st_dup2, st_iaload0, st_iaload1, st_caload, st_baload, st_laload, st_aaload, st_iastore, st_castore, st_bastore, st_lastore, st_aastore, st_arraylength0, st_arraylength1, st_getfield, st_putfield0, st_putfield1, st_putfield2, st_putfield3, st_getstatic, st_new, st_newarray, st_anewarray, st_goto, st_ifCond, st_if_icmp, st_tableswitch, st_lookupswitch, st_ireturn, st_lreturn, st_return, st_invokevirtual, st_invokestatic0, st_invokestatic1, st_invokespecial0, st_invokespecial1, cZ_eq, cZ_ne, cZ_lt, cZ_ge, cZ_gt, cZ_le, vcb_n, vcb_c, sw_n, sw_c, ↓pI_d, ↓pL_d, ↓pR_d, ↓pA_d, isI_d, isL_d, isL_di, isL_dr, isL_dj, isA_d, inc_c, stO, fV, List.getD_cons_zero, List.getD_cons_succ, List.set_cons_zero, List.set_cons_succ, List.take_succ_cons, List.take_zero, List.drop_succ_cons, List.drop_zero, List.reverse_cons, List.reverse_nil, List.nil_append, List.cons_append, List.append_nil, Option.toList_some, Option.toList_none, List.length_cons, List.length_nil, Nat.reduceAdd, Nat.reduceSub, Nat.reduceLeDiff, Nat.reduceEqDiff, Nat.add_eq, not_false_eq_true, not_true_eq_false, true_and, and_true, false_or, or_true, true_or, or_false, and_self, one_ne_zero_nat, w32_id, w32_n, Int.toNat_natCast, Int.reduceToNat, Nat.zero_add, Nat.zero_le, Nat.le_refl, Int.reduceEq, Int.reduceLT, Int.reduceLE, Int.reduceAdd, Int.reduceSub, Int.reduceMul, t_imp, f_imp]
  exact hq
end PUBA
