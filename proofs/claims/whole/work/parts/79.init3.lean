/-! ===== the two constructors, whole ===== -/
theorem cv_sg0 {G : aG} {M : aM} {ad : Nat → Nat} {S : List Nat} {R : List (Nat × Nat × Nat)} (h : BK G M ad S R) (hS : ∀ i, i < 83 → i ∈ S) (hR : ∀ e, e ∈ ctR → e ∈ R) (h3 : tv0 M (ad 3)) : CB G ad ∧ CV 0 (vw M ad) sg0 := by
  have z : ∀ i k, i < 83 → i ≠ 3 → i ≠ 11 → M (ad i) k = 0 := fun i k hi a b => h.2.2.2 i (hS i hi) a b k
  refine ⟨⟨fun i hi => h.1 i (hS i hi), fun e he => (h.2.2.1 e (hR e he)).2.2, fun i j hi hj e => h.2.1 i j (hS i hi) (hS j hj) e⟩, ?_⟩
  obtain ⟨a0, a4, a9, a10, a11⟩ := h3
  refine ⟨⟨a0, a4, a9, a10, a11, fun p hp => absurd hp (Nat.not_lt_zero _), fun p hp => absurd hp (Nat.not_lt_zero _)⟩, ⟨z 19 0 (by decide) (by decide) (by decide), z 19 1 (by decide) (by decide) (by decide), z 19 2 (by decide) (by decide) (by decide), z 19 3 (by decide) (by decide) (by decide), z 19 4 (by decide) (by decide) (by decide), fun p hp => absurd hp (Nat.not_lt_zero _)⟩, ⟨0, by decide, z 21 1 (by decide) (by decide) (by decide), z 21 2 (by decide) (by decide) (by decide), fun k hk => absurd hk (Nat.not_lt_zero _)⟩, ⟨z 0 5 (by decide) (by decide) (by decide), fun i hi hb => ?_⟩, ⟨z 1 1 (by decide) (by decide) (by decide), fun k hk => absurd hk (Nat.not_lt_zero _)⟩, ⟨z 74 2 (by decide) (by decide) (by decide), fun k hk => absurd hk (Nat.not_lt_zero _)⟩, ⟨z 78 3 (by decide) (by decide) (by decide), fun k hk => absurd hk (Nat.not_lt_zero _)⟩, z 82 0 (by decide) (by decide) (by decide), ⟨0, Nat.le_refl _, z 51 8 (by decide) (by decide) (by decide), fun i hi => ?_⟩⟩
  · have hb : bt 0 i = 1 := hb
    unfold bt at hb
    rw [Nat.zero_div] at hb
    exact absurd hb (by decide)
  · show 0 ≤ M (ad 72) i ∧ M (ad 72) i < 1073741824 * (((0 : Nat) : Int) + 1)
    rw [z 72 i (by decide) (by decide) (by decide)]
    exact ⟨Int.le_refl _, by decide⟩
theorem sg0_ok : SOK sg0 := by
  refine ⟨td0_ok, ⟨Nat.zero_le _, Nat.two_pow_pos _, Nat.two_pow_pos _, by decide, Nat.zero_le _, Nat.zero_le _, fun p hp => absurd hp (Nat.not_lt_zero _)⟩, ⟨Nat.zero_le _, fun k hk => absurd hk (Nat.not_lt_zero _)⟩, ⟨by decide, fun i hi hb => ?_⟩, ⟨Nat.zero_le _, fun k hk => absurd hk (Nat.not_lt_zero _)⟩, ⟨Nat.zero_le _, fun k hk => absurd hk (Nat.not_lt_zero _)⟩, ⟨Nat.zero_le _, fun k hk => absurd hk (Nat.not_lt_zero _)⟩⟩
  have hb : bt 0 i = 1 := hb
  unfold bt at hb
  rw [Nat.zero_div] at hb
  exact absurd hb (by decide)
section INITC
variable {Γ : aR} {ρ κ : Nat} {G : aG} {M : aM} {Q : aQ}
theorem i_class {x : Nat} (hρ : 10 ≤ ρ) (ho : isObj G x 9) (hz : ∀ k, M x k = 0) (hQ : ∀ (G' : aG) (M' : aM) (ad' : Nat → Nat), CB G' ad' → CV 0 (vw M' ad') sg0 → ad' 0 = x → Q none G' M') : WPm Γ ρ 82 57 [vR (some x)] G M Q := by
  have b0 : BK G M (fun _ => x) [0] [] := ⟨fun i hi => by rw [List.mem_singleton.mp hi]; exact ho, fun i j hi hj _ => by rw [List.mem_singleton.mp hi, List.mem_singleton.mp hj], fun e he => absurd he List.not_mem_nil, fun i hi _ _ k => hz k⟩
  have h0 := BS_0 b0 (i := 0) (c := 9) (by decide) rfl
  refine WPm_of (L := [vR (some x), vJ]) 1 (by decide) (Nat.le_of_ble_eq_true rfl) rfl ?_
  refine blk bk_g_init_0c ?_
  simp (disch := omega) only [st_iconst, st_bipush, st_sipush, st_ldc, st_ldc_w, st_lconst, st_ldc2_w, st_iload_n, st_iload, st_lload_n, st_lload, st_aload_n, st_aload, st_istore_n, st_istore, st_lstore_n, st_lstore, st_astore_n, st_astore, st_iinc, st_iadd, st_isub, st_imul, st_idiv, st_irem, st_iand, st_ior, st_ixor, st_ishl, st_ishr, st_iushr, st_ladd, st_lmul, st_ldiv, st_lrem, st_land, st_lor, st_lxor, st_lshl, st_lshr, st_lcmp, st_i2l, st_l2i, st_i2c, st_dup, st_pop, st_dup2, st_iaload0, st_iaload1, st_caload, st_baload, st_laload, st_aaload, st_iastore, st_castore, st_bastore, st_lastore, st_aastore, st_arraylength0, st_arraylength1, st_getfield, st_putfield0, st_putfield1, st_putfield2, st_putfield3, st_getstatic, st_new, st_newarray, st_anewarray, st_goto, st_ifCond, st_if_icmp, st_tableswitch, st_lookupswitch, st_ireturn, st_lreturn, st_return, st_invokevirtual, st_invokestatic0, st_invokestatic1, st_invokespecial0, st_invokespecial1, cZ_eq, cZ_ne, cZ_lt, cZ_ge, cZ_gt, cZ_le, vcb_n, vcb_c, sw_n, sw_c, ↓pI_d, ↓pL_d, ↓pR_d, ↓pA_d, isI_d, isL_d, isL_di, isL_dr, isL_dj, isA_d, inc_c, stO, fV, List.getD_cons_zero, List.getD_cons_succ, List.set_cons_zero, List.set_cons_succ, List.take_succ_cons, List.take_zero, List.drop_succ_cons, List.drop_zero, List.reverse_cons, List.reverse_nil, List.nil_append, List.cons_append, List.append_nil, Option.toList_some, Option.toList_none, List.length_cons, List.length_nil, Nat.reduceAdd, Nat.reduceSub, Nat.reduceLeDiff, Nat.reduceEqDiff, Nat.add_eq, not_false_eq_true, not_true_eq_false, true_and, and_true, false_or, or_true, true_or, or_false, and_self, one_ne_zero_nat, w32_id, w32_n, Int.toNat_natCast, Int.reduceToNat, Nat.zero_add, Nat.zero_le, Nat.le_refl, Int.reduceEq, Int.reduceLT, Int.reduceLE, Int.reduceAdd, Int.reduceSub, Int.reduceMul, t_imp, f_imp, gW_obj]
  refine ⟨by omega, fun q1 k1 => ?_⟩
  have c1 := BS_new h0 (j := 1) k1 (by decide) rfl
  refine ⟨by omega, ⟨(gN_A _ _ _ _).mpr (.inr rfl), gN_Ts _ _ _⟩, ?_⟩
  have ea1 : va_up (fun _ => x) 1 q1 1 = q1 := va_up_self _ _ _
  have call1 := i_text (Γ := Γ) (ρ := ρ - 1) (Q := fun v G' M' => WP Γ ρ 72 57 12 [vR (some x), vJ] (v.toList ++ [vR (some q1), vR (some x)]) G' M' Q) (by omega) c1.1 (by decide) (by decide) (nin_r (by decide)) (by decide) (by decide) (fun G1 M1 ad1 hk1 hf1 hv1 => ?_)
  · rw [ea1] at call1
    exact call1
  have hk1 : BK G1 M1 ad1 [18, 17, 16, 15, 14, 13, 12, 11, 2, 1, 0] [(1, 2, 11), (11, 8, 18), (11, 7, 17), (11, 6, 16), (11, 5, 15), (11, 3, 14), (11, 2, 13), (11, 1, 12), (1, 0, 2)] := hk1
  have d1 := BS_call (b := 1) c1 hk1 (by decide) (fun y hy => ⟨(hf1 y hy).1, fun _ => (hf1 y hy).2⟩) (by decide) rfl
  have e1 : ad1 1 = q1 := (hf1 1 (by decide)).1.trans ea1
  have f1 := BS_ref d1 (k := 0) (j := 1) (by decide) e1 (by decide)
  refine blk bk_g_init_12c ?_
  simp (disch := omega) only [st_iconst, st_bipush, st_sipush, st_ldc, st_ldc_w, st_lconst, st_ldc2_w, st_iload_n, st_iload, st_lload_n, st_lload, st_aload_n, st_aload, st_istore_n, st_istore, st_lstore_n, st_lstore, st_astore_n, st_astore, st_iinc, st_iadd, st_isub, st_imul, st_idiv, st_irem, st_iand, st_ior, st_ixor, st_ishl, st_ishr, st_iushr, st_ladd, st_lmul, st_ldiv, st_lrem, st_land, st_lor, st_lxor, st_lshl, st_lshr, st_lcmp, st_i2l, st_l2i, st_i2c, st_dup, st_pop, st_dup2, st_iaload0, st_iaload1, st_caload, st_baload, st_laload, st_aaload, st_iastore, st_castore, st_bastore, st_lastore, st_aastore, st_arraylength0, st_arraylength1, st_getfield, st_putfield0, st_putfield1, st_putfield2, st_putfield3, st_getstatic, st_new, st_newarray, st_anewarray, st_goto, st_ifCond, st_if_icmp, st_tableswitch, st_lookupswitch, st_ireturn, st_lreturn, st_return, st_invokevirtual, st_invokestatic0, st_invokestatic1, st_invokespecial0, st_invokespecial1, cZ_eq, cZ_ne, cZ_lt, cZ_ge, cZ_gt, cZ_le, vcb_n, vcb_c, sw_n, sw_c, ↓pI_d, ↓pL_d, ↓pR_d, ↓pA_d, isI_d, isL_d, isL_di, isL_dr, isL_dj, isA_d, inc_c, stO, fV, List.getD_cons_zero, List.getD_cons_succ, List.set_cons_zero, List.set_cons_succ, List.take_succ_cons, List.take_zero, List.drop_succ_cons, List.drop_zero, List.reverse_cons, List.reverse_nil, List.nil_append, List.cons_append, List.append_nil, Option.toList_some, Option.toList_none, List.length_cons, List.length_nil, Nat.reduceAdd, Nat.reduceSub, Nat.reduceLeDiff, Nat.reduceEqDiff, Nat.add_eq, not_false_eq_true, not_true_eq_false, true_and, and_true, false_or, or_true, true_or, or_false, and_self, one_ne_zero_nat, w32_id, w32_n, Int.toNat_natCast, Int.reduceToNat, Nat.zero_add, Nat.zero_le, Nat.le_refl, Int.reduceEq, Int.reduceLT, Int.reduceLE, Int.reduceAdd, Int.reduceSub, Int.reduceMul, t_imp, f_imp, d1.2.2.2.1, gW_obj]
  intro q2 k2
  have c2 := BS_new f1 (j := 3) (t := .inl 8) k2 (by decide) rfl
  refine ⟨by omega, ⟨(gN_A _ _ _ _).mpr (.inr rfl), gN_Ts _ _ _⟩, ?_⟩
  have ea2 : va_up ad1 3 q2 3 = q2 := va_up_self _ _ _
  have call2 := i_told (Γ := Γ) (ρ := ρ - 1) (b := 3) (Q := fun v G' M' => WP Γ ρ 64 57 23 [vR (some x), vJ] (v.toList ++ [vR (some q2), vR (some x)]) G' M' Q) (by omega) c2.1 (by decide) (.inl rfl) (fun j a b => nin_r (a := 4) (b := 10) (by decide) j (by omega) (by omega)) (by decide) (fun G2 M2 ad2 hk2 hf2 hv2 => ?_)
  · rw [ea2] at call2
    exact call2
  have hk2 : BK G2 M2 ad2 [10, 9, 8, 7, 6, 5, 4, 3, 18, 17, 16, 15, 14, 13, 12, 11, 2, 1, 0] [(3, 8, 10), (3, 7, 9), (3, 6, 8), (3, 5, 7), (3, 3, 6), (3, 2, 5), (3, 1, 4), (0, 0, 1), (1, 2, 11), (11, 8, 18), (11, 7, 17), (11, 6, 16), (11, 5, 15), (11, 3, 14), (11, 2, 13), (11, 1, 12), (1, 0, 2)] := hk2
  have x0 : ad2 0 = x := ((hf2 0 (by decide)).1.trans (va_up_ne _ _ (by decide))).trans d1.2.2.1
  have x3 : ad2 3 = q2 := (hf2 3 (by decide)).1.trans ea2
  have go := i_g2 (Γ := Γ) (ρ := ρ) (Q := Q) (by omega) rfl rfl hk2 x3 (fun G' M' ad' S' R' h' hS' hR' hf' => ?_)
  · rw [x0] at go
    exact go
  · have t3 : tv0 M' (ad' 3) := by
      rw [(hf' 3 (by decide)).1]
      unfold tv0
      rw [(hf' 3 (by decide)).2, (hf2 3 (by decide)).1]
      exact hv2
    have hh := cv_sg0 h' hS' hR' t3
    exact hQ G' M' ad' hh.1 hh.2 ((hf' 0 (by decide)).1.trans x0)
/-! the reference -/
def MK (G0 : aG) (M0 : aM) (m : Nat) (T : List (Nat × Nat × Nat)) (G : aG) (M : aM) : Prop := isObj G m 10 ∧ (∀ a, a ∈ gA G0 → a ∈ gA G ∧ gT G a = gT G0 a ∧ (a ≠ m → gR G a = gR G0 a ∧ M a = M0 a)) ∧ (∀ q, q ∈ T → ∃ y, gR G m q.1 = some y ∧ isArr G y q.2.1 q.2.2 ∧ y ∉ gA G0) ∧ (∀ q q2 y, q ∈ T → q2 ∈ T → gR G m q.1 = some y → gR G m q2.1 = some y → q.1 = q2.1) ∧ ∀ k, M m k = 0
theorem MK_nr {G0 : aG} {M0 : aM} {m : Nat} {T : List (Nat × Nat × Nat)} {q k kd n : Nat} (h : MK G0 M0 m T G M) (hm : m ∈ gA G0) (hq : q ∉ gA G) (hk : ∀ e, e ∈ T → e.1 ≠ k) : MK G0 M0 m ((k, kd, n) :: T) (gW (gN G q (.inr (kd, n))) m k (some q)) (mN0 M q) := by
  obtain ⟨h1, h2, h3, h4, h5⟩ := h
  have mq : m ≠ q := nin_ne h1.1 hq
  have old : ∀ j, j ≠ k → gR (gW (gN G q (.inr (kd, n))) m k (some q)) m j = gR G m j := fun j hj => by rw [gW_o _ _ hj, gN_Ro _ _ mq]
  have new : gR (gW (gN G q (.inr (kd, n))) m k (some q)) m k = some q := gW_s _ _ _ _
  refine ⟨gN_obj hq h1, fun a ha => ?_, fun e he => ?_, fun e e2 y he he2 hy hy2 => ?_, fun j => ?_⟩
  · obtain ⟨b1, b2, b3⟩ := h2 a ha
    have aq : a ≠ q := nin_ne b1 hq
    refine ⟨(gN_A G q (.inr (kd, n)) a).mpr (.inl b1), (gN_To _ _ aq).trans b2, fun am => ?_⟩
    rw [gW_ne _ _ _ am, gN_Ro _ _ aq, mN0_o _ aq]
    exact b3 am
  · rcases List.mem_cons.mp he with rfl | he
    · exact ⟨q, new, ⟨(gN_A G q (.inr (kd, n)) q).mpr (.inr rfl), gN_Ts _ _ _⟩, fun hh => hq (h2 q hh).1⟩
    · obtain ⟨y, y1, y2, y3⟩ := h3 e he
      exact ⟨y, (old _ (hk e he)).trans y1, ⟨(gN_A G q (.inr (kd, n)) y).mpr (.inl y2.1), (gN_To _ _ (nin_ne y2.1 hq)).trans y2.2⟩, y3⟩
  · rcases List.mem_cons.mp he with ee | he <;> rcases List.mem_cons.mp he2 with ee2 | he2
    · rw [ee, ee2]
    · rw [ee] at hy
      have hy : some q = some y := new.symm.trans hy
      rw [old _ (hk e2 he2)] at hy2
      obtain ⟨z, z1, z2, z3⟩ := h3 e2 he2
      injection hy with hy
      have : z = y := Option.some.inj (z1.symm.trans hy2)
      rw [this, ← hy] at z2
      exact absurd z2.1 hq
    · rw [ee2] at hy2
      have hy2 : some q = some y := new.symm.trans hy2
      rw [old _ (hk e he)] at hy
      obtain ⟨z, z1, z2, z3⟩ := h3 e he
      injection hy2 with hy2
      have : z = y := Option.some.inj (z1.symm.trans hy)
      rw [this, ← hy2] at z2
      exact absurd z2.1 hq
    · rw [old _ (hk e he)] at hy
      rw [old _ (hk e2 he2)] at hy2
      exact h4 e e2 y he he2 hy hy2
  · rw [mN0_o _ mq]
    exact h5 j
theorem MK_end {G0 : aG} {M0 : aM} {m : Nat} {T : List (Nat × Nat × Nat)} (h : MK G0 M0 m T G M) (hT : ∀ q, q ∈ mArr → q ∈ T) : MdS G m ∧ ∀ q, q ∈ mArr → rfA G m q.1 ∉ gA G0 := by
  obtain ⟨h1, h2, h3, h4, h5⟩ := h
  have e : ∀ q, q ∈ mArr → gR G m q.1 = some (rfA G m q.1) ∧ isArr G (rfA G m q.1) q.2.1 q.2.2 ∧ rfA G m q.1 ∉ gA G0 := fun q hq => by
    obtain ⟨y, y1, y2, y3⟩ := h3 q (hT q hq)
    have : rfA G m q.1 = y := by
      unfold rfA
      rw [y1]
      rfl
    rw [this]
    exact ⟨y1, y2, y3⟩
  refine ⟨⟨h1, fun q hq => ⟨(e q hq).1, (e q hq).2.1⟩, fun q hq q2 hq2 he => h4 q q2 (rfA G m q.1) (hT q hq) (hT q2 hq2) (e q hq).1 (by rw [he]; exact (e q2 hq2).1)⟩, fun q hq => (e q hq).2.2⟩
theorem pF_0 (tx : Nat → Nat) : pF 0 tx = .inr (td0, 0) := by
  unfold pF
  show (if (tk 0 tx 0).2.1 = -1 then (.inr (td0, 0) : Nat ⊕ (TD × Nat)) else _) = _
  rw [if_pos (tk_end (Nat.le_refl _) (Nat.le_refl _))]
theorem mTx0 {m : Nat} (h : M m 2 = 0) : mTx G M m 0 (fun _ => 0) := ⟨h, fun i hi => absurd hi (Nat.not_lt_zero _)⟩
theorem i_model {m : Nat} (hρ : 20 ≤ ρ) (ho : isObj G m 10) (hz : ∀ k, M m k = 0) (hQ : ∀ (G' : aG) (M' : aM), MdS G' m → MV G' M' m sg0 → (∀ q, q ∈ mArr → rfA G' m q.1 ∉ gA G) → (∀ a, a ∈ gA G → a ∈ gA G' ∧ gT G' a = gT G a ∧ (a ≠ m → gR G' a = gR G a ∧ M' a = M a)) → Q none G' M') : WPm Γ ρ 15 89 [vR (some m)] G M Q := by
  have m0 : MK G M m [] G M := ⟨ho, fun a ha => ⟨ha, rfl, fun _ => ⟨rfl, rfl⟩⟩, fun q hq => absurd hq List.not_mem_nil, fun q q2 y hq => absurd hq List.not_mem_nil, hz⟩
  refine WPm_of (L := [vR (some m)]) 0 (by decide) (Nat.le_of_ble_eq_true rfl) rfl ?_
  refine blk bk_m_init_0 ?_
  simp (disch := omega) only [st_iconst, st_bipush, st_sipush, st_ldc, st_ldc_w, st_lconst, st_ldc2_w, st_iload_n, st_iload, st_lload_n, st_lload, st_aload_n, st_aload, st_istore_n, st_istore, st_lstore_n, st_lstore, st_astore_n, st_astore, st_iinc, st_iadd, st_isub, st_imul, st_idiv, st_irem, st_iand, st_ior, st_ixor, st_ishl, st_ishr, st_iushr, st_ladd, st_lmul, st_ldiv, st_lrem, st_land, st_lor, st_lxor, st_lshl, st_lshr, st_lcmp, st_i2l, st_l2i, st_i2c, st_dup, st_pop, st_dup2, st_iaload0, st_iaload1, st_caload, st_baload, st_laload, st_aaload, st_iastore, st_castore, st_bastore, st_lastore, st_aastore, st_arraylength0, st_arraylength1, st_getfield, st_putfield0, st_putfield1, st_putfield2, st_putfield3, st_getstatic, st_new, st_newarray, st_anewarray, st_goto, st_ifCond, st_if_icmp, st_tableswitch, st_lookupswitch, st_ireturn, st_lreturn, st_return, st_invokevirtual, st_invokestatic0, st_invokestatic1, st_invokespecial0, st_invokespecial1, cZ_eq, cZ_ne, cZ_lt, cZ_ge, cZ_gt, cZ_le, vcb_n, vcb_c, sw_n, sw_c, ↓pI_d, ↓pL_d, ↓pR_d, ↓pA_d, isI_d, isL_d, isL_di, isL_dr, isL_dj, isA_d, inc_c, stO, fV, List.getD_cons_zero, List.getD_cons_succ, List.set_cons_zero, List.set_cons_succ, List.take_succ_cons, List.take_zero, List.drop_succ_cons, List.drop_zero, List.reverse_cons, List.reverse_nil, List.nil_append, List.cons_append, List.append_nil, Option.toList_some, Option.toList_none, List.length_cons, List.length_nil, Nat.reduceAdd, Nat.reduceSub, Nat.reduceLeDiff, Nat.reduceEqDiff, Nat.add_eq, not_false_eq_true, not_true_eq_false, true_and, and_true, false_or, or_true, true_or, or_false, and_self, one_ne_zero_nat, w32_id, w32_n, Int.toNat_natCast, Int.reduceToNat, Nat.zero_add, Nat.zero_le, Nat.le_refl, Int.reduceEq, Int.reduceLT, Int.reduceLE, Int.reduceAdd, Int.reduceSub, Int.reduceMul, t_imp, f_imp, gW_obj]
  refine ⟨by omega, fun q0 k0 => ?_⟩
  have m1 := MK_nr (k := 1) (kd := 0) (n := 180) m0 ho.1 k0 (by decide)
  refine ⟨gN_obj k0 m0.1, fun q1 k1 => ?_⟩
  have m2 := MK_nr (k := 3) (kd := 0) (n := 65) m1 ho.1 k1 (by decide)
  refine ⟨gN_obj k1 m1.1, fun q2 k2 => ?_⟩
  have m3 := MK_nr (k := 4) (kd := 0) (n := 65) m2 ho.1 k2 (by decide)
  refine ⟨gN_obj k2 m2.1, fun q3 k3 => ?_⟩
  have m4 := MK_nr (k := 5) (kd := 0) (n := 11) m3 ho.1 k3 (by decide)
  refine ⟨gN_obj k3 m3.1, fun q4 k4 => ?_⟩
  have m5 := MK_nr (k := 6) (kd := 0) (n := 110) m4 ho.1 k4 (by decide)
  refine ⟨gN_obj k4 m4.1, fun q5 k5 => ?_⟩
  have m6 := MK_nr (k := 8) (kd := 0) (n := 22) m5 ho.1 k5 (by decide)
  refine ⟨gN_obj k5 m5.1, fun q6 k6 => ?_⟩
  have m7 := MK_nr (k := 9) (kd := 3) (n := 2) m6 ho.1 k6 (by decide)
  refine ⟨gN_obj k6 m6.1, fun q7 k7 => ?_⟩
  have m8 := MK_nr (k := 10) (kd := 0) (n := 6) m7 ho.1 k7 (by decide)
  refine ⟨gN_obj k7 m7.1, fun q8 k8 => ?_⟩
  have m9 := MK_nr (k := 12) (kd := 0) (n := 12) m8 ho.1 k8 (by decide)
  refine ⟨gN_obj k8 m8.1, fun q9 k9 => ?_⟩
  have m10 := MK_nr (k := 18) (kd := 0) (n := 6) m9 ho.1 k9 (by decide)
  refine ⟨gN_obj k9 m9.1, fun q10 k10 => ?_⟩
  have m11 := MK_nr (k := 20) (kd := 0) (n := 192) m10 ho.1 k10 (by decide)
  refine ⟨gN_obj k10 m10.1, fun q11 k11 => ?_⟩
  have m12 := MK_nr (k := 21) (kd := 0) (n := 6) m11 ho.1 k11 (by decide)
  refine ⟨gN_obj k11 m11.1, fun q12 k12 => ?_⟩
  have m13 := MK_nr (k := 22) (kd := 0) (n := 6) m12 ho.1 k12 (by decide)
  refine ⟨gN_obj k12 m12.1, fun q13 k13 => ?_⟩
  have m14 := MK_nr (k := 23) (kd := 0) (n := 7) m13 ho.1 k13 (by decide)
  refine ⟨gN_obj k13 m13.1, fun q14 k14 => ?_⟩
  have m15 := MK_nr (k := 24) (kd := 0) (n := 64) m14 ho.1 k14 (by decide)
  refine ⟨gN_obj k14 m14.1, ?_⟩
  obtain ⟨hM, hfr⟩ := MK_end m15 (by decide)
  refine ⟨by omega, gN_obj k14 m14.1, s_m_reads (len := 0) (tx := fun _ => 0) (by omega) hM (mTx0 (m15.2.2.2.2 2)) (by decide) (fun i hi => absurd hi (Nat.not_lt_zero _)) (fun p M1 he => ?_) (fun q o M1 he hk z1 d1 => ?_)⟩
  · rw [pF_0] at he
    cases he
  · rw [pF_0] at he
    injection he with he
    subst he
    refine blk bk_m_init_129 ?_
    simp (disch := omega) only [st_iconst, st_bipush, st_sipush, st_ldc, st_ldc_w, st_lconst, st_ldc2_w, st_iload_n, st_iload, st_lload_n, st_lload, st_aload_n, st_aload, st_istore_n, st_istore, st_lstore_n, st_lstore, st_astore_n, st_astore, st_iinc, st_iadd, st_isub, st_imul, st_idiv, st_irem, st_iand, st_ior, st_ixor, st_ishl, st_ishr, st_iushr, st_ladd, st_lmul, st_ldiv, st_lrem, st_land, st_lor, st_lxor, st_lshl, st_lshr, st_lcmp, st_i2l, st_l2i, st_i2c, st_dup, st_pop, st_dup2, st_iaload0, st_iaload1, st_caload, st_baload, st_laload, st_aaload, st_iastore, st_castore, st_bastore, st_lastore, st_aastore, st_arraylength0, st_arraylength1, st_getfield, st_putfield0, st_putfield1, st_putfield2, st_putfield3, st_getstatic, st_new, st_newarray, st_anewarray, st_goto, st_ifCond, st_if_icmp, st_tableswitch, st_lookupswitch, st_ireturn, st_lreturn, st_return, st_invokevirtual, st_invokestatic0, st_invokestatic1, st_invokespecial0, st_invokespecial1, cZ_eq, cZ_ne, cZ_lt, cZ_ge, cZ_gt, cZ_le, vcb_n, vcb_c, sw_n, sw_c, ↓pI_d, ↓pL_d, ↓pR_d, ↓pA_d, isI_d, isL_d, isL_di, isL_dr, isL_dj, isA_d, inc_c, stO, fV, List.getD_cons_zero, List.getD_cons_succ, List.set_cons_zero, List.set_cons_succ, List.take_succ_cons, List.take_zero, List.drop_succ_cons, List.drop_zero, List.reverse_cons, List.reverse_nil, List.nil_append, List.cons_append, List.append_nil, Option.toList_some, Option.toList_none, List.length_cons, List.length_nil, Nat.reduceAdd, Nat.reduceSub, Nat.reduceLeDiff, Nat.reduceEqDiff, Nat.add_eq, not_false_eq_true, not_true_eq_false, true_and, and_true, false_or, or_true, true_or, or_false, and_self, one_ne_zero_nat, w32_id, w32_n, Int.toNat_natCast, Int.reduceToNat, Nat.zero_add, Nat.zero_le, Nat.le_refl, Int.reduceEq, Int.reduceLT, Int.reduceLE, Int.reduceAdd, Int.reduceSub, Int.reduceMul, t_imp, f_imp, hM.1]
    refine ⟨by omega, s_m_begins (by omega) hM (fun M2 a3 a5 a7 a11 a13 ao a9 af => ?_)⟩
    refine blk bk_m_init_134 ?_
    simp (disch := omega) only [st_iconst, st_bipush, st_sipush, st_ldc, st_ldc_w, st_lconst, st_ldc2_w, st_iload_n, st_iload, st_lload_n, st_lload, st_aload_n, st_aload, st_istore_n, st_istore, st_lstore_n, st_lstore, st_astore_n, st_astore, st_iinc, st_iadd, st_isub, st_imul, st_idiv, st_irem, st_iand, st_ior, st_ixor, st_ishl, st_ishr, st_iushr, st_ladd, st_lmul, st_ldiv, st_lrem, st_land, st_lor, st_lxor, st_lshl, st_lshr, st_lcmp, st_i2l, st_l2i, st_i2c, st_dup, st_pop, st_dup2, st_iaload0, st_iaload1, st_caload, st_baload, st_laload, st_aaload, st_iastore, st_castore, st_bastore, st_lastore, st_aastore, st_arraylength0, st_arraylength1, st_getfield, st_putfield0, st_putfield1, st_putfield2, st_putfield3, st_getstatic, st_new, st_newarray, st_anewarray, st_goto, st_ifCond, st_if_icmp, st_tableswitch, st_lookupswitch, st_ireturn, st_lreturn, st_return, st_invokevirtual, st_invokestatic0, st_invokestatic1, st_invokespecial0, st_invokespecial1, cZ_eq, cZ_ne, cZ_lt, cZ_ge, cZ_gt, cZ_le, vcb_n, vcb_c, sw_n, sw_c, ↓pI_d, ↓pL_d, ↓pR_d, ↓pA_d, isI_d, isL_d, isL_di, isL_dr, isL_dj, isA_d, inc_c, stO, fV, List.getD_cons_zero, List.getD_cons_succ, List.set_cons_zero, List.set_cons_succ, List.take_succ_cons, List.take_zero, List.drop_succ_cons, List.drop_zero, List.reverse_cons, List.reverse_nil, List.nil_append, List.cons_append, List.append_nil, Option.toList_some, Option.toList_none, List.length_cons, List.length_nil, Nat.reduceAdd, Nat.reduceSub, Nat.reduceLeDiff, Nat.reduceEqDiff, Nat.add_eq, not_false_eq_true, not_true_eq_false, true_and, and_true, false_or, or_true, true_or, or_false, and_self, one_ne_zero_nat, w32_id, w32_n, Int.toNat_natCast, Int.reduceToNat, Nat.zero_add, Nat.zero_le, Nat.le_refl, Int.reduceEq, Int.reduceLT, Int.reduceLE, Int.reduceAdd, Int.reduceSub, Int.reduceMul, t_imp, f_imp]
    have hV : MV _ M2 m (sNew sg0 td0) := mv_new (M := M1) (σ := sg0) hM hk d1 a3 a5 a7 a11 a13 (by rw [ao 2 (by decide) (by decide) (by decide), z1.2 2 (by omega)]; exact m15.2.2.2.2 2) (by rw [ao 0 (by decide) (by decide) (by decide), z1.2 0 (by omega)]; exact m15.2.2.2.2 0) a9
    refine hQ _ M2 hM hV hfr (fun a ha => ?_)
    obtain ⟨b1, b2, b3⟩ := m15.2.1 a ha
    refine ⟨b1, b2, fun am => ⟨(b3 am).1, ?_⟩⟩
    rw [af a am (nin_ne ha (hfr (3, 0, 65) (by decide))) (nin_ne ha (hfr (5, 0, 11) (by decide))) (nin_ne ha (hfr (9, 3, 2) (by decide))), z1.1 a am (nin_ne ha (hfr (4, 0, 65) (by decide)))]
    exact (b3 am).2
end INITC
