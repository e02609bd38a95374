/-! ===== strays: in how many ways; the class's weigh ===== -/
def smF (f : Nat → Nat) : Nat → Nat
  | 0 => 0
  | n + 1 => smF f n + f n
theorem smF_c {f g : Nat → Nat} : ∀ {n : Nat}, (∀ p, p < n → f p = g p) → smF f n = smF g n := by
  intro n
  induction n with
  | zero => exact fun _ => rfl
  | succ n ih =>
    intro h
    show smF f n + f n = smF g n + g n
    rw [ih (fun p hp => h p (by omega)), h n (by omega)]
theorem smF_le {f : Nat → Nat} {b : Nat} : ∀ {n : Nat}, (∀ p, p < n → f p ≤ b) → smF f n ≤ n * b := by
  intro n
  induction n with
  | zero => exact fun _ => Nat.zero_le _
  | succ n ih =>
    intro h
    show smF f n + f n ≤ (n + 1) * b
    rw [Nat.succ_mul]
    have := ih (fun p hp => h p (by omega))
    have := h n (by omega)
    omega
theorem smF_up {f g : Nat → Nat} {t d : Nat} (hg : ∀ T, T ≠ t → g T = f T) (ht : g t = f t + d) : ∀ {N : Nat}, t < N → smF g N = smF f N + d := by
  have low : ∀ {N : Nat}, N ≤ t → smF g N = smF f N := fun {N} h => smF_c (fun p hp => hg p (by omega))
  intro N
  induction N with
  | zero => exact fun h => absurd h (Nat.not_lt_zero _)
  | succ N ih =>
    intro h
    show smF g N + g N = smF f N + f N + d
    by_cases e : t = N
    · subst e
      rw [low (Nat.le_refl _), ht]
      omega
    · rw [ih (by omega), hg N (Ne.symm e)]
      omega
theorem smF_z {f : Nat → Nat} {n : Nat} (h : ∀ p, p < n → f p = 0) : smF f n = 0 := by
  have := smF_le (b := 0) (fun p hp => Nat.le_of_eq (h p hp))
  omega
def wcF (n : Nat) (ok : Nat → Nat → Bool) : Nat → Nat → Nat → Nat
  | 0, _, _ => 1
  | k + 1, i, aw => smF (fun p => if bt aw p = 0 ∧ ok p i = true then wcF n ok k (i + 1) (aw + 2 ^ p) else 0) n
def okC (ok : Nat → Nat → Bool) (st who : Nat) (p i : Nat) : Bool := ok p i && (decide (¬ i = st) || decide (p = who))
theorem wcF_pass {n st q : Nat} {ok : Nat → Nat → Bool} : ∀ (k i aw : Nat), st < i → wcF n (okC ok st q) k i aw = wcF n ok k i aw := by
  intro k
  induction k with
  | zero => exact fun _ _ _ => rfl
  | succ k ih =>
    intro i aw h
    refine smF_c (fun p hp => ?_)
    have e : okC ok st q p i = ok p i := by
      unfold okC
      rw [decide_eq_true (show ¬ i = st by omega), Bool.true_or, Bool.and_true]
    show (if bt aw p = 0 ∧ okC ok st q p i = true then wcF n (okC ok st q) k (i + 1) (aw + 2 ^ p) else 0) = _
    rw [e, ih (i + 1) _ (by omega)]
theorem wcF_le {n : Nat} {ok : Nat → Nat → Bool} (hn : n ≤ 6) : ∀ (k i aw : Nat), wcF n ok k i aw ≤ 6 ^ k := by
  intro k
  induction k with
  | zero => exact fun _ _ => Nat.le_refl _
  | succ k ih =>
    intro i aw
    have h : wcF n ok (k + 1) i aw ≤ n * 6 ^ k := smF_le (fun p hp => by
      split
      · exact ih _ _
      · exact Nat.zero_le _)
    have h2 : n * 6 ^ k ≤ 6 * 6 ^ k := Nat.mul_le_mul_right _ hn
    rw [Nat.pow_succ, Nat.mul_comm (6 ^ k) 6]
    omega
/-- of the ways behind (i, aw), taken ahead as in τ: those in which stray j is q -/
def wcX (n : Nat) (ok : Nat → Nat → Bool) (τ : Nat → Nat) (j q k i aw : Nat) : Nat := if j < i then (if τ j = q then wcF n ok k i aw else 0) else wcF n (okC ok j q) k i aw
theorem wcX_s {n : Nat} {ok : Nat → Nat → Bool} {τ : Nat → Nat} {j q k i aw : Nat} : smF (fun p => if bt aw p = 0 ∧ ok p i = true then wcX n ok (va_up τ i p) j q k (i + 1) (aw + 2 ^ p) else 0) n = wcX n ok τ j q (k + 1) i aw := by
  unfold wcX
  by_cases h : j < i
  · rw [if_pos h]
    by_cases hq : τ j = q
    · rw [if_pos hq]
      refine smF_c (fun p hp => ?_)
      rw [if_pos (show j < i + 1 by omega), va_up_ne _ _ (show j ≠ i by omega), if_pos hq]
    · rw [if_neg hq]
      refine smF_z (fun p hp => ?_)
      rw [if_pos (show j < i + 1 by omega), va_up_ne _ _ (show j ≠ i by omega), if_neg hq]
      split <;> rfl
  · rw [if_neg h]
    by_cases e : j = i
    · subst e
      refine smF_c (fun p hp => ?_)
      rw [if_pos (show j < j + 1 by omega), va_up_self, wcF_pass k (j + 1) _ (by omega)]
      have e2 : okC ok j q p j = true ↔ ok p j = true ∧ p = q := by
        unfold okC
        rw [decide_eq_false (show ¬ ¬ j = j from fun h => h rfl), Bool.false_or, Bool.and_eq_true, decide_eq_true_eq]
      by_cases hp2 : p = q
      · subst hp2
        rw [if_pos rfl]
        by_cases hc : bt aw p = 0 ∧ ok p j = true
        · rw [if_pos hc, if_pos ⟨hc.1, e2.mpr ⟨hc.2, rfl⟩⟩]
        · rw [if_neg hc, if_neg (fun x => hc ⟨x.1, (e2.mp x.2).1⟩)]
      · rw [if_neg hp2, if_neg (show ¬ (bt aw p = 0 ∧ okC ok j q p j = true) from fun x => hp2 (e2.mp x.2).2)]
        split <;> rfl
    · refine smF_c (fun p hp => ?_)
      rw [if_neg (show ¬ j < i + 1 by omega)]
      have e2 : okC ok j q p i = ok p i := by
        unfold okC
        rw [decide_eq_true (show ¬ i = j by omega), Bool.true_or, Bool.and_true]
      rw [e2]
def okK (K sn : Nat → Nat) (p i : Nat) : Bool := decide (pop (K p ^^^ sn i) ≤ 1)
def ssF (ad : Nat → Nat) (M M' : aM) : Prop := (∀ c, c ≠ ad 74 → c ≠ ad 76 → c ≠ ad 77 → M' c = M c) ∧ ∀ k, k ≠ 3 → M' (ad 74) k = M (ad 74) k
theorem ssF_r (ad : Nat → Nat) (M : aM) : ssF ad M M := ⟨fun _ _ _ _ => rfl, fun _ _ => rfl⟩
theorem ssF_t {ad : Nat → Nat} {M M' M2 : aM} (h1 : ssF ad M M') (h2 : ssF ad M' M2) : ssF ad M M2 := ⟨fun c a b d => (h2.1 c a b d).trans (h1.1 c a b d), fun k a => (h2.2 k a).trans (h1.2 k a)⟩
/-- sure, after w ways of which c j q have q for stray j -/
def ssS (M : aM) (ad : Nat → Nat) (n sz w : Nat) (c : Nat → Nat → Nat) : Prop := ∀ j, j < sz → (∀ q, c j q ≤ w) ∧ (∀ q q', q ≠ q' → c j q + c j q' ≤ w) ∧ ((w = 0 ∧ M (ad 77) j = -1) ∨ (0 < w ∧ ∃ q, q < n ∧ M (ad 77) j = (q : Int) ∧ c j q = w) ∨ (0 < w ∧ M (ad 77) j = -9 ∧ ∀ q, c j q < w))
def ssE (M : aM) (ad : Nat → Nat) (n sz : Nat) (K sn : Nat → Nat) : Prop := M (ad 3) 0 = (n : Int) ∧ n ≤ 6 ∧ sz ≤ 6 ∧ (∀ p, p < n → M (ad 6) p = (K p : Int) ∧ K p ≤ 31) ∧ M (ad 74) 2 = (sz : Int) ∧ ∀ i, i < sz → M (ad 75) i = (sn i : Int) ∧ sn i < 32
theorem ssE_k {G : aG} {M M' : aM} {ad : Nat → Nat} {n sz : Nat} {K sn : Nat → Nat} (hB : CB G ad) (h : ssF ad M M') (hc : ssE M ad n sz K sn) : ssE M' ad n sz K sn := by
  unfold ssE
  rw [h.1 (ad 3) (cb_ne hB (by decide) (by decide) (by decide)) (cb_ne hB (by decide) (by decide) (by decide)) (cb_ne hB (by decide) (by decide) (by decide)), h.1 (ad 6) (cb_ne hB (by decide) (by decide) (by decide)) (cb_ne hB (by decide) (by decide) (by decide)) (cb_ne hB (by decide) (by decide) (by decide)), h.1 (ad 75) (cb_ne hB (by decide) (by decide) (by decide)) (cb_ne hB (by decide) (by decide) (by decide)) (cb_ne hB (by decide) (by decide) (by decide)), h.2 2 (by decide)]
  exact hc
theorem fin_aw0 : ((List.range 64).all fun g => (List.range 6).all fun p => (bt g p != 0) || (decide (g ||| 2 ^ p = g + 2 ^ p) && decide (g + 2 ^ p < 64))) = true := by decide +kernel
theorem fin_aw {g p : Nat} (hg : g < 64) (hp : p < 6) (h : bt g p = 0) : g ||| 2 ^ p = g + 2 ^ p ∧ g + 2 ^ p < 64 := by
  have h1 := List.all_eq_true.mp (List.all_eq_true.mp fin_aw0 g (List.mem_range.mpr hg)) p (List.mem_range.mpr hp)
  rw [h] at h1
  simp only [bne_self_eq_false, Bool.false_or, Bool.and_eq_true, decide_eq_true_eq] at h1
  exact h1
section STRAY
variable {Γ : aR} {ρ κ bd : Nat} {G : aG} {M : aM} {Q : aQ} {ad : Nat → Nat} {σ : SG}
theorem s_s_noteWay {n sz w : Nat} {c : Nat → Nat → Nat} {τ : Nat → Nat} (hB : CB G ad) (hz : M (ad 74) 2 = (sz : Int)) (hz6 : sz ≤ 6) (hn : n ≤ 6) (hτ : ∀ j, j < sz → M (ad 76) j = (τ j : Int) ∧ τ j < n) (hS : ssS M ad n sz w c) (hQ : ∀ M' : aM, (∀ k, k ≠ ad 77 → M' k = M k) → ssS M' ad n sz (w + 1) (fun j q => c j q + if τ j = q then 1 else 0) → Q none G M') : WPm Γ ρ 0 41 [vR (some (ad 74))] G M Q := by
  have n4 : ad 74 ≠ ad 77 := cb_ne hB (by decide) (by decide) (by decide)
  have n6 : ad 76 ≠ ad 77 := cb_ne hB (by decide) (by decide) (by decide)
  have loop : ∀ (k i : Nat) (M' : aM), i + k = sz → (∀ k, k ≠ ad 77 → M' k = M k) → (∀ j, i ≤ j → M' (ad 77) j = M (ad 77) j) → ssS M' ad n i (w + 1) (fun j q => c j q + if τ j = q then 1 else 0) → WP Γ ρ 0 41 2 [vR (some (ad 74)), vI i] [] G M' Q := by
    intro k
    induction k with
    | zero =>
      intro i M' hi ho hh hs
      obtain rfl : i = sz := by omega
      have m2 : M' (ad 74) 2 = (i : Int) := by rw [ho _ n4]; exact hz
      refine blk bk_s_noteWay_2 ?_
      simp (disch := omega) only [st_iconst, st_bipush, st_sipush, st_ldc, st_ldc_w, st_lconst, st_ldc2_w, st_iload_n, st_iload, st_lload_n, st_lload, st_aload_n, st_aload, st_istore_n, st_istore, st_lstore_n, st_lstore, st_astore_n, st_astore, st_iinc, st_iadd, st_isub, st_imul, st_idiv, st_irem, st_iand, st_ior, st_ixor, st_ishl, st_ishr, st_iushr, st_ladd, st_lmul, st_ldiv, st_lrem, st_land, st_lor, st_lxor, st_lshl, st_lshr, st_lcmp, st_i2l, st_l2i, st_i2c, st_dup, st_pop, st_dup2, st_iaload0, st_iaload1, st_caload, st_baload, st_laload, st_aaload, st_iastore, st_castore, st_bastore, st_lastore, st_aastore, st_arraylength0, st_arraylength1, st_getfield, st_putfield0, st_putfield1, st_putfield2, st_putfield3, st_getstatic, st_new, st_newarray, st_anewarray, st_goto, st_ifCond, st_if_icmp, st_tableswitch, st_lookupswitch, st_ireturn, st_lreturn, st_return, st_invokevirtual, st_invokestatic0, st_invokestatic1, st_invokespecial0, st_invokespecial1, cZ_eq, cZ_ne, cZ_lt, cZ_ge, cZ_gt, cZ_le, vcb_n, vcb_c, sw_n, sw_c, ↓pI_d, ↓pL_d, ↓pR_d, ↓pA_d, isI_d, isL_d, isL_di, isL_dr, isL_dj, isA_d, inc_c, stO, fV, List.getD_cons_zero, List.getD_cons_succ, List.set_cons_zero, List.set_cons_succ, List.take_succ_cons, List.take_zero, List.drop_succ_cons, List.drop_zero, List.reverse_cons, List.reverse_nil, List.nil_append, List.cons_append, List.append_nil, Option.toList_some, Option.toList_none, List.length_cons, List.length_nil, Nat.reduceAdd, Nat.reduceSub, Nat.reduceLeDiff, Nat.reduceEqDiff, Nat.add_eq, not_false_eq_true, not_true_eq_false, true_and, and_true, false_or, or_true, true_or, or_false, and_self, one_ne_zero_nat, w32_id, w32_n, Int.toNat_natCast, Int.reduceToNat, Nat.zero_add, Nat.zero_le, Nat.le_refl, Int.reduceEq, Int.reduceLT, Int.reduceLE, Int.reduceAdd, Int.reduceSub, Int.reduceMul, t_imp, f_imp, cO74 hB, m2]
      refine ⟨fun _ => ?_, fun q => absurd (Int.le_refl _) q⟩
      refine blk bk_s_noteWay_64 ?_
      simp (disch := omega) only [st_iconst, st_bipush, st_sipush, st_ldc, st_ldc_w, st_lconst, st_ldc2_w, st_iload_n, st_iload, st_lload_n, st_lload, st_aload_n, st_aload, st_istore_n, st_istore, st_lstore_n, st_lstore, st_astore_n, st_astore, st_iinc, st_iadd, st_isub, st_imul, st_idiv, st_irem, st_iand, st_ior, st_ixor, st_ishl, st_ishr, st_iushr, st_ladd, st_lmul, st_ldiv, st_lrem, st_land, st_lor, st_lxor, st_lshl, st_lshr, st_lcmp, st_i2l, st_l2i, st_i2c, st_dup, st_pop, st_dup2, st_iaload0, st_iaload1, st_caload, st_baload, st_laload, st_aaload, st_iastore, st_castore, st_bastore, st_lastore, st_aastore, st_arraylength0, st_arraylength1, st_getfield, st_putfield0, st_putfield1, st_putfield2, st_putfield3, st_getstatic, st_new, st_newarray, st_anewarray, st_goto, st_ifCond, st_if_icmp, st_tableswitch, st_lookupswitch, st_ireturn, st_lreturn, st_return, st_invokevirtual, st_invokestatic0, st_invokestatic1, st_invokespecial0, st_invokespecial1, cZ_eq, cZ_ne, cZ_lt, cZ_ge, cZ_gt, cZ_le, vcb_n, vcb_c, sw_n, sw_c, ↓pI_d, ↓pL_d, ↓pR_d, ↓pA_d, isI_d, isL_d, isL_di, isL_dr, isL_dj, isA_d, inc_c, stO, fV, List.getD_cons_zero, List.getD_cons_succ, List.set_cons_zero, List.set_cons_succ, List.take_succ_cons, List.take_zero, List.drop_succ_cons, List.drop_zero, List.reverse_cons, List.reverse_nil, List.nil_append, List.cons_append, List.append_nil, Option.toList_some, Option.toList_none, List.length_cons, List.length_nil, Nat.reduceAdd, Nat.reduceSub, Nat.reduceLeDiff, Nat.reduceEqDiff, Nat.add_eq, not_false_eq_true, not_true_eq_false, true_and, and_true, false_or, or_true, true_or, or_false, and_self, one_ne_zero_nat, w32_id, w32_n, Int.toNat_natCast, Int.reduceToNat, Nat.zero_add, Nat.zero_le, Nat.le_refl, Int.reduceEq, Int.reduceLT, Int.reduceLE, Int.reduceAdd, Int.reduceSub, Int.reduceMul, t_imp, f_imp]
      exact hQ M' ho hs
    | succ k ih =>
      intro i M' hi ho hh hs
      have m2 : M' (ad 74) 2 = (sz : Int) := by rw [ho _ n4]; exact hz
      have jl : inA G (ad 77) 0 (i : Int) := in_of (cA77 hB) (by omega) (by omega) (by decide)
      have j6 : inA G (ad 76) 0 (i : Int) := in_of (cA76 hB) (by omega) (by omega) (by decide)
      have m6 : M' (ad 76) i = (τ i : Int) := by rw [ho _ n6]; exact (hτ i (by omega)).1
      have ht := (hτ i (by omega)).2
      have hsi := hS i (by omega)
      have hmi := hh i (Nat.le_refl _)
      rw [← hmi] at hsi
      have nx : ∀ x : Int, ((0 < w + 1 ∧ ∃ q, q < n ∧ x = (q : Int) ∧ (c i q + if τ i = q then 1 else 0) = w + 1) ∨ (0 < w + 1 ∧ x = -9 ∧ ∀ q, (c i q + if τ i = q then 1 else 0) < w + 1)) → ssS (wr M' (ad 77) i x) ad n (i + 1) (w + 1) (fun j q => c j q + if τ j = q then 1 else 0) := by
        intro x hx j hj
        by_cases e : j = i
        · subst e
          rw [wr_s]
          refine ⟨fun q => ?_, fun q q' hqq => ?_, .inr hx⟩
          · have := hsi.1 q
            dsimp only
            split <;> omega
          · have h1 := hsi.2.1 q q' hqq
            dsimp only
            split <;> split <;> omega
        · rw [wr_o _ _ e]
          exact hs j (by omega)
      have go : ∀ x : Int, ((0 < w + 1 ∧ ∃ q, q < n ∧ x = (q : Int) ∧ (c i q + if τ i = q then 1 else 0) = w + 1) ∨ (0 < w + 1 ∧ x = -9 ∧ ∀ q, (c i q + if τ i = q then 1 else 0) < w + 1)) → WP Γ ρ 0 41 58 [vR (some (ad 74)), vI i] [] G (wr M' (ad 77) i x) Q := by
        intro x hx
        refine blk bk_s_noteWay_58 ?_
        simp (disch := omega) only [st_iconst, st_bipush, st_sipush, st_ldc, st_ldc_w, st_lconst, st_ldc2_w, st_iload_n, st_iload, st_lload_n, st_lload, st_aload_n, st_aload, st_istore_n, st_istore, st_lstore_n, st_lstore, st_astore_n, st_astore, st_iinc, st_iadd, st_isub, st_imul, st_idiv, st_irem, st_iand, st_ior, st_ixor, st_ishl, st_ishr, st_iushr, st_ladd, st_lmul, st_ldiv, st_lrem, st_land, st_lor, st_lxor, st_lshl, st_lshr, st_lcmp, st_i2l, st_l2i, st_i2c, st_dup, st_pop, st_dup2, st_iaload0, st_iaload1, st_caload, st_baload, st_laload, st_aaload, st_iastore, st_castore, st_bastore, st_lastore, st_aastore, st_arraylength0, st_arraylength1, st_getfield, st_putfield0, st_putfield1, st_putfield2, st_putfield3, st_getstatic, st_new, st_newarray, st_anewarray, st_goto, st_ifCond, st_if_icmp, st_tableswitch, st_lookupswitch, st_ireturn, st_lreturn, st_return, st_invokevirtual, st_invokestatic0, st_invokestatic1, st_invokespecial0, st_invokespecial1, cZ_eq, cZ_ne, cZ_lt, cZ_ge, cZ_gt, cZ_le, vcb_n, vcb_c, sw_n, sw_c, ↓pI_d, ↓pL_d, ↓pR_d, ↓pA_d, isI_d, isL_d, isL_di, isL_dr, isL_dj, isA_d, inc_c, stO, fV, List.getD_cons_zero, List.getD_cons_succ, List.set_cons_zero, List.set_cons_succ, List.take_succ_cons, List.take_zero, List.drop_succ_cons, List.drop_zero, List.reverse_cons, List.reverse_nil, List.nil_append, List.cons_append, List.append_nil, Option.toList_some, Option.toList_none, List.length_cons, List.length_nil, Nat.reduceAdd, Nat.reduceSub, Nat.reduceLeDiff, Nat.reduceEqDiff, Nat.add_eq, not_false_eq_true, not_true_eq_false, true_and, and_true, false_or, or_true, true_or, or_false, and_self, one_ne_zero_nat, w32_id, w32_n, Int.toNat_natCast, Int.reduceToNat, Nat.zero_add, Nat.zero_le, Nat.le_refl, Int.reduceEq, Int.reduceLT, Int.reduceLE, Int.reduceAdd, Int.reduceSub, Int.reduceMul, t_imp, f_imp]
        exact ih (i + 1) _ (by omega) (fun k hk => by rw [wr_c _ _ _ hk]; exact ho k hk) (fun j hj => by rw [wr_o _ _ (by omega)]; exact hh j (by omega)) (nx x hx)
      have bnd : -9 ≤ M' (ad 77) i ∧ M' (ad 77) i < 100 := by
        rcases hsi.2.2 with h | h | h
        · omega
        · obtain ⟨_, q, a, b, _⟩ := h
          omega
        · omega
      generalize hx : M' (ad 77) i = x at *
      refine blk bk_s_noteWay_2 ?_
      simp (disch := omega) only [st_iconst, st_bipush, st_sipush, st_ldc, st_ldc_w, st_lconst, st_ldc2_w, st_iload_n, st_iload, st_lload_n, st_lload, st_aload_n, st_aload, st_istore_n, st_istore, st_lstore_n, st_lstore, st_astore_n, st_astore, st_iinc, st_iadd, st_isub, st_imul, st_idiv, st_irem, st_iand, st_ior, st_ixor, st_ishl, st_ishr, st_iushr, st_ladd, st_lmul, st_ldiv, st_lrem, st_land, st_lor, st_lxor, st_lshl, st_lshr, st_lcmp, st_i2l, st_l2i, st_i2c, st_dup, st_pop, st_dup2, st_iaload0, st_iaload1, st_caload, st_baload, st_laload, st_aaload, st_iastore, st_castore, st_bastore, st_lastore, st_aastore, st_arraylength0, st_arraylength1, st_getfield, st_putfield0, st_putfield1, st_putfield2, st_putfield3, st_getstatic, st_new, st_newarray, st_anewarray, st_goto, st_ifCond, st_if_icmp, st_tableswitch, st_lookupswitch, st_ireturn, st_lreturn, st_return, st_invokevirtual, st_invokestatic0, st_invokestatic1, st_invokespecial0, st_invokespecial1, cZ_eq, cZ_ne, cZ_lt, cZ_ge, cZ_gt, cZ_le, vcb_n, vcb_c, sw_n, sw_c, ↓pI_d, ↓pL_d, ↓pR_d, ↓pA_d, isI_d, isL_d, isL_di, isL_dr, isL_dj, isA_d, inc_c, stO, fV, List.getD_cons_zero, List.getD_cons_succ, List.set_cons_zero, List.set_cons_succ, List.take_succ_cons, List.take_zero, List.drop_succ_cons, List.drop_zero, List.reverse_cons, List.reverse_nil, List.nil_append, List.cons_append, List.append_nil, Option.toList_some, Option.toList_none, List.length_cons, List.length_nil, Nat.reduceAdd, Nat.reduceSub, Nat.reduceLeDiff, Nat.reduceEqDiff, Nat.add_eq, not_false_eq_true, not_true_eq_false, true_and, and_true, false_or, or_true, true_or, or_false, and_self, one_ne_zero_nat, w32_id, w32_n, Int.toNat_natCast, Int.reduceToNat, Nat.zero_add, Nat.zero_le, Nat.le_refl, Int.reduceEq, Int.reduceLT, Int.reduceLE, Int.reduceAdd, Int.reduceSub, Int.reduceMul, t_imp, f_imp, cO74 hB, m2, cR74_4 hB, cR74_1 hB, jl, j6, m6, hx]
      refine ⟨fun q => absurd q (by omega), fun _ => ⟨fun q => ?_, fun q => ?_⟩⟩
      · have goi := go x
        rw [wr_id hx] at goi
        refine blk bk_s_noteWay_35 ?_
        simp (disch := omega) only [st_iconst, st_bipush, st_sipush, st_ldc, st_ldc_w, st_lconst, st_ldc2_w, st_iload_n, st_iload, st_lload_n, st_lload, st_aload_n, st_aload, st_istore_n, st_istore, st_lstore_n, st_lstore, st_astore_n, st_astore, st_iinc, st_iadd, st_isub, st_imul, st_idiv, st_irem, st_iand, st_ior, st_ixor, st_ishl, st_ishr, st_iushr, st_ladd, st_lmul, st_ldiv, st_lrem, st_land, st_lor, st_lxor, st_lshl, st_lshr, st_lcmp, st_i2l, st_l2i, st_i2c, st_dup, st_pop, st_dup2, st_iaload0, st_iaload1, st_caload, st_baload, st_laload, st_aaload, st_iastore, st_castore, st_bastore, st_lastore, st_aastore, st_arraylength0, st_arraylength1, st_getfield, st_putfield0, st_putfield1, st_putfield2, st_putfield3, st_getstatic, st_new, st_newarray, st_anewarray, st_goto, st_ifCond, st_if_icmp, st_tableswitch, st_lookupswitch, st_ireturn, st_lreturn, st_return, st_invokevirtual, st_invokestatic0, st_invokestatic1, st_invokespecial0, st_invokespecial1, cZ_eq, cZ_ne, cZ_lt, cZ_ge, cZ_gt, cZ_le, vcb_n, vcb_c, sw_n, sw_c, ↓pI_d, ↓pL_d, ↓pR_d, ↓pA_d, isI_d, isL_d, isL_di, isL_dr, isL_dj, isA_d, inc_c, stO, fV, List.getD_cons_zero, List.getD_cons_succ, List.set_cons_zero, List.set_cons_succ, List.take_succ_cons, List.take_zero, List.drop_succ_cons, List.drop_zero, List.reverse_cons, List.reverse_nil, List.nil_append, List.cons_append, List.append_nil, Option.toList_some, Option.toList_none, List.length_cons, List.length_nil, Nat.reduceAdd, Nat.reduceSub, Nat.reduceLeDiff, Nat.reduceEqDiff, Nat.add_eq, not_false_eq_true, not_true_eq_false, true_and, and_true, false_or, or_true, true_or, or_false, and_self, one_ne_zero_nat, w32_id, w32_n, Int.toNat_natCast, Int.reduceToNat, Nat.zero_add, Nat.zero_le, Nat.le_refl, Int.reduceEq, Int.reduceLT, Int.reduceLE, Int.reduceAdd, Int.reduceSub, Int.reduceMul, t_imp, f_imp, cO74 hB, cR74_4 hB, cR74_1 hB, jl, j6, m6, hx]
        refine ⟨fun q2 => goi ?_, fun q2 => go (-9) ?_⟩
        · rcases hsi.2.2 with h | h | h
          · omega
          · obtain ⟨_, r, a, b, d⟩ := h
            exact .inl ⟨by omega, r, a, b, by rw [if_pos (by omega)]; omega⟩
          · omega
        · refine .inr ⟨by omega, rfl, fun r => ?_⟩
          rcases hsi.2.2 with h | h | h
          · omega
          · obtain ⟨hw, s, a, b, d⟩ := h
            by_cases e : τ i = r
            · rw [if_pos e]
              have := hsi.2.1 s r (by omega)
              omega
            · rw [if_neg e]
              have := hsi.1 r
              omega
          · have := h.2.2 r
            split <;> omega
      · refine go (τ i) (.inl ⟨by omega, τ i, ht, rfl, ?_⟩)
        rw [if_pos rfl]
        rcases hsi.2.2 with h | h | h
        · have := hsi.1 (τ i)
          omega
        · obtain ⟨_, s, a, b, d⟩ := h
          omega
        · omega
  refine WPm_of (L := [vR (some (ad 74)), vJ]) 1 (by decide) (Nat.le_of_ble_eq_true rfl) rfl ?_
  refine blk bk_s_noteWay_0 ?_
  simp (disch := omega) only [st_iconst, st_bipush, st_sipush, st_ldc, st_ldc_w, st_lconst, st_ldc2_w, st_iload_n, st_iload, st_lload_n, st_lload, st_aload_n, st_aload, st_istore_n, st_istore, st_lstore_n, st_lstore, st_astore_n, st_astore, st_iinc, st_iadd, st_isub, st_imul, st_idiv, st_irem, st_iand, st_ior, st_ixor, st_ishl, st_ishr, st_iushr, st_ladd, st_lmul, st_ldiv, st_lrem, st_land, st_lor, st_lxor, st_lshl, st_lshr, st_lcmp, st_i2l, st_l2i, st_i2c, st_dup, st_pop, st_dup2, st_iaload0, st_iaload1, st_caload, st_baload, st_laload, st_aaload, st_iastore, st_castore, st_bastore, st_lastore, st_aastore, st_arraylength0, st_arraylength1, st_getfield, st_putfield0, st_putfield1, st_putfield2, st_putfield3, st_getstatic, st_new, st_newarray, st_anewarray, st_goto, st_ifCond, st_if_icmp, st_tableswitch, st_lookupswitch, st_ireturn, st_lreturn, st_return, st_invokevirtual, st_invokestatic0, st_invokestatic1, st_invokespecial0, st_invokespecial1, cZ_eq, cZ_ne, cZ_lt, cZ_ge, cZ_gt, cZ_le, vcb_n, vcb_c, sw_n, sw_c, ↓pI_d, ↓pL_d, ↓pR_d, ↓pA_d, isI_d, isL_d, isL_di, isL_dr, isL_dj, isA_d, inc_c, stO, fV, List.getD_cons_zero, List.getD_cons_succ, List.set_cons_zero, List.set_cons_succ, List.take_succ_cons, List.take_zero, List.drop_succ_cons, List.drop_zero, List.reverse_cons, List.reverse_nil, List.nil_append, List.cons_append, List.append_nil, Option.toList_some, Option.toList_none, List.length_cons, List.length_nil, Nat.reduceAdd, Nat.reduceSub, Nat.reduceLeDiff, Nat.reduceEqDiff, Nat.add_eq, not_false_eq_true, not_true_eq_false, true_and, and_true, false_or, or_true, true_or, or_false, and_self, one_ne_zero_nat, w32_id, w32_n, Int.toNat_natCast, Int.reduceToNat, Nat.zero_add, Nat.zero_le, Nat.le_refl, Int.reduceEq, Int.reduceLT, Int.reduceLE, Int.reduceAdd, Int.reduceSub, Int.reduceMul, t_imp, f_imp]
  exact loop sz 0 M (by omega) (fun _ _ => rfl) (fun _ _ => rfl) (fun j hj => absurd hj (Nat.not_lt_zero _))
theorem s_s_assign {n sz : Nat} {K sn : Nat → Nat} (hB : CB G ad) : ∀ (k i aw w : Nat) (c : Nat → Nat → Nat) (τ : Nat → Nat) (M : aM) (Q : aQ) (ρ : Nat), k + 2 ≤ ρ → i + k = sz → aw < 64 → ssE M ad n sz K sn → (∀ j, j < i → M (ad 76) j = (τ j : Int) ∧ τ j < n) → M (ad 74) 3 = (w : Int) → ssS M ad n sz w c →
    (∀ M' : aM, ssF ad M M' → (∀ j, j < i → M' (ad 76) j = M (ad 76) j) → M' (ad 74) 3 = ((w + wcF n (okK K sn) k i aw : Nat) : Int) → ssS M' ad n sz (w + wcF n (okK K sn) k i aw) (fun j q => c j q + wcX n (okK K sn) τ j q k i aw) → Q none G M') → WPm Γ ρ 0 40 [vR (some (ad 74)), vR (some (ad 3)), vI i, vI aw] G M Q := by
  have n7 : ad 77 ≠ ad 74 := cb_ne hB (by decide) (by decide) (by decide)
  have n6 : ad 76 ≠ ad 77 := cb_ne hB (by decide) (by decide) (by decide)
  have n4 : ad 74 ≠ ad 76 := cb_ne hB (by decide) (by decide) (by decide)
  have n67 : ad 77 ≠ ad 76 := Ne.symm n6
  intro k
  induction k with
  | zero =>
    intro i aw w c τ M Q ρ hρ hi haw hE hτ hw hS hQ
    obtain rfl : i = sz := by omega
    obtain ⟨e1, e2, e3, e4, e5, e6⟩ := id hE
    have hQ : ∀ M' : aM, ssF ad M M' → (∀ j, j < i → M' (ad 76) j = M (ad 76) j) → M' (ad 74) 3 = ((w + 1 : Nat) : Int) → ssS M' ad n i (w + 1) (fun j q => c j q + wcX n (okK K sn) τ j q 0 i aw) → Q none G M' := hQ
    refine WPm_of (L := [vR (some (ad 74)), vR (some (ad 3)), vI i, vI aw, vJ, vJ]) 2 (by decide) (Nat.le_of_ble_eq_true rfl) rfl ?_
    refine blk bk_s_assign_0 ?_
    simp (disch := omega) only [st_iconst, st_bipush, st_sipush, st_ldc, st_ldc_w, st_lconst, st_ldc2_w, st_iload_n, st_iload, st_lload_n, st_lload, st_aload_n, st_aload, st_istore_n, st_istore, st_lstore_n, st_lstore, st_astore_n, st_astore, st_iinc, st_iadd, st_isub, st_imul, st_idiv, st_irem, st_iand, st_ior, st_ixor, st_ishl, st_ishr, st_iushr, st_ladd, st_lmul, st_ldiv, st_lrem, st_land, st_lor, st_lxor, st_lshl, st_lshr, st_lcmp, st_i2l, st_l2i, st_i2c, st_dup, st_pop, st_dup2, st_iaload0, st_iaload1, st_caload, st_baload, st_laload, st_aaload, st_iastore, st_castore, st_bastore, st_lastore, st_aastore, st_arraylength0, st_arraylength1, st_getfield, st_putfield0, st_putfield1, st_putfield2, st_putfield3, st_getstatic, st_new, st_newarray, st_anewarray, st_goto, st_ifCond, st_if_icmp, st_tableswitch, st_lookupswitch, st_ireturn, st_lreturn, st_return, st_invokevirtual, st_invokestatic0, st_invokestatic1, st_invokespecial0, st_invokespecial1, cZ_eq, cZ_ne, cZ_lt, cZ_ge, cZ_gt, cZ_le, vcb_n, vcb_c, sw_n, sw_c, ↓pI_d, ↓pL_d, ↓pR_d, ↓pA_d, isI_d, isL_d, isL_di, isL_dr, isL_dj, isA_d, inc_c, stO, fV, List.getD_cons_zero, List.getD_cons_succ, List.set_cons_zero, List.set_cons_succ, List.take_succ_cons, List.take_zero, List.drop_succ_cons, List.drop_zero, List.reverse_cons, List.reverse_nil, List.nil_append, List.cons_append, List.append_nil, Option.toList_some, Option.toList_none, List.length_cons, List.length_nil, Nat.reduceAdd, Nat.reduceSub, Nat.reduceLeDiff, Nat.reduceEqDiff, Nat.add_eq, not_false_eq_true, not_true_eq_false, true_and, and_true, false_or, or_true, true_or, or_false, and_self, one_ne_zero_nat, w32_id, w32_n, Int.toNat_natCast, Int.reduceToNat, Nat.zero_add, Nat.zero_le, Nat.le_refl, Int.reduceEq, Int.reduceLT, Int.reduceLE, Int.reduceAdd, Int.reduceSub, Int.reduceMul, t_imp, f_imp, cO74 hB, e5, hw]
    refine ⟨fun q => absurd q (by omega), fun _ => ⟨by omega, ?_⟩⟩
    refine s_s_noteWay (n := n) (sz := i) (w := w) (c := c) (τ := τ) hB (by rw [wr_o _ _ (by decide)]; exact e5) e3 e2 (fun j hj => by rw [wr_c _ _ _ (Ne.symm n4)]; exact hτ j hj) (fun j hj => by rw [wr_c _ _ _ n7]; exact hS j hj) (fun M2 o2 s2 => ?_)
    refine blk bk_s_assign_22 ?_
    simp (disch := omega) only [st_iconst, st_bipush, st_sipush, st_ldc, st_ldc_w, st_lconst, st_ldc2_w, st_iload_n, st_iload, st_lload_n, st_lload, st_aload_n, st_aload, st_istore_n, st_istore, st_lstore_n, st_lstore, st_astore_n, st_astore, st_iinc, st_iadd, st_isub, st_imul, st_idiv, st_irem, st_iand, st_ior, st_ixor, st_ishl, st_ishr, st_iushr, st_ladd, st_lmul, st_ldiv, st_lrem, st_land, st_lor, st_lxor, st_lshl, st_lshr, st_lcmp, st_i2l, st_l2i, st_i2c, st_dup, st_pop, st_dup2, st_iaload0, st_iaload1, st_caload, st_baload, st_laload, st_aaload, st_iastore, st_castore, st_bastore, st_lastore, st_aastore, st_arraylength0, st_arraylength1, st_getfield, st_putfield0, st_putfield1, st_putfield2, st_putfield3, st_getstatic, st_new, st_newarray, st_anewarray, st_goto, st_ifCond, st_if_icmp, st_tableswitch, st_lookupswitch, st_ireturn, st_lreturn, st_return, st_invokevirtual, st_invokestatic0, st_invokestatic1, st_invokespecial0, st_invokespecial1, cZ_eq, cZ_ne, cZ_lt, cZ_ge, cZ_gt, cZ_le, vcb_n, vcb_c, sw_n, sw_c, ↓pI_d, ↓pL_d, ↓pR_d, ↓pA_d, isI_d, isL_d, isL_di, isL_dr, isL_dj, isA_d, inc_c, stO, fV, List.getD_cons_zero, List.getD_cons_succ, List.set_cons_zero, List.set_cons_succ, List.take_succ_cons, List.take_zero, List.drop_succ_cons, List.drop_zero, List.reverse_cons, List.reverse_nil, List.nil_append, List.cons_append, List.append_nil, Option.toList_some, Option.toList_none, List.length_cons, List.length_nil, Nat.reduceAdd, Nat.reduceSub, Nat.reduceLeDiff, Nat.reduceEqDiff, Nat.add_eq, not_false_eq_true, not_true_eq_false, true_and, and_true, false_or, or_true, true_or, or_false, and_self, one_ne_zero_nat, w32_id, w32_n, Int.toNat_natCast, Int.reduceToNat, Nat.zero_add, Nat.zero_le, Nat.le_refl, Int.reduceEq, Int.reduceLT, Int.reduceLE, Int.reduceAdd, Int.reduceSub, Int.reduceMul, t_imp, f_imp]
    refine hQ M2 ⟨fun c h1 h2 h3 => by rw [o2 c h3, wr_c _ _ _ h1], fun k hk => by rw [o2 _ (Ne.symm n7), wr_o _ _ hk]⟩ (fun j hj => by rw [o2 _ n6, wr_c _ _ _ (Ne.symm n4)]) (by rw [o2 _ (Ne.symm n7), wr_s]; rfl) (fun j hj => ?_)
    have h := s2 j hj
    have e : ∀ q, wcX n (okK K sn) τ j q 0 i aw = if τ j = q then 1 else 0 := fun q => by
      unfold wcX
      rw [if_pos hj]
      rfl
    dsimp only at h ⊢
    simp only [e]
    exact h
  | succ k ih =>
    intro i aw w c τ M Q ρ hρ hi haw hE hτ hw hS hQ
    obtain ⟨e1, e2, e3, e4, e5, e6⟩ := id hE
    have es : wcF n (okK K sn) (k + 1) i aw = smF (fun p => if bt aw p = 0 ∧ okK K sn p i = true then wcF n (okK K sn) k (i + 1) (aw + 2 ^ p) else 0) n := rfl
    have ex : ∀ j q, wcX n (okK K sn) τ j q (k + 1) i aw = smF (fun p => if bt aw p = 0 ∧ okK K sn p i = true then wcX n (okK K sn) (va_up τ i p) j q k (i + 1) (aw + 2 ^ p) else 0) n := fun j q => wcX_s.symm
    simp only [es, ex] at hQ
    have loop : ∀ (r p : Nat) (M' : aM) (v : aV), p + r = n → ¬ isL v → ssF ad M M' → (∀ j, j < i → M' (ad 76) j = M (ad 76) j) → M' (ad 74) 3 = ((w + smF (fun p => if bt aw p = 0 ∧ okK K sn p i = true then wcF n (okK K sn) k (i + 1) (aw + 2 ^ p) else 0) p : Nat) : Int) → ssS M' ad n sz (w + smF (fun p => if bt aw p = 0 ∧ okK K sn p i = true then wcF n (okK K sn) k (i + 1) (aw + 2 ^ p) else 0) p) (fun j q => c j q + smF (fun p => if bt aw p = 0 ∧ okK K sn p i = true then wcX n (okK K sn) (va_up τ i p) j q k (i + 1) (aw + 2 ^ p) else 0) p) → WP Γ ρ 0 40 26 [vR (some (ad 74)), vR (some (ad 3)), vI i, vI aw, vI p, v] [] G M' Q := by
      intro r
      induction r with
      | zero =>
        intro p M' v hp hv hF ht h3 hs
        obtain rfl : p = n := by omega
        have fin := hQ M' hF ht h3 hs
        have m0 : M' (ad 3) 0 = (p : Int) := (ssE_k hB hF hE).1
        refine blk bk_s_assign_26 ?_
        simp (disch := omega) only [st_iconst, st_bipush, st_sipush, st_ldc, st_ldc_w, st_lconst, st_ldc2_w, st_iload_n, st_iload, st_lload_n, st_lload, st_aload_n, st_aload, st_istore_n, st_istore, st_lstore_n, st_lstore, st_astore_n, st_astore, st_iinc, st_iadd, st_isub, st_imul, st_idiv, st_irem, st_iand, st_ior, st_ixor, st_ishl, st_ishr, st_iushr, st_ladd, st_lmul, st_ldiv, st_lrem, st_land, st_lor, st_lxor, st_lshl, st_lshr, st_lcmp, st_i2l, st_l2i, st_i2c, st_dup, st_pop, st_dup2, st_iaload0, st_iaload1, st_caload, st_baload, st_laload, st_aaload, st_iastore, st_castore, st_bastore, st_lastore, st_aastore, st_arraylength0, st_arraylength1, st_getfield, st_putfield0, st_putfield1, st_putfield2, st_putfield3, st_getstatic, st_new, st_newarray, st_anewarray, st_goto, st_ifCond, st_if_icmp, st_tableswitch, st_lookupswitch, st_ireturn, st_lreturn, st_return, st_invokevirtual, st_invokestatic0, st_invokestatic1, st_invokespecial0, st_invokespecial1, cZ_eq, cZ_ne, cZ_lt, cZ_ge, cZ_gt, cZ_le, vcb_n, vcb_c, sw_n, sw_c, ↓pI_d, ↓pL_d, ↓pR_d, ↓pA_d, isI_d, isL_d, isL_di, isL_dr, isL_dj, isA_d, inc_c, stO, fV, List.getD_cons_zero, List.getD_cons_succ, List.set_cons_zero, List.set_cons_succ, List.take_succ_cons, List.take_zero, List.drop_succ_cons, List.drop_zero, List.reverse_cons, List.reverse_nil, List.nil_append, List.cons_append, List.append_nil, Option.toList_some, Option.toList_none, List.length_cons, List.length_nil, Nat.reduceAdd, Nat.reduceSub, Nat.reduceLeDiff, Nat.reduceEqDiff, Nat.add_eq, not_false_eq_true, not_true_eq_false, true_and, and_true, false_or, or_true, true_or, or_false, and_self, one_ne_zero_nat, w32_id, w32_n, Int.toNat_natCast, Int.reduceToNat, Nat.zero_add, Nat.zero_le, Nat.le_refl, Int.reduceEq, Int.reduceLT, Int.reduceLE, Int.reduceAdd, Int.reduceSub, Int.reduceMul, t_imp, f_imp, cO3 hB, m0]
        refine ⟨fun _ => ?_, fun q => absurd (Int.le_refl _) q⟩
        refine blk bk_s_assign_105 ?_
        simp (disch := omega) only [st_iconst, st_bipush, st_sipush, st_ldc, st_ldc_w, st_lconst, st_ldc2_w, st_iload_n, st_iload, st_lload_n, st_lload, st_aload_n, st_aload, st_istore_n, st_istore, st_lstore_n, st_lstore, st_astore_n, st_astore, st_iinc, st_iadd, st_isub, st_imul, st_idiv, st_irem, st_iand, st_ior, st_ixor, st_ishl, st_ishr, st_iushr, st_ladd, st_lmul, st_ldiv, st_lrem, st_land, st_lor, st_lxor, st_lshl, st_lshr, st_lcmp, st_i2l, st_l2i, st_i2c, st_dup, st_pop, st_dup2, st_iaload0, st_iaload1, st_caload, st_baload, st_laload, st_aaload, st_iastore, st_castore, st_bastore, st_lastore, st_aastore, st_arraylength0, st_arraylength1, st_getfield, st_putfield0, st_putfield1, st_putfield2, st_putfield3, st_getstatic, st_new, st_newarray, st_anewarray, st_goto, st_ifCond, st_if_icmp, st_tableswitch, st_lookupswitch, st_ireturn, st_lreturn, st_return, st_invokevirtual, st_invokestatic0, st_invokestatic1, st_invokespecial0, st_invokespecial1, cZ_eq, cZ_ne, cZ_lt, cZ_ge, cZ_gt, cZ_le, vcb_n, vcb_c, sw_n, sw_c, ↓pI_d, ↓pL_d, ↓pR_d, ↓pA_d, isI_d, isL_d, isL_di, isL_dr, isL_dj, isA_d, inc_c, stO, fV, List.getD_cons_zero, List.getD_cons_succ, List.set_cons_zero, List.set_cons_succ, List.take_succ_cons, List.take_zero, List.drop_succ_cons, List.drop_zero, List.reverse_cons, List.reverse_nil, List.nil_append, List.cons_append, List.append_nil, Option.toList_some, Option.toList_none, List.length_cons, List.length_nil, Nat.reduceAdd, Nat.reduceSub, Nat.reduceLeDiff, Nat.reduceEqDiff, Nat.add_eq, not_false_eq_true, not_true_eq_false, true_and, and_true, false_or, or_true, true_or, or_false, and_self, one_ne_zero_nat, w32_id, w32_n, Int.toNat_natCast, Int.reduceToNat, Nat.zero_add, Nat.zero_le, Nat.le_refl, Int.reduceEq, Int.reduceLT, Int.reduceLE, Int.reduceAdd, Int.reduceSub, Int.reduceMul, t_imp, f_imp]
        exact fin
      | succ r ih2 =>
        intro p M' v hp hv hF ht h3 hs
        have E' := ssE_k hB hF hE
        have m0 : M' (ad 3) 0 = (n : Int) := E'.1
        have hpn : p < n := by omega
        obtain ⟨kp, kp31⟩ := E'.2.2.2.1 p hpn
        obtain ⟨si, si32⟩ := E'.2.2.2.2.2 i (by omega)
        have b01 := bt_01 aw p
        have j6 : inA G (ad 6) 0 (p : Int) := in_of (cA6 hB) (by omega) (by omega) (by decide)
        have j75 : inA G (ad 75) 0 (i : Int) := in_of (cA75 hB) (by omega) (by omega) (by decide)
        have j76 : inA G (ad 76) 0 (i : Int) := in_of (cA76 hB) (by omega) (by omega) (by decide)
        have hx32 : K p ^^^ sn i < 32 := Nat.xor_lt_two_pow (n := 5) (by omega) si32
        have skip : ∀ f : Nat, f ≤ 1 → ¬ (bt aw p = 0 ∧ okK K sn p i = true) → WP Γ ρ 0 40 99 [vR (some (ad 74)), vR (some (ad 3)), vI i, vI aw, vI p, vI f] [] G M' Q := by
          intro f hf hc
          have hnx := ih2 (p + 1) M' (vI f) (by omega) (fun h => h) hF ht
          have en : ∀ g : Nat → Nat, smF (fun p => if bt aw p = 0 ∧ okK K sn p i = true then g p else 0) (p + 1) = smF (fun p => if bt aw p = 0 ∧ okK K sn p i = true then g p else 0) p := fun g => by
            show _ + (if bt aw p = 0 ∧ okK K sn p i = true then g p else 0) = _
            rw [if_neg hc, Nat.add_zero]
          rw [en] at hnx
          simp only [en] at hnx
          have hnx := hnx h3 hs
          clear h3 hs en hQ ih ih2
          refine blk bk_s_assign_99 ?_
          simp (disch := omega) only [st_iconst, st_bipush, st_sipush, st_ldc, st_ldc_w, st_lconst, st_ldc2_w, st_iload_n, st_iload, st_lload_n, st_lload, st_aload_n, st_aload, st_istore_n, st_istore, st_lstore_n, st_lstore, st_astore_n, st_astore, st_iinc, st_iadd, st_isub, st_imul, st_idiv, st_irem, st_iand, st_ior, st_ixor, st_ishl, st_ishr, st_iushr, st_ladd, st_lmul, st_ldiv, st_lrem, st_land, st_lor, st_lxor, st_lshl, st_lshr, st_lcmp, st_i2l, st_l2i, st_i2c, st_dup, st_pop, st_dup2, st_iaload0, st_iaload1, st_caload, st_baload, st_laload, st_aaload, st_iastore, st_castore, st_bastore, st_lastore, st_aastore, st_arraylength0, st_arraylength1, st_getfield, st_putfield0, st_putfield1, st_putfield2, st_putfield3, st_getstatic, st_new, st_newarray, st_anewarray, st_goto, st_ifCond, st_if_icmp, st_tableswitch, st_lookupswitch, st_ireturn, st_lreturn, st_return, st_invokevirtual, st_invokestatic0, st_invokestatic1, st_invokespecial0, st_invokespecial1, cZ_eq, cZ_ne, cZ_lt, cZ_ge, cZ_gt, cZ_le, vcb_n, vcb_c, sw_n, sw_c, ↓pI_d, ↓pL_d, ↓pR_d, ↓pA_d, isI_d, isL_d, isL_di, isL_dr, isL_dj, isA_d, inc_c, stO, fV, List.getD_cons_zero, List.getD_cons_succ, List.set_cons_zero, List.set_cons_succ, List.take_succ_cons, List.take_zero, List.drop_succ_cons, List.drop_zero, List.reverse_cons, List.reverse_nil, List.nil_append, List.cons_append, List.append_nil, Option.toList_some, Option.toList_none, List.length_cons, List.length_nil, Nat.reduceAdd, Nat.reduceSub, Nat.reduceLeDiff, Nat.reduceEqDiff, Nat.add_eq, not_false_eq_true, not_true_eq_false, true_and, and_true, false_or, or_true, true_or, or_false, and_self, one_ne_zero_nat, w32_id, w32_n, Int.toNat_natCast, Int.reduceToNat, Nat.zero_add, Nat.zero_le, Nat.le_refl, Int.reduceEq, Int.reduceLT, Int.reduceLE, Int.reduceAdd, Int.reduceSub, Int.reduceMul, t_imp, f_imp]
          exact hnx
        have take : bt aw p = 0 ∧ okK K sn p i = true → WPm Γ (ρ - 1) 0 40 [vR (some (ad 74)), vR (some (ad 3)), vI ((i : Int) + 1), vI ((aw + 2 ^ p : Nat) : Int)] G (wr M' (ad 76) i (p : Int)) (fun u G' M2 => WP Γ ρ 0 40 99 [vR (some (ad 74)), vR (some (ad 3)), vI i, vI aw, vI p, vI 1] u.toList G' M2 Q) := by
          intro hc
          have haw2 := fin_aw haw (show p < 6 by omega) hc.1
          have en : ∀ g : Nat → Nat, smF (fun p => if bt aw p = 0 ∧ okK K sn p i = true then g p else 0) (p + 1) = smF (fun p => if bt aw p = 0 ∧ okK K sn p i = true then g p else 0) p + g p := fun g => by
            show _ + (if bt aw p = 0 ∧ okK K sn p i = true then g p else 0) = _
            rw [if_pos hc]
          have F1 : ssF ad M' (wr M' (ad 76) i (p : Int)) := ⟨fun c h1 h2 h3 => wr_c _ _ _ h2, fun k hk => by rw [wr_c _ _ _ n4]⟩
          have hih := fun w c τ => ih (i + 1) (aw + 2 ^ p) w c τ (wr M' (ad 76) i (p : Int)) (fun u G' M2 => WP Γ ρ 0 40 99 [vR (some (ad 74)), vR (some (ad 3)), vI i, vI aw, vI p, vI 1] u.toList G' M2 Q) (ρ - 1) (by omega) (by omega) haw2.2 (ssE_k hB F1 E')
          refine hih _ _ (va_up τ i p) (fun j hj => ?_) (by rw [wr_c _ _ _ n4]; exact h3) (fun j hj => by rw [wr_c _ _ _ n67]; exact hs j hj) (fun M2 F2 t2 w2 s2 => ?_)
          · by_cases e : j = i
            · subst e
              rw [wr_s, va_up_self]
              exact ⟨rfl, hpn⟩
            · rw [wr_o _ _ e, va_up_ne _ _ e, ht j (by omega)]
              exact hτ j (by omega)
          · have hnx := ih2 (p + 1) M2 (vI 1) (by omega) (fun h => h) (ssF_t hF (ssF_t F1 F2)) (fun j hj => by rw [t2 j (by omega), wr_o _ _ (by omega)]; exact ht j hj)
            rw [en] at hnx
            simp only [en, ← Nat.add_assoc] at hnx
            have hnx := hnx w2 s2
            clear h3 hs en hQ ih ih2 hih w2 s2
            refine blk bk_s_assign_99 ?_
            simp (disch := omega) only [st_iconst, st_bipush, st_sipush, st_ldc, st_ldc_w, st_lconst, st_ldc2_w, st_iload_n, st_iload, st_lload_n, st_lload, st_aload_n, st_aload, st_istore_n, st_istore, st_lstore_n, st_lstore, st_astore_n, st_astore, st_iinc, st_iadd, st_isub, st_imul, st_idiv, st_irem, st_iand, st_ior, st_ixor, st_ishl, st_ishr, st_iushr, st_ladd, st_lmul, st_ldiv, st_lrem, st_land, st_lor, st_lxor, st_lshl, st_lshr, st_lcmp, st_i2l, st_l2i, st_i2c, st_dup, st_pop, st_dup2, st_iaload0, st_iaload1, st_caload, st_baload, st_laload, st_aaload, st_iastore, st_castore, st_bastore, st_lastore, st_aastore, st_arraylength0, st_arraylength1, st_getfield, st_putfield0, st_putfield1, st_putfield2, st_putfield3, st_getstatic, st_new, st_newarray, st_anewarray, st_goto, st_ifCond, st_if_icmp, st_tableswitch, st_lookupswitch, st_ireturn, st_lreturn, st_return, st_invokevirtual, st_invokestatic0, st_invokestatic1, st_invokespecial0, st_invokespecial1, cZ_eq, cZ_ne, cZ_lt, cZ_ge, cZ_gt, cZ_le, vcb_n, vcb_c, sw_n, sw_c, ↓pI_d, ↓pL_d, ↓pR_d, ↓pA_d, isI_d, isL_d, isL_di, isL_dr, isL_dj, isA_d, inc_c, stO, fV, List.getD_cons_zero, List.getD_cons_succ, List.set_cons_zero, List.set_cons_succ, List.take_succ_cons, List.take_zero, List.drop_succ_cons, List.drop_zero, List.reverse_cons, List.reverse_nil, List.nil_append, List.cons_append, List.append_nil, Option.toList_some, Option.toList_none, List.length_cons, List.length_nil, Nat.reduceAdd, Nat.reduceSub, Nat.reduceLeDiff, Nat.reduceEqDiff, Nat.add_eq, not_false_eq_true, not_true_eq_false, true_and, and_true, false_or, or_true, true_or, or_false, and_self, one_ne_zero_nat, w32_id, w32_n, Int.toNat_natCast, Int.reduceToNat, Nat.zero_add, Nat.zero_le, Nat.le_refl, Int.reduceEq, Int.reduceLT, Int.reduceLE, Int.reduceAdd, Int.reduceSub, Int.reduceMul, t_imp, f_imp]
            exact hnx
        clear h3 hs hQ ih ih2 es ex
        have ex2 : okK K sn p i = true ↔ pop (K p ^^^ sn i) ≤ 1 := decide_eq_true_iff
        have p10 := pop_le10 (K p ^^^ sn i)
        have free : ∀ f : Nat, f ≤ 1 → (f = 1 ↔ bt aw p = 0) → WP Γ ρ 0 40 49 [vR (some (ad 74)), vR (some (ad 3)), vI i, vI aw, vI p, v] [vI f] G M' Q := by
          intro f hf hff
          refine blk bk_s_assign_49 ?_
          simp (disch := omega) only [st_iconst, st_bipush, st_sipush, st_ldc, st_ldc_w, st_lconst, st_ldc2_w, st_iload_n, st_iload, st_lload_n, st_lload, st_aload_n, st_aload, st_istore_n, st_istore, st_lstore_n, st_lstore, st_astore_n, st_astore, st_iinc, st_iadd, st_isub, st_imul, st_idiv, st_irem, st_iand, st_ior, st_ixor, st_ishl, st_ishr, st_iushr, st_ladd, st_lmul, st_ldiv, st_lrem, st_land, st_lor, st_lxor, st_lshl, st_lshr, st_lcmp, st_i2l, st_l2i, st_i2c, st_dup, st_pop, st_dup2, st_iaload0, st_iaload1, st_caload, st_baload, st_laload, st_aaload, st_iastore, st_castore, st_bastore, st_lastore, st_aastore, st_arraylength0, st_arraylength1, st_getfield, st_putfield0, st_putfield1, st_putfield2, st_putfield3, st_getstatic, st_new, st_newarray, st_anewarray, st_goto, st_ifCond, st_if_icmp, st_tableswitch, st_lookupswitch, st_ireturn, st_lreturn, st_return, st_invokevirtual, st_invokestatic0, st_invokestatic1, st_invokespecial0, st_invokespecial1, cZ_eq, cZ_ne, cZ_lt, cZ_ge, cZ_gt, cZ_le, vcb_n, vcb_c, sw_n, sw_c, ↓pI_d, ↓pL_d, ↓pR_d, ↓pA_d, isI_d, isL_d, isL_di, isL_dr, isL_dj, isA_d, inc_c, stO, fV, List.getD_cons_zero, List.getD_cons_succ, List.set_cons_zero, List.set_cons_succ, List.take_succ_cons, List.take_zero, List.drop_succ_cons, List.drop_zero, List.reverse_cons, List.reverse_nil, List.nil_append, List.cons_append, List.append_nil, Option.toList_some, Option.toList_none, List.length_cons, List.length_nil, Nat.reduceAdd, Nat.reduceSub, Nat.reduceLeDiff, Nat.reduceEqDiff, Nat.add_eq, not_false_eq_true, not_true_eq_false, true_and, and_true, false_or, or_true, true_or, or_false, and_self, one_ne_zero_nat, w32_id, w32_n, Int.toNat_natCast, Int.reduceToNat, Nat.zero_add, Nat.zero_le, Nat.le_refl, Int.reduceEq, Int.reduceLT, Int.reduceLE, Int.reduceAdd, Int.reduceSub, Int.reduceMul, t_imp, f_imp, cO3 hB, cO74 hB, cR3_3 hB, cR74_0 hB, j6, j75, kp, si, xorI, hv]
          refine ⟨fun q => skip f hf (by omega), fun q => ⟨by omega, s_j_bitCount (by omega) ?_⟩⟩
          generalize pop (K p ^^^ sn i) = pp at *
          obtain rfl : f = 1 := by omega
          have hb0 : bt aw p = 0 := hff.mp rfl
          have haw2 := fin_aw haw (show p < 6 by omega) hb0
          have h2p : 2 ^ p < 64 := by omega
          refine blk bk_s_assign_73 ?_
          simp (disch := omega) only [st_iconst, st_bipush, st_sipush, st_ldc, st_ldc_w, st_lconst, st_ldc2_w, st_iload_n, st_iload, st_lload_n, st_lload, st_aload_n, st_aload, st_istore_n, st_istore, st_lstore_n, st_lstore, st_astore_n, st_astore, st_iinc, st_iadd, st_isub, st_imul, st_idiv, st_irem, st_iand, st_ior, st_ixor, st_ishl, st_ishr, st_iushr, st_ladd, st_lmul, st_ldiv, st_lrem, st_land, st_lor, st_lxor, st_lshl, st_lshr, st_lcmp, st_i2l, st_l2i, st_i2c, st_dup, st_pop, st_dup2, st_iaload0, st_iaload1, st_caload, st_baload, st_laload, st_aaload, st_iastore, st_castore, st_bastore, st_lastore, st_aastore, st_arraylength0, st_arraylength1, st_getfield, st_putfield0, st_putfield1, st_putfield2, st_putfield3, st_getstatic, st_new, st_newarray, st_anewarray, st_goto, st_ifCond, st_if_icmp, st_tableswitch, st_lookupswitch, st_ireturn, st_lreturn, st_return, st_invokevirtual, st_invokestatic0, st_invokestatic1, st_invokespecial0, st_invokespecial1, cZ_eq, cZ_ne, cZ_lt, cZ_ge, cZ_gt, cZ_le, vcb_n, vcb_c, sw_n, sw_c, ↓pI_d, ↓pL_d, ↓pR_d, ↓pA_d, isI_d, isL_d, isL_di, isL_dr, isL_dj, isA_d, inc_c, stO, fV, List.getD_cons_zero, List.getD_cons_succ, List.set_cons_zero, List.set_cons_succ, List.take_succ_cons, List.take_zero, List.drop_succ_cons, List.drop_zero, List.reverse_cons, List.reverse_nil, List.nil_append, List.cons_append, List.append_nil, Option.toList_some, Option.toList_none, List.length_cons, List.length_nil, Nat.reduceAdd, Nat.reduceSub, Nat.reduceLeDiff, Nat.reduceEqDiff, Nat.add_eq, not_false_eq_true, not_true_eq_false, true_and, and_true, false_or, or_true, true_or, or_false, and_self, one_ne_zero_nat, w32_id, w32_n, Int.toNat_natCast, Int.reduceToNat, Nat.zero_add, Nat.zero_le, Nat.le_refl, Int.reduceEq, Int.reduceLT, Int.reduceLE, Int.reduceAdd, Int.reduceSub, Int.reduceMul, t_imp, f_imp, cO74 hB, cR74_1 hB, j76, shl1I, orI]
          refine ⟨fun q => skip 1 (by decide) (fun hc => by have := ex2.mp hc.2; omega), fun q => ⟨by omega, ?_⟩⟩
          rw [haw2.1]
          exact take ⟨hb0, ex2.mpr (by omega)⟩
        refine blk bk_s_assign_26 ?_
        simp (disch := omega) only [st_iconst, st_bipush, st_sipush, st_ldc, st_ldc_w, st_lconst, st_ldc2_w, st_iload_n, st_iload, st_lload_n, st_lload, st_aload_n, st_aload, st_istore_n, st_istore, st_lstore_n, st_lstore, st_astore_n, st_astore, st_iinc, st_iadd, st_isub, st_imul, st_idiv, st_irem, st_iand, st_ior, st_ixor, st_ishl, st_ishr, st_iushr, st_ladd, st_lmul, st_ldiv, st_lrem, st_land, st_lor, st_lxor, st_lshl, st_lshr, st_lcmp, st_i2l, st_l2i, st_i2c, st_dup, st_pop, st_dup2, st_iaload0, st_iaload1, st_caload, st_baload, st_laload, st_aaload, st_iastore, st_castore, st_bastore, st_lastore, st_aastore, st_arraylength0, st_arraylength1, st_getfield, st_putfield0, st_putfield1, st_putfield2, st_putfield3, st_getstatic, st_new, st_newarray, st_anewarray, st_goto, st_ifCond, st_if_icmp, st_tableswitch, st_lookupswitch, st_ireturn, st_lreturn, st_return, st_invokevirtual, st_invokestatic0, st_invokestatic1, st_invokespecial0, st_invokespecial1, cZ_eq, cZ_ne, cZ_lt, cZ_ge, cZ_gt, cZ_le, vcb_n, vcb_c, sw_n, sw_c, ↓pI_d, ↓pL_d, ↓pR_d, ↓pA_d, isI_d, isL_d, isL_di, isL_dr, isL_dj, isA_d, inc_c, stO, fV, List.getD_cons_zero, List.getD_cons_succ, List.set_cons_zero, List.set_cons_succ, List.take_succ_cons, List.take_zero, List.drop_succ_cons, List.drop_zero, List.reverse_cons, List.reverse_nil, List.nil_append, List.cons_append, List.append_nil, Option.toList_some, Option.toList_none, List.length_cons, List.length_nil, Nat.reduceAdd, Nat.reduceSub, Nat.reduceLeDiff, Nat.reduceEqDiff, Nat.add_eq, not_false_eq_true, not_true_eq_false, true_and, and_true, false_or, or_true, true_or, or_false, and_self, one_ne_zero_nat, w32_id, w32_n, Int.toNat_natCast, Int.reduceToNat, Nat.zero_add, Nat.zero_le, Nat.le_refl, Int.reduceEq, Int.reduceLT, Int.reduceLE, Int.reduceAdd, Int.reduceSub, Int.reduceMul, t_imp, f_imp, cO3 hB, m0, btI]
        refine ⟨fun q => absurd q (by omega), fun _ => ⟨fun q => ?_, fun q => ?_⟩⟩
        · refine blk bk_s_assign_48 ?_
          simp (disch := omega) only [st_iconst, st_bipush, st_sipush, st_ldc, st_ldc_w, st_lconst, st_ldc2_w, st_iload_n, st_iload, st_lload_n, st_lload, st_aload_n, st_aload, st_istore_n, st_istore, st_lstore_n, st_lstore, st_astore_n, st_astore, st_iinc, st_iadd, st_isub, st_imul, st_idiv, st_irem, st_iand, st_ior, st_ixor, st_ishl, st_ishr, st_iushr, st_ladd, st_lmul, st_ldiv, st_lrem, st_land, st_lor, st_lxor, st_lshl, st_lshr, st_lcmp, st_i2l, st_l2i, st_i2c, st_dup, st_pop, st_dup2, st_iaload0, st_iaload1, st_caload, st_baload, st_laload, st_aaload, st_iastore, st_castore, st_bastore, st_lastore, st_aastore, st_arraylength0, st_arraylength1, st_getfield, st_putfield0, st_putfield1, st_putfield2, st_putfield3, st_getstatic, st_new, st_newarray, st_anewarray, st_goto, st_ifCond, st_if_icmp, st_tableswitch, st_lookupswitch, st_ireturn, st_lreturn, st_return, st_invokevirtual, st_invokestatic0, st_invokestatic1, st_invokespecial0, st_invokespecial1, cZ_eq, cZ_ne, cZ_lt, cZ_ge, cZ_gt, cZ_le, vcb_n, vcb_c, sw_n, sw_c, ↓pI_d, ↓pL_d, ↓pR_d, ↓pA_d, isI_d, isL_d, isL_di, isL_dr, isL_dj, isA_d, inc_c, stO, fV, List.getD_cons_zero, List.getD_cons_succ, List.set_cons_zero, List.set_cons_succ, List.take_succ_cons, List.take_zero, List.drop_succ_cons, List.drop_zero, List.reverse_cons, List.reverse_nil, List.nil_append, List.cons_append, List.append_nil, Option.toList_some, Option.toList_none, List.length_cons, List.length_nil, Nat.reduceAdd, Nat.reduceSub, Nat.reduceLeDiff, Nat.reduceEqDiff, Nat.add_eq, not_false_eq_true, not_true_eq_false, true_and, and_true, false_or, or_true, true_or, or_false, and_self, one_ne_zero_nat, w32_id, w32_n, Int.toNat_natCast, Int.reduceToNat, Nat.zero_add, Nat.zero_le, Nat.le_refl, Int.reduceEq, Int.reduceLT, Int.reduceLE, Int.reduceAdd, Int.reduceSub, Int.reduceMul, t_imp, f_imp]
          exact free 0 (by decide) (by omega)
        · exact free 1 (by decide) (by omega)
    refine WPm_of (L := [vR (some (ad 74)), vR (some (ad 3)), vI i, vI aw, vJ, vJ]) 2 (by decide) (Nat.le_of_ble_eq_true rfl) rfl ?_
    have go := loop n 0 M vJ (by omega) (fun h => h) (ssF_r _ _) (fun _ _ => rfl) hw (fun j hj => hS j hj)
    clear loop hQ ih es ex
    refine blk bk_s_assign_0 ?_
    simp (disch := omega) only [st_iconst, st_bipush, st_sipush, st_ldc, st_ldc_w, st_lconst, st_ldc2_w, st_iload_n, st_iload, st_lload_n, st_lload, st_aload_n, st_aload, st_istore_n, st_istore, st_lstore_n, st_lstore, st_astore_n, st_astore, st_iinc, st_iadd, st_isub, st_imul, st_idiv, st_irem, st_iand, st_ior, st_ixor, st_ishl, st_ishr, st_iushr, st_ladd, st_lmul, st_ldiv, st_lrem, st_land, st_lor, st_lxor, st_lshl, st_lshr, st_lcmp, st_i2l, st_l2i, st_i2c, st_dup, st_pop, st_dup2, st_iaload0, st_iaload1, st_caload, st_baload, st_laload, st_aaload, st_iastore, st_castore, st_bastore, st_lastore, st_aastore, st_arraylength0, st_arraylength1, st_getfield, st_putfield0, st_putfield1, st_putfield2, st_putfield3, st_getstatic, st_new, st_newarray, st_anewarray, st_goto, st_ifCond, st_if_icmp, st_tableswitch, st_lookupswitch, st_ireturn, st_lreturn, st_return, st_invokevirtual, st_invokestatic0, st_invokestatic1, st_invokespecial0, st_invokespecial1, cZ_eq, cZ_ne, cZ_lt, cZ_ge, cZ_gt, cZ_le, vcb_n, vcb_c, sw_n, sw_c, ↓pI_d, ↓pL_d, ↓pR_d, ↓pA_d, isI_d, isL_d, isL_di, isL_dr, isL_dj, isA_d, inc_c, stO, fV, List.getD_cons_zero, List.getD_cons_succ, List.set_cons_zero, List.set_cons_succ, List.take_succ_cons, List.take_zero, List.drop_succ_cons, List.drop_zero, List.reverse_cons, List.reverse_nil, List.nil_append, List.cons_append, List.append_nil, Option.toList_some, Option.toList_none, List.length_cons, List.length_nil, Nat.reduceAdd, Nat.reduceSub, Nat.reduceLeDiff, Nat.reduceEqDiff, Nat.add_eq, not_false_eq_true, not_true_eq_false, true_and, and_true, false_or, or_true, true_or, or_false, and_self, one_ne_zero_nat, w32_id, w32_n, Int.toNat_natCast, Int.reduceToNat, Nat.zero_add, Nat.zero_le, Nat.le_refl, Int.reduceEq, Int.reduceLT, Int.reduceLE, Int.reduceAdd, Int.reduceSub, Int.reduceMul, t_imp, f_imp, cO74 hB, e5, hw]
    refine ⟨fun _ => ?_, fun q => absurd (by omega) q⟩
    refine blk bk_s_assign_23 ?_
    simp (disch := omega) only [st_iconst, st_bipush, st_sipush, st_ldc, st_ldc_w, st_lconst, st_ldc2_w, st_iload_n, st_iload, st_lload_n, st_lload, st_aload_n, st_aload, st_istore_n, st_istore, st_lstore_n, st_lstore, st_astore_n, st_astore, st_iinc, st_iadd, st_isub, st_imul, st_idiv, st_irem, st_iand, st_ior, st_ixor, st_ishl, st_ishr, st_iushr, st_ladd, st_lmul, st_ldiv, st_lrem, st_land, st_lor, st_lxor, st_lshl, st_lshr, st_lcmp, st_i2l, st_l2i, st_i2c, st_dup, st_pop, st_dup2, st_iaload0, st_iaload1, st_caload, st_baload, st_laload, st_aaload, st_iastore, st_castore, st_bastore, st_lastore, st_aastore, st_arraylength0, st_arraylength1, st_getfield, st_putfield0, st_putfield1, st_putfield2, st_putfield3, st_getstatic, st_new, st_newarray, st_anewarray, st_goto, st_ifCond, st_if_icmp, st_tableswitch, st_lookupswitch, st_ireturn, st_lreturn, st_return, st_invokevirtual, st_invokestatic0, st_invokestatic1, st_invokespecial0, st_invokespecial1, cZ_eq, cZ_ne, cZ_lt, cZ_ge, cZ_gt, cZ_le, vcb_n, vcb_c, sw_n, sw_c, ↓pI_d, ↓pL_d, ↓pR_d, ↓pA_d, isI_d, isL_d, isL_di, isL_dr, isL_dj, isA_d, inc_c, stO, fV, List.getD_cons_zero, List.getD_cons_succ, List.set_cons_zero, List.set_cons_succ, List.take_succ_cons, List.take_zero, List.drop_succ_cons, List.drop_zero, List.reverse_cons, List.reverse_nil, List.nil_append, List.cons_append, List.append_nil, Option.toList_some, Option.toList_none, List.length_cons, List.length_nil, Nat.reduceAdd, Nat.reduceSub, Nat.reduceLeDiff, Nat.reduceEqDiff, Nat.add_eq, not_false_eq_true, not_true_eq_false, true_and, and_true, false_or, or_true, true_or, or_false, and_self, one_ne_zero_nat, w32_id, w32_n, Int.toNat_natCast, Int.reduceToNat, Nat.zero_add, Nat.zero_le, Nat.le_refl, Int.reduceEq, Int.reduceLT, Int.reduceLE, Int.reduceAdd, Int.reduceSub, Int.reduceMul, t_imp, f_imp]
    exact go
end STRAY
