/-! ===== constructors: Plan, GrazedNames ===== -/
def adM (ad : Nat → Nat) (o q : Nat) (r : Nat → Nat) : Nat → Nat := fun i => if i = o then q else if o < i ∧ i ≤ o + 6 then r (i - o - 1) else ad i
theorem gNN_A {G : aG} {q x : Nat} {r : Nat → Nat} : x ∈ gA (gNN G q r 6 32) ↔ x ∈ gA G ∨ x = q ∨ ∃ i, i < 6 ∧ x = r i := by
  show x ∈ gA G ++ q :: (List.range 6).map r ↔ _
  rw [List.mem_append, List.mem_cons, List.mem_map]
  constructor
  · rintro (h | h | ⟨i, hi, rfl⟩)
    · exact .inl h
    · exact .inr (.inl h)
    · exact .inr (.inr ⟨i, List.mem_range.mp hi, rfl⟩)
  · rintro (h | h | ⟨i, hi, rfl⟩)
    · exact .inl h
    · exact .inr (.inl h)
    · exact .inr (.inr ⟨i, List.mem_range.mpr hi, rfl⟩)
theorem BK_mna {G : aG} {M : aM} {ad : Nat → Nat} {S : List Nat} {R : List (Nat × Nat × Nat)} (h : BK G M ad S R) {q o : Nat} {r : Nat → Nat} (hq : q ∉ gA G) (hr : ∀ i, i < 6 → r i ∉ gA G ∧ r i ≠ q) (hinj : ∀ i j, i < 6 → j < 6 → r i = r j → i = j) (ho : o = 55 ∨ o = 62) (hS : ∀ j, o ≤ j → j ≤ o + 6 → j ∉ S) : BK (gNN G q r 6 32) (mNN M q r 6) (adM ad o q r) ((o + 6) :: (o + 5) :: (o + 4) :: (o + 3) :: (o + 2) :: (o + 1) :: o :: S) ((o, 5, o + 6) :: (o, 4, o + 5) :: (o, 3, o + 4) :: (o, 2, o + 3) :: (o, 1, o + 2) :: (o, 0, o + 1) :: R) ∧ ∀ j, j ∈ S → adM ad o q r j = ad j ∧ mNN M q r 6 (ad j) = M (ad j) := by
  have mem : ∀ j, j ∈ (o + 6) :: (o + 5) :: (o + 4) :: (o + 3) :: (o + 2) :: (o + 1) :: o :: S → j = o ∨ (o < j ∧ j ≤ o + 6) ∨ j ∈ S := by
    intro j hj
    simp only [List.mem_cons] at hj
    rcases hj with e | e | e | e | e | e | e | e
    · exact .inr (.inl (by omega))
    · exact .inr (.inl (by omega))
    · exact .inr (.inl (by omega))
    · exact .inr (.inl (by omega))
    · exact .inr (.inl (by omega))
    · exact .inr (.inl (by omega))
    · exact .inl e
    · exact .inr (.inr e)
  have aS : ∀ j, j ∈ S → adM ad o q r j = ad j := fun j hj => by
    unfold adM
    rw [if_neg (fun e => hS j (by omega) (by omega) hj), if_neg (fun e => hS j (by omega) (by omega) hj)]
  have ao : adM ad o q r o = q := by
    unfold adM
    rw [if_pos rfl]
  have ar : ∀ j, o < j ∧ j ≤ o + 6 → adM ad o q r j = r (j - o - 1) := fun j hj => by
    unfold adM
    rw [if_neg (by omega), if_pos hj]
  have nq : ∀ j, j ∈ S → ad j ≠ q := fun j hj => nin_ne (h.1 j hj).1 hq
  have nr : ∀ j i, j ∈ S → i < 6 → ad j ≠ r i := fun j i hj hi => nin_ne (h.1 j hj).1 (hr i hi).1
  have nmap : ∀ j, j ∈ S → ad j ∉ (List.range 6).map r := fun j hj hm => by
    obtain ⟨i, hi, e⟩ := List.mem_map.mp hm
    exact nr j i hj (List.mem_range.mp hi) e.symm
  have tO : ctT.getD o (.inl 0) = .inr (5, 6) := by rcases ho with rfl | rfl <;> rfl
  have tR : ∀ j, o < j ∧ j ≤ o + 6 → ctT.getD j (.inl 0) = .inr (0, 32) := by
    intro j hj
    rcases ho with rfl | rfl
    · rcases (show j = 56 ∨ j = 57 ∨ j = 58 ∨ j = 59 ∨ j = 60 ∨ j = 61 by omega) with rfl | rfl | rfl | rfl | rfl | rfl <;> rfl
    · rcases (show j = 63 ∨ j = 64 ∨ j = 65 ∨ j = 66 ∨ j = 67 ∨ j = 68 by omega) with rfl | rfl | rfl | rfl | rfl | rfl <;> rfl
  have gTq : gT (gNN G q r 6 32) q = .inr (5, 6) := by
    show (if q = q then _ else _) = _
    rw [if_pos rfl]
  have gTr : ∀ i, i < 6 → gT (gNN G q r 6 32) (r i) = .inr (0, 32) := fun i hi => by
    show (if r i = q then _ else if r i ∈ (List.range 6).map r then _ else _) = _
    rw [if_neg (hr i hi).2, if_pos (List.mem_map.mpr ⟨i, List.mem_range.mpr hi, rfl⟩)]
  have gTS : ∀ j, j ∈ S → gT (gNN G q r 6 32) (ad j) = gT G (ad j) := fun j hj => by
    show (if ad j = q then _ else if ad j ∈ (List.range 6).map r then _ else _) = _
    rw [if_neg (nq j hj), if_neg (nmap j hj)]
    rfl
  have gRS : ∀ j, j ∈ S → gR (gNN G q r 6 32) (ad j) = gR G (ad j) := fun j hj => by
    show (if ad j = q then _ else if ad j ∈ (List.range 6).map r then _ else _) = _
    rw [if_neg (nq j hj), if_neg (nmap j hj)]
    rfl
  have gRq : ∀ i, i < 6 → gR (gNN G q r 6 32) q i = some (r i) := fun i hi => by
    show (if q = q then (fun j => if j < 6 then some (r j) else none) else _) i = _
    rw [if_pos rfl]
    exact if_pos hi
  have mS : ∀ j, j ∈ S → mNN M q r 6 (ad j) = M (ad j) := fun j hj => by
    show (if ad j = q ∨ ad j ∈ (List.range 6).map r then _ else _) = _
    rw [if_neg (fun x => by rcases x with x | x; exact nq j hj x; exact nmap j hj x)]
  have newr : ∀ i, i < 6 → o ∈ (o + 6) :: (o + 5) :: (o + 4) :: (o + 3) :: (o + 2) :: (o + 1) :: o :: S ∧ (o + 1 + i) ∈ (o + 6) :: (o + 5) :: (o + 4) :: (o + 3) :: (o + 2) :: (o + 1) :: o :: S ∧ gR (gNN G q r 6 32) (adM ad o q r o) i = some (adM ad o q r (o + 1 + i)) := by
    intro i hi
    refine ⟨List.mem_append_right [o + 6, o + 5, o + 4, o + 3, o + 2, o + 1] List.mem_cons_self, ?_, ?_⟩
    · simp only [List.mem_cons]
      omega
    · rw [ao, ar _ (by omega), gRq i hi]
      congr 2
      omega
  refine ⟨⟨fun j hj => ?_, fun i j hi hj e => ?_, fun e he => ?_, fun j hj e3 e11 k => ?_⟩, fun j hj => ⟨aS j hj, mS j hj⟩⟩
  · rcases mem j hj with rfl | hj | hj
    · rw [ao, gTq, tO]
      exact ⟨gNN_A.mpr (.inr (.inl rfl)), rfl⟩
    · rw [ar j hj, gTr _ (by omega), tR j hj]
      exact ⟨gNN_A.mpr (.inr (.inr ⟨_, by omega, rfl⟩)), rfl⟩
    · rw [aS j hj, gTS j hj]
      exact ⟨gNN_A.mpr (.inl (h.1 j hj).1), (h.1 j hj).2⟩
  · rcases mem i hi with ei | ei | ei <;> rcases mem j hj with ej | ej | ej
    · omega
    · rw [ei, ao, ar j ej] at e
      exact absurd e.symm (hr _ (by omega)).2
    · rw [ei, ao, aS j ej] at e
      exact absurd e.symm (nq j ej)
    · rw [ej, ao, ar i ei] at e
      exact absurd e (hr _ (by omega)).2
    · rw [ar i ei, ar j ej] at e
      have := hinj _ _ (by omega) (by omega) e
      omega
    · rw [ar i ei, aS j ej] at e
      exact absurd e.symm (nr j _ ej (by omega))
    · rw [ej, ao, aS i ei] at e
      exact absurd e (nq i ei)
    · rw [aS i ei, ar j ej] at e
      exact absurd e (nr i _ ei (by omega))
    · rw [aS i ei, aS j ej] at e
      exact h.2.1 i j ei ej e
  · rcases List.mem_cons.mp he with rfl | he
    · exact newr 5 (by decide)
    rcases List.mem_cons.mp he with rfl | he
    · exact newr 4 (by decide)
    rcases List.mem_cons.mp he with rfl | he
    · exact newr 3 (by decide)
    rcases List.mem_cons.mp he with rfl | he
    · exact newr 2 (by decide)
    rcases List.mem_cons.mp he with rfl | he
    · exact newr 1 (by decide)
    rcases List.mem_cons.mp he with rfl | he
    · exact newr 0 (by decide)
    have h3 := h.2.2.1 e he
    rw [aS _ h3.1, aS _ h3.2.1, gRS _ h3.1]
    exact ⟨List.mem_append_right [o + 6, o + 5, o + 4, o + 3, o + 2, o + 1, o] h3.1, List.mem_append_right [o + 6, o + 5, o + 4, o + 3, o + 2, o + 1, o] h3.2.1, h3.2.2⟩
  · rcases mem j hj with rfl | hj | hj
    · rw [ao]
      show (if q = q ∨ _ then (fun _ => 0) else _) k = 0
      rw [if_pos (.inl rfl)]
    · rw [ar j hj]
      show (if r (j - o - 1) = q ∨ r (j - o - 1) ∈ (List.range 6).map r then (fun _ => 0) else _) k = 0
      rw [if_pos (.inr (List.mem_map.mpr ⟨_, List.mem_range.mpr (by omega), rfl⟩))]
    · rw [aS j hj, mS j hj]
      exact h.2.2.2 j hj e3 e11 k
section INITP
variable {Γ : aR} {ρ κ : Nat} {G : aG} {M : aM} {Q : aQ} {ad : Nat → Nat} {S : List Nat} {R : List (Nat × Nat × Nat)}
theorem BS_mna {ad0 : Nat → Nat} {M0 : aM} {S0 : List Nat} {i x c q o : Nat} {r : Nat → Nat} (h : BS ad0 M0 S0 G M ad S R i x c) (hq : q ∉ gA G) (hr : ∀ i, i < 6 → r i ∉ gA G ∧ r i ≠ q) (hinj : ∀ i j, i < 6 → j < 6 → r i = r j → i = j) (ho : o = 55 ∨ o = 62) (hS : ∀ j, o ≤ j → j ≤ o + 6 → j ∉ S) (hb : 83 ∉ S0) (hc : ctT.getD i (.inl 0) = .inl c) : BS ad0 M0 S0 (gNN G q r 6 32) (mNN M q r 6) (adM ad o q r) ((o + 6) :: (o + 5) :: (o + 4) :: (o + 3) :: (o + 2) :: (o + 1) :: o :: S) ((o, 5, o + 6) :: (o, 4, o + 5) :: (o, 3, o + 4) :: (o, 2, o + 3) :: (o, 1, o + 2) :: (o, 0, o + 1) :: R) i x c := by
  have h1 := BK_mna h.1 hq hr hinj ho hS
  exact BS_call (b := 83) h h1.1 (fun j hj => List.mem_append_right [o + 6, o + 5, o + 4, o + 3, o + 2, o + 1, o] hj) (fun j hj => ⟨(h1.2 j hj).1, fun _ => (h1.2 j hj).2⟩) hb hc
theorem i_plan (hρ : 3 ≤ ρ) (h : BK G M ad S R) (hi : 51 ∈ S) (hj : ∀ j, 52 ≤ j → j ≤ 73 → j ∉ S) (hb : 83 ∉ S) (hn : ∀ e, e ∈ R → ¬ (51 ≤ e.1 ∧ e.1 ≤ 73)) (hQ : ∀ (G' : aG) (M' : aM) (ad' : Nat → Nat), BK G' M' ad' ([73, 72, 71, 70, 69, 68, 67, 66, 65, 64, 63, 62, 61, 60, 59, 58, 57, 56, 55, 54, 53, 52] ++ S) ([(51, 11, 73), (51, 7, 72), (51, 6, 71), (51, 5, 70), (51, 4, 69), (51, 3, 62), (62, 5, 68), (62, 4, 67), (62, 3, 66), (62, 2, 65), (62, 1, 64), (62, 0, 63), (51, 2, 55), (55, 5, 61), (55, 4, 60), (55, 3, 59), (55, 2, 58), (55, 1, 57), (55, 0, 56), (51, 1, 54), (51, 0, 52), (52, 5, 53)] ++ R) → (∀ j, j ∈ S → ad' j = ad j ∧ M' (ad j) = M (ad j)) → Q none G' M') : WPm Γ ρ 22 29 [vR (some (ad 51))] G M Q := by
  have h0 := BS_0 h hi (c := 5) rfl
  have hnn : ∀ i k, 51 ≤ i → i ≤ 73 → ∀ e, e ∈ R → ¬ (e.1 = i ∧ e.2.1 = k) := fun i k a b e he q => hn e he (by omega)
  have hjm : ∀ (T : List Nat) (j : Nat), j ∉ T → 52 ≤ j → j ≤ 73 → j ∉ T ++ S := fun T j h1 h2 h3 q => by
    rcases List.mem_append.mp q with q | q
    · exact h1 q
    · exact hj j h2 h3 q
  have hnm : ∀ (T : List (Nat × Nat × Nat)) (i k : Nat), (∀ e, e ∈ T → ¬ (e.1 = i ∧ e.2.1 = k)) → 51 ≤ i → i ≤ 73 → ∀ e, e ∈ T ++ R → ¬ (e.1 = i ∧ e.2.1 = k) := fun T i k h1 h2 h3 e he => by
    rcases List.mem_append.mp he with q | q
    · exact h1 e q
    · exact hnn i k h2 h3 e q
  refine WPm_of (L := [vR (some (ad 51))]) 0 (by decide) (Nat.le_of_ble_eq_true rfl) rfl ?_
  refine blk bk_p_init_0c ?_
  simp (disch := omega) only [st_iconst, st_bipush, st_sipush, st_ldc, st_ldc_w, st_lconst, st_ldc2_w, st_iload_n, st_iload, st_lload_n, st_lload, st_aload_n, st_aload, st_istore_n, st_istore, st_lstore_n, st_lstore, st_astore_n, st_astore, st_iinc, st_iadd, st_isub, st_imul, st_idiv, st_irem, st_iand, st_ior, st_ixor, st_ishl, st_ishr, st_iushr, st_ladd, st_lmul, st_ldiv, st_lrem, st_land, st_lor, st_lxor, st_lshl, st_lshr, st_lcmp, st_i2l, st_l2i, st_i2c, st_dup, st_pop, st_dup2, st_iaload0, st_iaload1, st_caload, st_baload, st_laload, st_aaload, st_iastore, st_castore, st_bastore, st_lastore, st_aastore, st_arraylength0, st_arraylength1, st_getfield, st_putfield0, st_putfield1, st_putfield2, st_putfield3, st_getstatic, st_new, st_newarray, st_anewarray, st_goto, st_ifCond, st_if_icmp, st_tableswitch, st_lookupswitch, st_ireturn, st_lreturn, st_return, st_invokevirtual, st_invokestatic0, st_invokestatic1, st_invokespecial0, st_invokespecial1, cZ_eq, cZ_ne, cZ_lt, cZ_ge, cZ_gt, cZ_le, vcb_n, vcb_c, sw_n, sw_c, ↓pI_d, ↓pL_d, ↓pR_d, ↓pA_d, isI_d, isL_d, isL_di, isL_dr, isL_dj, isA_d, inc_c, stO, fV, List.getD_cons_zero, List.getD_cons_succ, List.set_cons_zero, List.set_cons_succ, List.take_succ_cons, List.take_zero, List.drop_succ_cons, List.drop_zero, List.reverse_cons, List.reverse_nil, List.nil_append, List.cons_append, List.append_nil, Option.toList_some, Option.toList_none, List.length_cons, List.length_nil, Nat.reduceAdd, Nat.reduceSub, Nat.reduceLeDiff, Nat.reduceEqDiff, Nat.add_eq, not_false_eq_true, not_true_eq_false, true_and, and_true, false_or, or_true, true_or, or_false, and_self, one_ne_zero_nat, w32_id, w32_n, Int.toNat_natCast, Int.reduceToNat, Nat.zero_add, Nat.zero_le, Nat.le_refl, Int.reduceEq, Int.reduceLT, Int.reduceLE, Int.reduceAdd, Int.reduceSub, Int.reduceMul, t_imp, f_imp, gW_obj]
  refine ⟨by omega, fun q1 k1 => ?_⟩
  have h1 := BS_new h0 k1 (hj 52 (by decide) (by decide)) (j := 52) rfl
  refine ⟨by omega, ⟨(gN_A _ _ _ _).mpr (.inr rfl), gN_Ts _ _ _⟩, ?_⟩
  have ea : va_up ad 52 q1 52 = q1 := va_up_self _ _ _
  have call := i_now (Γ := Γ) (ρ := ρ - 1) (i := 52) (Q := fun v G' M' => WP Γ ρ 20 29 12 [vR (some (ad 51))] (v.toList ++ [vR (some q1), vR (some (ad 51))]) G' M' Q) (by omega) h1.1 List.mem_cons_self rfl (hjm [52] 53 (by decide) (by decide) (by decide)) rfl (hnn 52 5 (by decide) (by decide)) (fun G' M' ad' hk hf => ?_)
  · rw [ea] at call
    exact call
  · have h2 := BS_call (b := 52) h1 hk (fun j hj => List.mem_cons_of_mem _ hj) (fun j hj => ⟨(hf j hj).1, fun _ => (hf j hj).2⟩) (hj 52 (by decide) (by decide)) rfl
    have e52 : ad' 52 = q1 := (hf 52 List.mem_cons_self).1.trans ea
    have h3 := BS_ref h2 (k := 0) (j := 52) (List.mem_append_right [53] List.mem_cons_self) e52 (hnm [(52, 5, 53)] 51 0 (by decide) (by decide) (by decide))
    refine blk bk_p_init_12 ?_
    simp (disch := omega) only [st_iconst, st_bipush, st_sipush, st_ldc, st_ldc_w, st_lconst, st_ldc2_w, st_iload_n, st_iload, st_lload_n, st_lload, st_aload_n, st_aload, st_istore_n, st_istore, st_lstore_n, st_lstore, st_astore_n, st_astore, st_iinc, st_iadd, st_isub, st_imul, st_idiv, st_irem, st_iand, st_ior, st_ixor, st_ishl, st_ishr, st_iushr, st_ladd, st_lmul, st_ldiv, st_lrem, st_land, st_lor, st_lxor, st_lshl, st_lshr, st_lcmp, st_i2l, st_l2i, st_i2c, st_dup, st_pop, st_dup2, st_iaload0, st_iaload1, st_caload, st_baload, st_laload, st_aaload, st_iastore, st_castore, st_bastore, st_lastore, st_aastore, st_arraylength0, st_arraylength1, st_getfield, st_putfield0, st_putfield1, st_putfield2, st_putfield3, st_getstatic, st_new, st_newarray, st_anewarray, st_goto, st_ifCond, st_if_icmp, st_tableswitch, st_lookupswitch, st_ireturn, st_lreturn, st_return, st_invokevirtual, st_invokestatic0, st_invokestatic1, st_invokespecial0, st_invokespecial1, cZ_eq, cZ_ne, cZ_lt, cZ_ge, cZ_gt, cZ_le, vcb_n, vcb_c, sw_n, sw_c, ↓pI_d, ↓pL_d, ↓pR_d, ↓pA_d, isI_d, isL_d, isL_di, isL_dr, isL_dj, isA_d, inc_c, stO, fV, List.getD_cons_zero, List.getD_cons_succ, List.set_cons_zero, List.set_cons_succ, List.take_succ_cons, List.take_zero, List.drop_succ_cons, List.drop_zero, List.reverse_cons, List.reverse_nil, List.nil_append, List.cons_append, List.append_nil, Option.toList_some, Option.toList_none, List.length_cons, List.length_nil, Nat.reduceAdd, Nat.reduceSub, Nat.reduceLeDiff, Nat.reduceEqDiff, Nat.add_eq, not_false_eq_true, not_true_eq_false, true_and, and_true, false_or, or_true, true_or, or_false, and_self, one_ne_zero_nat, w32_id, w32_n, Int.toNat_natCast, Int.reduceToNat, Nat.zero_add, Nat.zero_le, Nat.le_refl, Int.reduceEq, Int.reduceLT, Int.reduceLE, Int.reduceAdd, Int.reduceSub, Int.reduceMul, t_imp, f_imp, h2.2.2.2.1, gW_obj]
    intro q2 k2
    refine ⟨gN_obj k2 h3.2.2.2.1, ?_⟩
    have h4 := BS_nr h3 (k := 1) (j := 54) k2 (hjm [53, 52] 54 (by decide) (by decide) (by decide)) rfl (hnm [(51, 0, 52), (52, 5, 53)] 51 1 (by decide) (by decide) (by decide))
    refine WP_mna (by decide +kernel) (by decide) (fun q3 r3 k3 kr3 kj3 => ?_)
    have h5 := BS_mna h4 k3 kr3 kj3 (.inl rfl) (fun j a b => hjm [54, 53, 52] j (fun hm => by simp only [List.mem_cons, List.not_mem_nil, or_false] at hm; omega) (by omega) (by omega)) hb rfl
    have e55 : adM (va_up ad' 54 q2) 55 q3 r3 55 = q3 := by
      unfold adM
      rw [if_pos rfl]
    have h6 := BS_ref h5 (k := 2) (j := 55) (List.mem_append_right [61, 60, 59, 58, 57, 56] List.mem_cons_self) e55 (hnm [(55, 5, 61), (55, 4, 60), (55, 3, 59), (55, 2, 58), (55, 1, 57), (55, 0, 56), (51, 1, 54), (51, 0, 52), (52, 5, 53)] 51 2 (by decide) (by decide) (by decide))
    refine blk bk_p_init_32 ?_
    simp (disch := omega) only [st_iconst, st_bipush, st_sipush, st_ldc, st_ldc_w, st_lconst, st_ldc2_w, st_iload_n, st_iload, st_lload_n, st_lload, st_aload_n, st_aload, st_istore_n, st_istore, st_lstore_n, st_lstore, st_astore_n, st_astore, st_iinc, st_iadd, st_isub, st_imul, st_idiv, st_irem, st_iand, st_ior, st_ixor, st_ishl, st_ishr, st_iushr, st_ladd, st_lmul, st_ldiv, st_lrem, st_land, st_lor, st_lxor, st_lshl, st_lshr, st_lcmp, st_i2l, st_l2i, st_i2c, st_dup, st_pop, st_dup2, st_iaload0, st_iaload1, st_caload, st_baload, st_laload, st_aaload, st_iastore, st_castore, st_bastore, st_lastore, st_aastore, st_arraylength0, st_arraylength1, st_getfield, st_putfield0, st_putfield1, st_putfield2, st_putfield3, st_getstatic, st_new, st_newarray, st_anewarray, st_goto, st_ifCond, st_if_icmp, st_tableswitch, st_lookupswitch, st_ireturn, st_lreturn, st_return, st_invokevirtual, st_invokestatic0, st_invokestatic1, st_invokespecial0, st_invokespecial1, cZ_eq, cZ_ne, cZ_lt, cZ_ge, cZ_gt, cZ_le, vcb_n, vcb_c, sw_n, sw_c, ↓pI_d, ↓pL_d, ↓pR_d, ↓pA_d, isI_d, isL_d, isL_di, isL_dr, isL_dj, isA_d, inc_c, stO, fV, List.getD_cons_zero, List.getD_cons_succ, List.set_cons_zero, List.set_cons_succ, List.take_succ_cons, List.take_zero, List.drop_succ_cons, List.drop_zero, List.reverse_cons, List.reverse_nil, List.nil_append, List.cons_append, List.append_nil, Option.toList_some, Option.toList_none, List.length_cons, List.length_nil, Nat.reduceAdd, Nat.reduceSub, Nat.reduceLeDiff, Nat.reduceEqDiff, Nat.add_eq, not_false_eq_true, not_true_eq_false, true_and, and_true, false_or, or_true, true_or, or_false, and_self, one_ne_zero_nat, w32_id, w32_n, Int.toNat_natCast, Int.reduceToNat, Nat.zero_add, Nat.zero_le, Nat.le_refl, Int.reduceEq, Int.reduceLT, Int.reduceLE, Int.reduceAdd, Int.reduceSub, Int.reduceMul, t_imp, f_imp, h5.2.2.2.1, gW_obj]
    refine ⟨h5.2.2.2.1, ?_⟩
    refine WP_mna (pc := 40) (κ := 12) (by decide +kernel) (by decide) (fun q4 r4 k4 kr4 kj4 => ?_)
    have h7 := BS_mna h6 k4 kr4 kj4 (.inr rfl) (fun j a b => hjm [61, 60, 59, 58, 57, 56, 55, 54, 53, 52] j (fun hm => by simp only [List.mem_cons, List.not_mem_nil, or_false] at hm; omega) (by omega) (by omega)) hb rfl
    have e62 : adM (adM (va_up ad' 54 q2) 55 q3 r3) 62 q4 r4 62 = q4 := by
      unfold adM
      rw [if_pos rfl]
    have h8 := BS_ref h7 (k := 3) (j := 62) (List.mem_append_right [68, 67, 66, 65, 64, 63] List.mem_cons_self) e62 (hnm [(62, 5, 68), (62, 4, 67), (62, 3, 66), (62, 2, 65), (62, 1, 64), (62, 0, 63), (51, 2, 55), (55, 5, 61), (55, 4, 60), (55, 3, 59), (55, 2, 58), (55, 1, 57), (55, 0, 56), (51, 1, 54), (51, 0, 52), (52, 5, 53)] 51 3 (by decide) (by decide) (by decide))
    refine blk bk_p_init_44 ?_
    simp (disch := omega) only [st_iconst, st_bipush, st_sipush, st_ldc, st_ldc_w, st_lconst, st_ldc2_w, st_iload_n, st_iload, st_lload_n, st_lload, st_aload_n, st_aload, st_istore_n, st_istore, st_lstore_n, st_lstore, st_astore_n, st_astore, st_iinc, st_iadd, st_isub, st_imul, st_idiv, st_irem, st_iand, st_ior, st_ixor, st_ishl, st_ishr, st_iushr, st_ladd, st_lmul, st_ldiv, st_lrem, st_land, st_lor, st_lxor, st_lshl, st_lshr, st_lcmp, st_i2l, st_l2i, st_i2c, st_dup, st_pop, st_dup2, st_iaload0, st_iaload1, st_caload, st_baload, st_laload, st_aaload, st_iastore, st_castore, st_bastore, st_lastore, st_aastore, st_arraylength0, st_arraylength1, st_getfield, st_putfield0, st_putfield1, st_putfield2, st_putfield3, st_getstatic, st_new, st_newarray, st_anewarray, st_goto, st_ifCond, st_if_icmp, st_tableswitch, st_lookupswitch, st_ireturn, st_lreturn, st_return, st_invokevirtual, st_invokestatic0, st_invokestatic1, st_invokespecial0, st_invokespecial1, cZ_eq, cZ_ne, cZ_lt, cZ_ge, cZ_gt, cZ_le, vcb_n, vcb_c, sw_n, sw_c, ↓pI_d, ↓pL_d, ↓pR_d, ↓pA_d, isI_d, isL_d, isL_di, isL_dr, isL_dj, isA_d, inc_c, stO, fV, List.getD_cons_zero, List.getD_cons_succ, List.set_cons_zero, List.set_cons_succ, List.take_succ_cons, List.take_zero, List.drop_succ_cons, List.drop_zero, List.reverse_cons, List.reverse_nil, List.nil_append, List.cons_append, List.append_nil, Option.toList_some, Option.toList_none, List.length_cons, List.length_nil, Nat.reduceAdd, Nat.reduceSub, Nat.reduceLeDiff, Nat.reduceEqDiff, Nat.add_eq, not_false_eq_true, not_true_eq_false, true_and, and_true, false_or, or_true, true_or, or_false, and_self, one_ne_zero_nat, w32_id, w32_n, Int.toNat_natCast, Int.reduceToNat, Nat.zero_add, Nat.zero_le, Nat.le_refl, Int.reduceEq, Int.reduceLT, Int.reduceLE, Int.reduceAdd, Int.reduceSub, Int.reduceMul, t_imp, f_imp, gW_obj]
    refine ⟨h7.2.2.2.1, fun q5 k5 => ?_⟩
    refine ⟨gN_obj k5 h8.2.2.2.1, fun q6 k6 => ?_⟩
    have h9 := BS_nr h8 (k := 4) (j := 69) k5 (hjm [68, 67, 66, 65, 64, 63, 62, 61, 60, 59, 58, 57, 56, 55, 54, 53, 52] 69 (by decide) (by decide) (by decide)) rfl (hnm [(51, 3, 62), (62, 5, 68), (62, 4, 67), (62, 3, 66), (62, 2, 65), (62, 1, 64), (62, 0, 63), (51, 2, 55), (55, 5, 61), (55, 4, 60), (55, 3, 59), (55, 2, 58), (55, 1, 57), (55, 0, 56), (51, 1, 54), (51, 0, 52), (52, 5, 53)] 51 4 (by decide) (by decide) (by decide))
    refine ⟨gN_obj k6 h9.2.2.2.1, fun q7 k7 => ?_⟩
    have h10 := BS_nr h9 (k := 5) (j := 70) k6 (hjm [69, 68, 67, 66, 65, 64, 63, 62, 61, 60, 59, 58, 57, 56, 55, 54, 53, 52] 70 (by decide) (by decide) (by decide)) rfl (hnm [(51, 4, 69), (51, 3, 62), (62, 5, 68), (62, 4, 67), (62, 3, 66), (62, 2, 65), (62, 1, 64), (62, 0, 63), (51, 2, 55), (55, 5, 61), (55, 4, 60), (55, 3, 59), (55, 2, 58), (55, 1, 57), (55, 0, 56), (51, 1, 54), (51, 0, 52), (52, 5, 53)] 51 5 (by decide) (by decide) (by decide))
    refine ⟨gN_obj k7 h10.2.2.2.1, fun q8 k8 => ?_⟩
    have h11 := BS_nr h10 (k := 6) (j := 71) k7 (hjm [70, 69, 68, 67, 66, 65, 64, 63, 62, 61, 60, 59, 58, 57, 56, 55, 54, 53, 52] 71 (by decide) (by decide) (by decide)) rfl (hnm [(51, 5, 70), (51, 4, 69), (51, 3, 62), (62, 5, 68), (62, 4, 67), (62, 3, 66), (62, 2, 65), (62, 1, 64), (62, 0, 63), (51, 2, 55), (55, 5, 61), (55, 4, 60), (55, 3, 59), (55, 2, 58), (55, 1, 57), (55, 0, 56), (51, 1, 54), (51, 0, 52), (52, 5, 53)] 51 6 (by decide) (by decide) (by decide))
    refine ⟨gN_obj k8 h11.2.2.2.1, fun q9 k9 => ?_⟩
    have h12 := BS_nr h11 (k := 7) (j := 72) k8 (hjm [71, 70, 69, 68, 67, 66, 65, 64, 63, 62, 61, 60, 59, 58, 57, 56, 55, 54, 53, 52] 72 (by decide) (by decide) (by decide)) rfl (hnm [(51, 6, 71), (51, 5, 70), (51, 4, 69), (51, 3, 62), (62, 5, 68), (62, 4, 67), (62, 3, 66), (62, 2, 65), (62, 1, 64), (62, 0, 63), (51, 2, 55), (55, 5, 61), (55, 4, 60), (55, 3, 59), (55, 2, 58), (55, 1, 57), (55, 0, 56), (51, 1, 54), (51, 0, 52), (52, 5, 53)] 51 7 (by decide) (by decide) (by decide))
    refine ⟨gN_obj k9 h12.2.2.2.1, ?_⟩
    have h13 := BS_nr h12 (k := 11) (j := 73) k9 (hjm [72, 71, 70, 69, 68, 67, 66, 65, 64, 63, 62, 61, 60, 59, 58, 57, 56, 55, 54, 53, 52] 73 (by decide) (by decide) (by decide)) rfl (hnm [(51, 7, 72), (51, 6, 71), (51, 5, 70), (51, 4, 69), (51, 3, 62), (62, 5, 68), (62, 4, 67), (62, 3, 66), (62, 2, 65), (62, 1, 64), (62, 0, 63), (51, 2, 55), (55, 5, 61), (55, 4, 60), (55, 3, 59), (55, 2, 58), (55, 1, 57), (55, 0, 56), (51, 1, 54), (51, 0, 52), (52, 5, 53)] 51 11 (by decide) (by decide) (by decide))
    exact hQ _ _ _ h13.1 (fun j hj => (h13.2.2.2.2 j hj).2)
end INITP
