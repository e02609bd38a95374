/-! ===== the class's book as it is made ===== -/
def BK (G : aG) (M : aM) (ad : Nat → Nat) (S : List Nat) (R : List (Nat × Nat × Nat)) : Prop := (∀ i, i ∈ S → ad i ∈ gA G ∧ gT G (ad i) = ctT.getD i (.inl 0)) ∧ (∀ i j, i ∈ S → j ∈ S → ad i = ad j → i = j) ∧ (∀ e, e ∈ R → e.1 ∈ S ∧ e.2.2 ∈ S ∧ gR G (ad e.1) e.2.1 = some (ad e.2.2)) ∧ ∀ i, i ∈ S → i ≠ 3 → i ≠ 11 → ∀ k, M (ad i) k = 0
theorem gN_A (G : aG) (q : Nat) (t : Nat ⊕ (Nat × Nat)) (x : Nat) : x ∈ gA (gN G q t) ↔ x ∈ gA G ∨ x = q := by
  show x ∈ gA G ++ [q] ↔ _
  rw [List.mem_append, List.mem_singleton]
theorem gN_Ts (G : aG) (q : Nat) (t : Nat ⊕ (Nat × Nat)) : gT (gN G q t) q = t := va_up_self _ _ _
theorem gN_To (G : aG) {q x : Nat} (t : Nat ⊕ (Nat × Nat)) (h : x ≠ q) : gT (gN G q t) x = gT G x := va_up_ne _ _ h
theorem gN_Ro (G : aG) {q x : Nat} (t : Nat ⊕ (Nat × Nat)) (h : x ≠ q) : gR (gN G q t) x = gR G x := va_up_ne _ _ h
theorem mN0_s (M : aM) (q k : Nat) : mN0 M q q k = 0 := congrFun (va_up_self M q (fun _ => (0 : Int))) k
theorem mN0_o (M : aM) {q x : Nat} (h : x ≠ q) : mN0 M q x = M x := va_up_ne _ _ h
theorem nin_ne {L : List Nat} {x q : Nat} (hx : x ∈ L) (hq : q ∉ L) : x ≠ q := fun e => hq (e ▸ hx)
theorem gN_obj {G : aG} {q x c : Nat} {t : Nat ⊕ (Nat × Nat)} (hq : q ∉ gA G) (h : isObj G x c) : isObj (gN G q t) x c := ⟨(gN_A _ _ _ _).mpr (.inl h.1), by rw [gN_To _ _ (nin_ne h.1 hq)]; exact h.2⟩
theorem BK_new {G : aG} {M : aM} {ad : Nat → Nat} {S : List Nat} {R : List (Nat × Nat × Nat)} (h : BK G M ad S R) {q i : Nat} {t : Nat ⊕ (Nat × Nat)} (hq : q ∉ gA G) (hi : i ∉ S) (ht : ctT.getD i (.inl 0) = t) : BK (gN G q t) (mN0 M q) (va_up ad i q) (i :: S) R := by
  have a1 : ∀ j, j ∈ S → va_up ad i q j = ad j := fun j hj => va_up_ne _ _ (fun e => hi (e ▸ hj))
  have a2 : ∀ j, j ∈ S → ad j ≠ q := fun j hj => nin_ne (h.1 j hj).1 hq
  refine ⟨fun j hj => ?_, fun j k hj hk e => ?_, fun e he => ?_, fun j hj h3 h11 k => ?_⟩
  · rcases List.mem_cons.mp hj with rfl | hj
    · rw [va_up_self, gN_Ts]
      exact ⟨(gN_A _ _ _ _).mpr (.inr rfl), ht.symm⟩
    · rw [a1 j hj, gN_To _ _ (a2 j hj)]
      exact ⟨(gN_A _ _ _ _).mpr (.inl (h.1 j hj).1), (h.1 j hj).2⟩
  · rcases List.mem_cons.mp hj with ej | hj2
    · rcases List.mem_cons.mp hk with ek | hk2
      · rw [ej, ek]
      · rw [ej, va_up_self, a1 k hk2] at e
        exact absurd e.symm (a2 k hk2)
    · rcases List.mem_cons.mp hk with ek | hk2
      · rw [ek, va_up_self, a1 j hj2] at e
        exact absurd e (a2 j hj2)
      · rw [a1 j hj2, a1 k hk2] at e
        exact h.2.1 j k hj2 hk2 e
  · have h3 := h.2.2.1 e he
    rw [a1 _ h3.1, a1 _ h3.2.1, gN_Ro _ _ (a2 _ h3.1)]
    exact ⟨List.mem_cons_of_mem _ h3.1, List.mem_cons_of_mem _ h3.2.1, h3.2.2⟩
  · rcases List.mem_cons.mp hj with rfl | hj
    · rw [va_up_self, mN0_s]
    · rw [a1 j hj, mN0_o _ (a2 j hj)]
      exact h.2.2.2 j hj h3 h11 k
theorem BK_ref {G : aG} {M : aM} {ad : Nat → Nat} {S : List Nat} {R : List (Nat × Nat × Nat)} (h : BK G M ad S R) {i k j : Nat} (hi : i ∈ S) (hj : j ∈ S) (hn : ∀ e, e ∈ R → ¬ (e.1 = i ∧ e.2.1 = k)) : BK (gW G (ad i) k (some (ad j))) M ad S ((i, k, j) :: R) := by
  refine ⟨h.1, h.2.1, fun e he => ?_, h.2.2.2⟩
  rcases List.mem_cons.mp he with rfl | he
  · exact ⟨hi, hj, gW_s _ _ _ _⟩
  · have h3 := h.2.2.1 e he
    refine ⟨h3.1, h3.2.1, ?_⟩
    by_cases e1 : e.1 = i
    · have e2 : e.2.1 ≠ k := fun q => hn e he ⟨e1, q⟩
      rw [e1, gW_o _ _ e2, ← e1]
      exact h3.2.2
    · rw [gW_ne _ _ _ (fun q => e1 (h.2.1 _ _ h3.1 hi q))]
      exact h3.2.2
/-- a cell made and put at once into a field of one of the book -/
theorem BK_nr {G : aG} {M : aM} {ad : Nat → Nat} {S : List Nat} {R : List (Nat × Nat × Nat)} (h : BK G M ad S R) {q i k j : Nat} {t : Nat ⊕ (Nat × Nat)} (hq : q ∉ gA G) (hi : i ∈ S) (hj : j ∉ S) (ht : ctT.getD j (.inl 0) = t) (hn : ∀ e, e ∈ R → ¬ (e.1 = i ∧ e.2.1 = k)) : BK (gW (gN G q t) (ad i) k (some q)) (mN0 M q) (va_up ad j q) (j :: S) ((i, k, j) :: R) := by
  have h1 := BK_ref (BK_new h hq hj ht) (i := i) (k := k) (j := j) (List.mem_cons_of_mem _ hi) List.mem_cons_self hn
  have e1 : va_up ad j q i = ad i := va_up_ne _ _ (fun e => hj (e ▸ hi))
  rw [va_up_self, e1] at h1
  exact h1
theorem BK_o {G : aG} {M : aM} {ad : Nat → Nat} {S : List Nat} {R : List (Nat × Nat × Nat)} (h : BK G M ad S R) {i c : Nat} (hi : i ∈ S) (hc : ctT.getD i (.inl 0) = .inl c) : isObj G (ad i) c := ⟨(h.1 i hi).1, (h.1 i hi).2.trans hc⟩
theorem BK_a {G : aG} {M : aM} {ad : Nat → Nat} {S : List Nat} {R : List (Nat × Nat × Nat)} (h : BK G M ad S R) {i k n : Nat} (hi : i ∈ S) (hc : ctT.getD i (.inl 0) = .inr (k, n)) : isArr G (ad i) k n := ⟨(h.1 i hi).1, (h.1 i hi).2.trans hc⟩
/-- the books agree where both speak -/
def adE (ad ad' : Nat → Nat) (S : List Nat) : Prop := ∀ i, i ∈ S → ad' i = ad i
theorem nmc {j a : Nat} {S : List Nat} (h1 : j ≠ a) (h2 : j ∉ S) : j ∉ a :: S := fun q => by
  rcases List.mem_cons.mp q with e | e
  · exact h1 e
  · exact h2 e
theorem nrc {i k i1 k1 j1 : Nat} {R : List (Nat × Nat × Nat)} (h1 : ¬ (i1 = i ∧ k1 = k)) (h2 : ∀ e, e ∈ R → ¬ (e.1 = i ∧ e.2.1 = k)) : ∀ e, e ∈ (i1, k1, j1) :: R → ¬ (e.1 = i ∧ e.2.1 = k) := fun e he => by
  rcases List.mem_cons.mp he with rfl | he
  · exact h1
  · exact h2 e he
theorem nrc1 {i i1 k1 j1 : Nat} {R : List (Nat × Nat × Nat)} (h1 : ¬ i1 = i) (h2 : ∀ e, e ∈ R → ¬ e.1 = i) : ∀ e, e ∈ (i1, k1, j1) :: R → ¬ e.1 = i := fun e he => by
  rcases List.mem_cons.mp he with rfl | he
  · exact h1
  · exact h2 e he
/-- the book while an object x of it (number i) is being made; since (ad0, M0, S0) nothing else has changed -/
def BS (ad0 : Nat → Nat) (M0 : aM) (S0 : List Nat) (G : aG) (M : aM) (ad : Nat → Nat) (S : List Nat) (R : List (Nat × Nat × Nat)) (i x c : Nat) : Prop := BK G M ad S R ∧ i ∈ S ∧ ad i = x ∧ isObj G x c ∧ ∀ j, j ∈ S0 → j ∈ S ∧ ad j = ad0 j ∧ M (ad0 j) = M0 (ad0 j)
theorem BS_0 {G : aG} {M : aM} {ad : Nat → Nat} {S : List Nat} {R : List (Nat × Nat × Nat)} {i c : Nat} (h : BK G M ad S R) (hi : i ∈ S) (hc : ctT.getD i (.inl 0) = .inl c) : BS ad M S G M ad S R i (ad i) c := ⟨h, hi, rfl, BK_o h hi hc, fun _ hj => ⟨hj, rfl, rfl⟩⟩
theorem BS_new {ad0 : Nat → Nat} {M0 : aM} {S0 : List Nat} {G : aG} {M : aM} {ad : Nat → Nat} {S : List Nat} {R : List (Nat × Nat × Nat)} {i x c : Nat} (h : BS ad0 M0 S0 G M ad S R i x c) {q j : Nat} {t : Nat ⊕ (Nat × Nat)} (hq : q ∉ gA G) (hj : j ∉ S) (ht : ctT.getD j (.inl 0) = t) : BS ad0 M0 S0 (gN G q t) (mN0 M q) (va_up ad j q) (j :: S) R i x c := by
  obtain ⟨h1, h2, h3, h4, h5⟩ := h
  have ne : ∀ y, y ∈ S → va_up ad j q y = ad y := fun y hy => va_up_ne _ _ (fun e => hj (e ▸ hy))
  refine ⟨BK_new h1 hq hj ht, List.mem_cons_of_mem _ h2, (ne i h2).trans h3, gN_obj hq h4, fun y hy => ?_⟩
  obtain ⟨a, b, d⟩ := h5 y hy
  refine ⟨List.mem_cons_of_mem _ a, (ne y a).trans b, ?_⟩
  rw [mN0_o _ (nin_ne (by rw [← b]; exact (h1.1 y a).1) hq)]
  exact d
theorem BS_nr {ad0 : Nat → Nat} {M0 : aM} {S0 : List Nat} {G : aG} {M : aM} {ad : Nat → Nat} {S : List Nat} {R : List (Nat × Nat × Nat)} {i x c : Nat} (h : BS ad0 M0 S0 G M ad S R i x c) {q k j : Nat} {t : Nat ⊕ (Nat × Nat)} (hq : q ∉ gA G) (hj : j ∉ S) (ht : ctT.getD j (.inl 0) = t) (hn : ∀ e, e ∈ R → ¬ (e.1 = i ∧ e.2.1 = k)) : BS ad0 M0 S0 (gW (gN G q t) x k (some q)) (mN0 M q) (va_up ad j q) (j :: S) ((i, k, j) :: R) i x c := by
  have h9 := BS_new h hq hj ht
  have h1 := BK_nr h.1 (k := k) hq h.2.1 hj ht hn
  rw [h.2.2.1] at h1
  exact ⟨h1, h9.2.1, h9.2.2.1, h9.2.2.2.1, h9.2.2.2.2⟩
theorem BS_ref {ad0 : Nat → Nat} {M0 : aM} {S0 : List Nat} {G : aG} {M : aM} {ad : Nat → Nat} {S : List Nat} {R : List (Nat × Nat × Nat)} {i x c : Nat} (h : BS ad0 M0 S0 G M ad S R i x c) {k j y : Nat} (hj : j ∈ S) (hy : ad j = y) (hn : ∀ e, e ∈ R → ¬ (e.1 = i ∧ e.2.1 = k)) : BS ad0 M0 S0 (gW G x k (some y)) M ad S ((i, k, j) :: R) i x c := by
  obtain ⟨h1, h2, h3, h4, h5⟩ := h
  have h9 := BK_ref h1 h2 hj hn
  rw [h3, hy] at h9
  exact ⟨h9, h2, h3, h4, h5⟩
theorem BS_r2 {ad0 : Nat → Nat} {M0 : aM} {S0 : List Nat} {G : aG} {M : aM} {ad : Nat → Nat} {S : List Nat} {R : List (Nat × Nat × Nat)} {i x c : Nat} (h : BS ad0 M0 S0 G M ad S R i x c) {i2 k j x2 y : Nat} (hi2 : i2 ∈ S) (hx2 : ad i2 = x2) (hj : j ∈ S) (hy : ad j = y) (hn : ∀ e, e ∈ R → ¬ (e.1 = i2 ∧ e.2.1 = k)) : BS ad0 M0 S0 (gW G x2 k (some y)) M ad S ((i2, k, j) :: R) i x c := by
  obtain ⟨h1, h2, h3, h4, h5⟩ := h
  have h9 := BK_ref h1 hi2 hj hn
  rw [hx2, hy] at h9
  exact ⟨h9, h2, h3, h4, h5⟩
/-- behind a call that made more: the book goes on -/
theorem BS_call {ad0 : Nat → Nat} {M0 : aM} {S0 : List Nat} {G G' : aG} {M M' : aM} {ad ad' : Nat → Nat} {S S' : List Nat} {R R' : List (Nat × Nat × Nat)} {i x c b : Nat} (h : BS ad0 M0 S0 G M ad S R i x c) (h' : BK G' M' ad' S' R') (hs : ∀ j, j ∈ S → j ∈ S') (hf : ∀ j, j ∈ S → ad' j = ad j ∧ (j ≠ b → M' (ad j) = M (ad j))) (hb : b ∉ S0) (hc : ctT.getD i (.inl 0) = .inl c) : BS ad0 M0 S0 G' M' ad' S' R' i x c := by
  obtain ⟨h1, h2, h3, h4, h5⟩ := h
  have e : ad' i = x := (hf i h2).1.trans h3
  refine ⟨h', hs i h2, e, by rw [← e]; exact BK_o h' (hs i h2) hc, fun y hy => ?_⟩
  obtain ⟨a, b', d⟩ := h5 y hy
  refine ⟨hs y a, (hf y a).1.trans b', ?_⟩
  rw [← b', (hf y a).2 (fun q => hb (q ▸ hy)), b']
  exact d
section BOOK
variable {Γ : aR} {ρ κ : Nat} {G : aG} {M : aM} {Q : aQ} {ad : Nat → Nat} {S : List Nat} {R : List (Nat × Nat × Nat)}
theorem i_now {i : Nat} (hρ : 1 ≤ ρ) (h : BK G M ad S R) (hi : i ∈ S) (ht : ctT.getD i (.inl 0) = .inl 4) (hj : i + 1 ∉ S) (ht2 : ctT.getD (i + 1) (.inl 0) = .inr (0, 6)) (hn : ∀ e, e ∈ R → ¬ (e.1 = i ∧ e.2.1 = 5)) (hQ : ∀ (G' : aG) (M' : aM) (ad' : Nat → Nat), BK G' M' ad' ((i + 1) :: S) ((i, 5, i + 1) :: R) → (∀ j, j ∈ S → ad' j = ad j ∧ M' (ad j) = M (ad j)) → Q none G' M') : WPm Γ ρ 1 18 [vR (some (ad i))] G M Q := by
  have h0 := BS_0 h hi ht
  refine WPm_of (L := [vR (some (ad i))]) 0 (by decide) (Nat.le_of_ble_eq_true rfl) rfl ?_
  refine blk bk_n_init_0 ?_
  simp (disch := omega) only [st_iconst, st_bipush, st_sipush, st_ldc, st_ldc_w, st_lconst, st_ldc2_w, st_iload_n, st_iload, st_lload_n, st_lload, st_aload_n, st_aload, st_istore_n, st_istore, st_lstore_n, st_lstore, st_astore_n, st_astore, st_iinc, st_iadd, st_isub, st_imul, st_idiv, st_irem, st_iand, st_ior, st_ixor, st_ishl, st_ishr, st_iushr, st_ladd, st_lmul, st_ldiv, st_lrem, st_land, st_lor, st_lxor, st_lshl, st_lshr, st_lcmp, st_i2l, st_l2i, st_i2c, st_dup, st_pop, st_dup2, st_iaload0, st_iaload1, st_caload, st_baload, st_laload, st_aaload, st_iastore, st_castore, st_bastore, st_lastore, st_aastore, st_arraylength0, st_arraylength1, st_getfield, st_putfield0, st_putfield1, st_putfield2, st_putfield3, st_getstatic, st_new, st_newarray, st_anewarray, st_goto, st_ifCond, st_if_icmp, st_tableswitch, st_lookupswitch, st_ireturn, st_lreturn, st_return, st_invokevirtual, st_invokestatic0, st_invokestatic1, st_invokespecial0, st_invokespecial1, cZ_eq, cZ_ne, cZ_lt, cZ_ge, cZ_gt, cZ_le, vcb_n, vcb_c, sw_n, sw_c, ↓pI_d, ↓pL_d, ↓pR_d, ↓pA_d, isI_d, isL_d, isL_di, isL_dr, isL_dj, isA_d, inc_c, stO, fV, List.getD_cons_zero, List.getD_cons_succ, List.set_cons_zero, List.set_cons_succ, List.take_succ_cons, List.take_zero, List.drop_succ_cons, List.drop_zero, List.reverse_cons, List.reverse_nil, List.nil_append, List.cons_append, List.append_nil, Option.toList_some, Option.toList_none, List.length_cons, List.length_nil, Nat.reduceAdd, Nat.reduceSub, Nat.reduceLeDiff, Nat.reduceEqDiff, Nat.add_eq, not_false_eq_true, not_true_eq_false, true_and, and_true, false_or, or_true, true_or, or_false, and_self, one_ne_zero_nat, w32_id, w32_n, Int.toNat_natCast, Int.reduceToNat, Nat.zero_add, Nat.zero_le, Nat.le_refl, Int.reduceEq, Int.reduceLT, Int.reduceLE, Int.reduceAdd, Int.reduceSub, Int.reduceMul, t_imp, f_imp, gW_obj]
  refine ⟨hρ, fun q hq => ⟨gN_obj hq h0.2.2.2.1, ?_⟩⟩
  have h1 := BS_nr h0 (k := 5) hq hj ht2 hn
  exact hQ _ _ _ h1.1 (fun j hj => (h1.2.2.2.2 j hj).2)
theorem i_told {b : Nat} (hρ : 2 ≤ ρ) (h : BK G M ad S R) (hi : b ∈ S) (hb : b = 3 ∨ b = 11) (hj : ∀ j, b < j → j ≤ b + 7 → j ∉ S) (hn : ∀ e, e ∈ R → ¬ e.1 = b) (hQ : ∀ (G' : aG) (M' : aM) (ad' : Nat → Nat), BK G' M' ad' ((b + 7) :: (b + 6) :: (b + 5) :: (b + 4) :: (b + 3) :: (b + 2) :: (b + 1) :: S) ((b, 8, b + 7) :: (b, 7, b + 6) :: (b, 6, b + 5) :: (b, 5, b + 4) :: (b, 3, b + 3) :: (b, 2, b + 2) :: (b, 1, b + 1) :: R) → (∀ j, j ∈ S → ad' j = ad j ∧ (j ≠ b → M' (ad j) = M (ad j))) → (M' (ad b) 0 = 0 ∧ M' (ad b) 4 = 0 ∧ M' (ad b) 9 = 2 ∧ M' (ad b) 10 = 5 ∧ M' (ad b) 11 = 1) → Q none G' M') : WPm Γ ρ 7 55 [vR (some (ad b))] G M Q := by
  have ht : ctT.getD b (.inl 0) = .inl 8 := by rcases hb with rfl | rfl <;> rfl
  have t1 : ctT.getD (b + 1) (.inl 0) = .inr (0, 6) := by rcases hb with rfl | rfl <;> rfl
  have t2 : ctT.getD (b + 2) (.inl 0) = .inr (0, 6) := by rcases hb with rfl | rfl <;> rfl
  have t3 : ctT.getD (b + 3) (.inl 0) = .inr (0, 6) := by rcases hb with rfl | rfl <;> rfl
  have t4 : ctT.getD (b + 4) (.inl 0) = .inr (0, 10) := by rcases hb with rfl | rfl <;> rfl
  have t5 : ctT.getD (b + 5) (.inl 0) = .inr (0, 10) := by rcases hb with rfl | rfl <;> rfl
  have t6 : ctT.getD (b + 6) (.inl 0) = .inr (0, 10) := by rcases hb with rfl | rfl <;> rfl
  have t7 : ctT.getD (b + 7) (.inl 0) = .inr (0, 10) := by rcases hb with rfl | rfl <;> rfl
  have hnk : ∀ k, ∀ e, e ∈ R → ¬ (e.1 = b ∧ e.2.1 = k) := fun k e he q => hn e he q.1
  have h0 := BS_0 h hi ht
  refine WPm_of (L := [vR (some (ad b))]) 0 (by decide) (Nat.le_of_ble_eq_true rfl) rfl ?_
  refine blk bk_t_init_0 ?_
  simp (disch := omega) only [st_iconst, st_bipush, st_sipush, st_ldc, st_ldc_w, st_lconst, st_ldc2_w, st_iload_n, st_iload, st_lload_n, st_lload, st_aload_n, st_aload, st_istore_n, st_istore, st_lstore_n, st_lstore, st_astore_n, st_astore, st_iinc, st_iadd, st_isub, st_imul, st_idiv, st_irem, st_iand, st_ior, st_ixor, st_ishl, st_ishr, st_iushr, st_ladd, st_lmul, st_ldiv, st_lrem, st_land, st_lor, st_lxor, st_lshl, st_lshr, st_lcmp, st_i2l, st_l2i, st_i2c, st_dup, st_pop, st_dup2, st_iaload0, st_iaload1, st_caload, st_baload, st_laload, st_aaload, st_iastore, st_castore, st_bastore, st_lastore, st_aastore, st_arraylength0, st_arraylength1, st_getfield, st_putfield0, st_putfield1, st_putfield2, st_putfield3, st_getstatic, st_new, st_newarray, st_anewarray, st_goto, st_ifCond, st_if_icmp, st_tableswitch, st_lookupswitch, st_ireturn, st_lreturn, st_return, st_invokevirtual, st_invokestatic0, st_invokestatic1, st_invokespecial0, st_invokespecial1, cZ_eq, cZ_ne, cZ_lt, cZ_ge, cZ_gt, cZ_le, vcb_n, vcb_c, sw_n, sw_c, ↓pI_d, ↓pL_d, ↓pR_d, ↓pA_d, isI_d, isL_d, isL_di, isL_dr, isL_dj, isA_d, inc_c, stO, fV, List.getD_cons_zero, List.getD_cons_succ, List.set_cons_zero, List.set_cons_succ, List.take_succ_cons, List.take_zero, List.drop_succ_cons, List.drop_zero, List.reverse_cons, List.reverse_nil, List.nil_append, List.cons_append, List.append_nil, Option.toList_some, Option.toList_none, List.length_cons, List.length_nil, Nat.reduceAdd, Nat.reduceSub, Nat.reduceLeDiff, Nat.reduceEqDiff, Nat.add_eq, not_false_eq_true, not_true_eq_false, true_and, and_true, false_or, or_true, true_or, or_false, and_self, one_ne_zero_nat, w32_id, w32_n, Int.toNat_natCast, Int.reduceToNat, Nat.zero_add, Nat.zero_le, Nat.le_refl, Int.reduceEq, Int.reduceLT, Int.reduceLE, Int.reduceAdd, Int.reduceSub, Int.reduceMul, t_imp, f_imp, gW_obj]
  refine ⟨by omega, fun q1 k1 => ⟨gN_obj k1 h0.2.2.2.1, fun q2 k2 => ?_⟩⟩
  have h1 := BS_nr h0 (k := 1) k1 (hj (b + 1) (by omega) (by omega)) t1 (hnk 1)
  refine ⟨gN_obj k2 h1.2.2.2.1, fun q3 k3 => ?_⟩
  have h2 := BS_nr h1 (k := 2) k2 (nmc (by omega) (hj (b + 2) (by omega) (by omega))) t2 (nrc (by omega) (hnk 2))
  refine ⟨gN_obj k3 h2.2.2.2.1, fun q4 k4 => ?_⟩
  have h3 := BS_nr h2 (k := 3) k3 (nmc (by omega) (nmc (by omega) (hj (b + 3) (by omega) (by omega)))) t3 (nrc (by omega) (nrc (by omega) (hnk 3)))
  refine ⟨gN_obj k4 h3.2.2.2.1, fun q5 k5 => ?_⟩
  have h4 := BS_nr h3 (k := 5) k4 (nmc (by omega) (nmc (by omega) (nmc (by omega) (hj (b + 4) (by omega) (by omega))))) t4 (nrc (by omega) (nrc (by omega) (nrc (by omega) (hnk 5))))
  refine ⟨gN_obj k5 h4.2.2.2.1, fun q6 k6 => ?_⟩
  have h5 := BS_nr h4 (k := 6) k5 (nmc (by omega) (nmc (by omega) (nmc (by omega) (nmc (by omega) (hj (b + 5) (by omega) (by omega)))))) t5 (nrc (by omega) (nrc (by omega) (nrc (by omega) (nrc (by omega) (hnk 6)))))
  refine ⟨gN_obj k6 h5.2.2.2.1, fun q7 k7 => ?_⟩
  have h6 := BS_nr h5 (k := 7) k6 (nmc (by omega) (nmc (by omega) (nmc (by omega) (nmc (by omega) (nmc (by omega) (hj (b + 6) (by omega) (by omega))))))) t6 (nrc (by omega) (nrc (by omega) (nrc (by omega) (nrc (by omega) (nrc (by omega) (hnk 7))))))
  refine ⟨gN_obj k7 h6.2.2.2.1, ?_⟩
  have h7 := BS_nr h6 (k := 8) k7 (nmc (by omega) (nmc (by omega) (nmc (by omega) (nmc (by omega) (nmc (by omega) (nmc (by omega) (hj (b + 7) (by omega) (by omega)))))))) t7 (nrc (by omega) (nrc (by omega) (nrc (by omega) (nrc (by omega) (nrc (by omega) (nrc (by omega) (hnk 8)))))))
  refine ⟨by omega, h7.2.2.2.1, s_t_begin h7.2.2.2.1 (fun M' b0 b4 b9 b10 b11 bo => ?_)⟩
  refine blk bk_t_init_64 ?_
  simp (disch := omega) only [st_iconst, st_bipush, st_sipush, st_ldc, st_ldc_w, st_lconst, st_ldc2_w, st_iload_n, st_iload, st_lload_n, st_lload, st_aload_n, st_aload, st_istore_n, st_istore, st_lstore_n, st_lstore, st_astore_n, st_astore, st_iinc, st_iadd, st_isub, st_imul, st_idiv, st_irem, st_iand, st_ior, st_ixor, st_ishl, st_ishr, st_iushr, st_ladd, st_lmul, st_ldiv, st_lrem, st_land, st_lor, st_lxor, st_lshl, st_lshr, st_lcmp, st_i2l, st_l2i, st_i2c, st_dup, st_pop, st_dup2, st_iaload0, st_iaload1, st_caload, st_baload, st_laload, st_aaload, st_iastore, st_castore, st_bastore, st_lastore, st_aastore, st_arraylength0, st_arraylength1, st_getfield, st_putfield0, st_putfield1, st_putfield2, st_putfield3, st_getstatic, st_new, st_newarray, st_anewarray, st_goto, st_ifCond, st_if_icmp, st_tableswitch, st_lookupswitch, st_ireturn, st_lreturn, st_return, st_invokevirtual, st_invokestatic0, st_invokestatic1, st_invokespecial0, st_invokespecial1, cZ_eq, cZ_ne, cZ_lt, cZ_ge, cZ_gt, cZ_le, vcb_n, vcb_c, sw_n, sw_c, ↓pI_d, ↓pL_d, ↓pR_d, ↓pA_d, isI_d, isL_d, isL_di, isL_dr, isL_dj, isA_d, inc_c, stO, fV, List.getD_cons_zero, List.getD_cons_succ, List.set_cons_zero, List.set_cons_succ, List.take_succ_cons, List.take_zero, List.drop_succ_cons, List.drop_zero, List.reverse_cons, List.reverse_nil, List.nil_append, List.cons_append, List.append_nil, Option.toList_some, Option.toList_none, List.length_cons, List.length_nil, Nat.reduceAdd, Nat.reduceSub, Nat.reduceLeDiff, Nat.reduceEqDiff, Nat.add_eq, not_false_eq_true, not_true_eq_false, true_and, and_true, false_or, or_true, true_or, or_false, and_self, one_ne_zero_nat, w32_id, w32_n, Int.toNat_natCast, Int.reduceToNat, Nat.zero_add, Nat.zero_le, Nat.le_refl, Int.reduceEq, Int.reduceLT, Int.reduceLE, Int.reduceAdd, Int.reduceSub, Int.reduceMul, t_imp, f_imp]
  have hbS : ∀ j, j ∈ S → ad j = ad b → j = b := fun j hj e => h.2.1 j b hj hi e
  refine hQ _ M' _ ⟨h7.1.1, h7.1.2.1, h7.1.2.2.1, fun j hj e3 e11 k => ?_⟩ (fun j hj => ⟨(h7.2.2.2.2 j hj).2.1, fun hne => ?_⟩) ⟨b0, b4, b9, b10, b11⟩
  · rw [bo _ (fun e => ?_)]
    · exact h7.1.2.2.2 j hj e3 e11 k
    · have := h7.1.2.1 j b hj h7.2.1 (e.trans h7.2.2.1.symm)
      omega
  · rw [bo _ (fun e => hne (hbS j hj e))]
    exact (h7.2.2.2.2 j hj).2.2
theorem i_text (hρ : 4 ≤ ρ) (h : BK G M ad S R) (hi : 1 ∈ S) (h2 : 2 ∉ S) (hj : ∀ j, 11 ≤ j → j ≤ 18 → j ∉ S) (hn1 : ∀ e, e ∈ R → ¬ e.1 = 1) (hn : ∀ e, e ∈ R → ¬ e.1 = 11) (hQ : ∀ (G' : aG) (M' : aM) (ad' : Nat → Nat), BK G' M' ad' (18 :: 17 :: 16 :: 15 :: 14 :: 13 :: 12 :: 11 :: 2 :: S) ((1, 2, 11) :: (11, 8, 18) :: (11, 7, 17) :: (11, 6, 16) :: (11, 5, 15) :: (11, 3, 14) :: (11, 2, 13) :: (11, 1, 12) :: (1, 0, 2) :: R) → (∀ j, j ∈ S → ad' j = ad j ∧ M' (ad j) = M (ad j)) → (M' (ad' 11) 0 = 0 ∧ M' (ad' 11) 4 = 0 ∧ M' (ad' 11) 9 = 2 ∧ M' (ad' 11) 10 = 5 ∧ M' (ad' 11) 11 = 1) → Q none G' M') : WPm Γ ρ 9 42 [vR (some (ad 1))] G M Q := by
  have h0 := BS_0 h hi (c := 7) rfl
  refine WPm_of (L := [vR (some (ad 1))]) 0 (by decide) (Nat.le_of_ble_eq_true rfl) rfl ?_
  refine blk bk_x_init_0c ?_
  simp (disch := omega) only [st_iconst, st_bipush, st_sipush, st_ldc, st_ldc_w, st_lconst, st_ldc2_w, st_iload_n, st_iload, st_lload_n, st_lload, st_aload_n, st_aload, st_istore_n, st_istore, st_lstore_n, st_lstore, st_astore_n, st_astore, st_iinc, st_iadd, st_isub, st_imul, st_idiv, st_irem, st_iand, st_ior, st_ixor, st_ishl, st_ishr, st_iushr, st_ladd, st_lmul, st_ldiv, st_lrem, st_land, st_lor, st_lxor, st_lshl, st_lshr, st_lcmp, st_i2l, st_l2i, st_i2c, st_dup, st_pop, st_dup2, st_iaload0, st_iaload1, st_caload, st_baload, st_laload, st_aaload, st_iastore, st_castore, st_bastore, st_lastore, st_aastore, st_arraylength0, st_arraylength1, st_getfield, st_putfield0, st_putfield1, st_putfield2, st_putfield3, st_getstatic, st_new, st_newarray, st_anewarray, st_goto, st_ifCond, st_if_icmp, st_tableswitch, st_lookupswitch, st_ireturn, st_lreturn, st_return, st_invokevirtual, st_invokestatic0, st_invokestatic1, st_invokespecial0, st_invokespecial1, cZ_eq, cZ_ne, cZ_lt, cZ_ge, cZ_gt, cZ_le, vcb_n, vcb_c, sw_n, sw_c, ↓pI_d, ↓pL_d, ↓pR_d, ↓pA_d, isI_d, isL_d, isL_di, isL_dr, isL_dj, isA_d, inc_c, stO, fV, List.getD_cons_zero, List.getD_cons_succ, List.set_cons_zero, List.set_cons_succ, List.take_succ_cons, List.take_zero, List.drop_succ_cons, List.drop_zero, List.reverse_cons, List.reverse_nil, List.nil_append, List.cons_append, List.append_nil, Option.toList_some, Option.toList_none, List.length_cons, List.length_nil, Nat.reduceAdd, Nat.reduceSub, Nat.reduceLeDiff, Nat.reduceEqDiff, Nat.add_eq, not_false_eq_true, not_true_eq_false, true_and, and_true, false_or, or_true, true_or, or_false, and_self, one_ne_zero_nat, w32_id, w32_n, Int.toNat_natCast, Int.reduceToNat, Nat.zero_add, Nat.zero_le, Nat.le_refl, Int.reduceEq, Int.reduceLT, Int.reduceLE, Int.reduceAdd, Int.reduceSub, Int.reduceMul, t_imp, f_imp, gW_obj]
  refine ⟨by omega, fun q1 k1 => ⟨gN_obj k1 h0.2.2.2.1, fun q2 k2 => ?_⟩⟩
  have h1 := BS_nr h0 (k := 0) k1 h2 rfl (fun e he q => hn1 e he q.1)
  have h3 := BS_new h1 k2 (nmc (by decide) (hj 11 (by decide) (by decide))) (j := 11) rfl
  refine ⟨by omega, ⟨(gN_A _ _ _ _).mpr (.inr rfl), gN_Ts _ _ _⟩, ?_⟩
  have ea : va_up (va_up ad 2 q1) 11 q2 11 = q2 := va_up_self _ _ _
  have call := i_told (Γ := Γ) (ρ := ρ - 1) (b := 11) (Q := fun v G' M' => WP Γ ρ 0 42 21 [vR (some (ad 1))] (v.toList ++ [vR (some q2), vR (some (ad 1))]) G' M' Q) (by omega) h3.1 List.mem_cons_self (.inr rfl) (fun j a b => nmc (by omega) (nmc (by omega) (hj j (by omega) (by omega)))) (nrc1 (by decide) hn) (fun G' M' ad' hk hf hv => ?_)
  · rw [ea] at call
    exact call
  · have h4 := BS_call (b := 11) h3 hk (fun j hj => List.mem_append_right [18, 17, 16, 15, 14, 13, 12] hj) hf (hj 11 (by decide) (by decide)) rfl
    have e11 : ad' 11 = q2 := (hf 11 List.mem_cons_self).1.trans ea
    have h5 := BS_ref h4 (k := 2) (j := 11) (List.mem_append_right [18, 17, 16, 15, 14, 13, 12] List.mem_cons_self) e11 (by
      refine nrc (by decide) (nrc (by decide) (nrc (by decide) (nrc (by decide) (nrc (by decide) (nrc (by decide) (nrc (by decide) (nrc (by decide) (fun e he q => hn1 e he q.1))))))))
      )
    refine blk bk_x_init_21 ?_
    simp (disch := omega) only [st_iconst, st_bipush, st_sipush, st_ldc, st_ldc_w, st_lconst, st_ldc2_w, st_iload_n, st_iload, st_lload_n, st_lload, st_aload_n, st_aload, st_istore_n, st_istore, st_lstore_n, st_lstore, st_astore_n, st_astore, st_iinc, st_iadd, st_isub, st_imul, st_idiv, st_irem, st_iand, st_ior, st_ixor, st_ishl, st_ishr, st_iushr, st_ladd, st_lmul, st_ldiv, st_lrem, st_land, st_lor, st_lxor, st_lshl, st_lshr, st_lcmp, st_i2l, st_l2i, st_i2c, st_dup, st_pop, st_dup2, st_iaload0, st_iaload1, st_caload, st_baload, st_laload, st_aaload, st_iastore, st_castore, st_bastore, st_lastore, st_aastore, st_arraylength0, st_arraylength1, st_getfield, st_putfield0, st_putfield1, st_putfield2, st_putfield3, st_getstatic, st_new, st_newarray, st_anewarray, st_goto, st_ifCond, st_if_icmp, st_tableswitch, st_lookupswitch, st_ireturn, st_lreturn, st_return, st_invokevirtual, st_invokestatic0, st_invokestatic1, st_invokespecial0, st_invokespecial1, cZ_eq, cZ_ne, cZ_lt, cZ_ge, cZ_gt, cZ_le, vcb_n, vcb_c, sw_n, sw_c, ↓pI_d, ↓pL_d, ↓pR_d, ↓pA_d, isI_d, isL_d, isL_di, isL_dr, isL_dj, isA_d, inc_c, stO, fV, List.getD_cons_zero, List.getD_cons_succ, List.set_cons_zero, List.set_cons_succ, List.take_succ_cons, List.take_zero, List.drop_succ_cons, List.drop_zero, List.reverse_cons, List.reverse_nil, List.nil_append, List.cons_append, List.append_nil, Option.toList_some, Option.toList_none, List.length_cons, List.length_nil, Nat.reduceAdd, Nat.reduceSub, Nat.reduceLeDiff, Nat.reduceEqDiff, Nat.add_eq, not_false_eq_true, not_true_eq_false, true_and, and_true, false_or, or_true, true_or, or_false, and_self, one_ne_zero_nat, w32_id, w32_n, Int.toNat_natCast, Int.reduceToNat, Nat.zero_add, Nat.zero_le, Nat.le_refl, Int.reduceEq, Int.reduceLT, Int.reduceLE, Int.reduceAdd, Int.reduceSub, Int.reduceMul, t_imp, f_imp, h4.2.2.2.1, gW_obj]
    refine hQ _ _ _ h5.1 (fun j hj => (h5.2.2.2.2 j hj).2) ?_
    rw [ea] at hv
    rw [e11]
    exact hv
theorem i_law (hρ : 3 ≤ ρ) (h : BK G M ad S R) (hi : 48 ∈ S) (h2 : 49 ∉ S) (h3 : 50 ∉ S) (hn1 : ∀ e, e ∈ R → ¬ e.1 = 48) (hn : ∀ e, e ∈ R → ¬ e.1 = 49) (hQ : ∀ (G' : aG) (M' : aM) (ad' : Nat → Nat), BK G' M' ad' (50 :: 49 :: S) ((48, 0, 49) :: (49, 5, 50) :: R) → (∀ j, j ∈ S → ad' j = ad j ∧ M' (ad j) = M (ad j)) → Q none G' M') : WPm Γ ρ 2 13 [vR (some (ad 48))] G M Q := by
  have h0 := BS_0 h hi (c := 3) rfl
  refine WPm_of (L := [vR (some (ad 48))]) 0 (by decide) (Nat.le_of_ble_eq_true rfl) rfl ?_
  refine blk bk_l_init_0c ?_
  simp (disch := omega) only [st_iconst, st_bipush, st_sipush, st_ldc, st_ldc_w, st_lconst, st_ldc2_w, st_iload_n, st_iload, st_lload_n, st_lload, st_aload_n, st_aload, st_istore_n, st_istore, st_lstore_n, st_lstore, st_astore_n, st_astore, st_iinc, st_iadd, st_isub, st_imul, st_idiv, st_irem, st_iand, st_ior, st_ixor, st_ishl, st_ishr, st_iushr, st_ladd, st_lmul, st_ldiv, st_lrem, st_land, st_lor, st_lxor, st_lshl, st_lshr, st_lcmp, st_i2l, st_l2i, st_i2c, st_dup, st_pop, st_dup2, st_iaload0, st_iaload1, st_caload, st_baload, st_laload, st_aaload, st_iastore, st_castore, st_bastore, st_lastore, st_aastore, st_arraylength0, st_arraylength1, st_getfield, st_putfield0, st_putfield1, st_putfield2, st_putfield3, st_getstatic, st_new, st_newarray, st_anewarray, st_goto, st_ifCond, st_if_icmp, st_tableswitch, st_lookupswitch, st_ireturn, st_lreturn, st_return, st_invokevirtual, st_invokestatic0, st_invokestatic1, st_invokespecial0, st_invokespecial1, cZ_eq, cZ_ne, cZ_lt, cZ_ge, cZ_gt, cZ_le, vcb_n, vcb_c, sw_n, sw_c, ↓pI_d, ↓pL_d, ↓pR_d, ↓pA_d, isI_d, isL_d, isL_di, isL_dr, isL_dj, isA_d, inc_c, stO, fV, List.getD_cons_zero, List.getD_cons_succ, List.set_cons_zero, List.set_cons_succ, List.take_succ_cons, List.take_zero, List.drop_succ_cons, List.drop_zero, List.reverse_cons, List.reverse_nil, List.nil_append, List.cons_append, List.append_nil, Option.toList_some, Option.toList_none, List.length_cons, List.length_nil, Nat.reduceAdd, Nat.reduceSub, Nat.reduceLeDiff, Nat.reduceEqDiff, Nat.add_eq, not_false_eq_true, not_true_eq_false, true_and, and_true, false_or, or_true, true_or, or_false, and_self, one_ne_zero_nat, w32_id, w32_n, Int.toNat_natCast, Int.reduceToNat, Nat.zero_add, Nat.zero_le, Nat.le_refl, Int.reduceEq, Int.reduceLT, Int.reduceLE, Int.reduceAdd, Int.reduceSub, Int.reduceMul, t_imp, f_imp, gW_obj]
  refine ⟨by omega, fun q1 k1 => ?_⟩
  have h1 := BS_new h0 k1 h2 (j := 49) rfl
  refine ⟨by omega, ⟨(gN_A _ _ _ _).mpr (.inr rfl), gN_Ts _ _ _⟩, ?_⟩
  have ea : va_up ad 49 q1 49 = q1 := va_up_self _ _ _
  have call := i_now (Γ := Γ) (ρ := ρ - 1) (i := 49) (Q := fun v G' M' => WP Γ ρ 0 13 12 [vR (some (ad 48))] (v.toList ++ [vR (some q1), vR (some (ad 48))]) G' M' Q) (by omega) h1.1 List.mem_cons_self rfl (nmc (by decide) h3) rfl (fun e he q => hn e he q.1) (fun G' M' ad' hk hf => ?_)
  · rw [ea] at call
    exact call
  · have h4 := BS_call (b := 49) h1 hk (fun j hj => List.mem_cons_of_mem _ hj) (fun j hj => ⟨(hf j hj).1, fun _ => (hf j hj).2⟩) h2 rfl
    have e11 : ad' 49 = q1 := (hf 49 List.mem_cons_self).1.trans ea
    have h5 := BS_ref h4 (k := 0) (j := 49) (List.mem_append_right [50] List.mem_cons_self) e11 (nrc (by decide) (fun e he q => hn1 e he q.1))
    refine blk bk_l_init_12 ?_
    simp (disch := omega) only [st_iconst, st_bipush, st_sipush, st_ldc, st_ldc_w, st_lconst, st_ldc2_w, st_iload_n, st_iload, st_lload_n, st_lload, st_aload_n, st_aload, st_istore_n, st_istore, st_lstore_n, st_lstore, st_astore_n, st_astore, st_iinc, st_iadd, st_isub, st_imul, st_idiv, st_irem, st_iand, st_ior, st_ixor, st_ishl, st_ishr, st_iushr, st_ladd, st_lmul, st_ldiv, st_lrem, st_land, st_lor, st_lxor, st_lshl, st_lshr, st_lcmp, st_i2l, st_l2i, st_i2c, st_dup, st_pop, st_dup2, st_iaload0, st_iaload1, st_caload, st_baload, st_laload, st_aaload, st_iastore, st_castore, st_bastore, st_lastore, st_aastore, st_arraylength0, st_arraylength1, st_getfield, st_putfield0, st_putfield1, st_putfield2, st_putfield3, st_getstatic, st_new, st_newarray, st_anewarray, st_goto, st_ifCond, st_if_icmp, st_tableswitch, st_lookupswitch, st_ireturn, st_lreturn, st_return, st_invokevirtual, st_invokestatic0, st_invokestatic1, st_invokespecial0, st_invokespecial1, cZ_eq, cZ_ne, cZ_lt, cZ_ge, cZ_gt, cZ_le, vcb_n, vcb_c, sw_n, sw_c, ↓pI_d, ↓pL_d, ↓pR_d, ↓pA_d, isI_d, isL_d, isL_di, isL_dr, isL_dj, isA_d, inc_c, stO, fV, List.getD_cons_zero, List.getD_cons_succ, List.set_cons_zero, List.set_cons_succ, List.take_succ_cons, List.take_zero, List.drop_succ_cons, List.drop_zero, List.reverse_cons, List.reverse_nil, List.nil_append, List.cons_append, List.append_nil, Option.toList_some, Option.toList_none, List.length_cons, List.length_nil, Nat.reduceAdd, Nat.reduceSub, Nat.reduceLeDiff, Nat.reduceEqDiff, Nat.add_eq, not_false_eq_true, not_true_eq_false, true_and, and_true, false_or, or_true, true_or, or_false, and_self, one_ne_zero_nat, w32_id, w32_n, Int.toNat_natCast, Int.reduceToNat, Nat.zero_add, Nat.zero_le, Nat.le_refl, Int.reduceEq, Int.reduceLT, Int.reduceLE, Int.reduceAdd, Int.reduceSub, Int.reduceMul, t_imp, f_imp, h4.2.2.2.1, gW_obj]
    exact hQ _ _ _ h5.1 (fun j hj => (h5.2.2.2.2 j hj).2)
theorem i_stra (hρ : 1 ≤ ρ) (h : BK G M ad S R) (hi : 74 ∈ S) (hj : ∀ j, 75 ≤ j → j ≤ 77 → j ∉ S) (hn : ∀ e, e ∈ R → ¬ e.1 = 74) (hQ : ∀ (G' : aG) (M' : aM) (ad' : Nat → Nat), BK G' M' ad' (77 :: 76 :: 75 :: S) ((74, 4, 77) :: (74, 1, 76) :: (74, 0, 75) :: R) → (∀ j, j ∈ S → ad' j = ad j ∧ M' (ad j) = M (ad j)) → Q none G' M') : WPm Γ ρ 3 37 [vR (some (ad 74))] G M Q := by
  have h0 := BS_0 h hi (c := 6) rfl
  refine WPm_of (L := [vR (some (ad 74))]) 0 (by decide) (Nat.le_of_ble_eq_true rfl) rfl ?_
  refine blk bk_s_init_0 ?_
  simp (disch := omega) only [st_iconst, st_bipush, st_sipush, st_ldc, st_ldc_w, st_lconst, st_ldc2_w, st_iload_n, st_iload, st_lload_n, st_lload, st_aload_n, st_aload, st_istore_n, st_istore, st_lstore_n, st_lstore, st_astore_n, st_astore, st_iinc, st_iadd, st_isub, st_imul, st_idiv, st_irem, st_iand, st_ior, st_ixor, st_ishl, st_ishr, st_iushr, st_ladd, st_lmul, st_ldiv, st_lrem, st_land, st_lor, st_lxor, st_lshl, st_lshr, st_lcmp, st_i2l, st_l2i, st_i2c, st_dup, st_pop, st_dup2, st_iaload0, st_iaload1, st_caload, st_baload, st_laload, st_aaload, st_iastore, st_castore, st_bastore, st_lastore, st_aastore, st_arraylength0, st_arraylength1, st_getfield, st_putfield0, st_putfield1, st_putfield2, st_putfield3, st_getstatic, st_new, st_newarray, st_anewarray, st_goto, st_ifCond, st_if_icmp, st_tableswitch, st_lookupswitch, st_ireturn, st_lreturn, st_return, st_invokevirtual, st_invokestatic0, st_invokestatic1, st_invokespecial0, st_invokespecial1, cZ_eq, cZ_ne, cZ_lt, cZ_ge, cZ_gt, cZ_le, vcb_n, vcb_c, sw_n, sw_c, ↓pI_d, ↓pL_d, ↓pR_d, ↓pA_d, isI_d, isL_d, isL_di, isL_dr, isL_dj, isA_d, inc_c, stO, fV, List.getD_cons_zero, List.getD_cons_succ, List.set_cons_zero, List.set_cons_succ, List.take_succ_cons, List.take_zero, List.drop_succ_cons, List.drop_zero, List.reverse_cons, List.reverse_nil, List.nil_append, List.cons_append, List.append_nil, Option.toList_some, Option.toList_none, List.length_cons, List.length_nil, Nat.reduceAdd, Nat.reduceSub, Nat.reduceLeDiff, Nat.reduceEqDiff, Nat.add_eq, not_false_eq_true, not_true_eq_false, true_and, and_true, false_or, or_true, true_or, or_false, and_self, one_ne_zero_nat, w32_id, w32_n, Int.toNat_natCast, Int.reduceToNat, Nat.zero_add, Nat.zero_le, Nat.le_refl, Int.reduceEq, Int.reduceLT, Int.reduceLE, Int.reduceAdd, Int.reduceSub, Int.reduceMul, t_imp, f_imp, gW_obj]
  refine ⟨by omega, fun q1 k1 => ⟨gN_obj k1 h0.2.2.2.1, fun q2 k2 => ?_⟩⟩
  have h1 := BS_nr h0 (k := 0) (j := 75) k1 (hj 75 (by decide) (by decide)) rfl (fun e he q => hn e he q.1)
  refine ⟨gN_obj k2 h1.2.2.2.1, fun q3 k3 => ?_⟩
  have h2 := BS_nr h1 (k := 1) (j := 76) k2 (nmc (by decide) (hj 76 (by decide) (by decide))) rfl (nrc (by decide) (fun e he q => hn e he q.1))
  refine ⟨gN_obj k3 h2.2.2.2.1, ?_⟩
  have h3 := BS_nr h2 (k := 4) (j := 77) k3 (nmc (by decide) (nmc (by decide) (hj 77 (by decide) (by decide)))) rfl (nrc (by decide) (nrc (by decide) (fun e he q => hn e he q.1)))
  exact hQ _ _ _ h3.1 (fun j hj => (h3.2.2.2.2 j hj).2)
theorem i_gras (hρ : 1 ≤ ρ) (h : BK G M ad S R) (hi : 78 ∈ S) (hj : ∀ j, 79 ≤ j → j ≤ 81 → j ∉ S) (hn : ∀ e, e ∈ R → ¬ e.1 = 78) (hQ : ∀ (G' : aG) (M' : aM) (ad' : Nat → Nat), BK G' M' ad' (81 :: 80 :: 79 :: S) ((78, 2, 81) :: (78, 1, 80) :: (78, 0, 79) :: R) → (∀ j, j ∈ S → ad' j = ad j ∧ M' (ad j) = M (ad j)) → Q none G' M') : WPm Γ ρ 3 0 [vR (some (ad 78))] G M Q := by
  have h0 := BS_0 h hi (c := 0) rfl
  refine WPm_of (L := [vR (some (ad 78))]) 0 (by decide) (Nat.le_of_ble_eq_true rfl) rfl ?_
  refine blk bk_r_init_0 ?_
  simp (disch := omega) only [st_iconst, st_bipush, st_sipush, st_ldc, st_ldc_w, st_lconst, st_ldc2_w, st_iload_n, st_iload, st_lload_n, st_lload, st_aload_n, st_aload, st_istore_n, st_istore, st_lstore_n, st_lstore, st_astore_n, st_astore, st_iinc, st_iadd, st_isub, st_imul, st_idiv, st_irem, st_iand, st_ior, st_ixor, st_ishl, st_ishr, st_iushr, st_ladd, st_lmul, st_ldiv, st_lrem, st_land, st_lor, st_lxor, st_lshl, st_lshr, st_lcmp, st_i2l, st_l2i, st_i2c, st_dup, st_pop, st_dup2, st_iaload0, st_iaload1, st_caload, st_baload, st_laload, st_aaload, st_iastore, st_castore, st_bastore, st_lastore, st_aastore, st_arraylength0, st_arraylength1, st_getfield, st_putfield0, st_putfield1, st_putfield2, st_putfield3, st_getstatic, st_new, st_newarray, st_anewarray, st_goto, st_ifCond, st_if_icmp, st_tableswitch, st_lookupswitch, st_ireturn, st_lreturn, st_return, st_invokevirtual, st_invokestatic0, st_invokestatic1, st_invokespecial0, st_invokespecial1, cZ_eq, cZ_ne, cZ_lt, cZ_ge, cZ_gt, cZ_le, vcb_n, vcb_c, sw_n, sw_c, ↓pI_d, ↓pL_d, ↓pR_d, ↓pA_d, isI_d, isL_d, isL_di, isL_dr, isL_dj, isA_d, inc_c, stO, fV, List.getD_cons_zero, List.getD_cons_succ, List.set_cons_zero, List.set_cons_succ, List.take_succ_cons, List.take_zero, List.drop_succ_cons, List.drop_zero, List.reverse_cons, List.reverse_nil, List.nil_append, List.cons_append, List.append_nil, Option.toList_some, Option.toList_none, List.length_cons, List.length_nil, Nat.reduceAdd, Nat.reduceSub, Nat.reduceLeDiff, Nat.reduceEqDiff, Nat.add_eq, not_false_eq_true, not_true_eq_false, true_and, and_true, false_or, or_true, true_or, or_false, and_self, one_ne_zero_nat, w32_id, w32_n, Int.toNat_natCast, Int.reduceToNat, Nat.zero_add, Nat.zero_le, Nat.le_refl, Int.reduceEq, Int.reduceLT, Int.reduceLE, Int.reduceAdd, Int.reduceSub, Int.reduceMul, t_imp, f_imp, gW_obj]
  refine ⟨by omega, fun q1 k1 => ⟨gN_obj k1 h0.2.2.2.1, fun q2 k2 => ?_⟩⟩
  have h1 := BS_nr h0 (k := 0) (j := 79) k1 (hj 79 (by decide) (by decide)) rfl (fun e he q => hn e he q.1)
  refine ⟨gN_obj k2 h1.2.2.2.1, fun q3 k3 => ?_⟩
  have h2 := BS_nr h1 (k := 1) (j := 80) k2 (nmc (by decide) (hj 80 (by decide) (by decide))) rfl (nrc (by decide) (fun e he q => hn e he q.1))
  refine ⟨gN_obj k3 h2.2.2.2.1, ?_⟩
  have h3 := BS_nr h2 (k := 2) (j := 81) k3 (nmc (by decide) (nmc (by decide) (hj 81 (by decide) (by decide)))) rfl (nrc (by decide) (nrc (by decide) (fun e he q => hn e he q.1)))
  exact hQ _ _ _ h3.1 (fun j hj => (h3.2.2.2.2 j hj).2)
theorem i_kind {x : Nat} (hρ : 1 ≤ ρ) (hQ : Q none G M) : WPm Γ ρ 0 10 [vR (some x)] G M Q := by
  refine WPm_of (L := [vR (some x)]) 0 (by decide) (Nat.le_of_ble_eq_true rfl) rfl ?_
  refine blk bk_k_init_0 ?_
  simp (disch := omega) only [st_iconst, st_bipush, st_sipush, st_ldc, st_ldc_w, st_lconst, st_ldc2_w, st_iload_n, st_iload, st_lload_n, st_lload, st_aload_n, st_aload, st_istore_n, st_istore, st_lstore_n, st_lstore, st_astore_n, st_astore, st_iinc, st_iadd, st_isub, st_imul, st_idiv, st_irem, st_iand, st_ior, st_ixor, st_ishl, st_ishr, st_iushr, st_ladd, st_lmul, st_ldiv, st_lrem, st_land, st_lor, st_lxor, st_lshl, st_lshr, st_lcmp, st_i2l, st_l2i, st_i2c, st_dup, st_pop, st_dup2, st_iaload0, st_iaload1, st_caload, st_baload, st_laload, st_aaload, st_iastore, st_castore, st_bastore, st_lastore, st_aastore, st_arraylength0, st_arraylength1, st_getfield, st_putfield0, st_putfield1, st_putfield2, st_putfield3, st_getstatic, st_new, st_newarray, st_anewarray, st_goto, st_ifCond, st_if_icmp, st_tableswitch, st_lookupswitch, st_ireturn, st_lreturn, st_return, st_invokevirtual, st_invokestatic0, st_invokestatic1, st_invokespecial0, st_invokespecial1, cZ_eq, cZ_ne, cZ_lt, cZ_ge, cZ_gt, cZ_le, vcb_n, vcb_c, sw_n, sw_c, ↓pI_d, ↓pL_d, ↓pR_d, ↓pA_d, isI_d, isL_d, isL_di, isL_dr, isL_dj, isA_d, inc_c, stO, fV, List.getD_cons_zero, List.getD_cons_succ, List.set_cons_zero, List.set_cons_succ, List.take_succ_cons, List.take_zero, List.drop_succ_cons, List.drop_zero, List.reverse_cons, List.reverse_nil, List.nil_append, List.cons_append, List.append_nil, Option.toList_some, Option.toList_none, List.length_cons, List.length_nil, Nat.reduceAdd, Nat.reduceSub, Nat.reduceLeDiff, Nat.reduceEqDiff, Nat.add_eq, not_false_eq_true, not_true_eq_false, true_and, and_true, false_or, or_true, true_or, or_false, and_self, one_ne_zero_nat, w32_id, w32_n, Int.toNat_natCast, Int.reduceToNat, Nat.zero_add, Nat.zero_le, Nat.le_refl, Int.reduceEq, Int.reduceLT, Int.reduceLE, Int.reduceAdd, Int.reduceSub, Int.reduceMul, t_imp, f_imp]
  exact ⟨hρ, hQ⟩
end BOOK
/-! History: ten Nows -/
def hsS (S : List Nat) : Nat → List Nat
  | 0 => S
  | j + 1 => (24 + 2 * j) :: (23 + 2 * j) :: hsS S j
def hsR (R : List (Nat × Nat × Nat)) : Nat → List (Nat × Nat × Nat)
  | 0 => R
  | j + 1 => (22, j, 23 + 2 * j) :: (23 + 2 * j, 5, 24 + 2 * j) :: hsR R j
theorem hsS_n {S : List Nat} {x : Nat} (h : x ∉ S) : ∀ j, 23 + 2 * j ≤ x → x ∉ hsS S j
  | 0, _ => h
  | j + 1, hx => nmc (by omega) (nmc (by omega) (hsS_n h j (by omega)))
theorem hsS_m {S : List Nat} {x : Nat} (h : x ∈ S) : ∀ j, x ∈ hsS S j
  | 0 => h
  | j + 1 => List.mem_cons_of_mem _ (List.mem_cons_of_mem _ (hsS_m h j))
theorem hsR_n {R : List (Nat × Nat × Nat)} {i k : Nat} (h : ∀ e, e ∈ R → ¬ (e.1 = i ∧ e.2.1 = k)) : ∀ j, (i = 22 ∧ j ≤ k) ∨ (22 < i ∧ 23 + 2 * j ≤ i) → ∀ e, e ∈ hsR R j → ¬ (e.1 = i ∧ e.2.1 = k)
  | 0, _ => h
  | j + 1, hx => nrc (by omega) (nrc (by omega) (hsR_n h j (by omega)))
theorem hsR_m {R : List (Nat × Nat × Nat)} {e : Nat × Nat × Nat} (h : e ∈ R) : ∀ j, e ∈ hsR R j
  | 0 => h
  | j + 1 => List.mem_cons_of_mem _ (List.mem_cons_of_mem _ (hsR_m h j))
section HIST
variable {Γ : aR} {ρ κ : Nat} {G : aG} {M : aM} {Q : aQ} {ad : Nat → Nat} {S : List Nat} {R : List (Nat × Nat × Nat)}
theorem i_hist (hρ : 3 ≤ ρ) (h : BK G M ad S R) (hi : 21 ∈ S) (hj : ∀ j, 22 ≤ j → j ≤ 42 → j ∉ S) (hn : ∀ e, e ∈ R → ¬ (21 ≤ e.1 ∧ e.1 ≤ 42)) (hQ : ∀ (G' : aG) (M' : aM) (ad' : Nat → Nat), BK G' M' ad' (hsS (22 :: S) 10) (hsR ((21, 0, 22) :: R) 10) → (∀ j, j ∈ S → ad' j = ad j ∧ M' (ad j) = M (ad j)) → Q none G' M') : WPm Γ ρ 21 6 [vR (some (ad 21))] G M Q := by
  have h0 := BS_0 h hi (c := 1) rfl
  have loop : ∀ (r j κ' : Nat) (G1 : aG) (M1 : aM) (ad1 : Nat → Nat), j + r = 10 → κ' = 20 - 2 * j → BS ad M S G1 M1 ad1 (hsS (22 :: S) j) (hsR ((21, 0, 22) :: R) j) 21 (ad 21) 1 → WP Γ ρ κ' 6 15 [vR (some (ad 21)), vI j] [] G1 M1 Q := by
    intro r
    induction r with
    | zero =>
      intro j κ' G1 M1 ad1 hjr hκ h1
      obtain rfl : j = 10 := by omega
      have r1 : gR G1 (ad 21) 0 = some (ad1 22) := by
        rw [← h1.2.2.1]
        exact (h1.1.2.2.1 (21, 0, 22) (hsR_m List.mem_cons_self 10)).2.2
      have a1 : isArr G1 (ad1 22) 4 10 := BK_a h1.1 (hsS_m List.mem_cons_self 10) rfl
      refine blk bk_h_init_15c ?_
      simp (disch := omega) only [st_iconst, st_bipush, st_sipush, st_ldc, st_ldc_w, st_lconst, st_ldc2_w, st_iload_n, st_iload, st_lload_n, st_lload, st_aload_n, st_aload, st_istore_n, st_istore, st_lstore_n, st_lstore, st_astore_n, st_astore, st_iinc, st_iadd, st_isub, st_imul, st_idiv, st_irem, st_iand, st_ior, st_ixor, st_ishl, st_ishr, st_iushr, st_ladd, st_lmul, st_ldiv, st_lrem, st_land, st_lor, st_lxor, st_lshl, st_lshr, st_lcmp, st_i2l, st_l2i, st_i2c, st_dup, st_pop, st_dup2, st_iaload0, st_iaload1, st_caload, st_baload, st_laload, st_aaload, st_iastore, st_castore, st_bastore, st_lastore, st_aastore, st_arraylength0, st_arraylength1, st_getfield, st_putfield0, st_putfield1, st_putfield2, st_putfield3, st_getstatic, st_new, st_newarray, st_anewarray, st_goto, st_ifCond, st_if_icmp, st_tableswitch, st_lookupswitch, st_ireturn, st_lreturn, st_return, st_invokevirtual, st_invokestatic0, st_invokestatic1, st_invokespecial0, st_invokespecial1, cZ_eq, cZ_ne, cZ_lt, cZ_ge, cZ_gt, cZ_le, vcb_n, vcb_c, sw_n, sw_c, ↓pI_d, ↓pL_d, ↓pR_d, ↓pA_d, isI_d, isL_d, isL_di, isL_dr, isL_dj, isA_d, inc_c, stO, fV, List.getD_cons_zero, List.getD_cons_succ, List.set_cons_zero, List.set_cons_succ, List.take_succ_cons, List.take_zero, List.drop_succ_cons, List.drop_zero, List.reverse_cons, List.reverse_nil, List.nil_append, List.cons_append, List.append_nil, Option.toList_some, Option.toList_none, List.length_cons, List.length_nil, Nat.reduceAdd, Nat.reduceSub, Nat.reduceLeDiff, Nat.reduceEqDiff, Nat.add_eq, not_false_eq_true, not_true_eq_false, true_and, and_true, false_or, or_true, true_or, or_false, and_self, one_ne_zero_nat, w32_id, w32_n, Int.toNat_natCast, Int.reduceToNat, Nat.zero_add, Nat.zero_le, Nat.le_refl, Int.reduceEq, Int.reduceLT, Int.reduceLE, Int.reduceAdd, Int.reduceSub, Int.reduceMul, t_imp, f_imp, h1.2.2.2.1, r1, a1]
      refine ⟨fun _ => ?_, fun q => absurd (by decide) q⟩
      refine blk bk_h_init_43 ?_
      simp (disch := omega) only [st_iconst, st_bipush, st_sipush, st_ldc, st_ldc_w, st_lconst, st_ldc2_w, st_iload_n, st_iload, st_lload_n, st_lload, st_aload_n, st_aload, st_istore_n, st_istore, st_lstore_n, st_lstore, st_astore_n, st_astore, st_iinc, st_iadd, st_isub, st_imul, st_idiv, st_irem, st_iand, st_ior, st_ixor, st_ishl, st_ishr, st_iushr, st_ladd, st_lmul, st_ldiv, st_lrem, st_land, st_lor, st_lxor, st_lshl, st_lshr, st_lcmp, st_i2l, st_l2i, st_i2c, st_dup, st_pop, st_dup2, st_iaload0, st_iaload1, st_caload, st_baload, st_laload, st_aaload, st_iastore, st_castore, st_bastore, st_lastore, st_aastore, st_arraylength0, st_arraylength1, st_getfield, st_putfield0, st_putfield1, st_putfield2, st_putfield3, st_getstatic, st_new, st_newarray, st_anewarray, st_goto, st_ifCond, st_if_icmp, st_tableswitch, st_lookupswitch, st_ireturn, st_lreturn, st_return, st_invokevirtual, st_invokestatic0, st_invokestatic1, st_invokespecial0, st_invokespecial1, cZ_eq, cZ_ne, cZ_lt, cZ_ge, cZ_gt, cZ_le, vcb_n, vcb_c, sw_n, sw_c, ↓pI_d, ↓pL_d, ↓pR_d, ↓pA_d, isI_d, isL_d, isL_di, isL_dr, isL_dj, isA_d, inc_c, stO, fV, List.getD_cons_zero, List.getD_cons_succ, List.set_cons_zero, List.set_cons_succ, List.take_succ_cons, List.take_zero, List.drop_succ_cons, List.drop_zero, List.reverse_cons, List.reverse_nil, List.nil_append, List.cons_append, List.append_nil, Option.toList_some, Option.toList_none, List.length_cons, List.length_nil, Nat.reduceAdd, Nat.reduceSub, Nat.reduceLeDiff, Nat.reduceEqDiff, Nat.add_eq, not_false_eq_true, not_true_eq_false, true_and, and_true, false_or, or_true, true_or, or_false, and_self, one_ne_zero_nat, w32_id, w32_n, Int.toNat_natCast, Int.reduceToNat, Nat.zero_add, Nat.zero_le, Nat.le_refl, Int.reduceEq, Int.reduceLT, Int.reduceLE, Int.reduceAdd, Int.reduceSub, Int.reduceMul, t_imp, f_imp]
      exact hQ _ _ _ h1.1 (fun y hy => (h1.2.2.2.2 y hy).2)
    | succ r ih =>
      intro j κ' G1 M1 ad1 hjr hκ h1
      have r1 : gR G1 (ad 21) 0 = some (ad1 22) := by
        rw [← h1.2.2.1]
        exact (h1.1.2.2.1 (21, 0, 22) (hsR_m List.mem_cons_self j)).2.2
      have a1 : isArr G1 (ad1 22) 4 10 := BK_a h1.1 (hsS_m List.mem_cons_self j) rfl
      have tO : ∀ j, j < 10 → ctT.getD (23 + 2 * j) (.inl 0) = .inl 4 ∧ ctT.getD (24 + 2 * j) (.inl 0) = .inr (0, 6) := by decide
      have tj := tO j (by omega)
      refine blk bk_h_init_15c ?_
      simp (disch := omega) only [st_iconst, st_bipush, st_sipush, st_ldc, st_ldc_w, st_lconst, st_ldc2_w, st_iload_n, st_iload, st_lload_n, st_lload, st_aload_n, st_aload, st_istore_n, st_istore, st_lstore_n, st_lstore, st_astore_n, st_astore, st_iinc, st_iadd, st_isub, st_imul, st_idiv, st_irem, st_iand, st_ior, st_ixor, st_ishl, st_ishr, st_iushr, st_ladd, st_lmul, st_ldiv, st_lrem, st_land, st_lor, st_lxor, st_lshl, st_lshr, st_lcmp, st_i2l, st_l2i, st_i2c, st_dup, st_pop, st_dup2, st_iaload0, st_iaload1, st_caload, st_baload, st_laload, st_aaload, st_iastore, st_castore, st_bastore, st_lastore, st_aastore, st_arraylength0, st_arraylength1, st_getfield, st_putfield0, st_putfield1, st_putfield2, st_putfield3, st_getstatic, st_new, st_newarray, st_anewarray, st_goto, st_ifCond, st_if_icmp, st_tableswitch, st_lookupswitch, st_ireturn, st_lreturn, st_return, st_invokevirtual, st_invokestatic0, st_invokestatic1, st_invokespecial0, st_invokespecial1, cZ_eq, cZ_ne, cZ_lt, cZ_ge, cZ_gt, cZ_le, vcb_n, vcb_c, sw_n, sw_c, ↓pI_d, ↓pL_d, ↓pR_d, ↓pA_d, isI_d, isL_d, isL_di, isL_dr, isL_dj, isA_d, inc_c, stO, fV, List.getD_cons_zero, List.getD_cons_succ, List.set_cons_zero, List.set_cons_succ, List.take_succ_cons, List.take_zero, List.drop_succ_cons, List.drop_zero, List.reverse_cons, List.reverse_nil, List.nil_append, List.cons_append, List.append_nil, Option.toList_some, Option.toList_none, List.length_cons, List.length_nil, Nat.reduceAdd, Nat.reduceSub, Nat.reduceLeDiff, Nat.reduceEqDiff, Nat.add_eq, not_false_eq_true, not_true_eq_false, true_and, and_true, false_or, or_true, true_or, or_false, and_self, one_ne_zero_nat, w32_id, w32_n, Int.toNat_natCast, Int.reduceToNat, Nat.zero_add, Nat.zero_le, Nat.le_refl, Int.reduceEq, Int.reduceLT, Int.reduceLE, Int.reduceAdd, Int.reduceSub, Int.reduceMul, t_imp, f_imp, h1.2.2.2.1, r1, a1]
      refine ⟨fun q => absurd q (by omega), fun _ => ⟨by omega, fun q1 k1 => ?_⟩⟩
      have h2 := BS_new h1 (j := 23 + 2 * j) k1 (hsS_n (nmc (by omega) (hj _ (by omega) (by omega))) j (by omega)) tj.1
      refine ⟨by omega, by omega, ⟨(gN_A _ _ _ _).mpr (.inr rfl), gN_Ts _ _ _⟩, ?_⟩
      have ea : va_up ad1 (23 + 2 * j) q1 (23 + 2 * j) = q1 := va_up_self _ _ _
      have eb : va_up ad1 (23 + 2 * j) q1 22 = ad1 22 := va_up_ne _ _ (by omega)
      have call := i_now (Γ := Γ) (ρ := ρ - 1) (i := 23 + 2 * j) (Q := fun v G' M' => WP Γ ρ (κ' - 1 - 1) 6 36 [vR (some (ad 21)), vI j] (v.toList ++ [vR (some q1), vI j, vR (some (ad1 22))]) G' M' Q) (by omega) h2.1 List.mem_cons_self tj.1 (show 23 + 2 * j + 1 ∉ _ by rw [show 23 + 2 * j + 1 = 24 + 2 * j by omega]; exact nmc (by omega) (hsS_n (nmc (by omega) (hj _ (by omega) (by omega))) j (by omega))) (by rw [show 23 + 2 * j + 1 = 24 + 2 * j by omega]; exact tj.2) (hsR_n (nrc (by omega) (fun e he q => hn e he (by omega))) j (by omega)) (fun G' M' ad' hk hf => ?_)
      · rw [ea] at call
        exact call
      · rw [show 23 + 2 * j + 1 = 24 + 2 * j by omega] at hk
        have h3 := BS_call (b := 23 + 2 * j) h2 hk (fun y hy => List.mem_cons_of_mem _ hy) (fun y hy => ⟨(hf y hy).1, fun _ => (hf y hy).2⟩) (hj _ (by omega) (by omega)) rfl
        have e1 : ad' (23 + 2 * j) = q1 := (hf _ List.mem_cons_self).1.trans ea
        have e2 : ad' 22 = ad1 22 := (hf 22 (List.mem_cons_of_mem _ (hsS_m List.mem_cons_self j))).1.trans eb
        have h4 := BS_r2 h3 (i2 := 22) (k := j) (j := 23 + 2 * j) (List.mem_cons_of_mem _ (List.mem_cons_of_mem _ (hsS_m List.mem_cons_self j))) e2 (List.mem_cons_of_mem _ List.mem_cons_self) e1 (nrc (by omega) (hsR_n (nrc (by omega) (fun e he q => hn e he (by omega))) j (by omega)))
        have hnx := ih (j + 1) (κ' - 1 - 1) _ _ _ (by omega) (by omega) h4
        have a2 : isArr G' (ad1 22) 4 10 := by rw [← e2]; exact BK_a hk (List.mem_cons_of_mem _ (List.mem_cons_of_mem _ (hsS_m List.mem_cons_self j))) rfl
        have i2 : inA G' (ad1 22) 4 (j : Int) := in_of a2 (by omega) (by omega) (by decide)
        have o2 : isObj G' q1 4 := by rw [← e1]; exact BK_o hk (List.mem_cons_of_mem _ List.mem_cons_self) tj.1
        refine blk bk_h_init_36 ?_
        simp (disch := omega) only [st_iconst, st_bipush, st_sipush, st_ldc, st_ldc_w, st_lconst, st_ldc2_w, st_iload_n, st_iload, st_lload_n, st_lload, st_aload_n, st_aload, st_istore_n, st_istore, st_lstore_n, st_lstore, st_astore_n, st_astore, st_iinc, st_iadd, st_isub, st_imul, st_idiv, st_irem, st_iand, st_ior, st_ixor, st_ishl, st_ishr, st_iushr, st_ladd, st_lmul, st_ldiv, st_lrem, st_land, st_lor, st_lxor, st_lshl, st_lshr, st_lcmp, st_i2l, st_l2i, st_i2c, st_dup, st_pop, st_dup2, st_iaload0, st_iaload1, st_caload, st_baload, st_laload, st_aaload, st_iastore, st_castore, st_bastore, st_lastore, st_aastore, st_arraylength0, st_arraylength1, st_getfield, st_putfield0, st_putfield1, st_putfield2, st_putfield3, st_getstatic, st_new, st_newarray, st_anewarray, st_goto, st_ifCond, st_if_icmp, st_tableswitch, st_lookupswitch, st_ireturn, st_lreturn, st_return, st_invokevirtual, st_invokestatic0, st_invokestatic1, st_invokespecial0, st_invokespecial1, cZ_eq, cZ_ne, cZ_lt, cZ_ge, cZ_gt, cZ_le, vcb_n, vcb_c, sw_n, sw_c, ↓pI_d, ↓pL_d, ↓pR_d, ↓pA_d, isI_d, isL_d, isL_di, isL_dr, isL_dj, isA_d, inc_c, stO, fV, List.getD_cons_zero, List.getD_cons_succ, List.set_cons_zero, List.set_cons_succ, List.take_succ_cons, List.take_zero, List.drop_succ_cons, List.drop_zero, List.reverse_cons, List.reverse_nil, List.nil_append, List.cons_append, List.append_nil, Option.toList_some, Option.toList_none, List.length_cons, List.length_nil, Nat.reduceAdd, Nat.reduceSub, Nat.reduceLeDiff, Nat.reduceEqDiff, Nat.add_eq, not_false_eq_true, not_true_eq_false, true_and, and_true, false_or, or_true, true_or, or_false, and_self, one_ne_zero_nat, w32_id, w32_n, Int.toNat_natCast, Int.reduceToNat, Nat.zero_add, Nat.zero_le, Nat.le_refl, Int.reduceEq, Int.reduceLT, Int.reduceLE, Int.reduceAdd, Int.reduceSub, Int.reduceMul, t_imp, f_imp, i2, o2]
        exact hnx
  refine WPm_of (L := [vR (some (ad 21)), vJ]) 1 (by decide) (Nat.le_of_ble_eq_true rfl) rfl ?_
  refine blk bk_h_init_0 ?_
  simp (disch := omega) only [st_iconst, st_bipush, st_sipush, st_ldc, st_ldc_w, st_lconst, st_ldc2_w, st_iload_n, st_iload, st_lload_n, st_lload, st_aload_n, st_aload, st_istore_n, st_istore, st_lstore_n, st_lstore, st_astore_n, st_astore, st_iinc, st_iadd, st_isub, st_imul, st_idiv, st_irem, st_iand, st_ior, st_ixor, st_ishl, st_ishr, st_iushr, st_ladd, st_lmul, st_ldiv, st_lrem, st_land, st_lor, st_lxor, st_lshl, st_lshr, st_lcmp, st_i2l, st_l2i, st_i2c, st_dup, st_pop, st_dup2, st_iaload0, st_iaload1, st_caload, st_baload, st_laload, st_aaload, st_iastore, st_castore, st_bastore, st_lastore, st_aastore, st_arraylength0, st_arraylength1, st_getfield, st_putfield0, st_putfield1, st_putfield2, st_putfield3, st_getstatic, st_new, st_newarray, st_anewarray, st_goto, st_ifCond, st_if_icmp, st_tableswitch, st_lookupswitch, st_ireturn, st_lreturn, st_return, st_invokevirtual, st_invokestatic0, st_invokestatic1, st_invokespecial0, st_invokespecial1, cZ_eq, cZ_ne, cZ_lt, cZ_ge, cZ_gt, cZ_le, vcb_n, vcb_c, sw_n, sw_c, ↓pI_d, ↓pL_d, ↓pR_d, ↓pA_d, isI_d, isL_d, isL_di, isL_dr, isL_dj, isA_d, inc_c, stO, fV, List.getD_cons_zero, List.getD_cons_succ, List.set_cons_zero, List.set_cons_succ, List.take_succ_cons, List.take_zero, List.drop_succ_cons, List.drop_zero, List.reverse_cons, List.reverse_nil, List.nil_append, List.cons_append, List.append_nil, Option.toList_some, Option.toList_none, List.length_cons, List.length_nil, Nat.reduceAdd, Nat.reduceSub, Nat.reduceLeDiff, Nat.reduceEqDiff, Nat.add_eq, not_false_eq_true, not_true_eq_false, true_and, and_true, false_or, or_true, true_or, or_false, and_self, one_ne_zero_nat, w32_id, w32_n, Int.toNat_natCast, Int.reduceToNat, Nat.zero_add, Nat.zero_le, Nat.le_refl, Int.reduceEq, Int.reduceLT, Int.reduceLE, Int.reduceAdd, Int.reduceSub, Int.reduceMul, t_imp, f_imp, gW_obj]
  refine ⟨by omega, fun q1 k1 => ⟨gN_obj k1 h0.2.2.2.1, ?_⟩⟩
  have h1 := BS_nr h0 (k := 0) (j := 22) k1 (hj 22 (by decide) (by decide)) rfl (fun e he q => hn e he (by omega))
  exact loop 10 0 20 _ _ _ (by decide) (by decide) h1
end HIST
