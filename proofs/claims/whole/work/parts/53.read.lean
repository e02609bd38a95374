/-! ===== the text read: what it tells; the class's reading ===== -/
/-- a number read: .inr a: at the token behind a; .inl p: there was a fault at p -/
def rdP (len : Nat) (tx : Nat → Nat) (lo hi : Nat) : Nat ⊕ Nat → Nat × (Nat ⊕ Nat)
  | .inl p => (lo, .inl p)
  | .inr a => if (tk len tx a).2.1 = -2 ∧ lo ≤ (tk len tx a).2.2 ∧ (tk len tx a).2.2 < hi then ((tk len tx a).2.2, .inr (tk len tx a).1) else (lo, .inl (tkP len tx a))
def enP (len : Nat) (tx : Nat → Nat) : Nat ⊕ Nat → Nat ⊕ Nat
  | .inl p => .inl p
  | .inr a => if (tk len tx a).2.1 = 59 then .inr (tk len tx a).1 else .inl (tkP len tx a)
def adN (t : TD) (s f k : Nat) : TD := (tdN t + 1, tdA t, tdRo t, tdRe t, tdW t, va_up (tdS t) (tdN t) s, va_up (tdF t) (tdN t) f, va_up (tdK t) (tdN t) k, tdM t, tdP t, tdT t, tdH t)
def adA (t : TD) (m p i h : Nat) : TD := (tdN t, tdA t + 1, tdRo t, tdRe t, tdW t, tdS t, tdF t, tdK t, va_up (tdM t) (tdA t) m, va_up (tdP t) (tdA t) p, va_up (tdT t) (tdA t) i, va_up (tdH t) (tdA t) h)
def seRo (t : TD) (v : Nat) : TD := (tdN t, tdA t, v, t.2.2.2)
def seRe (t : TD) (v : Nat) : TD := (tdN t, tdA t, tdRo t, v, t.2.2.2.2)
def seW (t : TD) (v : Nat) : TD := (tdN t, tdA t, tdRo t, tdRe t, v, t.2.2.2.2.2)
def nmF (len : Nat) (tx : Nat → Nat) (t : TD) (st : Nat ⊕ Nat) : TD × (Nat ⊕ Nat) := (adN t (rdP len tx 1 31 st).1 (rdP len tx 0 ((rdP len tx 1 31 st).1 + 1) (rdP len tx 1 31 st).2).1 (rdP len tx 0 32 (rdP len tx 0 ((rdP len tx 1 31 st).1 + 1) (rdP len tx 1 31 st).2).2).1, (rdP len tx 0 32 (rdP len tx 0 ((rdP len tx 1 31 st).1 + 1) (rdP len tx 1 31 st).2).2).2)
def acF (len : Nat) (tx : Nat → Nat) (t : TD) (st : Nat ⊕ Nat) : TD × (Nat ⊕ Nat) := (adA t (rdP len tx 0 12 st).1 (rdP len tx 0 (tdN t) (rdP len tx 0 12 st).2).1 (rdP len tx 1 10 (rdP len tx 0 (tdN t) (rdP len tx 0 12 st).2).2).1 (rdP len tx 1 10 (rdP len tx 1 10 (rdP len tx 0 (tdN t) (rdP len tx 0 12 st).2).2).2).1, (rdP len tx 1 10 (rdP len tx 1 10 (rdP len tx 0 (tdN t) (rdP len tx 0 12 st).2).2).2).2)
/-- an item that begins behind a: what is told then, which settings, where -/
def itF (len : Nat) (tx : Nat → Nat) (t : TD) (o a : Nat) : TD × Nat × (Nat ⊕ Nat) :=
  if (tk len tx a).2.1 = 110 ∧ tdN t < 6 then ((nmF len tx t (.inr (tk len tx a).1)).1, o, enP len tx (nmF len tx t (.inr (tk len tx a).1)).2) else
  if (tk len tx a).2.1 = 97 ∧ tdA t < 10 then ((acF len tx t (.inr (tk len tx a).1)).1, o, enP len tx (acF len tx t (.inr (tk len tx a).1)).2) else
  if (tk len tx a).2.1 = 109 ∧ bt o 0 = 0 then (seRo t (rdP len tx 1 5 (.inr (tk len tx a).1)).1, o + 1, enP len tx (rdP len tx 1 5 (.inr (tk len tx a).1)).2) else
  if (tk len tx a).2.1 = 114 ∧ bt o 1 = 0 then (seRe t (rdP len tx 1 10 (.inr (tk len tx a).1)).1, o + 2, enP len tx (rdP len tx 1 10 (.inr (tk len tx a).1)).2) else
  if (tk len tx a).2.1 = 119 ∧ bt o 2 = 0 then (seW t (rdP len tx 0 11 (.inr (tk len tx a).1)).1, o + 4, enP len tx (rdP len tx 0 11 (.inr (tk len tx a).1)).2) else
  (t, o, .inl (tkP len tx a))
def rdsF (len : Nat) (tx : Nat → Nat) : Nat → TD → Nat → Nat → Nat → Nat ⊕ (TD × Nat)
  | 0, t, _, it, _ => .inr (t, it)
  | f + 1, t, o, it, a => if (tk len tx a).2.1 = -1 then .inr (t, it) else match (itF len tx t o a).2.2 with
    | .inl p => .inl p
    | .inr b => rdsF len tx f (itF len tx t o a).1 (itF len tx t o a).2.1 (it + 1) b
def td0 : TD := (0, 0, 2, 5, 1, fun _ => 0, fun _ => 0, fun _ => 0, fun _ => 0, fun _ => 0, fun _ => 0, fun _ => 0)
def pF (len : Nat) (tx : Nat → Nat) : Nat ⊕ (TD × Nat) := rdsF len tx 180 td0 0 0 0
def rMeadow (σ : SG) : Int := match pF (gLe σ) (gTx σ) with
  | .inl p => -10 - (p : Int)
  | .inr q => (q.2 : Int)
def nd0 (t : TD) : ND := (0, 0, 0, 0, 0, tdF t)
def sNew (σ : SG) (t : TD) : SG := (t, nd0 t, (0, gHs σ), (0, gIm σ), (0, gTx σ), (0, gSn σ), (0, gAm σ, gGz σ), gTr σ)
def sMeadow (σ : SG) : SG := match pF (gLe σ) (gTx σ) with
  | .inl _ => σ
  | .inr q => sNew σ q.1
theorem tk_k {len a : Nat} {tx : Nat → Nat} (htx : ∀ i, i < len → tx i ≤ 255) : -3 ≤ (tk len tx a).2.1 ∧ (tk len tx a).2.1 ≤ 255 := by
  unfold tk
  generalize tkP len tx a = p at *
  by_cases h1 : len ≤ p
  · rw [if_pos h1]
    dsimp only
    omega
  · rw [if_neg h1]
    have := htx p (by omega)
    by_cases h2 : 48 ≤ tx p ∧ tx p ≤ 57
    · rw [if_pos h2]
      dsimp only
      split <;> exact ⟨by decide, by decide⟩
    · rw [if_neg h2]
      dsimp only
      split <;> exact ⟨by omega, by omega⟩
def YF (x : Nat) (M M' : aM) : Prop := (∀ c, c ≠ x → M' c = M c) ∧ ∀ k, k < 3 ∨ 7 < k → M' x k = M x k
theorem YF_r (x : Nat) (M : aM) : YF x M M := ⟨fun _ _ => rfl, fun _ _ => rfl⟩
theorem YF_t {x : Nat} {M M' M2 : aM} (h1 : YF x M M') (h2 : YF x M' M2) : YF x M M2 := ⟨fun c hc => (h2.1 c hc).trans (h1.1 c hc), fun k a => (h2.2 k a).trans (h1.2 k a)⟩
theorem YF_x {x : Nat} {M M' : aM} (h : XF x M M') : YF x M M' := ⟨h.1, fun k hk => h.2 k (by omega) (by omega) (by omega) (by omega)⟩
theorem YF_7 {x : Nat} {M M' : aM} {v : Int} (h : YF x M M') : YF x M (wr M' x 7 v) := ⟨fun c hc => by rw [wr_c _ _ _ hc]; exact h.1 c hc, fun k hk => by rw [wr_o _ _ (by omega)]; exact h.2 k hk⟩
/-- where the class is in its text -/
def XS (M : aM) (x len : Nat) (tx : Nat → Nat) : Nat ⊕ Nat → Prop
  | .inl p => M x 7 = (p : Int) ∧ p ≤ 180 ∧ ∃ a : Nat, a ≤ len ∧ M x 3 = (a : Int)
  | .inr a => M x 7 = -1 ∧ a ≤ len ∧ XT M x len tx a
/-- what the class has read of it so far: the cells 11 .. 18 -/
def dTo (M : aM) (ad : Nat → Nat) (td : TD) : Prop := M (ad 11) 0 = (tdN td : Int) ∧ M (ad 11) 4 = (tdA td : Int) ∧ M (ad 11) 9 = (tdRo td : Int) ∧ M (ad 11) 10 = (tdRe td : Int) ∧ M (ad 11) 11 = (tdW td : Int) ∧ (∀ p, p < tdN td → M (ad 12) p = (tdS td p : Int) ∧ M (ad 13) p = (tdF td p : Int) ∧ M (ad 14) p = (tdK td p : Int)) ∧ (∀ a, a < tdA td → M (ad 15) a = (tdM td a : Int) ∧ M (ad 16) a = (tdP td a : Int) ∧ M (ad 17) a = (tdT td a : Int) ∧ M (ad 18) a = (tdH td a : Int))
theorem dTo_k {M M' : aM} {ad : Nat → Nat} {td : TD} (h : ∀ i, 11 ≤ i → i ≤ 18 → M' (ad i) = M (ad i)) (hc : dTo M ad td) : dTo M' ad td := by
  unfold dTo
  rw [h 11 (by decide) (by decide), h 12 (by decide) (by decide), h 13 (by decide) (by decide), h 14 (by decide) (by decide), h 15 (by decide) (by decide), h 16 (by decide) (by decide), h 17 (by decide) (by decide), h 18 (by decide) (by decide)]
  exact hc
theorem dTo_y {G : aG} {M M' : aM} {ad : Nat → Nat} {td : TD} (hB : CB G ad) (h : YF (ad 1) M M') (hc : dTo M ad td) : dTo M' ad td := dTo_k (fun i a b => h.1 _ (cb_ne hB (by omega) (by decide) (by omega))) hc
theorem cTx_y {G : aG} {M M' : aM} {ad : Nat → Nat} {len : Nat} {tx : Nat → Nat} (hB : CB G ad) (h : YF (ad 1) M M') (hc : cTx (vw M ad) len tx) : cTx (vw M' ad) len tx := cTx_k (V := vw M ad) (V' := vw M' ad) (h.2 1 (by omega)) (h.1 (ad 2) (cb_ne hB (by decide) (by decide) (by decide))) hc
/-- a write into a cell of 11 .. 18 lets the text be -/
theorem XS_o {G : aG} {M : aM} {ad : Nat → Nat} {len i k : Nat} {v : Int} {tx : Nat → Nat} {st : Nat ⊕ Nat} (hB : CB G ad) (hi : i < 83) (hn : i ≠ 1) (h : XS M (ad 1) len tx st) : XS (wr M (ad i) k v) (ad 1) len tx st := by
  cases st <;> (unfold XS XT at *; rw [wr_c _ _ _ (cb_ne hB (i := 1) (j := i) (by decide) hi (Ne.symm hn))]; exact h)
theorem XS_8 {M : aM} {x len k : Nat} {v : Int} {tx : Nat → Nat} {st : Nat ⊕ Nat} (hk : 7 < k) (h : XS M x len tx st) : XS (wr M x k v) x len tx st := by
  cases st <;> (unfold XS XT at *; simp (disch := omega) only [wr_o]; exact h)
theorem rdP_le {len lo hi : Nat} {tx : Nat → Nat} {st : Nat ⊕ Nat} (h : lo < 100) : (rdP len tx lo hi st).1 < 100 ∧ lo ≤ (rdP len tx lo hi st).1 ∧ (lo < hi → (rdP len tx lo hi st).1 < hi) := by
  cases st with
  | inl p => exact ⟨h, Nat.le_refl _, fun h => h⟩
  | inr a =>
    show (if (tk len tx a).2.1 = -2 ∧ lo ≤ (tk len tx a).2.2 ∧ (tk len tx a).2.2 < hi then ((tk len tx a).2.2, (Sum.inr (tk len tx a).1 : Nat ⊕ Nat)) else (lo, .inl (tkP len tx a))).1 < 100 ∧ lo ≤ (if (tk len tx a).2.1 = -2 ∧ lo ≤ (tk len tx a).2.2 ∧ (tk len tx a).2.2 < hi then ((tk len tx a).2.2, (Sum.inr (tk len tx a).1 : Nat ⊕ Nat)) else (lo, .inl (tkP len tx a))).1 ∧ (lo < hi → (if (tk len tx a).2.1 = -2 ∧ lo ≤ (tk len tx a).2.2 ∧ (tk len tx a).2.2 < hi then ((tk len tx a).2.2, (Sum.inr (tk len tx a).1 : Nat ⊕ Nat)) else (lo, .inl (tkP len tx a))).1 < hi)
    by_cases hc : (tk len tx a).2.1 = -2 ∧ lo ≤ (tk len tx a).2.2 ∧ (tk len tx a).2.2 < hi
    · rw [if_pos hc]
      have hv : (tk len tx a).2.2 ≤ 99 := by
        revert hc
        unfold tk
        generalize tkP len tx a = p
        by_cases h1 : len ≤ p
        · rw [if_pos h1]
          exact fun _ => Nat.zero_le _
        · rw [if_neg h1]
          by_cases h2 : 48 ≤ tx p ∧ tx p ≤ 57
          · rw [if_pos h2]
            generalize dgN len tx 180 p 0 = r
            intro hc
            dsimp only at hc ⊢
            by_cases h3 : 99 < r.1 ∨ tx p = 48 ∧ 1 < r.2 - p
            · rw [if_pos h3] at hc
              exact absurd hc.1 (by decide)
            · omega
          · rw [if_neg h2]
            exact fun _ => Nat.zero_le _
      exact ⟨Nat.lt_of_le_of_lt hv (by decide), hc.2.1, fun _ => hc.2.2⟩
    · rw [if_neg hc]
      exact ⟨h, Nat.le_refl _, fun h => h⟩
section READ
variable {Γ : aR} {ρ κ bd : Nat} {G : aG} {M : aM} {Q : aQ} {ad : Nat → Nat} {σ : SG} {len : Nat} {tx : Nat → Nat}
theorem s_x_readNumber {lo hi : Nat} {mo : Int} {st : Nat ⊕ Nat} (hρ : 3 ≤ ρ) (hB : CB G ad) (hX : cTx (vw M ad) len tx) (hlen : len ≤ 180) (htx : ∀ i, i < len → tx i ≤ 255) (hlo : lo < 100) (hm : mo = (hi : Int) - 1) (hhi : hi ≤ 100) (hst : XS M (ad 1) len tx st) (hQ : ∀ M' : aM, YF (ad 1) M M' → XS M' (ad 1) len tx (rdP len tx lo hi st).2 → Q (some (vI ((rdP len tx lo hi st).1 : Nat))) G M') : WPm Γ ρ 0 50 [vR (some (ad 1)), vI lo, vI mo] G M Q := by
  subst hm
  refine WPm_of (L := [vR (some (ad 1)), vI lo, vI ((hi : Int) - 1), vJ]) 1 (by decide) (Nat.le_of_ble_eq_true rfl) rfl ?_
  cases st with
  | inl p =>
    obtain ⟨q7, q8, q9⟩ := id hst
    refine blk bk_x_readNumber_0 ?_
    simp (disch := omega) only [st_iconst, st_bipush, st_sipush, st_ldc, st_ldc_w, st_lconst, st_ldc2_w, st_iload_n, st_iload, st_lload_n, st_lload, st_aload_n, st_aload, st_istore_n, st_istore, st_lstore_n, st_lstore, st_astore_n, st_astore, st_iinc, st_iadd, st_isub, st_imul, st_idiv, st_irem, st_iand, st_ior, st_ixor, st_ishl, st_ishr, st_iushr, st_ladd, st_lmul, st_ldiv, st_lrem, st_land, st_lor, st_lxor, st_lshl, st_lshr, st_lcmp, st_i2l, st_l2i, st_i2c, st_dup, st_pop, st_dup2, st_iaload0, st_iaload1, st_caload, st_baload, st_laload, st_aaload, st_iastore, st_castore, st_bastore, st_lastore, st_aastore, st_arraylength0, st_arraylength1, st_getfield, st_putfield0, st_putfield1, st_putfield2, st_putfield3, st_getstatic, st_new, st_newarray, st_anewarray, st_goto, st_ifCond, st_if_icmp, st_tableswitch, st_lookupswitch, st_ireturn, st_lreturn, st_return, st_invokevirtual, st_invokestatic0, st_invokestatic1, st_invokespecial0, st_invokespecial1, cZ_eq, cZ_ne, cZ_lt, cZ_ge, cZ_gt, cZ_le, vcb_n, vcb_c, sw_n, sw_c, ↓pI_d, ↓pL_d, ↓pR_d, ↓pA_d, isI_d, isL_d, isL_di, isL_dr, isL_dj, isA_d, inc_c, stO, fV, List.getD_cons_zero, List.getD_cons_succ, List.set_cons_zero, List.set_cons_succ, List.take_succ_cons, List.take_zero, List.drop_succ_cons, List.drop_zero, List.reverse_cons, List.reverse_nil, List.nil_append, List.cons_append, List.append_nil, Option.toList_some, Option.toList_none, List.length_cons, List.length_nil, Nat.reduceAdd, Nat.reduceSub, Nat.reduceLeDiff, Nat.reduceEqDiff, Nat.add_eq, not_false_eq_true, not_true_eq_false, true_and, and_true, false_or, or_true, true_or, or_false, and_self, one_ne_zero_nat, w32_id, w32_n, Int.toNat_natCast, Int.reduceToNat, Nat.zero_add, Nat.zero_le, Nat.le_refl, Int.reduceEq, Int.reduceLT, Int.reduceLE, Int.reduceAdd, Int.reduceSub, Int.reduceMul, t_imp, f_imp, cO1 hB, q7]
    exact ⟨fun q => absurd q (by omega), fun _ => hQ M (YF_r _ _) hst⟩
  | inr a =>
    obtain ⟨q7, q8, q3, q4, q5, q6⟩ := id hst
    have hk := tk_k (a := a) htx
    have hb := tk_b (tx := tx) q8
    have hp := tkP_b (tx := tx) q8
    have hr : rdP len tx lo hi (.inr a) = if (tk len tx a).2.1 = -2 ∧ lo ≤ (tk len tx a).2.2 ∧ (tk len tx a).2.2 < hi then ((tk len tx a).2.2, .inr (tk len tx a).1) else (lo, .inl (tkP len tx a)) := rfl
    rw [hr] at hQ
    have bad : ¬ ((tk len tx a).2.1 = -2 ∧ lo ≤ (tk len tx a).2.2 ∧ (tk len tx a).2.2 < hi) → WP Γ ρ 0 50 35 [vR (some (ad 1)), vI lo, vI ((hi : Int) - 1), vJ] [] G M Q := by
      intro hc
      rw [if_neg hc] at hQ
      refine blk bk_x_readNumber_35 ?_
      simp (disch := omega) only [st_iconst, st_bipush, st_sipush, st_ldc, st_ldc_w, st_lconst, st_ldc2_w, st_iload_n, st_iload, st_lload_n, st_lload, st_aload_n, st_aload, st_istore_n, st_istore, st_lstore_n, st_lstore, st_astore_n, st_astore, st_iinc, st_iadd, st_isub, st_imul, st_idiv, st_irem, st_iand, st_ior, st_ixor, st_ishl, st_ishr, st_iushr, st_ladd, st_lmul, st_ldiv, st_lrem, st_land, st_lor, st_lxor, st_lshl, st_lshr, st_lcmp, st_i2l, st_l2i, st_i2c, st_dup, st_pop, st_dup2, st_iaload0, st_iaload1, st_caload, st_baload, st_laload, st_aaload, st_iastore, st_castore, st_bastore, st_lastore, st_aastore, st_arraylength0, st_arraylength1, st_getfield, st_putfield0, st_putfield1, st_putfield2, st_putfield3, st_getstatic, st_new, st_newarray, st_anewarray, st_goto, st_ifCond, st_if_icmp, st_tableswitch, st_lookupswitch, st_ireturn, st_lreturn, st_return, st_invokevirtual, st_invokestatic0, st_invokestatic1, st_invokespecial0, st_invokespecial1, cZ_eq, cZ_ne, cZ_lt, cZ_ge, cZ_gt, cZ_le, vcb_n, vcb_c, sw_n, sw_c, ↓pI_d, ↓pL_d, ↓pR_d, ↓pA_d, isI_d, isL_d, isL_di, isL_dr, isL_dj, isA_d, inc_c, stO, fV, List.getD_cons_zero, List.getD_cons_succ, List.set_cons_zero, List.set_cons_succ, List.take_succ_cons, List.take_zero, List.drop_succ_cons, List.drop_zero, List.reverse_cons, List.reverse_nil, List.nil_append, List.cons_append, List.append_nil, Option.toList_some, Option.toList_none, List.length_cons, List.length_nil, Nat.reduceAdd, Nat.reduceSub, Nat.reduceLeDiff, Nat.reduceEqDiff, Nat.add_eq, not_false_eq_true, not_true_eq_false, true_and, and_true, false_or, or_true, true_or, or_false, and_self, one_ne_zero_nat, w32_id, w32_n, Int.toNat_natCast, Int.reduceToNat, Nat.zero_add, Nat.zero_le, Nat.le_refl, Int.reduceEq, Int.reduceLT, Int.reduceLE, Int.reduceAdd, Int.reduceSub, Int.reduceMul, t_imp, f_imp, cO1 hB, q5]
      exact hQ _ (YF_7 (YF_r _ _)) ⟨wr_s _ _ _ _, by omega, (tk len tx a).1, hb.2.1, by rw [wr_o _ _ (by decide)]; exact q3⟩
    refine blk bk_x_readNumber_0 ?_
    simp (disch := omega) only [st_iconst, st_bipush, st_sipush, st_ldc, st_ldc_w, st_lconst, st_ldc2_w, st_iload_n, st_iload, st_lload_n, st_lload, st_aload_n, st_aload, st_istore_n, st_istore, st_lstore_n, st_lstore, st_astore_n, st_astore, st_iinc, st_iadd, st_isub, st_imul, st_idiv, st_irem, st_iand, st_ior, st_ixor, st_ishl, st_ishr, st_iushr, st_ladd, st_lmul, st_ldiv, st_lrem, st_land, st_lor, st_lxor, st_lshl, st_lshr, st_lcmp, st_i2l, st_l2i, st_i2c, st_dup, st_pop, st_dup2, st_iaload0, st_iaload1, st_caload, st_baload, st_laload, st_aaload, st_iastore, st_castore, st_bastore, st_lastore, st_aastore, st_arraylength0, st_arraylength1, st_getfield, st_putfield0, st_putfield1, st_putfield2, st_putfield3, st_getstatic, st_new, st_newarray, st_anewarray, st_goto, st_ifCond, st_if_icmp, st_tableswitch, st_lookupswitch, st_ireturn, st_lreturn, st_return, st_invokevirtual, st_invokestatic0, st_invokestatic1, st_invokespecial0, st_invokespecial1, cZ_eq, cZ_ne, cZ_lt, cZ_ge, cZ_gt, cZ_le, vcb_n, vcb_c, sw_n, sw_c, ↓pI_d, ↓pL_d, ↓pR_d, ↓pA_d, isI_d, isL_d, isL_di, isL_dr, isL_dj, isA_d, inc_c, stO, fV, List.getD_cons_zero, List.getD_cons_succ, List.set_cons_zero, List.set_cons_succ, List.take_succ_cons, List.take_zero, List.drop_succ_cons, List.drop_zero, List.reverse_cons, List.reverse_nil, List.nil_append, List.cons_append, List.append_nil, Option.toList_some, Option.toList_none, List.length_cons, List.length_nil, Nat.reduceAdd, Nat.reduceSub, Nat.reduceLeDiff, Nat.reduceEqDiff, Nat.add_eq, not_false_eq_true, not_true_eq_false, true_and, and_true, false_or, or_true, true_or, or_false, and_self, one_ne_zero_nat, w32_id, w32_n, Int.toNat_natCast, Int.reduceToNat, Nat.zero_add, Nat.zero_le, Nat.le_refl, Int.reduceEq, Int.reduceLT, Int.reduceLE, Int.reduceAdd, Int.reduceSub, Int.reduceMul, t_imp, f_imp, cO1 hB, q7]
    by_cases h2 : (tk len tx a).2.1 = -2
    · have m6 := q6 h2
      rw [h2] at q4
      have h99 := hb.2.2.2.2 h2
      generalize (tk len tx a).2.2 = v at *
      refine blk bk_x_readNumber_10 ?_
      simp (disch := omega) only [st_iconst, st_bipush, st_sipush, st_ldc, st_ldc_w, st_lconst, st_ldc2_w, st_iload_n, st_iload, st_lload_n, st_lload, st_aload_n, st_aload, st_istore_n, st_istore, st_lstore_n, st_lstore, st_astore_n, st_astore, st_iinc, st_iadd, st_isub, st_imul, st_idiv, st_irem, st_iand, st_ior, st_ixor, st_ishl, st_ishr, st_iushr, st_ladd, st_lmul, st_ldiv, st_lrem, st_land, st_lor, st_lxor, st_lshl, st_lshr, st_lcmp, st_i2l, st_l2i, st_i2c, st_dup, st_pop, st_dup2, st_iaload0, st_iaload1, st_caload, st_baload, st_laload, st_aaload, st_iastore, st_castore, st_bastore, st_lastore, st_aastore, st_arraylength0, st_arraylength1, st_getfield, st_putfield0, st_putfield1, st_putfield2, st_putfield3, st_getstatic, st_new, st_newarray, st_anewarray, st_goto, st_ifCond, st_if_icmp, st_tableswitch, st_lookupswitch, st_ireturn, st_lreturn, st_return, st_invokevirtual, st_invokestatic0, st_invokestatic1, st_invokespecial0, st_invokespecial1, cZ_eq, cZ_ne, cZ_lt, cZ_ge, cZ_gt, cZ_le, vcb_n, vcb_c, sw_n, sw_c, ↓pI_d, ↓pL_d, ↓pR_d, ↓pA_d, isI_d, isL_d, isL_di, isL_dr, isL_dj, isA_d, inc_c, stO, fV, List.getD_cons_zero, List.getD_cons_succ, List.set_cons_zero, List.set_cons_succ, List.take_succ_cons, List.take_zero, List.drop_succ_cons, List.drop_zero, List.reverse_cons, List.reverse_nil, List.nil_append, List.cons_append, List.append_nil, Option.toList_some, Option.toList_none, List.length_cons, List.length_nil, Nat.reduceAdd, Nat.reduceSub, Nat.reduceLeDiff, Nat.reduceEqDiff, Nat.add_eq, not_false_eq_true, not_true_eq_false, true_and, and_true, false_or, or_true, true_or, or_false, and_self, one_ne_zero_nat, w32_id, w32_n, Int.toNat_natCast, Int.reduceToNat, Nat.zero_add, Nat.zero_le, Nat.le_refl, Int.reduceEq, Int.reduceLT, Int.reduceLE, Int.reduceAdd, Int.reduceSub, Int.reduceMul, t_imp, f_imp, cO1 hB, q4, m6]
      refine ⟨fun q => bad (by omega), fun q1 => ⟨fun q2 => ?_, fun q => bad (by omega)⟩⟩
      rw [if_pos (by omega)] at hQ
      refine blk bk_x_readNumber_45 ?_
      simp (disch := omega) only [st_iconst, st_bipush, st_sipush, st_ldc, st_ldc_w, st_lconst, st_ldc2_w, st_iload_n, st_iload, st_lload_n, st_lload, st_aload_n, st_aload, st_istore_n, st_istore, st_lstore_n, st_lstore, st_astore_n, st_astore, st_iinc, st_iadd, st_isub, st_imul, st_idiv, st_irem, st_iand, st_ior, st_ixor, st_ishl, st_ishr, st_iushr, st_ladd, st_lmul, st_ldiv, st_lrem, st_land, st_lor, st_lxor, st_lshl, st_lshr, st_lcmp, st_i2l, st_l2i, st_i2c, st_dup, st_pop, st_dup2, st_iaload0, st_iaload1, st_caload, st_baload, st_laload, st_aaload, st_iastore, st_castore, st_bastore, st_lastore, st_aastore, st_arraylength0, st_arraylength1, st_getfield, st_putfield0, st_putfield1, st_putfield2, st_putfield3, st_getstatic, st_new, st_newarray, st_anewarray, st_goto, st_ifCond, st_if_icmp, st_tableswitch, st_lookupswitch, st_ireturn, st_lreturn, st_return, st_invokevirtual, st_invokestatic0, st_invokestatic1, st_invokespecial0, st_invokespecial1, cZ_eq, cZ_ne, cZ_lt, cZ_ge, cZ_gt, cZ_le, vcb_n, vcb_c, sw_n, sw_c, ↓pI_d, ↓pL_d, ↓pR_d, ↓pA_d, isI_d, isL_d, isL_di, isL_dr, isL_dj, isA_d, inc_c, stO, fV, List.getD_cons_zero, List.getD_cons_succ, List.set_cons_zero, List.set_cons_succ, List.take_succ_cons, List.take_zero, List.drop_succ_cons, List.drop_zero, List.reverse_cons, List.reverse_nil, List.nil_append, List.cons_append, List.append_nil, Option.toList_some, Option.toList_none, List.length_cons, List.length_nil, Nat.reduceAdd, Nat.reduceSub, Nat.reduceLeDiff, Nat.reduceEqDiff, Nat.add_eq, not_false_eq_true, not_true_eq_false, true_and, and_true, false_or, or_true, true_or, or_false, and_self, one_ne_zero_nat, w32_id, w32_n, Int.toNat_natCast, Int.reduceToNat, Nat.zero_add, Nat.zero_le, Nat.le_refl, Int.reduceEq, Int.reduceLT, Int.reduceLE, Int.reduceAdd, Int.reduceSub, Int.reduceMul, t_imp, f_imp, cO1 hB, m6]
      refine ⟨by omega, s_x_nextToken (len := len) (tx := tx) (a := (tk len tx a).1) (by omega) hB hX.1 hX.2 hlen htx hb.2.1 q3 (fun M' hF hT => ?_)⟩
      refine blk bk_x_readNumber_54 ?_
      simp (disch := omega) only [st_iconst, st_bipush, st_sipush, st_ldc, st_ldc_w, st_lconst, st_ldc2_w, st_iload_n, st_iload, st_lload_n, st_lload, st_aload_n, st_aload, st_istore_n, st_istore, st_lstore_n, st_lstore, st_astore_n, st_astore, st_iinc, st_iadd, st_isub, st_imul, st_idiv, st_irem, st_iand, st_ior, st_ixor, st_ishl, st_ishr, st_iushr, st_ladd, st_lmul, st_ldiv, st_lrem, st_land, st_lor, st_lxor, st_lshl, st_lshr, st_lcmp, st_i2l, st_l2i, st_i2c, st_dup, st_pop, st_dup2, st_iaload0, st_iaload1, st_caload, st_baload, st_laload, st_aaload, st_iastore, st_castore, st_bastore, st_lastore, st_aastore, st_arraylength0, st_arraylength1, st_getfield, st_putfield0, st_putfield1, st_putfield2, st_putfield3, st_getstatic, st_new, st_newarray, st_anewarray, st_goto, st_ifCond, st_if_icmp, st_tableswitch, st_lookupswitch, st_ireturn, st_lreturn, st_return, st_invokevirtual, st_invokestatic0, st_invokestatic1, st_invokespecial0, st_invokespecial1, cZ_eq, cZ_ne, cZ_lt, cZ_ge, cZ_gt, cZ_le, vcb_n, vcb_c, sw_n, sw_c, ↓pI_d, ↓pL_d, ↓pR_d, ↓pA_d, isI_d, isL_d, isL_di, isL_dr, isL_dj, isA_d, inc_c, stO, fV, List.getD_cons_zero, List.getD_cons_succ, List.set_cons_zero, List.set_cons_succ, List.take_succ_cons, List.take_zero, List.drop_succ_cons, List.drop_zero, List.reverse_cons, List.reverse_nil, List.nil_append, List.cons_append, List.append_nil, Option.toList_some, Option.toList_none, List.length_cons, List.length_nil, Nat.reduceAdd, Nat.reduceSub, Nat.reduceLeDiff, Nat.reduceEqDiff, Nat.add_eq, not_false_eq_true, not_true_eq_false, true_and, and_true, false_or, or_true, true_or, or_false, and_self, one_ne_zero_nat, w32_id, w32_n, Int.toNat_natCast, Int.reduceToNat, Nat.zero_add, Nat.zero_le, Nat.le_refl, Int.reduceEq, Int.reduceLT, Int.reduceLE, Int.reduceAdd, Int.reduceSub, Int.reduceMul, t_imp, f_imp]
      exact hQ M' (YF_x hF) ⟨(hF.2 7 (by decide) (by decide) (by decide) (by decide)).trans q7, hb.2.1, hT⟩
    · have bad2 := bad (fun q => h2 q.1)
      generalize (tk len tx a).2.1 = kd at *
      refine blk bk_x_readNumber_10 ?_
      simp (disch := omega) only [st_iconst, st_bipush, st_sipush, st_ldc, st_ldc_w, st_lconst, st_ldc2_w, st_iload_n, st_iload, st_lload_n, st_lload, st_aload_n, st_aload, st_istore_n, st_istore, st_lstore_n, st_lstore, st_astore_n, st_astore, st_iinc, st_iadd, st_isub, st_imul, st_idiv, st_irem, st_iand, st_ior, st_ixor, st_ishl, st_ishr, st_iushr, st_ladd, st_lmul, st_ldiv, st_lrem, st_land, st_lor, st_lxor, st_lshl, st_lshr, st_lcmp, st_i2l, st_l2i, st_i2c, st_dup, st_pop, st_dup2, st_iaload0, st_iaload1, st_caload, st_baload, st_laload, st_aaload, st_iastore, st_castore, st_bastore, st_lastore, st_aastore, st_arraylength0, st_arraylength1, st_getfield, st_putfield0, st_putfield1, st_putfield2, st_putfield3, st_getstatic, st_new, st_newarray, st_anewarray, st_goto, st_ifCond, st_if_icmp, st_tableswitch, st_lookupswitch, st_ireturn, st_lreturn, st_return, st_invokevirtual, st_invokestatic0, st_invokestatic1, st_invokespecial0, st_invokespecial1, cZ_eq, cZ_ne, cZ_lt, cZ_ge, cZ_gt, cZ_le, vcb_n, vcb_c, sw_n, sw_c, ↓pI_d, ↓pL_d, ↓pR_d, ↓pA_d, isI_d, isL_d, isL_di, isL_dr, isL_dj, isA_d, inc_c, stO, fV, List.getD_cons_zero, List.getD_cons_succ, List.set_cons_zero, List.set_cons_succ, List.take_succ_cons, List.take_zero, List.drop_succ_cons, List.drop_zero, List.reverse_cons, List.reverse_nil, List.nil_append, List.cons_append, List.append_nil, Option.toList_some, Option.toList_none, List.length_cons, List.length_nil, Nat.reduceAdd, Nat.reduceSub, Nat.reduceLeDiff, Nat.reduceEqDiff, Nat.add_eq, not_false_eq_true, not_true_eq_false, true_and, and_true, false_or, or_true, true_or, or_false, and_self, one_ne_zero_nat, w32_id, w32_n, Int.toNat_natCast, Int.reduceToNat, Nat.zero_add, Nat.zero_le, Nat.le_refl, Int.reduceEq, Int.reduceLT, Int.reduceLE, Int.reduceAdd, Int.reduceSub, Int.reduceMul, t_imp, f_imp, cO1 hB, q4]
      exact ⟨fun _ => bad2, fun q => absurd h2 q⟩
end READ
