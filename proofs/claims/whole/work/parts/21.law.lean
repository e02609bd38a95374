/-! ===== Law ===== -/
def mtC (ti : Nat → Nat) (tt : Nat) (c : Option Nat) (i : Nat) : Bool := match c with
  | none => decide (tt ≤ ti i)
  | some q => decide (ti q < ti i)
/-- the most tired of the first names that are neither chosen nor lost -/
def mtF (ti : Nat → Nat) (lo ch tt : Nat) : Nat → Option Nat
  | 0 => none
  | i + 1 => if bt ch i = 0 ∧ bt lo i = 0 ∧ mtC ti tt (mtF ti lo ch tt i) i = true then some i else mtF ti lo ch tt i
def mtI (c : Option Nat) : Int := match c with
  | none => -9
  | some q => (q : Int)
def moI (ti : Nat → Nat) (tt : Nat) (c : Option Nat) : Int := match c with
  | none => (tt : Int) - 1
  | some q => (ti q : Int)
theorem mtF_lt {ti : Nat → Nat} {lo ch tt : Nat} : ∀ (i q : Nat), mtF ti lo ch tt i = some q → q < i := by
  intro i
  induction i with
  | zero =>
    intro q h
    cases h
  | succ i ih =>
    intro q h
    unfold mtF at h
    split at h
    · cases h
      omega
    · have := ih q h
      omega
/-- who grazes: room times the most tired -/
def grF (td : TD) (ti : Nat → Nat) (lo tt : Nat) : Nat → Nat
  | 0 => 0
  | k + 1 => match mtF ti lo (grF td ti lo tt k) tt (tdN td) with
    | none => grF td ti lo tt k
    | some q => grF td ti lo tt k ||| 2 ^ q
theorem pow_lt {q n : Nat} (h : q < n) (hn : n ≤ 6) : 2 ^ q < 64 := Nat.lt_of_lt_of_le (Nat.pow_lt_pow_right (a := 2) (by decide) (show q < 6 by omega)) (by decide)
theorem grF_lt {td : TD} {ti : Nat → Nat} {lo tt : Nat} (hn : tdN td ≤ 6) : ∀ k, grF td ti lo tt k < 64 := by
  intro k
  induction k with
  | zero => exact (by decide : 0 < 64)
  | succ k ih =>
    unfold grF
    split
    · exact ih
    · rename_i q hq
      exact Nat.or_lt_two_pow (n := 6) ih (pow_lt (mtF_lt _ _ hq) hn)
def LwS (G : aG) (l : Nat) : Prop := isObj G l 3 ∧ gR G l 0 = some (rfA G l 0) ∧ NS G (rfA G l 0)
section LAW
variable {Γ : aR} {ρ κ : Nat} {G : aG} {M : aM} {Q : aQ}
theorem mostTired_loop {l t tt ch lo : Nat} {td : TD} {ti : Nat → Nat} (hρ : 1 ≤ ρ) (hL : LwS G l) (hT : TS G t) (hn : tdN td ≤ 6) (h0 : M t 0 = (tdN td : Int)) (htt : tt ≤ 30) (hch : ch < 64) (hl2 : M (rfA G l 0) 2 = (lo : Int)) (hlo : lo < 64) (hti : ∀ p, p < tdN td → M (rfA G (rfA G l 0) 5) p = (ti p : Int)) (hti2 : ∀ p, p < tdN td → ti p ≤ 1000) (hQ : Q (some (vI (mtI (mtF ti lo ch tt (tdN td))))) G M) :
    ∀ (k i : Nat), i + k = tdN td → WP Γ ρ 0 17 12 [vR (some l), vR (some t), vI tt, vI ch, vI (moI ti tt (mtF ti lo ch tt i)), vI (mtI (mtF ti lo ch tt i)), vI i] [] G M Q := by
  intro k
  induction k with
  | zero =>
    intro i hi
    obtain rfl : i = tdN td := by omega
    refine blk bk_l_mostTired_12 ?_
    simp (disch := omega) only [vcb, step, ↓pI_c, ↓pL_c, ↓pR_c, ↓pA_c, isI_c, isL_c, isL_i, isL_r, isL_j, isA_c, inc_c, stO, fV, cZ, sw, List.getD_cons_zero, List.getD_cons_succ, List.set_cons_zero, List.set_cons_succ, List.take_succ_cons, List.take_zero, List.drop_succ_cons, List.drop_zero, List.reverse_cons, List.reverse_nil, List.nil_append, List.cons_append, List.append_nil, Option.toList_some, Option.toList_none, List.length_cons, List.length_nil, Nat.reduceAdd, Nat.reduceSub, Nat.reduceLeDiff, Nat.reduceEqDiff, Nat.add_eq, not_false_eq_true, not_true_eq_false, true_and, and_true, false_or, or_true, true_or, or_false, and_self, one_ne_zero_nat, w32_id, w32_n, Int.toNat_natCast, Int.reduceToNat, Nat.zero_add, Nat.zero_le, Nat.le_refl, Int.reduceEq, Int.reduceLT, Int.reduceLE, Int.reduceAdd, Int.reduceSub, Int.reduceMul, t_imp, f_imp, hT.1, h0]
    refine ⟨fun _ => ?_, fun h9 => absurd (Int.le_refl _) h9⟩
    refine blk bk_l_mostTired_79 ?_
    simp (disch := omega) only [vcb, step, ↓pI_c, ↓pL_c, ↓pR_c, ↓pA_c, isI_c, isL_c, isL_i, isL_r, isL_j, isA_c, inc_c, stO, fV, cZ, sw, List.getD_cons_zero, List.getD_cons_succ, List.set_cons_zero, List.set_cons_succ, List.take_succ_cons, List.take_zero, List.drop_succ_cons, List.drop_zero, List.reverse_cons, List.reverse_nil, List.nil_append, List.cons_append, List.append_nil, Option.toList_some, Option.toList_none, List.length_cons, List.length_nil, Nat.reduceAdd, Nat.reduceSub, Nat.reduceLeDiff, Nat.reduceEqDiff, Nat.add_eq, not_false_eq_true, not_true_eq_false, true_and, and_true, false_or, or_true, true_or, or_false, and_self, one_ne_zero_nat, w32_id, w32_n, Int.toNat_natCast, Int.reduceToNat, Nat.zero_add, Nat.zero_le, Nat.le_refl, Int.reduceEq, Int.reduceLT, Int.reduceLE, Int.reduceAdd, Int.reduceSub, Int.reduceMul, t_imp, f_imp]
    exact hQ
  | succ k ih =>
    intro i hi
    have hin : i < tdN td := by omega
    have b1 := bt_01 ch i
    have b2 := bt_01 lo i
    have ia : inA G (rfA G (rfA G l 0) 5) 0 (i : Int) := in_of hL.2.2.2.2 (by omega) (by omega) (by decide)
    have e1 := hti i hin
    have e2 := hti2 i hin
    have hb : -2 ≤ moI ti tt (mtF ti lo ch tt i) ∧ moI ti tt (mtF ti lo ch tt i) ≤ 1000 := by
      cases hm : mtF ti lo ch tt i with
      | none => exact ⟨by show -2 ≤ (tt : Int) - 1; omega, by show (tt : Int) - 1 ≤ 1000; omega⟩
      | some q =>
        have := hti2 q (by have := mtF_lt i q hm; omega)
        exact ⟨by show -2 ≤ (ti q : Int); omega, by show (ti q : Int) ≤ 1000; omega⟩
    have hcc : mtC ti tt (mtF ti lo ch tt i) i = true ↔ ¬ (ti i : Int) ≤ moI ti tt (mtF ti lo ch tt i) := by
      cases mtF ti lo ch tt i with
      | none =>
        show decide (tt ≤ ti i) = true ↔ ¬ (ti i : Int) ≤ (tt : Int) - 1
        rw [decide_eq_true_eq]
        omega
      | some q =>
        show decide (ti q < ti i) = true ↔ ¬ (ti i : Int) ≤ (ti q : Int)
        rw [decide_eq_true_eq]
        omega
    have hi1 := ih (i + 1) (by omega)
    have eF : mtF ti lo ch tt (i + 1) = if bt ch i = 0 ∧ bt lo i = 0 ∧ mtC ti tt (mtF ti lo ch tt i) i = true then some i else mtF ti lo ch tt i := rfl
    generalize mtF ti lo ch tt i = cc at *
    have keep : ¬ (bt ch i = 0 ∧ bt lo i = 0 ∧ mtC ti tt cc i = true) → WP Γ ρ 0 17 73 [vR (some l), vR (some t), vI tt, vI ch, vI (moI ti tt cc), vI (mtI cc), vI i] [] G M Q := by
      intro hc
      rw [eF, if_neg hc] at hi1
      refine blk bk_l_mostTired_73 ?_
      simp (disch := omega) only [vcb, step, ↓pI_c, ↓pL_c, ↓pR_c, ↓pA_c, isI_c, isL_c, isL_i, isL_r, isL_j, isA_c, inc_c, stO, fV, cZ, sw, List.getD_cons_zero, List.getD_cons_succ, List.set_cons_zero, List.set_cons_succ, List.take_succ_cons, List.take_zero, List.drop_succ_cons, List.drop_zero, List.reverse_cons, List.reverse_nil, List.nil_append, List.cons_append, List.append_nil, Option.toList_some, Option.toList_none, List.length_cons, List.length_nil, Nat.reduceAdd, Nat.reduceSub, Nat.reduceLeDiff, Nat.reduceEqDiff, Nat.add_eq, not_false_eq_true, not_true_eq_false, true_and, and_true, false_or, or_true, true_or, or_false, and_self, one_ne_zero_nat, w32_id, w32_n, Int.toNat_natCast, Int.reduceToNat, Nat.zero_add, Nat.zero_le, Nat.le_refl, Int.reduceEq, Int.reduceLT, Int.reduceLE, Int.reduceAdd, Int.reduceSub, Int.reduceMul, t_imp, f_imp]
      exact hi1
    refine blk bk_l_mostTired_12 ?_
    simp (disch := omega) only [vcb, step, ↓pI_c, ↓pL_c, ↓pR_c, ↓pA_c, isI_c, isL_c, isL_i, isL_r, isL_j, isA_c, inc_c, stO, fV, cZ, sw, List.getD_cons_zero, List.getD_cons_succ, List.set_cons_zero, List.set_cons_succ, List.take_succ_cons, List.take_zero, List.drop_succ_cons, List.drop_zero, List.reverse_cons, List.reverse_nil, List.nil_append, List.cons_append, List.append_nil, Option.toList_some, Option.toList_none, List.length_cons, List.length_nil, Nat.reduceAdd, Nat.reduceSub, Nat.reduceLeDiff, Nat.reduceEqDiff, Nat.add_eq, not_false_eq_true, not_true_eq_false, true_and, and_true, false_or, or_true, true_or, or_false, and_self, one_ne_zero_nat, w32_id, w32_n, Int.toNat_natCast, Int.reduceToNat, Nat.zero_add, Nat.zero_le, Nat.le_refl, Int.reduceEq, Int.reduceLT, Int.reduceLE, Int.reduceAdd, Int.reduceSub, Int.reduceMul, t_imp, f_imp, hT.1, h0, btI, hL.1, hL.2.1, hL.2.2.1]
    refine ⟨fun h9 => absurd h9 (by omega), fun _ => ⟨fun h1 => keep (by omega), fun h1 => ⟨hρ, ?_⟩⟩⟩
    refine s_n_isLost hL.2.2.1 hl2 (by omega) (by omega) ?_
    refine blk bk_l_mostTired_39 ?_
    simp (disch := omega) only [vcb, step, ↓pI_c, ↓pL_c, ↓pR_c, ↓pA_c, isI_c, isL_c, isL_i, isL_r, isL_j, isA_c, inc_c, stO, fV, cZ, sw, List.getD_cons_zero, List.getD_cons_succ, List.set_cons_zero, List.set_cons_succ, List.take_succ_cons, List.take_zero, List.drop_succ_cons, List.drop_zero, List.reverse_cons, List.reverse_nil, List.nil_append, List.cons_append, List.append_nil, Option.toList_some, Option.toList_none, List.length_cons, List.length_nil, Nat.reduceAdd, Nat.reduceSub, Nat.reduceLeDiff, Nat.reduceEqDiff, Nat.add_eq, not_false_eq_true, not_true_eq_false, true_and, and_true, false_or, or_true, true_or, or_false, and_self, one_ne_zero_nat, w32_id, w32_n, Int.toNat_natCast, Int.reduceToNat, Nat.zero_add, Nat.zero_le, Nat.le_refl, Int.reduceEq, Int.reduceLT, Int.reduceLE, Int.reduceAdd, Int.reduceSub, Int.reduceMul, t_imp, f_imp, hL.1, hL.2.1, hL.2.2.1, hL.2.2.2.1, ia, e1]
    refine ⟨fun h2 => keep (by omega), fun h2 => ⟨fun h3 => keep (fun hc => hcc.mp hc.2.2 h3), fun h3 => ?_⟩⟩
    rw [eF, if_pos ⟨by omega, by omega, hcc.mpr h3⟩] at hi1
    refine blk bk_l_mostTired_73 ?_
    simp (disch := omega) only [vcb, step, ↓pI_c, ↓pL_c, ↓pR_c, ↓pA_c, isI_c, isL_c, isL_i, isL_r, isL_j, isA_c, inc_c, stO, fV, cZ, sw, List.getD_cons_zero, List.getD_cons_succ, List.set_cons_zero, List.set_cons_succ, List.take_succ_cons, List.take_zero, List.drop_succ_cons, List.drop_zero, List.reverse_cons, List.reverse_nil, List.nil_append, List.cons_append, List.append_nil, Option.toList_some, Option.toList_none, List.length_cons, List.length_nil, Nat.reduceAdd, Nat.reduceSub, Nat.reduceLeDiff, Nat.reduceEqDiff, Nat.add_eq, not_false_eq_true, not_true_eq_false, true_and, and_true, false_or, or_true, true_or, or_false, and_self, one_ne_zero_nat, w32_id, w32_n, Int.toNat_natCast, Int.reduceToNat, Nat.zero_add, Nat.zero_le, Nat.le_refl, Int.reduceEq, Int.reduceLT, Int.reduceLE, Int.reduceAdd, Int.reduceSub, Int.reduceMul, t_imp, f_imp]
    exact hi1
theorem s_l_mostTired {l t tt ch lo : Nat} {td : TD} {ti : Nat → Nat} (hρ : 1 ≤ ρ) (hL : LwS G l) (hT : TS G t) (hn : tdN td ≤ 6) (h0 : M t 0 = (tdN td : Int)) (htt : tt ≤ 30) (hch : ch < 64) (hl2 : M (rfA G l 0) 2 = (lo : Int)) (hlo : lo < 64) (hti : ∀ p, p < tdN td → M (rfA G (rfA G l 0) 5) p = (ti p : Int)) (hti2 : ∀ p, p < tdN td → ti p ≤ 1000) (hQ : Q (some (vI (mtI (mtF ti lo ch tt (tdN td))))) G M) : WPm Γ ρ 0 17 [vR (some l), vR (some t), vI tt, vI ch] G M Q := by
  refine WPm_of (L := [vR (some l), vR (some t), vI tt, vI ch, vJ, vJ, vJ]) 3 (by decide) (Nat.le_of_ble_eq_true rfl) rfl ?_
  refine blk bk_l_mostTired_0 ?_
  simp (disch := omega) only [vcb, step, ↓pI_c, ↓pL_c, ↓pR_c, ↓pA_c, isI_c, isL_c, isL_i, isL_r, isL_j, isA_c, inc_c, stO, fV, cZ, sw, List.getD_cons_zero, List.getD_cons_succ, List.set_cons_zero, List.set_cons_succ, List.take_succ_cons, List.take_zero, List.drop_succ_cons, List.drop_zero, List.reverse_cons, List.reverse_nil, List.nil_append, List.cons_append, List.append_nil, Option.toList_some, Option.toList_none, List.length_cons, List.length_nil, Nat.reduceAdd, Nat.reduceSub, Nat.reduceLeDiff, Nat.reduceEqDiff, Nat.add_eq, not_false_eq_true, not_true_eq_false, true_and, and_true, false_or, or_true, true_or, or_false, and_self, one_ne_zero_nat, w32_id, w32_n, Int.toNat_natCast, Int.reduceToNat, Nat.zero_add, Nat.zero_le, Nat.le_refl, Int.reduceEq, Int.reduceLT, Int.reduceLE, Int.reduceAdd, Int.reduceSub, Int.reduceMul, t_imp, f_imp]
  exact mostTired_loop hρ hL hT hn h0 htt hch hl2 hlo hti hti2 hQ (tdN td) 0 (by omega)
theorem s_l_grazers {l t tt lo : Nat} {td : TD} {ti : Nat → Nat} (hρ : 2 ≤ ρ) (hL : LwS G l) (hT : TS G t) (hok : TDok td) (h0 : M t 0 = (tdN td : Int)) (h9 : M t 9 = (tdRo td : Int)) (htt : tt ≤ 30) (hl2 : M (rfA G l 0) 2 = (lo : Int)) (hlo : lo < 64) (hti : ∀ p, p < tdN td → M (rfA G (rfA G l 0) 5) p = (ti p : Int)) (hti2 : ∀ p, p < tdN td → ti p ≤ 1000) (hQ : Q (some (vI (grF td ti lo tt (tdRo td) : Nat))) G M) : WPm Γ ρ 0 16 [vR (some l), vR (some t), vI tt] G M Q := by
  obtain ⟨o1, o2, o3, o4, -⟩ := hok
  have loop : ∀ (k i : Nat) (v : aV), i + k = tdRo td → WP Γ ρ 0 16 5 [vR (some l), vR (some t), vI tt, vI (grF td ti lo tt i : Nat), vI i, v] [] G M Q := by
    intro k
    induction k with
    | zero =>
      intro i v hi
      obtain rfl : i = tdRo td := by omega
      refine blk bk_l_grazers_5 ?_
      simp (disch := omega) only [vcb, step, ↓pI_c, ↓pL_c, ↓pR_c, ↓pA_c, isI_c, isL_c, isL_i, isL_r, isL_j, isA_c, inc_c, stO, fV, cZ, sw, List.getD_cons_zero, List.getD_cons_succ, List.set_cons_zero, List.set_cons_succ, List.take_succ_cons, List.take_zero, List.drop_succ_cons, List.drop_zero, List.reverse_cons, List.reverse_nil, List.nil_append, List.cons_append, List.append_nil, Option.toList_some, Option.toList_none, List.length_cons, List.length_nil, Nat.reduceAdd, Nat.reduceSub, Nat.reduceLeDiff, Nat.reduceEqDiff, Nat.add_eq, not_false_eq_true, not_true_eq_false, true_and, and_true, false_or, or_true, true_or, or_false, and_self, one_ne_zero_nat, w32_id, w32_n, Int.toNat_natCast, Int.reduceToNat, Nat.zero_add, Nat.zero_le, Nat.le_refl, Int.reduceEq, Int.reduceLT, Int.reduceLE, Int.reduceAdd, Int.reduceSub, Int.reduceMul, t_imp, f_imp, hT.1, h9]
      refine ⟨fun _ => ?_, fun q => absurd (Int.le_refl _) q⟩
      refine blk bk_l_grazers_43 ?_
      simp (disch := omega) only [vcb, step, ↓pI_c, ↓pL_c, ↓pR_c, ↓pA_c, isI_c, isL_c, isL_i, isL_r, isL_j, isA_c, inc_c, stO, fV, cZ, sw, List.getD_cons_zero, List.getD_cons_succ, List.set_cons_zero, List.set_cons_succ, List.take_succ_cons, List.take_zero, List.drop_succ_cons, List.drop_zero, List.reverse_cons, List.reverse_nil, List.nil_append, List.cons_append, List.append_nil, Option.toList_some, Option.toList_none, List.length_cons, List.length_nil, Nat.reduceAdd, Nat.reduceSub, Nat.reduceLeDiff, Nat.reduceEqDiff, Nat.add_eq, not_false_eq_true, not_true_eq_false, true_and, and_true, false_or, or_true, true_or, or_false, and_self, one_ne_zero_nat, w32_id, w32_n, Int.toNat_natCast, Int.reduceToNat, Nat.zero_add, Nat.zero_le, Nat.le_refl, Int.reduceEq, Int.reduceLT, Int.reduceLE, Int.reduceAdd, Int.reduceSub, Int.reduceMul, t_imp, f_imp]
      exact hQ
    | succ k ih =>
      intro i v hi
      have hg := grF_lt (td := td) (ti := ti) (lo := lo) (tt := tt) o1 i
      refine blk bk_l_grazers_5 ?_
      simp (disch := omega) only [vcb, step, ↓pI_c, ↓pL_c, ↓pR_c, ↓pA_c, isI_c, isL_c, isL_i, isL_r, isL_j, isA_c, inc_c, stO, fV, cZ, sw, List.getD_cons_zero, List.getD_cons_succ, List.set_cons_zero, List.set_cons_succ, List.take_succ_cons, List.take_zero, List.drop_succ_cons, List.drop_zero, List.reverse_cons, List.reverse_nil, List.nil_append, List.cons_append, List.append_nil, Option.toList_some, Option.toList_none, List.length_cons, List.length_nil, Nat.reduceAdd, Nat.reduceSub, Nat.reduceLeDiff, Nat.reduceEqDiff, Nat.add_eq, not_false_eq_true, not_true_eq_false, true_and, and_true, false_or, or_true, true_or, or_false, and_self, one_ne_zero_nat, w32_id, w32_n, Int.toNat_natCast, Int.reduceToNat, Nat.zero_add, Nat.zero_le, Nat.le_refl, Int.reduceEq, Int.reduceLT, Int.reduceLE, Int.reduceAdd, Int.reduceSub, Int.reduceMul, t_imp, f_imp, hT.1, h9, hL.1]
      refine ⟨fun q => absurd q (by omega), fun _ => ⟨by omega, ?_⟩⟩
      refine s_l_mostTired (by omega) hL hT o1 h0 htt hg hl2 hlo hti hti2 ?_
      have e : grF td ti lo tt (i + 1) = match mtF ti lo (grF td ti lo tt i) tt (tdN td) with
        | none => grF td ti lo tt i
        | some q => grF td ti lo tt i ||| 2 ^ q := rfl
      cases hm : mtF ti lo (grF td ti lo tt i) tt (tdN td) with
      | none =>
        rw [hm] at e
        show WP Γ ρ 0 16 21 _ ((some (vI (-9))).toList ++ []) G M Q
        refine blk bk_l_grazers_21 ?_
        simp (disch := omega) only [vcb, step, ↓pI_c, ↓pL_c, ↓pR_c, ↓pA_c, isI_c, isL_c, isL_i, isL_r, isL_j, isA_c, inc_c, stO, fV, cZ, sw, List.getD_cons_zero, List.getD_cons_succ, List.set_cons_zero, List.set_cons_succ, List.take_succ_cons, List.take_zero, List.drop_succ_cons, List.drop_zero, List.reverse_cons, List.reverse_nil, List.nil_append, List.cons_append, List.append_nil, Option.toList_some, Option.toList_none, List.length_cons, List.length_nil, Nat.reduceAdd, Nat.reduceSub, Nat.reduceLeDiff, Nat.reduceEqDiff, Nat.add_eq, not_false_eq_true, not_true_eq_false, true_and, and_true, false_or, or_true, true_or, or_false, and_self, one_ne_zero_nat, w32_id, w32_n, Int.toNat_natCast, Int.reduceToNat, Nat.zero_add, Nat.zero_le, Nat.le_refl, Int.reduceEq, Int.reduceLT, Int.reduceLE, Int.reduceAdd, Int.reduceSub, Int.reduceMul, t_imp, f_imp]
        refine blk bk_l_grazers_37 ?_
        simp (disch := omega) only [vcb, step, ↓pI_c, ↓pL_c, ↓pR_c, ↓pA_c, isI_c, isL_c, isL_i, isL_r, isL_j, isA_c, inc_c, stO, fV, cZ, sw, List.getD_cons_zero, List.getD_cons_succ, List.set_cons_zero, List.set_cons_succ, List.take_succ_cons, List.take_zero, List.drop_succ_cons, List.drop_zero, List.reverse_cons, List.reverse_nil, List.nil_append, List.cons_append, List.append_nil, Option.toList_some, Option.toList_none, List.length_cons, List.length_nil, Nat.reduceAdd, Nat.reduceSub, Nat.reduceLeDiff, Nat.reduceEqDiff, Nat.add_eq, not_false_eq_true, not_true_eq_false, true_and, and_true, false_or, or_true, true_or, or_false, and_self, one_ne_zero_nat, w32_id, w32_n, Int.toNat_natCast, Int.reduceToNat, Nat.zero_add, Nat.zero_le, Nat.le_refl, Int.reduceEq, Int.reduceLT, Int.reduceLE, Int.reduceAdd, Int.reduceSub, Int.reduceMul, t_imp, f_imp]
        have := ih (i + 1) (vI (-9)) (by omega)
        rw [e] at this
        exact this
      | some q =>
        rw [hm] at e
        have hq := mtF_lt _ _ hm
        have hp := pow_lt hq o1
        show WP Γ ρ 0 16 21 _ ((some (vI (q : Int))).toList ++ []) G M Q
        refine blk bk_l_grazers_21 ?_
        simp (disch := omega) only [vcb, step, ↓pI_c, ↓pL_c, ↓pR_c, ↓pA_c, isI_c, isL_c, isL_i, isL_r, isL_j, isA_c, inc_c, stO, fV, cZ, sw, List.getD_cons_zero, List.getD_cons_succ, List.set_cons_zero, List.set_cons_succ, List.take_succ_cons, List.take_zero, List.drop_succ_cons, List.drop_zero, List.reverse_cons, List.reverse_nil, List.nil_append, List.cons_append, List.append_nil, Option.toList_some, Option.toList_none, List.length_cons, List.length_nil, Nat.reduceAdd, Nat.reduceSub, Nat.reduceLeDiff, Nat.reduceEqDiff, Nat.add_eq, not_false_eq_true, not_true_eq_false, true_and, and_true, false_or, or_true, true_or, or_false, and_self, one_ne_zero_nat, w32_id, w32_n, Int.toNat_natCast, Int.reduceToNat, Nat.zero_add, Nat.zero_le, Nat.le_refl, Int.reduceEq, Int.reduceLT, Int.reduceLE, Int.reduceAdd, Int.reduceSub, Int.reduceMul, t_imp, f_imp, shl1I, orI]
        refine ⟨fun z => absurd z (by omega), fun _ => ?_⟩
        refine blk bk_l_grazers_37 ?_
        simp (disch := omega) only [vcb, step, ↓pI_c, ↓pL_c, ↓pR_c, ↓pA_c, isI_c, isL_c, isL_i, isL_r, isL_j, isA_c, inc_c, stO, fV, cZ, sw, List.getD_cons_zero, List.getD_cons_succ, List.set_cons_zero, List.set_cons_succ, List.take_succ_cons, List.take_zero, List.drop_succ_cons, List.drop_zero, List.reverse_cons, List.reverse_nil, List.nil_append, List.cons_append, List.append_nil, Option.toList_some, Option.toList_none, List.length_cons, List.length_nil, Nat.reduceAdd, Nat.reduceSub, Nat.reduceLeDiff, Nat.reduceEqDiff, Nat.add_eq, not_false_eq_true, not_true_eq_false, true_and, and_true, false_or, or_true, true_or, or_false, and_self, one_ne_zero_nat, w32_id, w32_n, Int.toNat_natCast, Int.reduceToNat, Nat.zero_add, Nat.zero_le, Nat.le_refl, Int.reduceEq, Int.reduceLT, Int.reduceLE, Int.reduceAdd, Int.reduceSub, Int.reduceMul, t_imp, f_imp]
        have := ih (i + 1) (vI (q : Int)) (by omega)
        rw [e] at this
        exact this
  refine WPm_of (L := [vR (some l), vR (some t), vI tt, vJ, vJ, vJ]) 3 (by decide) (Nat.le_of_ble_eq_true rfl) rfl ?_
  refine blk bk_l_grazers_0 ?_
  simp (disch := omega) only [vcb, step, ↓pI_c, ↓pL_c, ↓pR_c, ↓pA_c, isI_c, isL_c, isL_i, isL_r, isL_j, isA_c, inc_c, stO, fV, cZ, sw, List.getD_cons_zero, List.getD_cons_succ, List.set_cons_zero, List.set_cons_succ, List.take_succ_cons, List.take_zero, List.drop_succ_cons, List.drop_zero, List.reverse_cons, List.reverse_nil, List.nil_append, List.cons_append, List.append_nil, Option.toList_some, Option.toList_none, List.length_cons, List.length_nil, Nat.reduceAdd, Nat.reduceSub, Nat.reduceLeDiff, Nat.reduceEqDiff, Nat.add_eq, not_false_eq_true, not_true_eq_false, true_and, and_true, false_or, or_true, true_or, or_false, and_self, one_ne_zero_nat, w32_id, w32_n, Int.toNat_natCast, Int.reduceToNat, Nat.zero_add, Nat.zero_le, Nat.le_refl, Int.reduceEq, Int.reduceLT, Int.reduceLE, Int.reduceAdd, Int.reduceSub, Int.reduceMul, t_imp, f_imp]
  exact loop (tdRo td) 0 vJ (by omega)
end LAW
