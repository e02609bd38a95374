/-! ===== the state stays sound ===== -/
theorem fin_lt0 : ((List.range 64).all fun g => (List.range 64).all fun h => (g &&& h != h) || decide (pop (g - h) ≤ pop g)) = true := by decide +kernel
theorem fin_lt {g h : Nat} (hg : g < 64) (hh : h < 64) (hs : g &&& h = h) : pop (g - h) ≤ pop g := by
  have q := List.all_eq_true.mp (List.all_eq_true.mp fin_lt0 g (List.mem_range.mpr hg)) h (List.mem_range.mpr hh)
  simp only [Bool.or_eq_true, bne_iff_ne, ne_eq, decide_eq_true_eq] at q
  rcases q with q | q
  · exact absurd hs q
  · exact q
theorem pwn {p n : Nat} (h : p < n) : 2 ^ p < 2 ^ n := Nat.pow_lt_pow_right (a := 2) (by decide) h
theorem orn {a b n : Nat} (ha : a < 2 ^ n) (hb : b < 2 ^ n) : a ||| b < 2 ^ n := Nat.or_lt_two_pow ha hb
theorem tdok_N {t : TD} (h : TDok t) : tdN t ≤ 6 := h.1
theorem pH_ok {σ : SG} (h : SOK σ) : SOK (pH σ) := by
  refine ⟨h.1, h.2.1, ⟨?_, fun k hk => ?_⟩, h.2.2.2⟩
  · show pnK (gKn σ) ≤ 10
    unfold pnK
    split <;> omega
  · have hk : k < pnK (gKn σ) := hk
    show NDok (gTd σ) (pnF (gKn σ) (gHs σ) (gNd σ) k)
    have hkn := h.2.2.1.1
    unfold pnK at hk
    unfold pnF
    by_cases hl : gKn σ < 10
    · rw [if_pos hl] at hk
      rw [if_pos hl]
      by_cases e : k = gKn σ
      · rw [if_pos e]
        exact h.2.1
      · rw [if_neg e]
        exact h.2.2.1.2 k (by omega)
    · rw [if_neg hl] at hk
      rw [if_neg hl]
      by_cases e : k = 9
      · rw [if_pos e]
        exact h.2.1
      · rw [if_neg e]
        exact h.2.2.1.2 (k + 1) (by omega)
theorem uNd_ok {σ : SG} {n : ND} (h : SOK σ) (hn : NDok (gTd σ) n) : SOK (uNd σ n) := ⟨h.1, hn, h.2.2⟩
theorem o_type {σ : SG} (x : Int) (h : SOK σ) : SOK (sType σ x) := by
  unfold sType
  split
  · rename_i hx
    split
    · rename_i hl
      refine ⟨h.1, h.2.1, h.2.2.1, h.2.2.2.1, ⟨by show gLe σ + 1 ≤ 180; omega, fun i hi => ?_⟩, h.2.2.2.2.2⟩
      have hi : i < gLe σ + 1 := hi
      show va_up (gTx σ) (gLe σ) x.toNat i ≤ 255
      by_cases e : i = gLe σ
      · rw [e, va_up_self]
        omega
      · rw [va_up_ne _ _ e]
        exact h.2.2.2.2.1.2 i (by omega)
    · exact h
  · exact h
theorem o_clear {σ : SG} (h : SOK σ) : SOK (uTx σ 0 (gTx σ)) := ⟨h.1, h.2.1, h.2.2.1, h.2.2.2.1, ⟨Nat.zero_le _, fun i hi => absurd hi (Nat.not_lt_zero _)⟩, h.2.2.2.2.2⟩
theorem rds_ok {len : Nat} {tx : Nat → Nat} : ∀ (f : Nat) (t : TD) (o it a : Nat), TDok t → o < 8 → a ≤ len → ∀ q, rdsF len tx f t o it a = .inr q → TDok q.1 := by
  intro f
  induction f with
  | zero =>
    intro t o it a hk ho ha q e
    have e : (Sum.inr (t, it) : Nat ⊕ (TD × Nat)) = .inr q := e
    rw [← Sum.inr.inj e]
    exact hk
  | succ f ih =>
    intro t o it a hk ho ha q e
    unfold rdsF at e
    by_cases h1 : (tk len tx a).2.1 = -1
    · rw [if_pos h1] at e
      rw [← Sum.inr.inj e]
      exact hk
    · rw [if_neg h1] at e
      cases h2 : (itF len tx t o a).2.2 with
      | inl p =>
        rw [h2] at e
        exact absurd e (fun c => nomatch c)
      | inr b =>
        rw [h2] at e
        have k := itF_ok hk ho ha h2
        exact ih _ _ _ _ k.1 k.2.1 k.2.2.2 q e
theorem o_meadow {σ : SG} (h : SOK σ) : SOK (sMeadow σ) := by
  unfold sMeadow
  cases e : pF (gLe σ) (gTx σ) with
  | inl p => exact h
  | inr q =>
    show SOK (sNew σ q.1)
    have hk : TDok q.1 := rds_ok 180 td0 0 0 0 td0_ok (by decide) (Nat.zero_le _) q e
    refine ⟨hk, ⟨Nat.zero_le _, Nat.two_pow_pos _, Nat.two_pow_pos _, by show (0 : Nat) < 1024; decide, Nat.zero_le _, by show pop 0 ≤ _; rw [show pop 0 = 0 by decide +kernel]; exact Nat.zero_le _, fun p hp => (hk.2.2.2.2.2.2.2.1 p hp).2.2.1⟩, ⟨Nat.zero_le _, fun k hk => absurd hk (Nat.not_lt_zero _)⟩, ⟨by show (0 : Nat) < 4; decide, fun i hi hb => ?_⟩, ⟨Nat.zero_le _, fun k hk => absurd hk (Nat.not_lt_zero _)⟩, ⟨Nat.zero_le _, fun k hk => absurd hk (Nat.not_lt_zero _)⟩, ⟨Nat.zero_le _, fun k hk => absurd hk (Nat.not_lt_zero _)⟩⟩
    have hb : bt 0 i = 1 := hb
    unfold bt at hb
    rw [Nat.zero_div] at hb
    exact absurd hb (by decide)
theorem o_sends {σ : SG} (x : Int) (h : SOK σ) : SOK (sSends σ x) := by
  unfold sSends
  split
  · rename_i hx
    split
    · rename_i hl
      have hp : x.toNat < tdN (gTd σ) := by omega
      have h6 := h.1.1
      obtain ⟨n1, n2, n3, n4, n5, n6, n7⟩ := h.2.1
      have g6 := lt64 h6 n2
      refine uNd_ok (pH_ok h) ⟨n1, orn n2 (pwn hp), n3, n4, n5, ?_, n7⟩
      show pop (ndG (gNd σ) ||| 2 ^ x.toNat) ≤ tdRo (gTd σ)
      have a := fin_aw g6 (p := x.toNat) (by omega) hl.1
      have b := fin_set (l := 0) (by decide) g6 (p := x.toNat) (by omega) hl.1
      rw [a.1, b.1]
      exact hl.2.2
    · exact h
  · exact h
theorem o_calls {σ : SG} (x : Int) (h : SOK σ) : SOK (sCalls σ x) := by
  unfold sCalls
  split
  · rename_i hx
    split
    · rename_i hl
      have hp : x.toNat < tdN (gTd σ) := by omega
      have h6 := h.1.1
      obtain ⟨n1, n2, n3, n4, n5, n6, n7⟩ := h.2.1
      have g6 := lt64 h6 n2
      refine uNd_ok (pH_ok h) ⟨n1, ?_, n3, n4, n5, ?_, n7⟩
      · show ndG (gNd σ) - 2 ^ x.toNat < 2 ^ tdN (gTd σ)
        exact Nat.lt_of_le_of_lt (Nat.sub_le _ _) n2
      · show pop (ndG (gNd σ) - 2 ^ x.toNat) ≤ tdRo (gTd σ)
        refine Nat.le_trans (fin_lt g6 ?_ (fin_bp g6 (by omega) hl)) n6
        have := pw64 (p := x.toNat) (by omega)
        omega
    · exact h
  · exact h
theorem o_acts {σ : SG} (x : Int) (h : SOK σ) : SOK (sActs σ x) := by
  unfold sActs
  split
  · rename_i hx
    split
    · rename_i hl
      have hp : x.toNat < tdA (gTd σ) := by omega
      have h10 := h.1.2.1
      obtain ⟨n1, n2, n3, n4, n5, n6, n7⟩ := h.2.1
      refine uNd_ok (pH_ok h) ⟨n1, n2, n3, orn (n := 10) n4 (pwn (n := 10) (by omega)), n5, n6, fun p hp2 => ?_⟩
      have hp2 : p < tdN (gTd σ) := hp2
      show va_up (ndT (gNd σ)) (tdP (gTd σ) x.toNat) (ndT (gNd σ) (tdP (gTd σ) x.toNat) + tdT (gTd σ) x.toNat) p ≤ tdS (gTd σ) p
      by_cases e : p = tdP (gTd σ) x.toNat
      · rw [e, va_up_self]
        exact hl.2.2.2.2
      · rw [va_up_ne _ _ e]
        exact n7 p hp2
    · exact h
  · exact h
theorem o_month {σ : SG} (x : Int) (h : SOK σ) : SOK (sMonth σ x) := by
  unfold sMonth
  split
  · rename_i hx
    split
    · rename_i hl
      have h6 := h.1.1
      obtain ⟨n1, n2, n3, n4, n5, n6, n7⟩ := h.2.1
      have g6 := lt64 h6 n2
      have go := gone_ok (td := gTd σ) (z := x.toNat) (mo := ndM (gNd σ)) g6 (tdN (gTd σ)) h6
      have un := unmF_le (met := ndE (gNd σ)) (mo := ndM (gNd σ)) h.1 (tdA (gTd σ)) (Nat.le_refl _)
      have h10 := h.1.2.1
      refine uNd_ok (pH_ok h) ⟨?_, ?_, orn n3 go.1, n4, ?_, ?_, fun p hp => ?_⟩
      · show ndM (gNd σ) + 1 ≤ 12
        omega
      · exact Nat.lt_of_le_of_lt (Nat.sub_le _ _) n2
      · show ndH (gNd σ) + unmF (gTd σ) (ndE (gNd σ)) (ndM (gNd σ)) (tdA (gTd σ)) ≤ 90 * (ndM (gNd σ) + 1)
        omega
      · exact Nat.le_trans (fin_lt g6 (lt64 h6 go.1) go.2) n6
      · have hp : p < tdN (gTd σ) := hp
        have n7 := n7 p hp
        show restF (gTd σ) (ndG (gNd σ)) (ndT (gNd σ)) p ≤ tdS (gTd σ) p
        unfold restF
        split <;> omega
    · exact h
  · exact h
theorem o_undo {σ : SG} (h : SOK σ) : SOK (sUndo σ) := by
  unfold sUndo
  split
  · exact h
  · rename_i hk
    refine ⟨h.1, h.2.2.1.2 _ (by omega), ⟨?_, fun k hk2 => ?_⟩, h.2.2.2⟩
    · show gKn σ - 1 ≤ 10
      have := h.2.2.1.1
      omega
    · have hk2 : k < gKn σ - 1 := hk2
      exact h.2.2.1.2 k (by omega)
theorem o_saw {σ : SG} (x : Int) (h : SOK σ) : SOK (sSaw σ x) := by
  unfold sSaw
  split
  · rename_i hx
    split
    · rename_i hl
      refine ⟨h.1, h.2.1, h.2.2.1, h.2.2.2.1, h.2.2.2.2.1, ⟨by show gSz σ + 1 ≤ 6; omega, fun i hi => ?_⟩, h.2.2.2.2.2.2⟩
      have hi : i < gSz σ + 1 := hi
      show va_up (gSn σ) (gSz σ) x.toNat i < 32
      by_cases e : i = gSz σ
      · rw [e, va_up_self]
        omega
      · rw [va_up_ne _ _ e]
        exact h.2.2.2.2.2.1.2 i (by omega)
    · exact h
  · exact h
theorem o_found {σ : SG} (x y : Int) (h : SOK σ) : SOK (sFound σ x y) := by
  unfold sFound
  split
  · rename_i hx
    split
    · rename_i hl
      have h64 := (p2n h.1.1).2
      refine ⟨h.1, h.2.1, h.2.2.1, h.2.2.2.1, h.2.2.2.2.1, h.2.2.2.2.2.1, ⟨by show gFz σ + 1 ≤ 6; omega, fun i hi => ?_⟩⟩
      have hi : i < gFz σ + 1 := hi
      show va_up (gAm σ) (gFz σ) x.toNat i < 64 ∧ va_up (gGz σ) (gFz σ) y.toNat i ≤ 4
      by_cases e : i = gFz σ
      · rw [e, va_up_self, va_up_self]
        omega
      · rw [va_up_ne _ _ e, va_up_ne _ _ e]
        exact h.2.2.2.2.2.2.2 i (by omega)
    · exact h
  · exact h
theorem o_forget {σ : SG} (h : SOK σ) : SOK (sForget σ) := ⟨h.1, h.2.1, h.2.2.1, h.2.2.2.1, h.2.2.2.2.1, ⟨Nat.zero_le _, fun i hi => absurd hi (Nat.not_lt_zero _)⟩, ⟨Nat.zero_le _, fun i hi => absurd hi (Nat.not_lt_zero _)⟩⟩
theorem o_rate {σ : SG} (x y : Int) (h : SOK σ) : SOK (sRate σ x y) := by
  unfold sRate
  split
  · exact h
  · exact h
theorem fin_kp : ∀ k, k < 4 → ∀ x, x < 2 → k ||| 2 ^ x < 4 ∧ ∀ i, i < 2 → i ≠ x → bt (k ||| 2 ^ x) i = bt k i := by decide +kernel
theorem o_keep {σ : SG} (x : Int) (h : SOK σ) : SOK (sKeep σ x) := by
  unfold sKeep
  split
  · rename_i hx
    have f := fin_kp (gKp σ) h.2.2.2.1.1 x.toNat (by omega)
    refine ⟨h.1, h.2.1, h.2.2.1, ⟨f.1, fun i hi hb => ?_⟩, h.2.2.2.2⟩
    have hb : bt (gKp σ ||| 2 ^ x.toNat) i = 1 := hb
    show NDok (gTd σ) (va_up (gIm σ) x.toNat (gNd σ) i)
    by_cases e : i = x.toNat
    · rw [e, va_up_self]
      exact h.2.1
    · rw [va_up_ne _ _ e]
      rw [f.2 i hi e] at hb
      exact h.2.2.2.1.2 i hi hb
  · exact h
theorem o_back {σ : SG} (x : Int) (h : SOK σ) : SOK (sBack σ x) := by
  unfold sBack
  split
  · rename_i hx
    split
    · rename_i hl
      exact ⟨h.1, h.2.2.2.1.2 _ (by omega) hl, ⟨Nat.zero_le _, fun i hi => absurd hi (Nat.not_lt_zero _)⟩, h.2.2.2⟩
    · exact h
  · exact h
