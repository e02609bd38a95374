/-! ===== plans: what is asked for, in numbers ===== -/
def plL (td : TD) (lo met p mo w k x : Nat) : Nat × Nat := lvF td met p (mo + k) (if bt w k = 0 ∧ bt lo p = 0 then 0 else 1) 0 (tdA td) (x, 0)
/-- name p over k months from mo on, grazing as w says: how tired, the harm -/
def plS (td : TD) (lo met p mo t0 w : Nat) : Nat → Nat × Nat
  | 0 => (t0, 0)
  | k + 1 => ((if bt w k = 0 then (plL td lo met p mo w k (plS td lo met p mo t0 w k).1).1 else (plL td lo met p mo w k (plS td lo met p mo t0 w k).1).1 - tdRe td), (plS td lo met p mo t0 w k).2 + (plL td lo met p mo w k (plS td lo met p mo t0 w k).1).2)
theorem smF_mono {f g : Nat → Nat} : ∀ {n : Nat}, (∀ p, p < n → f p ≤ g p) → smF f n ≤ smF g n := by
  intro n
  induction n with
  | zero => exact fun _ => Nat.le_refl _
  | succ n ih =>
    intro h
    show smF f n + f n ≤ smF g n + g n
    have := ih (fun p hp => h p (by omega))
    have := h n (by omega)
    omega
theorem smF_add {f g : Nat → Nat} : ∀ (n : Nat), smF f n + smF g n = smF (fun p => f p + g p) n := by
  intro n
  induction n with
  | zero => rfl
  | succ n ih =>
    show smF f n + f n + (smF g n + g n) = smF (fun p => f p + g p) n + (f n + g n)
    omega
theorem smF_up2 {f : Nat → Nat} : ∀ {n m : Nat}, n ≤ m → smF f n ≤ smF f m := by
  intro n m h
  induction m with
  | zero => rw [show n = 0 by omega]; exact Nat.le_refl _
  | succ m ih =>
    by_cases e : n = m + 1
    · rw [e]; exact Nat.le_refl _
    · have := ih (by omega)
      show _ ≤ smF f m + f m
      omega
theorem lvF_h {td : TD} {met p mo aw : Nat} : ∀ (k i : Nat) (s : Nat × Nat), (lvF td met p mo aw i k s).2 + smF (fun a => if tdP td a = p ∧ tdM td a = mo then tdH td a else 0) i ≤ s.2 + smF (fun a => if tdP td a = p ∧ tdM td a = mo then tdH td a else 0) (i + k) := by
  intro k
  induction k with
  | zero => exact fun i s => Nat.le_refl _
  | succ k ih =>
    intro i s
    have h1 := ih (i + 1) (lvStep td met p mo aw i s)
    have h2 : (lvStep td met p mo aw i s).2 ≤ s.2 + (if tdP td i = p ∧ tdM td i = mo then tdH td i else 0) := by
      unfold lvStep
      by_cases hc : tdP td i = p ∧ tdM td i = mo ∧ bt met i = 0
      · rw [if_pos hc, if_pos (show tdP td i = p ∧ tdM td i = mo from ⟨hc.1, hc.2.1⟩)]
        split
        · exact Nat.le_add_right _ _
        · exact Nat.le_refl _
      · rw [if_neg hc]
        exact Nat.le_add_right _ _
    have h3 : smF (fun a => if tdP td a = p ∧ tdM td a = mo then tdH td a else 0) (i + 1) = smF (fun a => if tdP td a = p ∧ tdM td a = mo then tdH td a else 0) i + (if tdP td i = p ∧ tdM td i = mo then tdH td i else 0) := rfl
    rw [h3, show i + 1 + k = i + (k + 1) by omega] at h1
    show (lvF td met p mo aw (i + 1) k (lvStep td met p mo aw i s)).2 + _ ≤ _
    omega
theorem plS_b {td : TD} {lo met p mo t0 w : Nat} (hok : TDok td) (hp : p < tdN td) (ht : t0 ≤ tdS td p) : ∀ k, (plS td lo met p mo t0 w k).1 ≤ tdS td p ∧ (plS td lo met p mo t0 w k).2 ≤ smF (fun a => if tdP td a = p ∧ (mo ≤ tdM td a ∧ tdM td a < mo + k) then tdH td a else 0) (tdA td) := by
  intro k
  induction k with
  | zero => exact ⟨ht, Nat.zero_le _⟩
  | succ k ih =>
    have h1 := lvF_le (met := met) (mo := mo + k) (aw := if bt w k = 0 ∧ bt lo p = 0 then 0 else 1) hok hp (tdA td) 0 ((plS td lo met p mo t0 w k).1, 0) (by omega) ih.1
    have h2 := lvF_h (td := td) (met := met) (p := p) (mo := mo + k) (aw := if bt w k = 0 ∧ bt lo p = 0 then 0 else 1) (tdA td) 0 ((plS td lo met p mo t0 w k).1, 0)
    have e : plS td lo met p mo t0 w (k + 1) = ((if bt w k = 0 then (plL td lo met p mo w k (plS td lo met p mo t0 w k).1).1 else (plL td lo met p mo w k (plS td lo met p mo t0 w k).1).1 - tdRe td), (plS td lo met p mo t0 w k).2 + (plL td lo met p mo w k (plS td lo met p mo t0 w k).1).2) := rfl
    rw [e]
    have h1 : (plL td lo met p mo w k (plS td lo met p mo t0 w k).1).1 ≤ tdS td p := h1.1
    have h2 : (plL td lo met p mo w k (plS td lo met p mo t0 w k).1).2 + 0 ≤ 0 + smF (fun a => if tdP td a = p ∧ tdM td a = mo + k then tdH td a else 0) (0 + tdA td) := h2
    rw [Nat.zero_add, Nat.zero_add] at h2
    generalize plL td lo met p mo w k (plS td lo met p mo t0 w k).1 = r at *
    refine ⟨by dsimp only; split <;> omega, ?_⟩
    have h3 : smF (fun a => if tdP td a = p ∧ (mo ≤ tdM td a ∧ tdM td a < mo + k) then tdH td a else 0) (tdA td) + smF (fun a => if tdP td a = p ∧ tdM td a = mo + k then tdH td a else 0) (tdA td) ≤ smF (fun a => if tdP td a = p ∧ (mo ≤ tdM td a ∧ tdM td a < mo + (k + 1)) then tdH td a else 0) (tdA td) := by
      rw [smF_add]
      refine smF_mono (fun a _ => ?_)
      by_cases hP : tdP td a = p
      · by_cases hm : tdM td a = mo + k
        · rw [if_neg (show ¬ (tdP td a = p ∧ (mo ≤ tdM td a ∧ tdM td a < mo + k)) by omega), if_pos ⟨hP, hm⟩, if_pos ⟨hP, by omega, by omega⟩]
          omega
        · rw [if_neg (show ¬ (tdP td a = p ∧ tdM td a = mo + k) by omega)]
          by_cases hl : mo ≤ tdM td a ∧ tdM td a < mo + k
          · rw [if_pos ⟨hP, hl⟩, if_pos ⟨hP, by omega, by omega⟩]
            omega
          · rw [if_neg (fun x => hl x.2)]
            exact Nat.zero_le _
      · rw [if_neg (fun x => hP x.1), if_neg (fun x => hP x.1), if_neg (fun x => hP x.1)]
        exact Nat.le_refl _
    have h4 := ih.2
    dsimp only
    omega
/-- all harm of a name's acts -/
def plHa (td : TD) (p : Nat) : Nat := smF (fun a => if tdP td a = p then tdH td a else 0) (tdA td)
theorem plHa_s {td : TD} (hok : TDok td) : smF (plHa td) (tdN td) ≤ 90 := by
  have h : ∀ A, A ≤ tdA td → smF (fun p => smF (fun a => if tdP td a = p then tdH td a else 0) A) (tdN td) ≤ 9 * A := by
    intro A
    induction A with
    | zero => exact fun _ => Nat.le_of_eq (smF_z (fun _ _ => rfl))
    | succ A ih =>
      intro hA
      have h1 := ih (by omega)
      have h2 := hok.2.2.2.2.2.2.2.2 A (by omega)
      have h3 : smF (fun p => smF (fun a => if tdP td a = p then tdH td a else 0) (A + 1)) (tdN td) = smF (fun p => smF (fun a => if tdP td a = p then tdH td a else 0) A) (tdN td) + tdH td A := by
        refine smF_up (t := tdP td A) (fun T hT => ?_) ?_ h2.2.1
        · show smF _ A + (if tdP td A = T then tdH td A else 0) = _
          rw [if_neg (Ne.symm hT), Nat.add_zero]
        · show smF _ A + (if tdP td A = tdP td A then tdH td A else 0) = _
          rw [if_pos rfl]
      omega
  have := h (tdA td) (Nat.le_refl _)
  have := hok.2.1
  show smF (fun p => smF (fun a => if tdP td a = p then tdH td a else 0) (tdA td)) (tdN td) ≤ 90
  omega
theorem plHa_le {td : TD} {p : Nat} (hok : TDok td) (hp : p < tdN td) : plHa td p ≤ 90 := by
  have h1 := plHa_s hok
  have h2 := smF_up2 (f := plHa td) (show p + 1 ≤ tdN td by omega)
  have h3 : smF (plHa td) (p + 1) = smF (plHa td) p + plHa td p := rfl
  omega
/-! the first of the best -/
def plMn (g : Nat → Nat) : Nat → Nat
  | 0 => 2147483647
  | u + 1 => if g u < plMn g u then g u else plMn g u
def plAg (g : Nat → Nat) : Nat → Nat
  | 0 => 0
  | u + 1 => if g u < plMn g u then u else plAg g u
def plMi (g : Nat → Nat) : Nat → Nat
  | 0 => g 0
  | u + 1 => if g (u + 1) < plMi g u then g (u + 1) else plMi g u
theorem plMn_le {g : Nat → Nat} : ∀ u w, w < u → plMn g u ≤ g w := by
  intro u
  induction u with
  | zero => exact fun w h => absurd h (Nat.not_lt_zero _)
  | succ u ih =>
    intro w h
    show (if g u < plMn g u then g u else plMn g u) ≤ g w
    by_cases e : w = u
    · subst e
      split <;> omega
    · have := ih w (by omega)
      split <;> omega
theorem plMn_ge {g : Nat → Nat} {x : Nat} (hx : x ≤ 2147483647) : ∀ u, (∀ w, w < u → x ≤ g w) → x ≤ plMn g u := by
  intro u
  induction u with
  | zero => exact fun _ => hx
  | succ u ih =>
    intro h
    have h1 := ih (fun w hw => h w (by omega))
    have h2 := h u (by omega)
    show x ≤ (if g u < plMn g u then g u else plMn g u)
    split <;> omega
theorem plMn_m {g : Nat → Nat} : ∀ u, plMn g u ≤ 2147483647 := by
  intro u
  induction u with
  | zero => exact Nat.le_refl _
  | succ u ih =>
    show (if g u < plMn g u then g u else plMn g u) ≤ _
    split <;> omega
theorem plMi_le {g : Nat → Nat} : ∀ u w, w ≤ u → plMi g u ≤ g w := by
  intro u
  induction u with
  | zero => exact fun w h => by rw [show w = 0 by omega]; exact Nat.le_refl _
  | succ u ih =>
    intro w h
    show (if g (u + 1) < plMi g u then g (u + 1) else plMi g u) ≤ g w
    by_cases e : w = u + 1
    · subst e
      split <;> omega
    · have := ih w (by omega)
      split <;> omega
theorem plMi_ex {g : Nat → Nat} : ∀ u, ∃ w, w ≤ u ∧ plMi g u = g w := by
  intro u
  induction u with
  | zero => exact ⟨0, Nat.le_refl _, rfl⟩
  | succ u ih =>
    obtain ⟨w, h1, h2⟩ := ih
    by_cases h : g (u + 1) < plMi g u
    · exact ⟨u + 1, Nat.le_refl _, if_pos h⟩
    · exact ⟨w, by omega, (if_neg h).trans h2⟩
/-- a way's months, four bits each -/
def plIb (w : Nat) : Nat := bt w 0 + 16 * bt w 1 + 256 * bt w 2 + 4096 * bt w 3 + 65536 * bt w 4
def plFe (μ w : Nat) : Bool := decide ((μ + plIb w) &&& 559240 = 0)
def plMh (c : Nat → Nat → Nat) (cd : Nat → Nat → Bool) (U : Nat) : Nat → Nat → Nat → Nat
  | 0, _, _ => 0
  | k + 1, p, μ => plMn (fun w => if cd p w = true ∧ plFe μ w = true then c p w + plMh c cd U k (p + 1) (μ + plIb w) else 2147483647) U
def plG (c : Nat → Nat → Nat) (cd : Nat → Nat → Bool) (U k p μ w : Nat) : Nat := if cd p w = true ∧ plFe μ w = true then c p w + plMh c cd U k (p + 1) (μ + plIb w) else 2147483647
theorem plMh_s (c : Nat → Nat → Nat) (cd : Nat → Nat → Bool) (U k p μ : Nat) : plMh c cd U (k + 1) p μ = plMn (plG c cd U k p μ) U := rfl
def plBp (c : Nat → Nat → Nat) (cd : Nat → Nat → Bool) (U : Nat) : Nat → Nat → Nat → Nat → Nat
  | 0, _, _, _ => 0
  | k + 1, p, μ, q => if q = p then plAg (plG c cd U k p μ) U else plBp c cd U k (p + 1) (μ + plIb (plAg (plG c cd U k p μ) U)) q
def plLf (lm : Nat → Nat) : Nat → Nat → Nat
  | 0, _ => 0
  | k + 1, p => plLf lm k (p + 1) + lm p
theorem plLf_le {c : Nat → Nat → Nat} {cd : Nat → Nat → Bool} {U : Nat} {lm : Nat → Nat} (h : ∀ p w, w < U → cd p w = true → lm p ≤ c p w) (hl : ∀ p, lm p ≤ 90) : ∀ k p μ, plLf lm k p ≤ plMh c cd U k p μ ∨ 20000000 ≤ k := by
  have hb : ∀ k p, plLf lm k p ≤ 90 * k := by
    intro k
    induction k with
    | zero => exact fun p => Nat.le_refl _
    | succ k ih =>
      intro p
      have := ih (p + 1)
      have := hl p
      show plLf lm k (p + 1) + lm p ≤ _
      omega
  intro k
  induction k with
  | zero => exact fun p μ => .inl (Nat.zero_le _)
  | succ k ih =>
    intro p μ
    by_cases hk : 20000000 ≤ k + 1
    · exact .inr hk
    · refine .inl ?_
      rw [plMh_s]
      have hbb := hb (k + 1) p
      refine plMn_ge (by omega) U (fun w hw => ?_)
      unfold plG
      by_cases hc : cd p w = true ∧ plFe μ w = true
      · rw [if_pos hc]
        rcases ih (p + 1) (μ + plIb w) with h1 | h1
        · have h2 := h p w hw hc.1
          show plLf lm k (p + 1) + lm p ≤ _
          omega
        · omega
      · rw [if_neg hc]
        omega
theorem plMh_fin {c : Nat → Nat → Nat} {cd : Nat → Nat → Bool} {U N : Nat} (hU : 0 < U) (h0 : ∀ p, p < N → cd p 0 = true) (hc : ∀ p, p < N → c p 0 ≤ 90) : ∀ k p μ, p + k ≤ N → μ &&& 559240 = 0 → plMh c cd U k p μ ≤ 90 * k := by
  intro k
  induction k with
  | zero => exact fun p μ _ _ => Nat.le_refl _
  | succ k ih =>
    intro p μ hp hm
    rw [plMh_s]
    have h1 := plMn_le (g := plG c cd U k p μ) U 0 hU
    have e0 : plIb 0 = 0 := by decide
    have h2 : plG c cd U k p μ 0 = c p 0 + plMh c cd U k (p + 1) μ := by
      unfold plG
      rw [if_pos ⟨h0 p (by omega), by unfold plFe; rw [e0, Nat.add_zero]; exact decide_eq_true hm⟩, e0]
      rfl
    have h3 := ih (p + 1) μ (by omega) hm
    have h4 := hc p (by omega)
    omega
/-- which ways of a name come into question -/
def plCd (c : Nat → Nat → Nat) (lo p w : Nat) : Bool := (decide (w = 0) || decide (bt lo p = 0)) && (List.range w).all (fun v => !(decide (v &&& w = v)) || decide (c p w < c p v))
theorem plCd_iff {c : Nat → Nat → Nat} {lo p w : Nat} : plCd c lo p w = true ↔ (w = 0 ∨ bt lo p = 0) ∧ ∀ v, v < w → v &&& w = v → c p w < c p v := by
  unfold plCd
  rw [Bool.and_eq_true, Bool.or_eq_true, decide_eq_true_eq, decide_eq_true_eq, List.all_eq_true]
  constructor
  · rintro ⟨h1, h2⟩
    refine ⟨h1, fun v hv he => ?_⟩
    have := h2 v (List.mem_range.mpr hv)
    rw [decide_eq_true he, Bool.not_true, Bool.false_or, decide_eq_true_eq] at this
    exact this
  · rintro ⟨h1, h2⟩
    refine ⟨h1, fun v hv => ?_⟩
    by_cases he : v &&& w = v
    · rw [Bool.or_eq_true, decide_eq_true_eq]
      exact .inr (h2 v (List.mem_range.mp hv) he)
    · rw [decide_eq_false he]
      rfl
def plCc (cd : Nat → Bool) : Nat → Nat
  | 0 => 0
  | u + 1 => plCc cd u + (if cd u = true then 1 else 0)
theorem plCc_le (cd : Nat → Bool) : ∀ u, plCc cd u ≤ u := by
  intro u
  induction u with
  | zero => exact Nat.le_refl _
  | succ u ih =>
    show plCc cd u + _ ≤ _
    split <;> omega
theorem plCc_up {cd : Nat → Bool} : ∀ {u v : Nat}, u ≤ v → plCc cd u ≤ plCc cd v := by
  intro u v h
  induction v with
  | zero => rw [show u = 0 by omega]; exact Nat.le_refl _
  | succ v ih =>
    by_cases e : u = v + 1
    · rw [e]; exact Nat.le_refl _
    · have := ih (by omega)
      show _ ≤ plCc cd v + _
      omega
theorem plCc_lt {cd : Nat → Bool} {u v : Nat} (h : u < v) (hc : cd u = true) : plCc cd u < plCc cd v := by
  have h1 : plCc cd (u + 1) = plCc cd u + 1 := by
    show plCc cd u + (if cd u = true then 1 else 0) = _
    rw [if_pos hc]
  have := plCc_up (cd := cd) (show u + 1 ≤ v by omega)
  omega
/-! the state's numbers -/
def plC (σ : SG) (n p w : Nat) : Nat := (plS (gTd σ) (ndL (gNd σ)) (ndE (gNd σ)) p (ndM (gNd σ)) (ndT (gNd σ) p) w n).2
def plK (σ : SG) (n : Nat) : Nat → Nat → Bool := plCd (plC σ n) (ndL (gNd σ))
def plM0 (σ : SG) : Nat := (7 - tdRo (gTd σ)) * 69905
def plLm (σ : SG) (n p : Nat) : Nat := if bt (ndL (gNd σ)) p = 0 then plMi (plC σ n p) (2 ^ n - 1) else plC σ n p 0
def rPlan (σ : SG) (x y : Int) : Int := if (1 ≤ x ∧ x ≤ 5) ∧ (y = -1 ∨ (0 ≤ y ∧ y < tdN (gTd σ))) then (if (ndM (gNd σ) : Int) + x > 12 then -2 else if y = -1 then (plMh (plC σ x.toNat) (plK σ x.toNat) (2 ^ x.toNat) (tdN (gTd σ)) 0 (plM0 σ) : Int) else (plBp (plC σ x.toNat) (plK σ x.toNat) (2 ^ x.toNat) (tdN (gTd σ)) 0 (plM0 σ) y.toNat : Int)) else -1
theorem plC_le {σ : SG} {n p w : Nat} (hS : SOK σ) (hp : p < tdN (gTd σ)) : plC σ n p w ≤ plHa (gTd σ) p := by
  have h := (plS_b (lo := ndL (gNd σ)) (met := ndE (gNd σ)) (mo := ndM (gNd σ)) (w := w) hS.1 hp (hS.2.1.2.2.2.2.2.2 p hp) n).2
  refine Nat.le_trans h (smF_mono (fun a _ => ?_))
  by_cases hc : tdP (gTd σ) a = p ∧ (ndM (gNd σ) ≤ tdM (gTd σ) a ∧ tdM (gTd σ) a < ndM (gNd σ) + n)
  · rw [if_pos hc, if_pos hc.1]
    exact Nat.le_refl _
  · rw [if_neg hc]
    exact Nat.zero_le _
theorem plC_90 {σ : SG} {n p w : Nat} (hS : SOK σ) (hp : p < tdN (gTd σ)) : plC σ n p w ≤ 90 := Nat.le_trans (plC_le hS hp) (plHa_le hS.1 hp)
theorem plLm_le {σ : SG} {n p w : Nat} (hw : w < 2 ^ n) (hc : plK σ n p w = true) : plLm σ n p ≤ plC σ n p w := by
  unfold plLm
  by_cases h : bt (ndL (gNd σ)) p = 0
  · rw [if_pos h]
    exact plMi_le _ _ (by omega)
  · rw [if_neg h]
    have := (plCd_iff.mp hc).1
    rw [show w = 0 by omega]
    exact Nat.le_refl _
theorem fin_sb0 : ((List.range 32).all fun w => (List.range 32).all fun v => (!(decide (v &&& w = v)) || decide (v = w) || (List.range 5).any fun m => decide (bt w m = 1) && decide (v &&& (w - 2 ^ m) = v)) && (List.range 5).all fun m => !(decide (bt w m = 1)) || (decide (w - 2 ^ m < w) && decide (w &&& (4294967295 - 2 ^ m) = w - 2 ^ m) && (!(decide (v &&& (w - 2 ^ m) = v)) || (decide (v &&& w = v) && decide (v < w))))) = true := by decide +kernel
theorem fin_sbA {w v : Nat} (hw : w < 32) (hv : v < 32) (h : v &&& w = v) (hn : v ≠ w) : ∃ m, m < 5 ∧ bt w m = 1 ∧ v &&& (w - 2 ^ m) = v := by
  have h1 := List.all_eq_true.mp (List.all_eq_true.mp fin_sb0 w (List.mem_range.mpr hw)) v (List.mem_range.mpr hv)
  rw [Bool.and_eq_true] at h1
  have h2 := h1.1
  rw [decide_eq_true h, decide_eq_false hn, Bool.not_true, Bool.false_or, Bool.false_or, List.any_eq_true] at h2
  obtain ⟨m, hm, h3⟩ := h2
  rw [Bool.and_eq_true, decide_eq_true_eq, decide_eq_true_eq] at h3
  exact ⟨m, List.mem_range.mp hm, h3⟩
theorem fin_sbB {w v m : Nat} (hw : w < 32) (hv : v < 32) (hm : m < 5) (hb : bt w m = 1) : w - 2 ^ m < w ∧ w &&& (4294967295 - 2 ^ m) = w - 2 ^ m ∧ (v &&& (w - 2 ^ m) = v → v &&& w = v ∧ v < w) := by
  have h1 := List.all_eq_true.mp (List.all_eq_true.mp fin_sb0 w (List.mem_range.mpr hw)) v (List.mem_range.mpr hv)
  rw [Bool.and_eq_true] at h1
  have h2 := List.all_eq_true.mp h1.2 m (List.mem_range.mpr hm)
  rw [decide_eq_true hb, Bool.not_true, Bool.false_or, Bool.and_eq_true, Bool.and_eq_true, decide_eq_true_eq, decide_eq_true_eq] at h2
  refine ⟨h2.1.1, h2.1.2, fun hs => ?_⟩
  have h3 := h2.2
  rw [decide_eq_true hs, Bool.not_true, Bool.false_or, Bool.and_eq_true, decide_eq_true_eq, decide_eq_true_eq] at h3
  exact h3
theorem fin_full2 : ∀ n, n ≤ 5 → ∀ v, v < 2 ^ n → v &&& (2 ^ n - 1) = v := by decide +kernel
theorem fin_sub_lt {w v : Nat} (h : v &&& w = v) : v ≤ w := by
  rw [← h]
  exact Nat.and_le_right
