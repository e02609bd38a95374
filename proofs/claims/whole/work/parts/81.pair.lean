/-! ===== the law's loop: both sides hold one state ===== -/
def DJ (G : aG) (ad : Nat → Nat) (m : Nat) : Prop := ∀ i, i < 83 → ad i ≠ m ∧ ∀ q ∈ mArr, ad i ≠ rfA G m q.1
theorem DJ_C {G : aG} {ad : Nat → Nat} {m : Nat} {M M' : aM} (d : DJ G ad m) (h : FrC ad M M') : M' m = M m ∧ ∀ q ∈ mArr, M' (rfA G m q.1) = M (rfA G m q.1) := ⟨h m (fun i hi e => (d i hi).1 e.symm), fun q hq => h _ (fun i hi e => (d i hi).2 q hq e.symm)⟩
theorem mv_eq {G : aG} {m : Nat} {M M' : aM} {σ : SG} (h : M' m = M m ∧ ∀ q ∈ mArr, M' (rfA G m q.1) = M (rfA G m q.1)) (hV : MV G M m σ) : MV G M' m σ := by
  refine MV_k hV (fun k _ => by rw [h.1]) (fun k hk => ?_)
  rcases hk with rfl | rfl | rfl | rfl | rfl | rfl | rfl | rfl
  · exact h.2 (1, 0, 180) (by decide)
  · exact h.2 (3, 0, 65) (by decide)
  · exact h.2 (5, 0, 11) (by decide)
  · exact h.2 (6, 0, 110) (by decide)
  · exact h.2 (8, 0, 22) (by decide)
  · exact h.2 (9, 3, 2) (by decide)
  · exact h.2 (10, 0, 6) (by decide)
  · exact h.2 (12, 0, 12) (by decide)
theorem mv_fr {G : aG} {ad : Nat → Nat} {m : Nat} {M M' : aM} {σ : SG} (d : DJ G ad m) (h : FrC ad M M') (hV : MV G M m σ) : MV G M' m σ := mv_eq (DJ_C d h) hV
theorem cv_eq {bd : Nat} {V V' : aM} {σ : SG} (e : ∀ i, i < 83 → V' i = V i) (hV : CV bd V σ) : CV bd V' σ := CV_k (fun i hi => e i (by omega)) (e 72 (by decide)) (e 75 (by decide)) (e 79 (by decide)) (e 80 (by decide)) (by rw [e 74 (by decide)]) (by rw [e 78 (by decide)]) (by rw [e 82 (by decide)]) (by rw [e 51 (by decide)]) hV
theorem cv_fr {bd : Nat} {G : aG} {ad : Nat → Nat} {m : Nat} {M M' : aM} {σ : SG} (d : DJ G ad m) (h : FrM G m M M') (hV : CV bd (vw M ad) σ) : CV bd (vw M' ad) σ := cv_eq (fun i hi => h _ (d i hi).1 (d i hi).2) hV
theorem cv_up {bd : Nat} {V : aM} {σ : SG} (hV : CV bd V σ) : CV (bd + 1) V σ := by
  obtain ⟨a1, a2, a3, a4, a5, a6, a7, a8, mk, p1, p2⟩ := hV
  exact ⟨a1, a2, a3, a4, a5, a6, a7, a8, mk, by omega, p2⟩
def BO (bd : Nat) (G : aG) (M : aM) (ad : Nat → Nat) (m : Nat) (σ : SG) : Prop := CB G ad ∧ CV bd (vw M ad) σ ∧ MdS G m ∧ MV G M m σ ∧ SOK σ ∧ DJ G ad m
def Scr (Γ : aR) (b n : Nat) (f : Nat → Int) : Prop := (b, n, f) ∈ Γ.1 ∧ n ≤ 320 ∧ ∀ j, -2147483648 ≤ f j ∧ f j < 2147483648
