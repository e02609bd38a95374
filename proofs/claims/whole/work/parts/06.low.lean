/-! ===== cells of the world, locals ===== -/
theorem wl_get {ca : Nat → ClassId} {G : aG} {M : aM} {a : Nat} (h : a ∈ gA G) : ∃ k : Nat, (wl ca G M)[k]? = some (a, cC ca (gT G a) (gR G a) (M a)) := va_pl_get (X := []) (f := fun a => cC ca (gT G a) (gR G a) (M a)) h
theorem wl_up {ca : Nat → ClassId} {G G' : aG} {M M' : aM} {A : Nat → Prop} {k a : Nat} {e : va_E} (hD : va_D A (wl ca G M)) (h : a ∈ gA G) (hk : (wl ca G M)[k]? = some (a, cC ca (gT G a) (gR G a) (M a))) (hA : gA G' = gA G) (he : cC ca (gT G' a) (gR G' a) (M' a) = e) (ho : ∀ b, b ≠ a → cC ca (gT G' b) (gR G' b) (M' b) = cC ca (gT G b) (gR G b) (M b)) : (wl ca G M).set k (a, e) = wl ca G' M' := by
  have h1 : (wl ca G M).set k (a, e) = va_pl (gA G) (va_up (fun a => cC ca (gT G a) (gR G a) (M a)) a e) := va_pl_set (X := []) (e := e) hD h hk
  rw [h1]
  unfold wl
  rw [hA]
  refine va_pl_congr fun b => ?_
  by_cases hb : b = a
  · subst hb
    rw [va_up_self, he]
  · rw [va_up_ne _ _ hb, ho b hb]
theorem wl_new {ca : Nat → ClassId} {G : aG} {M : aM} {q : Nat} {t : Nat ⊕ (Nat × Nat)} (hq : q ∉ gA G) : wl ca G M ++ [(q, cC ca t (fun _ => none) (fun _ => 0))] = wl ca (gN G q t) (mN0 M q) := by
  have h1 : wl ca G M ++ [(q, cC ca t (fun _ => none) (fun _ => 0))] = va_pl (gA G ++ [q]) (va_up (fun a => cC ca (gT G a) (gR G a) (M a)) q (cC ca t (fun _ => none) (fun _ => 0))) := va_pl_push hq
  rw [h1]
  unfold wl
  show va_pl (gA G ++ [q]) _ = va_pl (gA G ++ [q]) _
  refine va_pl_congr fun b => ?_
  by_cases hb : b = q
  · subst hb
    simp only [va_up_self, gN, mN0, gT, gR]
  · simp only [va_up_ne _ _ hb, gN, mN0, gT, gR]
theorem wl_fresh {ca : Nat → ClassId} {G : aG} {M : aM} {A : Nat → Prop} {q : Nat} {e : va_E} (hD : va_D A (wl ca G M ++ [(q, e)])) : q ∉ gA G := va_pl_fresh2 (X := []) (f := fun a => cC ca (gT G a) (gR G a) (M a)) hD
theorem lvL_mem : ∀ (L : List aV) (j : Nat) (q : Nat × Value), q ∈ lvL j L ↔ ∃ (i : Nat) (v : aV), L[i]? = some v ∧ v ≠ vJ ∧ q = (j + i, cV v) := by
  intro L
  induction L with
  | nil =>
    intro j q
    constructor
    · intro h
      cases h
    · rintro ⟨i, v, h, -⟩
      cases h
  | cons w L ih =>
    intro j q
    have key : ∀ (P : Prop), (q ∈ lvL j (w :: L) ↔ P ∨ q ∈ lvL (j + 1) L) → (P ↔ (w ≠ vJ ∧ q = (j, cV w))) → (q ∈ lvL j (w :: L) ↔ ∃ (i : Nat) (v : aV), (w :: L)[i]? = some v ∧ v ≠ vJ ∧ q = (j + i, cV v)) := by
      intro P h1 h2
      rw [h1, h2, ih]
      constructor
      · rintro (⟨a, b⟩ | ⟨i, v, a, b, c⟩)
        · exact ⟨0, w, rfl, a, b⟩
        · exact ⟨i + 1, v, a, b, by rw [c]; congr 1; omega⟩
      · rintro ⟨i, v, a, b, c⟩
        cases i with
        | zero =>
          cases a
          exact Or.inl ⟨b, c⟩
        | succ i => exact Or.inr ⟨i, v, a, b, by rw [c]; congr 1; omega⟩
    match w with
    | .inl x => exact key (q = (j, cV (.inl x))) (List.mem_cons) ⟨fun h => ⟨(by intro h; cases h), h⟩, fun h => h.2⟩
    | .inr (.inl x) => exact key (q = (j, cV (.inr (.inl x)))) (List.mem_cons) ⟨fun h => ⟨(by intro h; cases h), h⟩, fun h => h.2⟩
    | .inr (.inr (.inl x)) => exact key (q = (j, cV (.inr (.inr (.inl x))))) (List.mem_cons) ⟨fun h => ⟨(by intro h; cases h), h⟩, fun h => h.2⟩
    | .inr (.inr (.inr ())) => exact key False ⟨fun h => Or.inr h, fun h => h.elim False.elim id⟩ ⟨False.elim, fun h => h.1 rfl⟩
theorem getD_some {L : List aV} {i : Nat} {v : aV} (h : L.getD i vJ = v) (hv : v ≠ vJ) : L[i]? = some v := by
  cases e : L[i]? with
  | none =>
    rw [List.getD_eq_getElem?_getD, e] at h
    exact absurd h.symm hv
  | some w =>
    rw [List.getD_eq_getElem?_getD, e] at h
    rw [← h]
    rfl
theorem lHas.at {ls : Array Slot} {n i : Nat} {L : List aV} {v : aV} (h : lHas ls n L) (hi : L.getD i vJ = v) (hv : v ≠ vJ) : ls[i]? = some (.val (cV v)) := by
  have h1 := h.1.2.2 (i, cV v) ((lvL_mem L 0 _).mpr ⟨i, v, getD_some hi hv, hv, by rw [Nat.zero_add]⟩)
  exact h1
theorem lHas.lt {ls : Array Slot} {n i : Nat} {L : List aV} {v : aV} (h : lHas ls n L) (hi : L.getD i vJ = v) (hv : v ≠ vJ) : i < n := by
  have h1 := (List.getElem?_eq_some_iff.mp (getD_some hi hv)).1
  exact Nat.lt_of_lt_of_le h1 h.2
theorem cat_cV (v : aV) : (cV v).category = 2 ↔ isL v := by
  match v with
  | .inl x => simp [cV, isL, Value.category]
  | .inr (.inl x) => simp [cV, isL, Value.category]
  | .inr (.inr (.inl none)) => simp [cV, isL, Value.category, va_rf]
  | .inr (.inr (.inl (some a))) => simp [cV, isL, Value.category, va_rf]
  | .inr (.inr (.inr ())) => simp [cV, isL, Value.category]
theorem cat_1 {v : aV} (h : ¬ isL v) : (cV v).category = 1 := by
  match v with
  | .inl x => rfl
  | .inr (.inl x) => exact absurd trivial h
  | .inr (.inr (.inl none)) => rfl
  | .inr (.inr (.inl (some a))) => rfl
  | .inr (.inr (.inr ())) => rfl
theorem lHas.set1 {ls : Array Slot} {n i : Nat} {L : List aV} {v : aV} (h : L.length ≤ n) (ho : stO L i) (hl : lv_has ls n ((i, cV v) :: (lvL 0 L).filter (fun q => !(q.1 == i) && !(q.1 + 1 == i && q.2.category == 2)))) : lHas ls n (L.set i v) := by
  refine ⟨⟨hl.1, hl.2.1, fun q hq => ?_⟩, by rw [List.length_set]; exact h⟩
  obtain ⟨j, w, h1, h2, rfl⟩ := (lvL_mem _ 0 q).mp hq
  rw [Nat.zero_add]
  by_cases hj : j = i
  · subst hj
    rw [List.getElem?_set_self' ] at h1
    cases e : L[j]? with
    | none => rw [e] at h1; cases h1
    | some u =>
      rw [e] at h1
      cases h1
      exact hl.2.2 (j, cV v) List.mem_cons_self
  · rw [List.getElem?_set_ne (Ne.symm hj)] at h1
    refine hl.2.2 (j, cV w) (List.mem_cons_of_mem _ (List.mem_filter.mpr ⟨(lvL_mem L 0 _).mpr ⟨j, w, h1, h2, by rw [Nat.zero_add]⟩, ?_⟩))
    have h3 : ¬ (j + 1 = i ∧ (cV w).category = 2) := fun hh => by
      rcases ho with ho | ho
      · omega
      · apply ho
        rw [show i - 1 = j by omega, List.getD_eq_getElem?_getD, h1]
        exact (cat_cV w).mp hh.2
    simp only [Bool.and_eq_true, Bool.not_eq_true', beq_eq_false_iff_ne, Bool.and_eq_false_iff]
    refine ⟨hj, ?_⟩
    by_cases h4 : j + 1 = i
    · exact Or.inr (fun h5 => h3 ⟨h4, h5⟩)
    · exact Or.inl h4
theorem lHas.set2 {ls : Array Slot} {n i : Nat} {L : List aV} {v : aV} (h : L.length ≤ n) (ho : stO L i) (hl : lv_has ls n ((i, cV v) :: (lvL 0 L).filter (fun q => !(q.1 == i) && (!(q.1 == i + 1) && !(q.1 + 1 == i && q.2.category == 2))))) : lHas ls n ((L.set i v).set (i + 1) vJ) := by
  refine ⟨⟨hl.1, hl.2.1, fun q hq => ?_⟩, by rw [List.length_set, List.length_set]; exact h⟩
  obtain ⟨j, w, h1, h2, rfl⟩ := (lvL_mem _ 0 q).mp hq
  rw [Nat.zero_add]
  have hj1 : j ≠ i + 1 := by
    intro hj
    subst hj
    rw [List.getElem?_set_self'] at h1
    cases e : (L.set i v)[i + 1]? with
    | none => rw [e] at h1; cases h1
    | some u =>
      rw [e] at h1
      cases h1
      exact h2 rfl
  rw [List.getElem?_set_ne (Ne.symm hj1)] at h1
  by_cases hj : j = i
  · subst hj
    rw [List.getElem?_set_self' ] at h1
    cases e : L[j]? with
    | none => rw [e] at h1; cases h1
    | some u =>
      rw [e] at h1
      cases h1
      exact hl.2.2 (j, cV v) List.mem_cons_self
  · rw [List.getElem?_set_ne (Ne.symm hj)] at h1
    refine hl.2.2 (j, cV w) (List.mem_cons_of_mem _ (List.mem_filter.mpr ⟨(lvL_mem L 0 _).mpr ⟨j, w, h1, h2, by rw [Nat.zero_add]⟩, ?_⟩))
    have h3 : ¬ (j + 1 = i ∧ (cV w).category = 2) := fun hh => by
      rcases ho with ho | ho
      · omega
      · apply ho
        rw [show i - 1 = j by omega, List.getD_eq_getElem?_getD, h1]
        exact (cat_cV w).mp hh.2
    simp only [Bool.and_eq_true, Bool.not_eq_true', beq_eq_false_iff_ne, Bool.and_eq_false_iff]
    refine ⟨hj, hj1, ?_⟩
    by_cases h4 : j + 1 = i
    · exact Or.inr (fun h5 => h3 ⟨h4, h5⟩)
    · exact Or.inl h4
/-! ===== steps that leave the world alone ===== -/
section PURE
variable {Γ : aR} {ρ κ mi pc pc' : Nat} {L L' S S' : List aV} {G : aG} {M : aM} {Q : Option aV → aG → aM → Prop}
theorem WP_pure (hs : ∀ {p : Program} {l : Launch} {e : Env} {R : Room} {s : State} {m : MethodId} {args : Array Value} {below : List Frame} {meth : Method} {c : Code} {Z : State → Prop} {H : Heap} {locs : List Loc} {cells slots : Nat} {ls : Array Slot}, p.tables.exec = Jvm.exec → c.code = mC mi → s.vm.findClass (cN (mO mi)) = some m.cls → (∀ w ∈ lw_g, w.before args s = true) → lHas ls (mN mi) L →
      (∀ ls', lHas ls' (mN mi) L' → W p l e R s m args below meth c H locs cells slots Z (F0 m pc' ls' (S'.map cV))) → W p l e R s m args below meth c H locs cells slots Z (F0 m pc ls (S.map cV)))
    (h : WP Γ ρ κ mi pc' L' S' G M Q) : WP Γ ρ κ mi pc L S G M Q := by
  intro p l e R s m args below meth c D ca A Z K Ks H locs cells slots ls hC h1 h2 h3 h4 hR hZ hk1 hk2 hW hS hl
  exact hs hC.1 hC.2.1 hC.2.2.2.1 hC.2.2.2.2.1 hl (fun ls' hl' => h p l e R s m args below meth c D ca A Z K Ks H locs cells slots ls' hC h1 h2 h3 h4 hR hZ hk1 hk2 hW hS hl')
theorem WP_br {P : Prop} {pc1 pc2 : Nat} (hs : ∀ {p : Program} {l : Launch} {e : Env} {R : Room} {s : State} {m : MethodId} {args : Array Value} {below : List Frame} {meth : Method} {c : Code} {Z : State → Prop} {H : Heap} {locs : List Loc} {cells slots : Nat} {ls : Array Slot}, p.tables.exec = Jvm.exec → c.code = mC mi →
      (P → W p l e R s m args below meth c H locs cells slots Z (F0 m pc1 ls (S'.map cV))) → (¬ P → W p l e R s m args below meth c H locs cells slots Z (F0 m pc2 ls (S'.map cV))) → W p l e R s m args below meth c H locs cells slots Z (F0 m pc ls (S.map cV)))
    (h : P → WP Γ ρ κ mi pc1 L S' G M Q) (h' : ¬ P → WP Γ ρ κ mi pc2 L S' G M Q) : WP Γ ρ κ mi pc L S G M Q := by
  intro p l e R s m args below meth c D ca A Z K Ks H locs cells slots ls hC h1 h2 h3 h4 hR hZ hk1 hk2 hW hS hl
  exact hs hC.1 hC.2.1 (fun hp => h hp p l e R s m args below meth c D ca A Z K Ks H locs cells slots ls hC h1 h2 h3 h4 hR hZ hk1 hk2 hW hS hl) (fun hp => h' hp p l e R s m args below meth c D ca A Z K Ks H locs cells slots ls hC h1 h2 h3 h4 hR hZ hk1 hk2 hW hS hl)
end PURE
