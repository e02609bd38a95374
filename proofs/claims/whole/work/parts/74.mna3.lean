/-! ===== multianewarray: the condition ===== -/
theorem wlP_iff {D : va_G} {cl : List vw_C} {ca : Nat → ClassId} {G : aG} {M : aM} {H : Heap} : va_P D cl (wl ca G M) H ↔ ∀ a, a ∈ gA G → va_at D cl (a, cC ca (gT G a) (gR G a) (M a)) H := by
  constructor
  · intro h a ha
    obtain ⟨k, hk⟩ := wl_get (ca := ca) (M := M) ha
    exact h k _ hk
  · intro h k x hx
    obtain ⟨a, ha, rfl⟩ := List.mem_map.mp (List.mem_of_getElem? hx)
    exact h a ha
theorem wlD_nd {ca : Nat → ClassId} {G : aG} {M : aM} {A : Nat → Prop} (h : va_D A (wl ca G M)) : (gA G).Nodup ∧ ∀ a, a ∈ gA G → A a := by
  constructor
  · show List.Pairwise (fun a b => a ≠ b) (gA G)
    rw [List.pairwise_iff_getElem]
    intro i j hi hj hij he0
    have he : (gA G)[i]? = (gA G)[j]? := by rw [List.getElem?_eq_getElem hi, List.getElem?_eq_getElem hj, he0]
    have h1 : (wl ca G M)[j]? = some ((gA G)[j], cC ca (gT G (gA G)[j]) (gR G (gA G)[j]) (M (gA G)[j])) := by
      unfold wl va_pl
      rw [List.getElem?_map, List.getElem?_eq_getElem hj]
      rfl
    have h2 : (wl ca G M)[i]? = some ((gA G)[j], cC ca (gT G (gA G)[j]) (gR G (gA G)[j]) (M (gA G)[j])) := by
      unfold wl va_pl
      rw [List.getElem?_map, he, List.getElem?_eq_getElem hj]
      rfl
    have := h.1 i j _ _ h2 h1 rfl
    omega
  · intro a ha
    obtain ⟨k, hk⟩ := wl_get (ca := ca) (M := M) ha
    exact h.2 k _ hk
theorem wlD_of {ca : Nat → ClassId} {G : aG} {M : aM} {A : Nat → Prop} (h1 : (gA G).Nodup) (h2 : ∀ a, a ∈ gA G → A a) : va_D A (wl ca G M) := by
  constructor
  · intro i j x y hi hj hxy
    unfold wl va_pl at hi hj
    rw [List.getElem?_map] at hi hj
    obtain ⟨a, ha, rfl⟩ := Option.map_eq_some_iff.mp hi
    obtain ⟨b, hb, rfl⟩ := Option.map_eq_some_iff.mp hj
    have e : a = b := hxy
    subst e
    exact (List.getElem?_inj (List.getElem?_eq_some_iff.mp ha).1 h1).mp (ha.trans hb.symm)
  · intro k x hx
    obtain ⟨a, ha, rfl⟩ := List.mem_map.mp (List.mem_of_getElem? hx)
    exact h2 a ha
theorem mna_nd {L : List Nat} {z : Nat} (h : L.Nodup) (hl : ∀ a, a ∈ L → a < z) : (L ++ z :: (List.range 6).map (fun i => z + 1 + i)).Nodup := by
  rw [List.nodup_append]
  refine ⟨h, ?_, ?_⟩
  · rw [List.nodup_cons]
    refine ⟨fun q => ?_, ?_⟩
    · obtain ⟨i, _, hi⟩ := List.mem_map.mp q
      omega
    · show [z + 1 + 0, z + 1 + 1, z + 1 + 2, z + 1 + 3, z + 1 + 4, z + 1 + 5].Nodup
      simp only [List.nodup_cons, List.mem_cons, List.not_mem_nil, or_false, not_or, List.nodup_nil, and_true, not_false_eq_true]
      omega
  · intro a ha b hb e
    subst e
    have := hl a ha
    rcases List.mem_cons.mp hb with e | e
    · omega
    · obtain ⟨i, _, hi⟩ := List.mem_map.mp e
      omega
section MNA
variable {Γ : aR} {ρ κ pc : Nat} {L S : List aV} {G : aG} {M : aM} {Q : aQ}
theorem WP_mna (hd : decode (mC 29) pc = .ok (.multianewarray 22 2, 4)) (hκ : 7 ≤ κ) (h : ∀ (q : Nat) (r : Nat → Nat), q ∉ gA G → (∀ i, i < 6 → r i ∉ gA G ∧ r i ≠ q) → (∀ i j, i < 6 → j < 6 → r i = r j → i = j) → WP Γ ρ (κ - 7) 29 (pc + 4) L (vR (some q) :: S) (gNN G q r 6 32) (mNN M q r 6) Q) : WP Γ ρ κ 29 pc L (vI 32 :: vI 6 :: S) G M Q := by
  intro p l e R s m args below meth c D ca A Z K Ks H locs cells slots ls hC hρ hloc hK hKs hR hret hcells hslots hW hS hl
  have hlt : ∀ a, a ∈ gA G → a < H.size := fun a ha => by
    have := wlP_iff.mp hW.1 a ha
    exact va_at.lt this
  have hq : H.size ∉ gA G := fun q => Nat.lt_irrefl _ (hlt _ q)
  have hrn : ∀ i, i < 6 → H.size + 1 + i ∉ gA G ∧ H.size + 1 + i ≠ H.size := fun i _ => ⟨fun q => by have := hlt _ q; omega, by omega⟩
  have h' := h H.size (fun i => H.size + 1 + i) hq hrn (fun i j _ _ e => by omega)
  have n5 := (hR.1.2 5 (ca 5, .array .int) rfl).2
  have n0 := (hR.1.2 0 (ca 0, .int) rfl).2
  refine mq_W (av := #[]) hC.1 hC.2.1 hC.2.2.2.1 (hC.2.2.2.2.1 _ (aE_g (mO 29, 22) (by decide))) hC.2.2.2.2.2.2.2.2.1 (hC.2.2.2.2.1 _ rE_int) (by omega) (by omega) hS.1 hd (fun cA cI kA H1 hcA hcI hkA hkind hsz hold hout hrow => ?_)
  have eA : ca 5 = cA := Option.some.inj (n5.symm.trans hcA)
  have eI : ca 0 = cI := Option.some.inj (n0.symm.trans hcI)
  subst eA
  subst eI
  refine h' p l e R s m args below meth c D ca A Z K Ks H1 locs (cells + 7) (slots + 198) ls hC hρ hloc hK hKs hR hret (by omega) (by omega) ⟨?_, ?_⟩ ⟨by have := hS.1; omega, fun x h1 h2 => (hold x (Nat.lt_of_lt_of_le h1 hS.1)).trans (hS.2.1 x h1 h2), hS.2.2⟩ hl
  · rw [wlP_iff]
    intro a ha
    have ha : a ∈ gA G ++ H.size :: (List.range 6).map (fun i => H.size + 1 + i) := ha
    rcases List.mem_append.mp ha with ha | ha
    · have h1 := hlt a ha
      have e1 : a ≠ H.size := by omega
      have e2 : a ∉ (List.range 6).map (fun i => H.size + 1 + i) := fun q => by
        obtain ⟨i, _, hi⟩ := List.mem_map.mp q
        omega
      have t1 : gT (gNN G H.size (fun i => H.size + 1 + i) 6 32) a = gT G a := by
        show (if a = H.size then _ else if a ∈ _ then _ else G.2.1 a) = _
        rw [if_neg e1, if_neg e2]
        rfl
      have t2 : gR (gNN G H.size (fun i => H.size + 1 + i) 6 32) a = gR G a := by
        show (if a = H.size then _ else if a ∈ _ then _ else G.2.2 a) = _
        rw [if_neg e1, if_neg e2]
        rfl
      have t3 : mNN M H.size (fun i => H.size + 1 + i) 6 a = M a := by
        show (if a = H.size ∨ a ∈ _ then _ else M a) = _
        rw [if_neg (fun q => by rcases q with q | q; exact e1 q; exact e2 q)]
      rw [t1, t2, t3]
      exact (wlP_iff.mp hW.1 a ha).kept (hold a h1)
    · rcases List.mem_cons.mp ha with rfl | ha
      · have t1 : gT (gNN G H.size (fun i => H.size + 1 + i) 6 32) H.size = .inr (5, 6) := by
          show (if H.size = H.size then _ else _) = _
          rw [if_pos rfl]
        have t2 : gR (gNN G H.size (fun i => H.size + 1 + i) 6 32) H.size = fun j => if j < 6 then some (H.size + 1 + j) else none := by
          show (if H.size = H.size then _ else _) = _
          rw [if_pos rfl]
        rw [t1, t2]
        show H1[H.size]? = some (vp_cell (ca 5) (6, .inr (.inr (.inr (.inr (fun j => if j < 6 then some (H.size + 1 + j) else none))))))
        rw [hout, vp_cell_q]
        congr 2
        funext j
        unfold mqV
        by_cases hj : j < 6
        · rw [if_pos hj, if_pos hj]
          rfl
        · rw [if_neg hj, if_neg hj]
          rfl
      · obtain ⟨i, hi, rfl⟩ := List.mem_map.mp ha
        have hi6 : i < 6 := List.mem_range.mp hi
        have e1 : ¬ H.size + 1 + i = H.size := by omega
        have t1 : gT (gNN G H.size (fun i => H.size + 1 + i) 6 32) (H.size + 1 + i) = .inr (0, 32) := by
          show (if H.size + 1 + i = H.size then _ else if H.size + 1 + i ∈ (List.range 6).map (fun i => H.size + 1 + i) then _ else _) = _
          rw [if_neg e1, if_pos ha]
        have t3 : mNN M H.size (fun i => H.size + 1 + i) 6 (H.size + 1 + i) = fun _ => 0 := by
          show (if H.size + 1 + i = H.size ∨ H.size + 1 + i ∈ (List.range 6).map (fun i => H.size + 1 + i) then _ else _) = _
          rw [if_pos (.inr ha)]
        rw [t1, t3]
        show H1[H.size + 1 + i]? = some (vp_cell (ca 0) (32, .inl (fun j => Int32.ofInt 0)))
        rw [hrow i hi6, vp_cell_i]
        rfl
  · have nd := wlD_nd hW.2
    refine wlD_of (mna_nd nd.1 hlt) (fun a ha => ?_)
    have ha : a ∈ gA G ++ H.size :: (List.range 6).map (fun i => H.size + 1 + i) := ha
    have hA := hC.2.2.2.2.2.2.1
    have hs1 := hS.1
    rcases List.mem_append.mp ha with ha | ha
    · exact nd.2 a ha
    · rcases List.mem_cons.mp ha with rfl | ha
      · exact hA _ hs1
      · obtain ⟨i, hi, rfl⟩ := List.mem_map.mp ha
        exact hA _ (by omega)
end MNA
