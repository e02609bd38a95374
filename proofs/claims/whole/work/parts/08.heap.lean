/-! ===== steps that read or write the world ===== -/
theorem o_upd (f : Nat → Int) (j : Nat) (x : Int) : (fun i => Int32.ofInt (va_up f j x i)) = upd (fun i => Int32.ofInt (f i)) j (Int32.ofInt x) := by
  funext i
  unfold va_up upd
  split <;> rfl
theorem o_updL (f : Nat → Int) (j : Nat) (x : Int) : (fun i => Int64.ofInt (va_up f j x i)) = vp_updL (fun i => Int64.ofInt (f i)) j (Int64.ofInt x) := by
  funext i
  unfold va_up vp_updL
  split <;> rfl
theorem wr_self (M : aM) (a k : Nat) (x : Int) : wr M a k x a = va_up (M a) k x := va_up_self _ _ _
theorem wr_ne (M : aM) {a b : Nat} (k : Nat) (x : Int) (h : b ≠ a) : wr M a k x b = M b := va_up_ne _ _ h
theorem gW_A (G : aG) (a k : Nat) (r : Option Nat) : gA (gW G a k r) = gA G := rfl
theorem gW_T (G : aG) (a k : Nat) (r : Option Nat) : gT (gW G a k r) = gT G := rfl
theorem gW_self (G : aG) (a k : Nat) (r : Option Nat) : gR (gW G a k r) a = va_up (gR G a) k r := va_up_self _ _ _
theorem gW_ne (G : aG) {a b : Nat} (k : Nat) (r : Option Nat) (h : b ≠ a) : gR (gW G a k r) b = gR G b := va_up_ne _ _ h
theorem cFs_at (ci : Nat) (rf : Nat → Option Nat) (I : Nat → Int) (j : Nat) : (cFs ci rf I)[j]? = ((cK ci)[j]?).map (fun d => cF1 rf I (d, j)) := by
  unfold cFs
  rw [List.getElem?_map, List.getElem?_zipIdx, Option.map_map]
  simp only [Function.comp_def, Nat.zero_add]
theorem cFs_len (ci : Nat) (rf : Nat → Option Nat) (I : Nat → Int) : (cFs ci rf I).length = (cK ci).length := by simp [cFs]
theorem cFs_set {ci b d : Nat} {rf rf' : Nat → Option Nat} {I I' : Nat → Int} (hd : (cK ci)[b]? = some d) (h1 : ∀ j, j ≠ b → rf' j = rf j) (h2 : ∀ j, j ≠ b → I' j = I j) : (cFs ci rf I).set b (cF1 rf' I' (d, b)) = cFs ci rf' I' := by
  apply List.ext_getElem?
  intro j
  by_cases hj : j = b
  · subst hj
    rw [List.getElem?_set_self', cFs_at, cFs_at, hd]
    rfl
  · rw [List.getElem?_set_ne (Ne.symm hj), cFs_at, cFs_at]
    cases (cK ci)[j]? with
    | none => rfl
    | some d' =>
      simp only [Option.map_some, Option.some.injEq]
      unfold cF1
      simp only [h1 j hj, h2 j hj]
theorem fV_c (d : Nat) (rf : Nat → Option Nat) (I : Nat → Int) (b : Nat) : cV (fV d (I b) (rf b)) = cF1 rf I (d, b) := match d with
  | 0 => rfl
  | 1 => rfl
  | 2 => rfl
  | _ + 3 => rfl
section HEAP
variable {Γ : aR} {ρ κ mi pc pc' len a b d : Nat} {c : Int} {t : List (Int × Nat)} {L L' S S' : List aV} {G G' : aG} {M M' : aM} {Q : aQ} {k : aK}
theorem WP_rd (hs : ∀ {p : Program} {l : Launch} {e : Env} {R : Room} {s : State} {m : MethodId} {args : Array Value} {below : List Frame} {meth : Method} {c : Code} {D : va_G} {ca : Nat → ClassId} {A : Nat → Prop} {Z : State → Prop} {H : Heap} {locs : List Loc} {cells slots : Nat} {ls : Array Slot}, CX p s m args meth c mi A → Ro Γ D ca A s → Wd D ca G M A H → va_S A s.heap H locs →
      W p l e R s m args below meth c H locs cells slots Z (F0 m pc' ls (S'.map cV)) → W p l e R s m args below meth c H locs cells slots Z (F0 m pc ls (S.map cV)))
    (h : WP Γ ρ κ mi pc' L S' G M Q) : WP Γ ρ κ mi pc L S G M Q := by
  intro p l e R s m args below meth c D ca A Z K Ks H locs cells slots ls hC h1 h2 h3 h4 hR hZ hk1 hk2 hW hS hl
  exact hs hC hR hW hS (h p l e R s m args below meth c D ca A Z K Ks H locs cells slots ls hC h1 h2 h3 h4 hR hZ hk1 hk2 hW hS hl)
theorem WP_wr (hs : ∀ {p : Program} {l : Launch} {e : Env} {R : Room} {s : State} {m : MethodId} {args : Array Value} {below : List Frame} {meth : Method} {c : Code} {D : va_G} {ca : Nat → ClassId} {A : Nat → Prop} {Z : State → Prop} {H : Heap} {locs : List Loc} {cells slots : Nat} {ls : Array Slot}, CX p s m args meth c mi A → Ro Γ D ca A s → Wd D ca G M A H → va_S A s.heap H locs → ls.size = mN mi → ρ ≤ R.frames → 64 * ρ ≤ R.locals →
      (∀ H1 locs1, Wd D ca G' M' A H1 → va_S A s.heap H1 locs1 → W p l e R s m args below meth c H1 locs1 cells slots Z (F0 m pc' ls (S'.map cV))) → W p l e R s m args below meth c H locs cells slots Z (F0 m pc ls (S.map cV)))
    (h : WP Γ ρ κ mi pc' L S' G' M' Q) : WP Γ ρ κ mi pc L S G M Q := by
  intro p l e R s m args below meth c D ca A Z K Ks H locs cells slots ls hC h1 h2 h3 h4 hR hZ hk1 hk2 hW hS hl
  exact hs hC hR hW hS hl.1.1 h1 h2 (fun H1 locs1 hW1 hS1 => h p l e R s m args below meth c D ca A Z K Ks H1 locs1 cells slots ls hC h1 h2 h3 h4 hR hZ hk1 hk2 hW1 hS1 hl)
theorem K_iaload (hd : decode (mC mi) pc = .ok (.iaload, len)) (ho : okE mi pc .iaload len a b d c t = true) (h : step Γ ρ mi Q .iaload a b d c t κ L S G M k) (hk : KK Γ ρ mi Q k (pc + len)) : WP Γ ρ κ mi pc L S G M Q := by
  obtain rfl : len = 1 := by simpa [okE] using ho
  obtain ⟨j, S1, rfl, h⟩ := pI_inv h
  obtain ⟨r, S', rfl, h⟩ := pA_inv h
  match b, h with
  | 0, h =>
    obtain ⟨⟨n, ⟨ha, hT⟩, h0, h1⟩, h⟩ := h
    refine WP_rd (fun {p l e R s m args below meth c' D ca A Z H locs cells slots ls} hC hR hW hS w => ?_) (hk _ _ _ _ _ h)
    obtain ⟨k0, hk0⟩ := wl_get (ca := ca) (M := M) ha
    rw [hT] at hk0
    exact va_iald hC.1 hC.2.1 hR.1 hW.1 k0 0 hk0 rfl ((o32_in j n).mpr ⟨h0, h1⟩) hd (by rw [o32_cl]; exact w)
  | b' + 1, h =>
    obtain ⟨n, f, hm, h0, h1, h⟩ := h
    refine WP_rd (fun {p l e R s m args below meth c' D ca A Z H locs cells slots ls} hC hR hW hS w => ?_) (hk _ _ _ _ _ h)
    exact va_ti hC.1 hC.2.1 (hR.2.1 _ hm) hS ((o32_in j n).mpr ⟨h0, h1⟩) (by rw [o32_cl]; rfl) hd w
theorem K_caload (hd : decode (mC mi) pc = .ok (.caload, len)) (ho : okE mi pc .caload len a b d c t = true) (h : step Γ ρ mi Q .caload a b d c t κ L S G M k) (hk : KK Γ ρ mi Q k (pc + len)) : WP Γ ρ κ mi pc L S G M Q := by
  obtain rfl : len = 1 := by simpa [okE] using ho
  obtain ⟨j, S1, rfl, h⟩ := pI_inv h
  obtain ⟨r, S', rfl, ⟨n, ⟨ha, hT⟩, h0, h1⟩, h⟩ := pA_inv h
  refine WP_rd (fun {p l e R s m args below meth c' D ca A Z H locs cells slots ls} hC hR hW hS w => ?_) (hk _ _ _ _ _ h)
  obtain ⟨k0, hk0⟩ := wl_get (ca := ca) (M := M) ha
  rw [hT] at hk0
  exact va_cald hC.1 hC.2.1 hR.1 hW.1 k0 2 hk0 rfl ((o32_in j n).mpr ⟨h0, h1⟩) hd (by rw [o32_cl]; exact w)
theorem K_baload (hd : decode (mC mi) pc = .ok (.baload, len)) (ho : okE mi pc .baload len a b d c t = true) (h : step Γ ρ mi Q .baload a b d c t κ L S G M k) (hk : KK Γ ρ mi Q k (pc + len)) : WP Γ ρ κ mi pc L S G M Q := by
  obtain rfl : len = 1 := by simpa [okE] using ho
  obtain ⟨j, S1, rfl, h⟩ := pI_inv h
  obtain ⟨r, S', rfl, ⟨n, ⟨ha, hT⟩, h0, h1⟩, h⟩ := pA_inv h
  refine WP_rd (fun {p l e R s m args below meth c' D ca A Z H locs cells slots ls} hC hR hW hS w => ?_) (hk _ _ _ _ _ h)
  obtain ⟨k0, hk0⟩ := wl_get (ca := ca) (M := M) ha
  rw [hT] at hk0
  exact va_zald hC.1 hC.2.1 hR.1 hW.1 k0 3 hk0 rfl ((o32_in j n).mpr ⟨h0, h1⟩) hd (by rw [o32_cl]; exact w)
theorem K_laload (hd : decode (mC mi) pc = .ok (.laload, len)) (ho : okE mi pc .laload len a b d c t = true) (h : step Γ ρ mi Q .laload a b d c t κ L S G M k) (hk : KK Γ ρ mi Q k (pc + len)) : WP Γ ρ κ mi pc L S G M Q := by
  obtain rfl : len = 1 := by simpa [okE] using ho
  obtain ⟨j, S1, rfl, h⟩ := pI_inv h
  obtain ⟨r, S', rfl, ⟨n, ⟨ha, hT⟩, h0, h1⟩, h⟩ := pA_inv h
  refine WP_rd (fun {p l e R s m args below meth c' D ca A Z H locs cells slots ls} hC hR hW hS w => ?_) (hk _ _ _ _ _ h)
  obtain ⟨k0, hk0⟩ := wl_get (ca := ca) (M := M) ha
  rw [hT] at hk0
  exact va_lald hC.1 hC.2.1 hR.1 hW.1 k0 1 hk0 rfl ((o32_in j n).mpr ⟨h0, h1⟩) hd (by rw [o32_cl]; exact w)
theorem K_aaload (hd : decode (mC mi) pc = .ok (.aaload, len)) (ho : okE mi pc .aaload len a b d c t = true) (h : step Γ ρ mi Q .aaload a b d c t κ L S G M k) (hk : KK Γ ρ mi Q k (pc + len)) : WP Γ ρ κ mi pc L S G M Q := by
  simp only [okE, Bool.and_eq_true, beq_iff_eq, Bool.or_eq_true] at ho
  obtain ⟨rfl, ho⟩ := ho
  obtain ⟨j, S1, rfl, h⟩ := pI_inv h
  obtain ⟨r, S', rfl, ⟨n, ⟨ha, hT⟩, h0, h1⟩, h⟩ := pA_inv h
  refine WP_rd (fun {p l e R s m args below meth c' D ca A Z H locs cells slots ls} hC hR hW hS w => ?_) (hk _ _ _ _ _ h)
  obtain ⟨k0, hk0⟩ := wl_get (ca := ca) (M := M) ha
  rw [hT] at hk0
  rcases ho with rfl | rfl
  · exact va_aldq (C := RX4) hC.1 hC.2.1 hR.1 hW.1 k0 4 hk0 rfl ((o32_in j n).mpr ⟨h0, h1⟩) hd (by rw [o32_cl]; exact w)
  · have hin := (o32_in j n).mpr ⟨h0, h1⟩
    have hlt : (Int32.ofInt j).toNatClampNeg < n := Nat.not_le.mp fun q => hin (Or.inr q)
    refine W.aald (v := va_rf (gR G r (Int32.ofInt j).toNatClampNeg)) hC.1 hC.2.1 (hW.1 k0 _ hk0) ((hR.1.2 5 _ rfl).1 n (fun i => va_rf (gR G r i))) rfl (fun q => by cases q) (by show ¬ (_ ∨ (arrV _ _ _).slots.size ≤ _); rw [arrV_size]; exact hin) (by show (arrV _ _ _).slots[_]? = _; rw [arrV_read _ _ hlt]) rfl rfl hd ?_
    rw [o32_cl]
    exact w
theorem K_iastore (hd : decode (mC mi) pc = .ok (.iastore, len)) (ho : okE mi pc .iastore len a b d c t = true) (h : step Γ ρ mi Q .iastore a b d c t κ L S G M k) (hk : KK Γ ρ mi Q k (pc + len)) : WP Γ ρ κ mi pc L S G M Q := by
  obtain rfl : len = 1 := by simpa [okE] using ho
  obtain ⟨x, S2, rfl, h⟩ := pI_inv h
  obtain ⟨j, S1, rfl, h⟩ := pI_inv h
  obtain ⟨r, S', rfl, ⟨n, ⟨ha, hT⟩, h0, h1⟩, h⟩ := pA_inv h
  refine WP_wr (fun {p l e R s m args below meth c' D ca A Z H locs cells slots ls} hC hR hW hS _ _ _ w => ?_) (hk _ _ _ _ _ h)
  obtain ⟨k0, hk0⟩ := wl_get (ca := ca) (M := M) ha
  have hk1 := hk0
  rw [hT] at hk1
  refine va_iast hC.1 hC.2.1 hR.1 hW.1 hW.2 hS k0 0 hk1 rfl ((o32_in j n).mpr ⟨h0, h1⟩) hd (fun H1 locs1 hP1 hD1 hS1 => ?_)
  rw [o32_cl, wl_up (G' := G) (M' := wr M r (w32 j).toNat x) hW.2 ha hk0 rfl (by rw [hT, wr_self]; show Sum.inl _ = _; rw [o_upd]) (fun b hb => by rw [wr_ne _ _ _ hb])] at hP1 hD1
  exact w H1 locs1 ⟨hP1, hD1⟩ hS1
theorem K_castore (hd : decode (mC mi) pc = .ok (.castore, len)) (ho : okE mi pc .castore len a b d c t = true) (h : step Γ ρ mi Q .castore a b d c t κ L S G M k) (hk : KK Γ ρ mi Q k (pc + len)) : WP Γ ρ κ mi pc L S G M Q := by
  obtain rfl : len = 1 := by simpa [okE] using ho
  obtain ⟨x, S2, rfl, h⟩ := pI_inv h
  obtain ⟨j, S1, rfl, h⟩ := pI_inv h
  obtain ⟨r, S', rfl, ⟨n, ⟨ha, hT⟩, h0, h1⟩, h⟩ := pA_inv h
  refine WP_wr (fun {p l e R s m args below meth c' D ca A Z H locs cells slots ls} hC hR hW hS _ _ _ w => ?_) (hk _ _ _ _ _ h)
  obtain ⟨k0, hk0⟩ := wl_get (ca := ca) (M := M) ha
  have hk1 := hk0
  rw [hT] at hk1
  refine va_cast hC.1 hC.2.1 hR.1 hW.1 hW.2 hS k0 2 hk1 rfl ((o32_in j n).mpr ⟨h0, h1⟩) hd (fun H1 locs1 hP1 hD1 hS1 => ?_)
  have ec : vp_nar .char (Int32.ofInt x) = Int32.ofInt (x % 65536) := by
    rw [← o32_i2c, vp_nar_char, pk_char]
    show _ = Int32.ofNat _
    rw [← Int32.toBitVec_inj]
    simp
    apply BitVec.eq_of_toNat_eq
    simp [BitVec.toNat_umod, BitVec.toNat_ofInt]
    omega
  rw [ec, o32_cl, wl_up (G' := G) (M' := wr M r (w32 j).toNat (x % 65536)) hW.2 ha hk0 rfl (by rw [hT, wr_self]; show Sum.inl _ = _; rw [o_upd]) (fun b hb => by rw [wr_ne _ _ _ hb])] at hP1 hD1
  exact w H1 locs1 ⟨hP1, hD1⟩ hS1
theorem K_bastore (hd : decode (mC mi) pc = .ok (.bastore, len)) (ho : okE mi pc .bastore len a b d c t = true) (h : step Γ ρ mi Q .bastore a b d c t κ L S G M k) (hk : KK Γ ρ mi Q k (pc + len)) : WP Γ ρ κ mi pc L S G M Q := by
  obtain rfl : len = 1 := by simpa [okE] using ho
  obtain ⟨x, S2, rfl, h⟩ := pI_inv h
  obtain ⟨j, S1, rfl, h⟩ := pI_inv h
  obtain ⟨r, S', rfl, ⟨n, ⟨ha, hT⟩, h0, h1⟩, hx01, h⟩ := pA_inv h
  refine WP_wr (fun {p l e R s m args below meth c' D ca A Z H locs cells slots ls} hC hR hW hS _ _ _ w => ?_) (hk _ _ _ _ _ h)
  obtain ⟨k0, hk0⟩ := wl_get (ca := ca) (M := M) ha
  have hk1 := hk0
  rw [hT] at hk1
  refine va_zast hC.1 hC.2.1 hR.1 hW.1 hW.2 hS k0 3 hk1 rfl ((o32_in j n).mpr ⟨h0, h1⟩) hd (fun H1 locs1 hP1 hD1 hS1 => ?_)
  have ec : vp_nar .boolean (Int32.ofInt x) = Int32.ofInt x := by rcases hx01 with rfl | rfl <;> rfl
  rw [ec, o32_cl, wl_up (G' := G) (M' := wr M r (w32 j).toNat x) hW.2 ha hk0 rfl (by rw [hT, wr_self]; show Sum.inl _ = _; rw [o_upd]) (fun b hb => by rw [wr_ne _ _ _ hb])] at hP1 hD1
  exact w H1 locs1 ⟨hP1, hD1⟩ hS1
theorem K_lastore (hd : decode (mC mi) pc = .ok (.lastore, len)) (ho : okE mi pc .lastore len a b d c t = true) (h : step Γ ρ mi Q .lastore a b d c t κ L S G M k) (hk : KK Γ ρ mi Q k (pc + len)) : WP Γ ρ κ mi pc L S G M Q := by
  obtain rfl : len = 1 := by simpa [okE] using ho
  obtain ⟨x, S2, rfl, h⟩ := pL_inv h
  obtain ⟨j, S1, rfl, h⟩ := pI_inv h
  obtain ⟨r, S', rfl, ⟨n, ⟨ha, hT⟩, h0, h1⟩, h⟩ := pA_inv h
  refine WP_wr (fun {p l e R s m args below meth c' D ca A Z H locs cells slots ls} hC hR hW hS _ _ _ w => ?_) (hk _ _ _ _ _ h)
  obtain ⟨k0, hk0⟩ := wl_get (ca := ca) (M := M) ha
  have hk1 := hk0
  rw [hT] at hk1
  refine va_last hC.1 hC.2.1 hR.1 hW.1 hW.2 hS k0 1 hk1 rfl ((o32_in j n).mpr ⟨h0, h1⟩) hd (fun H1 locs1 hP1 hD1 hS1 => ?_)
  rw [o32_cl, wl_up (G' := G) (M' := wr M r (w32 j).toNat x) hW.2 ha hk0 rfl (by rw [hT, wr_self]; show Sum.inl _ = _; rw [o_updL]) (fun b hb => by rw [wr_ne _ _ _ hb])] at hP1 hD1
  exact w H1 locs1 ⟨hP1, hD1⟩ hS1
theorem K_aastore (hd : decode (mC mi) pc = .ok (.aastore, len)) (ho : okE mi pc .aastore len a b d c t = true) (h : step Γ ρ mi Q .aastore a b d c t κ L S G M k) (hk : KK Γ ρ mi Q k (pc + len)) : WP Γ ρ κ mi pc L S G M Q := by
  obtain rfl : len = 1 := by simpa [okE] using ho
  obtain ⟨x, S2, rfl, h⟩ := pA_inv h
  obtain ⟨j, S1, rfl, h⟩ := pI_inv h
  obtain ⟨r, S', rfl, ⟨n, ⟨ha, hT⟩, h0, h1⟩, ⟨hxa, hxT⟩, h⟩ := pA_inv h
  refine WP_wr (fun {p l e R s m args below meth c' D ca A Z H locs cells slots ls} hC hR hW hS _ _ _ w => ?_) (hk _ _ _ _ _ h)
  obtain ⟨k0, hk0⟩ := wl_get (ca := ca) (M := M) ha
  obtain ⟨k2, hk2⟩ := wl_get (ca := ca) (M := M) hxa
  have hk1 := hk0
  rw [hT] at hk1
  rw [hxT] at hk2
  refine va_astq (r := (cN 4, cT 4, cF 4)) hC.1 hC.2.1 hR.1 hW.1 hW.2 hS k0 4 k2 4 hk1 rfl hk2 rfl ((o32_in j n).mpr ⟨h0, h1⟩) hd (fun H1 locs1 hP1 hD1 hS1 => ?_)
  rw [o32_cl, wl_up (G' := gW G r (w32 j).toNat (some x)) (M' := M) hW.2 ha hk0 rfl (by rw [gW_T, hT, gW_self]; rfl) (fun b hb => by rw [gW_T, gW_ne _ _ _ hb])] at hP1 hD1
  exact w H1 locs1 ⟨hP1, hD1⟩ hS1
theorem K_arraylength (hd : decode (mC mi) pc = .ok (.arraylength, len)) (ho : okE mi pc .arraylength len a b d c t = true) (h : step Γ ρ mi Q .arraylength a b d c t κ L S G M k) (hk : KK Γ ρ mi Q k (pc + len)) : WP Γ ρ κ mi pc L S G M Q := by
  obtain rfl : len = 1 := by simpa [okE] using ho
  obtain ⟨r, S', rfl, h⟩ := pA_inv h
  match a, h with
  | 0, h =>
    obtain ⟨⟨ha, hT⟩, h⟩ := h
    refine WP_rd (fun {p l e R s m args below meth c' D ca A Z H locs cells slots ls} hC hR hW hS w => ?_) (hk _ _ _ _ _ h)
    obtain ⟨k0, hk0⟩ := wl_get (ca := ca) (M := M) ha
    rw [hT] at hk0
    match d, hk0 with
    | 0, hk0 => exact va_alen hC.1 hC.2.1 hR.1 hW.1 k0 0 hk0 (ty := .int) rfl (v := Int32.ofInt b) rfl hd w
    | 1, hk0 => exact va_alen hC.1 hC.2.1 hR.1 hW.1 k0 1 hk0 (ty := .long) rfl (v := Int32.ofInt b) rfl hd w
    | 2, hk0 => exact va_alen hC.1 hC.2.1 hR.1 hW.1 k0 2 hk0 (ty := .char) rfl (v := Int32.ofInt b) rfl hd w
    | 3, hk0 => exact va_alen hC.1 hC.2.1 hR.1 hW.1 k0 3 hk0 (ty := .boolean) rfl (v := Int32.ofInt b) rfl hd w
    | 4, hk0 => exact va_alen hC.1 hC.2.1 hR.1 hW.1 k0 4 hk0 (ty := .object RX4) rfl (v := Int32.ofInt b) rfl hd w
    | d' + 5, hk0 => exact va_alen hC.1 hC.2.1 hR.1 hW.1 k0 5 hk0 (ty := .array .int) rfl (v := Int32.ofInt b) rfl hd w
  | a' + 1, h =>
    obtain ⟨n, f, hm, h⟩ := h
    refine WP_rd (fun {p l e R s m args below meth c' D ca A Z H locs cells slots ls} hC hR hW hS w => ?_) (hk _ _ _ _ _ h)
    exact va_tlen hC.1 hC.2.1 (hR.2.1 _ hm) hS (v := Int32.ofInt n) rfl hd w
theorem K_getfield {x : Nat} (hd : decode (mC mi) pc = .ok (.getfield x, len)) (ho : okE mi pc (.getfield x) len a b d c t = true) (h : step Γ ρ mi Q (.getfield x) a b d c t κ L S G M k) (hk : KK Γ ρ mi Q k (pc + len)) : WP Γ ρ κ mi pc L S G M Q := by
  simp only [okE, Bool.and_eq_true, beq_iff_eq, List.contains_iff_mem, decide_eq_true_eq] at ho
  obtain ⟨⟨⟨⟨rfl, he⟩, ha11⟩, hbF⟩, hK⟩ := ho
  obtain ⟨r, S', rfl, ⟨ha, hT⟩, h⟩ := pA_inv h
  refine WP_rd (fun {p l e R s m args below meth c' D ca A Z H locs cells slots ls} hC hR hW hS w => ?_) (hk _ _ _ _ _ h)
  obtain ⟨k0, hk0⟩ := wl_get (ca := ca) (M := M) ha
  rw [hT] at hk0
  obtain ⟨o1, o2, o3, o4, o5⟩ := cOk_all a ha11
  refine va_get (v := cF1 (gR G r) (M r) (d, b)) hC.1 hC.2.1 hC.2.2.2.2.1 o2 hC.2.2.2.1 hR.1 hW.1 k0 hk0 o1 b hbF (hC.2.2.2.2.1 _ (fE_g _ he)) (fun _ h9 => h9) (by rw [cFs_at, hK]; rfl) hd ?_
  rw [← fV_c]
  exact w
theorem K_getstatic {x : Nat} (hd : decode (mC mi) pc = .ok (.getstatic x, len)) (ho : okE mi pc (.getstatic x) len a b d c t = true) (h : step Γ ρ mi Q (.getstatic x) a b d c t κ L S G M k) (hk : KK Γ ρ mi Q k (pc + len)) : WP Γ ρ κ mi pc L S G M Q := by
  simp only [okE, Bool.and_eq_true, beq_iff_eq, List.contains_iff_mem, decide_eq_true_eq] at ho
  obtain ⟨⟨rfl, he⟩, ha2⟩ := ho
  refine WP_rd (fun {p l e R s m args below meth c' D ca A Z H locs cells slots ls} hC hR hW hS w => ?_) (hk _ _ _ _ _ h)
  exact va_gets hC.1 hC.2.1 (hR.2.2 a ha2) hS hC.2.2.2.1 (hC.2.2.2.2.1 _ (sE_g _ he)) (fun _ h9 => h9) hd w
end HEAP
