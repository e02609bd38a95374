/-! ===== calls; every step; blocks ===== -/
def fl (av : List aV) : List aV := av.flatMap (fun v => match v with | .inr (.inl x) => [vL x, vJ] | w => [w])
theorem fl_len : ∀ av : List aV, (lg_sl (av.map cV)).length = (fl av).length := by
  intro av
  induction av with
  | nil => rfl
  | cons v av ih =>
    match v with
    | .inl x => exact congrArg (· + 1) ih
    | .inr (.inl x) => exact congrArg (· + 2) ih
    | .inr (.inr (.inl none)) => exact congrArg (· + 1) ih
    | .inr (.inr (.inl (some x))) => exact congrArg (· + 1) ih
    | .inr (.inr (.inr ())) => exact congrArg (· + 1) ih
theorem mY_at {i : Nat} (h : i < 147) : plainFor (mY i) = true ∧ (mY i).cls = cN (mO i) ∧ (mKd i = 2 → (mY i).name = "<init>") ∧ ((mY i).cls ≠ "java/lang/invoke/MethodHandle" ∧ (mY i).cls ≠ "java/lang/invoke/VarHandle" ∧ (parseMethodDescriptor (mY i).desc).map (fun d => d.parameters.length) = some (mA i)) ∧ mN i ≤ 40 ∧ mO i ∈ zE ∧ i ∈ mcE ∧ (mKd i ≠ 1 → i ∈ miE ∧ mO i < 11) ∧ (mKd i = 0 → i ∈ mvE) ∧ (mKd i = 1 → i ∈ msE) ∧ (mKd i = 2 → mR i = none) := by
  have h1 := List.all_eq_true.mp mY_ok i (List.mem_range.mpr h)
  simp only [Bool.and_eq_true, Bool.or_eq_true, beq_iff_eq, bne_iff_ne, decide_eq_true_eq, List.contains_iff_mem] at h1
  obtain ⟨⟨⟨⟨⟨⟨⟨⟨⟨⟨⟨⟨⟨a1, a2⟩, a3⟩, a4⟩, a5⟩, a6⟩, a7⟩, a8⟩, a9⟩, a10⟩, a11⟩, a12⟩, a13⟩, a14⟩ := h1
  exact ⟨a1, a2, fun q => a3.resolve_left (fun z => z q), ⟨a4, a5, a6⟩, a7, by simp only [zE, List.mem_cons, List.not_mem_nil, or_false]; omega, a9, fun q => ⟨a10.resolve_left q, a13.resolve_left q⟩, fun q => a11.resolve_left (fun z => z q), fun q => a12.resolve_left (fun z => z q), fun q => a14.resolve_left (fun z => z q)⟩
theorem mE_at {q : Nat × Nat × Nat × Nat} (h : q ∈ mE) : q.2.2.2 < 147 ∧ mKd q.2.2.2 = q.2.2.1 := by
  have h1 := List.all_eq_true.mp mE_ok q h
  simp only [Bool.and_eq_true, beq_iff_eq, decide_eq_true_eq] at h1
  exact h1
theorem nE_at {q : Nat × Nat × Nat × Nat} (h : q ∈ nE) : q.2.2.2 < 147 ∧ mKd q.2.2.2 = 2 := by
  have h1 := List.all_eq_true.mp nE_ok q h
  simp only [Bool.and_eq_true, beq_iff_eq, decide_eq_true_eq] at h1
  exact h1
section STEP
variable {Γ : aR} {ρ κ mi pc pc' len a b d : Nat} {c : Int} {t : List (Int × Nat)} {L L' S S' : List aV} {G G' : aG} {M M' : aM} {Q : aQ} {k : aK}
theorem WPm_of {av : List aV} (r : Nat) (hi : mi < 147) (hlen : (fl av).length + r ≤ mN mi) (hL : fl av ++ List.replicate r vJ = L) (h : WP Γ ρ κ mi 0 L [] G M Q) : WPm Γ ρ κ mi av G M Q := by
  intro l D ca sz
  obtain ⟨b1, b2, b3, b4, b5, b6, b7, b8, b9, b10, b11⟩ := mY_at hi
  refine va_MetF (cc := mC mi) (maxL := mN mi) (ret := mR mi) b1 rfl ?_
  intro p e s m args below meth c s₁ B hml hv
  obtain ⟨rfl, hsz, hW, hR, hF⟩ := hv
  have hts := atoms_spec (ws := mW mi) B.pre
  have hown : s.vm.findClass (mY mi).cls = some m.cls := findClass_of_methodNamed B.named
  subst hsz
  have hl := lv_entry (av.map cV) (n := mN mi) (by rw [fl_len]; omega)
  rw [lg_entry_eq]
  have hl2 : lHas ((lg_sl (av.map cV) ++ List.replicate (mN mi - (lg_sl (av.map cV)).length) Slot.unset).toArray) (mN mi) L := by
    subst hL
    refine ⟨⟨hl.1, hl.2.1, fun q hq => hl.2.2 q ?_⟩, by rw [List.length_append, List.length_replicate]; exact hlen⟩
    obtain ⟨i, v, h1, h2, rfl⟩ := (lvL_mem _ 0 q).mp hq
    by_cases hi2 : i < (fl av).length
    · rw [List.getElem?_append_left hi2] at h1
      exact argL_mem av 0 _ ((lvL_mem (fl av) 0 _).mpr ⟨i, v, h1, h2, rfl⟩)
    · rw [List.getElem?_append_right (by omega)] at h1
      exact absurd (List.eq_of_mem_replicate (List.mem_of_getElem? h1)) h2
  refine h p l e _ s m _ below meth c D ca (va_A (wl ca G M) s.heap.size) (MQ below (QcM D ca G M s.heap.size Q) _ s κ (1100 * κ) (va_A (wl ca G M) s.heap.size)) κ (1100 * κ) s.heap [] 0 0 _ ⟨B.exec, B.bytes, hml, by rw [← b2]; exact hown, fun w hw => hts w (List.mem_cons_of_mem _ hw), fun q => (name_of_methodNamed B.named B.method).1.trans (b3 q), fun q hq => Or.inr hq, hF⟩ (Nat.le_refl _) (Nat.le_refl _) (Nat.le_refl _) (Nat.le_refl _) hR ?_ (by omega) (by omega) ⟨hW.1, hW.2.self⟩ va_S.rf hl2
  intro pc' ls' H' locs' r' G' M' hret hq hW' hS'
  have hr := B.returns
  have hlocks := B.notSynchronized
  match r', hret with
  | none, hret => exact W.vret B.exec B.bytes (hr.trans hret.2) (fun t ht hw => ⟨⟨none, G', M', rfl, hq, by rw [ht]; exact hW'⟩, hS'.F ht⟩) hS'.2.2 hret.1
  | some (.inl x), hret =>
    rcases hret.2 with h9 | ⟨h9, h8⟩
    · exact W.iret B.exec B.bytes (hr.trans h9) (fun t ht hw => ⟨⟨some (vI x), G', M', rfl, hq, by rw [ht]; exact hW'⟩, hS'.F ht⟩) hS'.2.2 hret.1
    · exact W.zret B.exec B.bytes (hr.trans h9) (by rcases h8 with rfl | rfl <;> rfl) (fun t ht hw => ⟨⟨some (vI x), G', M', rfl, hq, by rw [ht]; exact hW'⟩, hS'.F ht⟩) hS'.2.2 hret.1
  | some (.inr (.inl x)), hret => exact W.lret B.exec B.bytes (hr.trans hret.2) (fun t ht hw => ⟨⟨some (vL x), G', M', rfl, hq, by rw [ht]; exact hW'⟩, hS'.F ht⟩) hS'.2.2 hret.1
theorem cat_sum : ∀ S : List aV, ((S.map cV).map (fun v => v.category)).sum ≤ 2 * S.length := by
  intro S
  induction S with
  | nil => exact Nat.le_refl _
  | cons v S ih =>
    have h1 : (cV v).category ≤ 2 := by
      match v with
      | .inl x => exact Nat.le_of_ble_eq_true rfl
      | .inr (.inl x) => exact Nat.le_of_ble_eq_true rfl
      | .inr (.inr (.inl none)) => exact Nat.le_of_ble_eq_true rfl
      | .inr (.inr (.inl (some x))) => exact Nat.le_of_ble_eq_true rfl
      | .inr (.inr (.inr ())) => exact Nat.le_of_ble_eq_true rfl
    simp only [List.map_cons, List.sum_cons, List.length_cons]
    omega
theorem S_split {r : Nat} {S1 : List aV} (h : (S.take b).reverse = vR (some r) :: S1) : S.map cV = (S1.map cV).reverse ++ Value.ref r :: (S.drop b).map cV := by
  have h1 : S.take b = S1.reverse ++ [vR (some r)] := by
    have := congrArg List.reverse h
    rw [List.reverse_reverse, List.reverse_cons] at this
    exact this
  have h2 : S.map cV = (S.take b).map cV ++ (S.drop b).map cV := by rw [← List.map_append, List.take_append_drop]
  rw [h2, h1]
  simp [cV, va_rf]
theorem S_splitS : S.map cV = (((S.take b).reverse).map cV).reverse ++ (S.drop b).map cV := by
  rw [← List.map_reverse, List.reverse_reverse, ← List.map_append, List.take_append_drop]
theorem v_app (v : Option aV) (S : List aV) : (v.map cV).toList ++ S.map cV = (v.toList ++ S).map cV := by cases v <;> simp
theorem callB_at {R : Room} {s : State} {args : Array Value} {x ρ' κ1 kd : Nat} (hts : ∀ w ∈ lw_g, w.before args s = true) (he : (mO mi, x, kd, a) ∈ mE) (h1 : ρ' + 1 ≤ R.frames) (h2 : 64 * (ρ' + 1) ≤ R.locals) : CallB R s args (cN (mO mi)) x (mY a) (mC a) (mN a) (mR a) (mW a) (rmM ρ' κ1) κ1 (1100 * κ1) (mA a) := by
  obtain ⟨hi, hkd⟩ := mE_at he
  obtain ⟨b1, b2, b3, b4, b5, b6, b7, b8, b9, b10, b11⟩ := mY_at hi
  exact callB_of (mA a) hts (mW_good b7) rfl rfl rfl (hts _ (by rw [b2]; exact zE_g _ b6)) (hts _ (mE_g _ he)) b4 ⟨h1, by show 8 + (mN a + 11) + 64 * ρ' ≤ R.locals; have : mN a ≤ 40 := b5; omega⟩
theorem callN_at {R : Room} {s : State} {args : Array Value} {x ρ' κ1 kd : Nat} (hts : ∀ w ∈ lw_g, w.before args s = true) (hF : SF s) (he : (mO mi, x, kd, a) ∈ nE) (h1 : ρ' + 1 ≤ R.frames) (h2 : 64 * (ρ' + 1) ≤ R.locals) : va_CN R s args (cN (mO mi)) x (mY a) RX9 (mC a) (mN a) (mR a) (mW a) (rmM ρ' κ1) κ1 (1100 * κ1) (mA a) := by
  obtain ⟨hi, hkd⟩ := nE_at he
  obtain ⟨b1, b2, b3, b4, b5, b6, b7, b8, b9, b10, b11⟩ := mY_at hi
  have hl := hF.2.2 _ he
  exact va_cnB (mA a) hts (mW_good b7) rfl rfl rfl hl (hts _ (by rw [b2]; exact zE_g _ b6)) b4 ⟨h1, by show 8 + (mN a + 11) + 64 * ρ' ≤ R.locals; have : mN a ≤ 40 := b5; omega⟩
theorem K_invokevirtual {x : Nat} (hd : decode (mC mi) pc = .ok (.invokevirtual x, len)) (ho : okE mi pc (.invokevirtual x) len a b d c t = true) (h : step Γ ρ mi Q (.invokevirtual x) a b d c t κ L S G M k) (hk : KK Γ ρ mi Q k (pc + len)) : WP Γ ρ κ mi pc L S G M Q := by
  simp only [okE, Bool.and_eq_true, beq_iff_eq, List.contains_iff_mem] at ho
  obtain ⟨⟨⟨rfl, he⟩, rfl⟩, rfl⟩ := ho
  obtain ⟨hρ, hlen1, hlen2, hrecv, hm⟩ := h
  obtain ⟨r, S1, hS1, hobj⟩ := pA_inv hrecv
  obtain ⟨hi, hkd⟩ := mE_at he
  have hkd : mKd a = 0 := hkd
  obtain ⟨b1, b2, b3, b4, b5, b6, b7, b8, b9, b10, b11⟩ := mY_at hi
  have hn : S1.length = mA a := by
    have := congrArg List.length hS1
    rw [List.length_reverse, List.length_take, List.length_cons] at this
    omega
  rw [hS1] at hm
  intro p l e R s m args below meth c' D ca A Z K Ks H locs cells slots ls hC h1 h2 h3 h4 hR hZ hk1 hk2 hW hS hl
  obtain ⟨k0, hk0⟩ := wl_get (ca := ca) (M := M) hobj.1
  rw [hobj.2] at hk0
  obtain ⟨o1, -⟩ := cOk_all (mO a) (b8 (by rw [hkd]; exact Nat.noConfusion)).2
  have hrv := va_recv hR.1 hW.1 o1 hk0
  refine call_go hW hS hC.2.2.2.2.2.2.1 (va_runV (As := S1.map cV) (rest := (S.drop (mA a + 1)).map cV) (b := r) (C := (mY a).cls) ⟨hC.1, hC.2.1, hC.2.2.1, hC.2.2.2.1, hC.2.2.2.2.1⟩ (hm l D ca H.size) ⟨callB_at hC.2.2.2.2.1 he (by omega) (by omega), hC.2.2.2.2.1 _ (miE_g _ (b8 (by rw [hkd]; exact Nat.noConfusion)).1), hC.2.2.2.2.1 _ (mvE_g _ (b9 hkd))⟩ ⟨PcM_blind, by rw [b2]; exact hrv, PcM_at (av := vR (some r) :: S1) hC hR hW hS⟩ rfl (by rw [List.length_map]; exact hn) hl.1.1 (S_split hS1) ?_ hd ⟨by omega, by omega⟩) (fun v G' M' H1 locs1 hq hW1 hS1' => ?_)
  · refine lv_room (pc := pc) (ls := ls) (rest := []) (m := m) ?_
    have := cat_sum (S.drop (mA a + 1))
    rw [List.length_drop] at this
    omega
  · rw [v_app]
    exact hk _ _ _ _ _ hq p l e R s m args below meth c' D ca A Z K Ks H1 locs1 _ _ ls hC h1 h2 h3 h4 hR hZ (by omega) (by omega) hW1 hS1' hl
theorem K_invokestatic {x : Nat} (hd : decode (mC mi) pc = .ok (.invokestatic x, len)) (ho : okE mi pc (.invokestatic x) len a b d c t = true) (h : step Γ ρ mi Q (.invokestatic x) a b d c t κ L S G M k) (hk : KK Γ ρ mi Q k (pc + len)) : WP Γ ρ κ mi pc L S G M Q := by
  simp only [okE, Bool.and_eq_true, Bool.or_eq_true, beq_iff_eq, List.contains_iff_mem] at ho
  obtain ⟨rfl, ⟨⟨rfl, he⟩, rfl⟩ | ⟨rfl, he⟩⟩ := ho
  · obtain ⟨hρ, hlen1, hlen2, hm⟩ := h
    obtain ⟨hi, hkd⟩ := mE_at he
    have hkd : mKd a = 1 := hkd
    obtain ⟨b1, b2, b3, b4, b5, b6, b7, b8, b9, b10, b11⟩ := mY_at hi
    intro p l e R s m args below meth c' D ca A Z K Ks H locs cells slots ls hC h1 h2 h3 h4 hR hZ hk1 hk2 hW hS hl
    refine call_go hW hS hC.2.2.2.2.2.2.1 (va_runS (As := ((S.take (mA a)).reverse).map cV) (rest := (S.drop (mA a)).map cV) ⟨hC.1, hC.2.1, hC.2.2.1, hC.2.2.2.1, hC.2.2.2.2.1⟩ (hm l D ca H.size) ⟨callB_at hC.2.2.2.2.1 he (by omega) (by omega), hC.2.2.2.2.1 _ (msE_g _ (b10 hkd))⟩ ⟨PcM_blind, PcM_at hC hR hW hS⟩ rfl (by rw [List.length_map, List.length_reverse, List.length_take]; omega) hl.1.1 S_splitS ?_ hd ⟨by omega, by omega⟩) (fun v G' M' H1 locs1 hq hW1 hS1' => ?_)
    · refine lv_room (pc := pc) (ls := ls) (rest := []) (m := m) ?_
      have := cat_sum (S.drop (mA a))
      rw [List.length_drop] at this
      omega
    · rw [v_app]
      exact hk _ _ _ _ _ hq p l e R s m args below meth c' D ca A Z K Ks H1 locs1 _ _ ls hC h1 h2 h3 h4 hR hZ (by omega) (by omega) hW1 hS1' hl
  · obtain ⟨hρ, h10⟩ := h
    obtain ⟨n, S1, rfl, h11⟩ := pI_inv h10
    obtain ⟨dp, S2, rfl, h12⟩ := pI_inv h11
    obtain ⟨q, S3, rfl, h13⟩ := pA_inv h12
    obtain ⟨sp, S4, rfl, h14⟩ := pI_inv h13
    obtain ⟨r, S5, rfl, hl5, ⟨n0, n1, ⟨ra, rT⟩, ⟨qa, qT⟩, e1, e2, e3, e4, e5⟩, h⟩ := pA_inv h14
    have ng : ∀ z : Int, 0 ≤ w32 z → ¬ Int32.ofInt z < 0 := fun z hz h9 => by
      have := (o32_lt z 0).mp h9
      have e0 : w32 0 = 0 := by rw [w32_eq]; rfl
      omega
    refine WP_wr (fun {p l e R s m args below meth c' D ca A Z H locs cells slots ls} hC hR hW hS hsz hF1 hF2 w => ?_) (hk _ _ _ _ _ h)
    obtain ⟨k0, hk0⟩ := wl_get (ca := ca) (M := M) ra
    obtain ⟨k1, hk1⟩ := wl_get (ca := ca) (M := M) qa
    have hk2 := hk1
    rw [rT] at hk0
    rw [qT] at hk2
    refine va_copyi (ty := .int) hC.1 hC.2.1 (hC.2.2.1.trans hsz.symm) hC.2.2.2.1 (hC.2.2.2.2.1 _ (yE_g _ he)) (hC.2.2.2.2.1 _ yE_1) (hC.2.2.2.2.1 _ yE_2) (hC.2.2.2.2.1 _ (zE_g 14 (by decide))) hR.1 hW.1 hW.2 hS k0 k1 0 0 hk0 hk2 rfl rfl rfl (ng sp e1) (ng dp e2) (ng n e3) (by rw [o32_cl, o32_cl]; omega) (by rw [o32_cl, o32_cl]; omega) (fun _ _ => rfl) (by omega) ?_ hd (fun H1 locs1 hP1 hD1 hS1 => ?_)
    · have := cat_sum S5
      have e9 : nativeFrameWords "java/lang/System" "arraycopy" 5 = 7 := by decide
      rw [e9]
      omega
    · rw [o32_cl, o32_cl, o32_cl, wl_up (G' := G) (M' := va_up M q (va_cpy (M r) (M q) (w32 sp).toNat (w32 dp).toNat (w32 n).toNat)) hW.2 qa hk1 rfl (by
          rw [qT, va_up_self]
          show Sum.inl (ca 0, n1, Sum.inl (fun j => Int32.ofInt (va_cpy (M r) (M q) (w32 sp).toNat (w32 dp).toNat (w32 n).toNat j))) = _
          congr 3
          congr 1
          funext j
          unfold va_cpy
          split <;> rfl) (fun b hb => by rw [va_up_ne _ _ hb])] at hP1 hD1
      exact w H1 locs1 ⟨hP1, hD1⟩ hS1
theorem K_invokespecial {x : Nat} (hd : decode (mC mi) pc = .ok (.invokespecial x, len)) (ho : okE mi pc (.invokespecial x) len a b d c t = true) (h : step Γ ρ mi Q (.invokespecial x) a b d c t κ L S G M k) (hk : KK Γ ρ mi Q k (pc + len)) : WP Γ ρ κ mi pc L S G M Q := by
  simp only [okE, Bool.and_eq_true, Bool.or_eq_true, beq_iff_eq, List.contains_iff_mem] at ho
  obtain ⟨rfl, ⟨rfl, he⟩ | ⟨⟨rfl, rfl⟩, he⟩⟩ := ho
  · obtain ⟨hρ, h⟩ := h
    obtain ⟨r, S', rfl, hl4, h⟩ := pA_inv h
    refine WP_wr (fun {p l e R s m args below meth c' D ca A Z H locs cells slots ls} hC hR hW hS hsz hF1 hF2 w => ?_) (hk _ _ _ _ _ h)
    refine W.objInit hC.1 hC.2.1 hC.2.2.2.1 (hC.2.2.2.2.1 _ (oE_g _ he)) (hC.2.2.2.2.1 _ oE_1) (hC.2.2.2.2.1 _ oE_2) rfl (by rw [hC.2.2.1]; exact hsz) rfl hd (by omega) ?_ (w H locs hW hS)
    show 2 * 0 + _ + 12 ≤ _
    have := cat_sum S'
    omega
  · obtain ⟨hρ, hκ, hlen1, hlen2, hrecv, hm⟩ := h
    generalize c.toNat = κ1 at hκ hm
    obtain ⟨r, S1, hS1, hobj⟩ := pA_inv hrecv
    have hobj : isObj G r (mO a) := hobj
    obtain ⟨hi, hkd⟩ : a < 147 ∧ mKd a = 2 := by
      rcases he with he | he
      · exact mE_at he
      · exact nE_at he
    obtain ⟨b1, b2, b3, b4, b5, b6, b7, b8, b9, b10, b11⟩ := mY_at hi
    have hn : S1.length = mA a := by
      have := congrArg List.length hS1
      rw [List.length_reverse, List.length_take, List.length_cons] at this
      omega
    rw [hS1] at hm
    intro p l e R s m args below meth c' D ca A Z K Ks H locs cells slots ls hC h1 h2 h3 h4 hR hZ hk1 hk2 hW hS hl
    have hroom : 2 * (F0 m pc ls (S.map cV)).monitorRoom + (((S.drop (mA a + 1)).map cV).map fun v => v.category).sum ≤ 8 := by
      refine lv_room (pc := pc) (ls := ls) (rest := S.map cV) (m := m) ?_
      have := cat_sum (S.drop (mA a + 1))
      rw [List.length_drop] at this
      omega
    have hrun : va_Run p l e R s m args below meth c' H locs cells slots κ1 (1100 * κ1) (F0 m pc ls (S.map cV)) ((S.drop (mA a + 1)).map cV) (QcM D ca G M H.size (fun v G' M' => k (κ - κ1) L (v.toList ++ S.drop (mA a + 1)) G' M') (Value.ref r :: S1.map cV).toArray) (va_A (wl ca G M) H.size) := by
      rcases he with he | he
      · have cb := callB_at (R := R) (s := s) (args := args) (ρ' := ρ - 1) (κ1 := κ1) hC.2.2.2.2.1 he (by omega) (by omega)
        rw [b11 hkd] at cb
        exact va_runI (As := S1.map cV) (b := r) ⟨hC.1, hC.2.1, hC.2.2.1, hC.2.2.2.1, hC.2.2.2.2.1⟩ (hm l D ca H.size) ⟨cb, b3 hkd, hC.2.2.2.2.1 _ (miE_g _ (b8 (by rw [hkd]; decide)).1)⟩ ⟨PcM_blind, PcM_at (av := vR (some r) :: S1) hC hR hW hS⟩ rfl (by rw [List.length_map]; exact hn) hl.1.1 (S_split hS1) hroom hd ⟨by omega, by omega⟩
      · have cb := callN_at (R := R) (s := s) (args := args) (ρ' := ρ - 1) (κ1 := κ1) hC.2.2.2.2.1 hC.2.2.2.2.2.2.2 he (by omega) (by omega)
        rw [b11 hkd] at cb
        exact va_runIN (As := S1.map cV) (b := r) ⟨hC.1, hC.2.1, hC.2.2.1, hC.2.2.2.1, hC.2.2.2.2.1⟩ (hm l D ca H.size) ⟨cb, b3 hkd, hC.2.2.2.2.1 _ (miE_g _ (b8 (by rw [hkd]; decide)).1)⟩ ⟨PcM_blind, PcM_at (av := vR (some r) :: S1) hC hR hW hS⟩ rfl (by rw [List.length_map]; exact hn) hl.1.1 (S_split hS1) hroom hd ⟨by omega, by omega⟩
    refine call_go hW hS hC.2.2.2.2.2.2.1 hrun (fun v G' M' H1 locs1 hq hW1 hS1' => ?_)
    rw [v_app]
    exact hk _ _ _ _ _ hq p l e R s m args below meth c' D ca A Z K Ks H1 locs1 _ _ ls hC h1 h2 h3 h4 hR hZ (by omega) (by omega) hW1 hS1' hl
end STEP
