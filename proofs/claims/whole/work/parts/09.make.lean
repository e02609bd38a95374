/-! ===== fields written, cells made, ways parted, returns ===== -/
theorem aoa_moved {u U : State} (hvm : u.vm.Alike U.vm) (h : (Cond.arrayOver (.array .int)).before #[] u = true) : (Cond.arrayOver (.array .int)).before #[] U = true := by
  simp only [Cond.before, Cond.holds, Cond.value, beq_iff_eq] at h
  cases hc : u.vm.findClass (FieldType.array .int).toString with
  | none => simp [hc] at h
  | some comp =>
    simp only [hc, Option.bind_some, Option.bind_eq_some_iff, Option.map_eq_some_iff] at h
    obtain ⟨c, hi, k, hk, hb⟩ := h
    obtain ⟨k', hk', he⟩ := hvm.2.2 _ _ hk
    have e3 : (U.vm.bare.classes.findIdx? fun (x : Class) => match x.kind with | .array component _ => component == comp | _ => false) = (u.vm.bare.classes.findIdx? fun (x : Class) => match x.kind with | .array component _ => component == comp | _ => false) := by first | rw [hvm.bare_eq] | rw [← hvm.bare_eq]
    have hi' : (U.vm.classes.findIdx? fun (x : Class) => match x.kind with | .array component _ => component == comp | _ => false) = some c := (va_idx_bare U.vm comp).symm.trans (e3.trans ((va_idx_bare u.vm comp).trans hi))
    have f1 : U.vm.findClass (FieldType.array .int).toString = some comp := by rw [hvm.findClass]; exact hc
    cases hkind : k.kind with
    | array component ty =>
      simp [hkind] at hb
      have hkk : k'.kind = .array component (.array .int) := by rw [he, ← hb.1]; exact hkind
      have f2 : U.vm.findClass ("[" ++ (FieldType.array .int).toString) = some c := by rw [hvm.findClass]; exact hb.2
      unfold Cond.before Cond.holds
      simp only [Cond.value]
      rw [f1, Option.bind_some]
      refine (congrArg (fun o : Option Nat => (o.bind (fun c => (U.vm.classes[c]?).map fun (k : Class) => match k.kind with | .array _ ty => decide (ty = FieldType.array .int) && decide (U.vm.findClass ("[" ++ (FieldType.array .int).toString) = some c) | _ => false) == some true)) hi').trans ?_
      simp [hk', hkk, f2]
    | _ => simp [hkind] at hb
theorem SF.moved {u U : State} (hvm : u.vm.Alike U.vm) (hn : ∀ q ∈ nE, va_Nw (.methodLinkNest (cN q.1) q.2.1 (mY q.2.2.2) RX9) u → va_Nw (.methodLinkNest (cN q.1) q.2.1 (mY q.2.2.2) RX9) U) (h : SF u) : SF U := ⟨va_AO.moved hvm h.1, aoa_moved hvm h.2.1, fun q hq => hn q hq (h.2.2 q hq)⟩
theorem new_ok0 (ci : Nat) (h : (List.range (cF ci)).all (fun j => decide (defaultValue (cTy ci j) = vp_V (cFs ci (fun _ => none) (fun _ => 0)) j)) = true) : ∀ j, j < cF ci → defaultValue (cTy ci j) = vp_V (cFs ci (fun _ => none) (fun _ => 0)) j := fun j hj => of_decide_eq_true (List.all_eq_true.mp h j (List.mem_range.mpr hj))
theorem new_ok : ∀ ci, ci < 11 → cF ci ≤ 1100 ∧ ∀ j, j < cF ci → defaultValue (cTy ci j) = vp_V (cFs ci (fun _ => none) (fun _ => 0)) j := fun ci h => match ci, h with
  | 0, _ => ⟨by decide, new_ok0 0 (by decide +kernel)⟩
  | 1, _ => ⟨by decide, new_ok0 1 (by decide +kernel)⟩
  | 2, _ => ⟨by decide, new_ok0 2 (by decide +kernel)⟩
  | 3, _ => ⟨by decide, new_ok0 3 (by decide +kernel)⟩
  | 4, _ => ⟨by decide, new_ok0 4 (by decide +kernel)⟩
  | 5, _ => ⟨by decide, new_ok0 5 (by decide +kernel)⟩
  | 6, _ => ⟨by decide, new_ok0 6 (by decide +kernel)⟩
  | 7, _ => ⟨by decide, new_ok0 7 (by decide +kernel)⟩
  | 8, _ => ⟨by decide, new_ok0 8 (by decide +kernel)⟩
  | 9, _ => ⟨by decide, new_ok0 9 (by decide +kernel)⟩
  | 10, _ => ⟨by decide, new_ok0 10 (by decide +kernel)⟩
  | c + 11, h => absurd h (by omega)
section MAKE
variable {Γ : aR} {ρ κ mi pc pc' len a b d : Nat} {c : Int} {t : List (Int × Nat)} {L L' S S' : List aV} {G G' : aG} {M M' : aM} {Q : aQ} {k : aK}
theorem put_core {v : aV} {x r : Nat} (he : (mO mi, x, a, b) ∈ fE) (ha11 : a < 11) (hbF : b < cF a) (hK : (cK a)[b]? = some d) (hfin : ((cT a) b).2.2.2 = false ∨ (mKd mi = 2 ∧ ((cT a) b).1 = cN (mO mi))) (hd : decode (mC mi) pc = .ok (.putfield x, 3)) (hn : narrow (cTy a b) (cV v) = cV v) (hf : fits (cTy a b) (cV v) = true) (hr : isObj G r a)
    (hA : gA G' = gA G) (hT : gT G' = gT G) (hv : cV v = cF1 (gR G' r) (M' r) (d, b)) (h1 : ∀ j, j ≠ b → gR G' r j = gR G r j) (h2 : ∀ j, j ≠ b → M' r j = M r j) (h3 : ∀ q, q ≠ r → gR G' q = gR G q ∧ M' q = M q) (h : WP Γ ρ κ mi (pc + 3) L S G' M' Q) : WP Γ ρ κ mi pc L (v :: vR (some r) :: S) G M Q := by
  refine WP_wr (fun {p l e R s m args below meth c' D ca A Z H locs cells slots ls} hC hR hW hS _ _ _ w => ?_) h
  obtain ⟨k0, hk0⟩ := wl_get (ca := ca) (M := M) hr.1
  have hk1 := hk0
  rw [hr.2] at hk1
  obtain ⟨o1, o2, o3, o4, o5⟩ := cOk_all a ha11
  have hlen : b < (cFs a (gR G r) (M r)).length := by rw [cFs_len, o5]; exact hbF
  have hset : (wl ca G M).set k0 (r, .inr (a, (cFs a (gR G r) (M r)).set b (cV v))) = wl ca G' M' := wl_up hW.2 hr.1 hk0 hA (by rw [hT, hr.2, hv, cFs_set hK h1 h2]; rfl) (fun q hq => by rw [hT, (h3 q hq).1, (h3 q hq).2])
  cases hfl : ((cT a) b).2.2.2 with
  | false =>
    refine va_put hC.1 hC.2.1 hC.2.2.2.2.1 o2 (cTy a) o3 o4 hC.2.2.2.1 hR.1 hW.1 hW.2 hS k0 hk1 o1 b hbF (hC.2.2.2.2.1 _ (fE_g _ he)) (fun _ h9 => h9) hfl (o3 b hbF) hn hf hlen hd (fun H1 locs1 hP1 hD1 hS1 => ?_)
    rw [hset] at hP1 hD1
    exact w H1 locs1 ⟨hP1, hD1⟩ hS1
  | true =>
    rcases hfin with hq | ⟨hq, hq2⟩
    · rw [hq] at hfl
      cases hfl
    · refine va_putF hC.1 hC.2.1 hC.2.2.2.2.1 o2 (cTy a) o3 o4 hC.2.2.2.1 hR.1 hW.1 hW.2 hS k0 hk1 o1 b hbF (hC.2.2.2.2.1 _ (fE_g _ he)) (fun _ h9 => h9) hfl (hC.2.2.2.2.2.1 hq) hq2 (o3 b hbF) hn hf hlen hd (fun H1 locs1 hP1 hD1 hS1 => ?_)
      rw [hset] at hP1 hD1
      exact w H1 locs1 ⟨hP1, hD1⟩ hS1
theorem fit_I {ty : FieldType} (h : ftK 0 ty = true) (x : Int32) : narrow ty (.int x) = .int x ∧ fits ty (.int x) = true := by
  cases ty <;> simp [ftK] at h
  exact ⟨rfl, rfl⟩
theorem fit_L {ty : FieldType} (h : ftK 1 ty = true) (x : Int64) : narrow ty (.long x) = .long x ∧ fits ty (.long x) = true := by
  cases ty <;> simp [ftK] at h
  exact ⟨rfl, rfl⟩
theorem fit_R {ty : FieldType} (h : ftK 2 ty = true) (r : Option Nat) : narrow ty (va_rf r) = va_rf r ∧ fits ty (va_rf r) = true := by
  cases ty <;> simp [ftK] at h <;> cases r <;> exact ⟨rfl, rfl⟩
theorem fit_Z {d : Nat} {ty : FieldType} (h : ftK (d + 3) ty = true) {x : Int} (hx : x = 0 ∨ x = 1) : narrow ty (.int (Int32.ofInt x)) = .int (Int32.ofInt x) ∧ fits ty (.int (Int32.ofInt x)) = true := by
  cases ty <;> cases d <;> simp [ftK] at h
  rcases hx with rfl | rfl <;> exact ⟨rfl, rfl⟩
theorem K_putfield {x : Nat} (hd : decode (mC mi) pc = .ok (.putfield x, len)) (ho : okE mi pc (.putfield x) len a b d c t = true) (h : step Γ ρ mi Q (.putfield x) a b d c t κ L S G M k) (hk : KK Γ ρ mi Q k (pc + len)) : WP Γ ρ κ mi pc L S G M Q := by
  simp only [okE, Bool.and_eq_true, beq_iff_eq, List.contains_iff_mem, decide_eq_true_eq, Bool.or_eq_true, Bool.not_eq_true'] at ho
  obtain ⟨⟨⟨⟨⟨⟨rfl, he⟩, ha11⟩, hbF⟩, hK⟩, hty⟩, hfin⟩ := ho
  match d, h, hK, hty with
  | 0, h, hK, hty =>
    obtain ⟨v, S1, rfl, h⟩ := pI_inv h
    obtain ⟨r, S', rfl, hr, h⟩ := pA_inv h
    exact put_core (v := vI v) he ha11 hbF hK hfin hd (fit_I hty _).1 (fit_I hty _).2 hr rfl rfl (by rw [wr_self]; show _ = Value.int (Int32.ofInt (va_up (M r) b v b)); rw [va_up_self]; rfl) (fun j _ => rfl) (fun j hj => by rw [wr_self, va_up_ne _ _ hj]) (fun q hq => ⟨rfl, wr_ne _ _ _ hq⟩) (hk _ _ _ _ _ h)
  | 1, h, hK, hty =>
    obtain ⟨v, S1, rfl, h⟩ := pL_inv h
    obtain ⟨r, S', rfl, hr, h⟩ := pA_inv h
    exact put_core (v := vL v) he ha11 hbF hK hfin hd (fit_L hty _).1 (fit_L hty _).2 hr rfl rfl (by rw [wr_self]; show _ = Value.long (Int64.ofInt (va_up (M r) b v b)); rw [va_up_self]; rfl) (fun j _ => rfl) (fun j hj => by rw [wr_self, va_up_ne _ _ hj]) (fun q hq => ⟨rfl, wr_ne _ _ _ hq⟩) (hk _ _ _ _ _ h)
  | 2, h, hK, hty =>
    obtain ⟨v, S1, rfl, h⟩ := pR_inv h
    obtain ⟨r, S', rfl, hr, h⟩ := pA_inv h
    exact put_core (G' := gW G r b v) (M' := M) (v := vR v) he ha11 hbF hK hfin hd (fit_R hty _).1 (fit_R hty _).2 hr rfl rfl (by rw [gW_self]; show _ = va_rf (va_up (gR G r) b v b); rw [va_up_self]; rfl) (fun j hj => by rw [gW_self, va_up_ne _ _ hj]) (fun j _ => rfl) (fun q hq => ⟨gW_ne _ _ _ hq, rfl⟩) (hk _ _ _ _ _ h)
  | d' + 3, h, hK, hty =>
    obtain ⟨v, S1, rfl, h⟩ := pI_inv h
    obtain ⟨r, S', rfl, hr, hv, h⟩ := pA_inv h
    exact put_core (v := vI v) he ha11 hbF hK hfin hd (fit_Z hty hv).1 (fit_Z hty hv).2 hr rfl rfl (by rw [wr_self]; show _ = Value.int (Int32.ofInt (va_up (M r) b v b)); rw [va_up_self]; rfl) (fun j _ => rfl) (fun j hj => by rw [wr_self, va_up_ne _ _ hj]) (fun q hq => ⟨rfl, wr_ne _ _ _ hq⟩) (hk _ _ _ _ _ h)
theorem K_new {x : Nat} (hd : decode (mC mi) pc = .ok (.new x, len)) (ho : okE mi pc (.new x) len a b d c t = true) (h : step Γ ρ mi Q (.new x) a b d c t κ L S G M k) (hk : KK Γ ρ mi Q k (pc + len)) : WP Γ ρ κ mi pc L S G M Q := by
  simp only [okE, Bool.and_eq_true, beq_iff_eq, List.contains_iff_mem, decide_eq_true_eq] at ho
  obtain ⟨⟨rfl, he⟩, ha11⟩ := ho
  obtain ⟨hκ, h⟩ := h
  intro p l e R s m args below meth c' D ca A Z K Ks H locs cells slots ls hC h1 h2 h3 h4 hR hZ hk1 hk2 hW hS hl
  obtain ⟨o1, o2, o3, o4, o5⟩ := cOk_all a ha11
  obtain ⟨hn1, hn2⟩ := new_ok a ha11
  have hz1 : a ∈ zI := by simp only [zI, List.mem_cons, List.not_mem_nil, or_false]; omega
  have hz2 : a ∈ zE := by simp only [zE, List.mem_cons, List.not_mem_nil, or_false]; omega
  refine va_new hC.1 hC.2.1 hC.2.2.2.2.1 o2 (cTy a) o3 hC.2.2.2.1 (hC.2.2.2.2.1 _ (cE_g _ he)) (hC.2.2.2.2.1 _ (zI_g a hz1)) (hC.2.2.2.2.1 _ (zE_g a hz2)) hR.1 hW.1 hW.2 hS hC.2.2.2.2.2.2.1 o1 hn2 (by omega) (by omega) hd (fun q H1 hP1 hD1 hS1 => ?_)
  have hq := wl_fresh hD1
  have e1 := wl_new (ca := ca) (M := M) (t := .inl a) hq
  have hP2 : va_P D vwCl (wl ca G M ++ [(q, cC ca (.inl a) (fun _ => none) (fun _ => 0))]) H1 := hP1
  have hD2 : va_D A (wl ca G M ++ [(q, cC ca (.inl a) (fun _ => none) (fun _ => 0))]) := hD1
  rw [e1] at hP2 hD2
  exact hk _ _ _ _ _ (h q hq) p l e R s m args below meth c' D ca A Z K Ks H1 locs (cells + 1) (slots + cF a) ls hC h1 h2 h3 h4 hR hZ (by omega) (by omega) ⟨hP2, hD2⟩ hS1 hl
theorem newa_core {n : Int} {aty : ArrayType} {ty : FieldType} (hd : decode (mC mi) pc = .ok (.newarray aty, 2)) (hty : newarray.typeOf aty = ty) (hw : Cond.arrayClass ty ∈ lw_g) (h0 : 0 ≤ w32 n) (h1 : w32 n ≤ 1100) (hκ : 1 ≤ κ) (hnm : ∀ (ca : Nat → ClassId) (s : State) (cA : ClassId), va_RA s cA ty → (∀ (k : Nat) (q : ClassId × FieldType), (tysL ca)[k]? = some q → va_RA s q.1 q.2) → cA = ca d) (hb : (w32 n).toNat * componentBytes ty ≤ 536870912)
    {z : vp_A} (hz : ∀ cA : ClassId, vp_cell cA z = arrV cA (w32 n).toNat (fun _ => defaultValue ty)) (hcz : ∀ ca : Nat → ClassId, cC ca (.inr (d, (w32 n).toNat)) (fun _ => none) (fun _ => 0) = .inl (ca d, z))
    (h : ∀ q : Nat, q ∉ gA G → WP Γ ρ (κ - 1) mi (pc + 2) L (vR (some q) :: S) (gN G q (.inr (d, (w32 n).toNat))) (mN0 M q) Q) : WP Γ ρ κ mi pc L (vI n :: S) G M Q := by
  subst hty
  intro p l e R s m args below meth c' D ca A Z K Ks H locs cells slots ls hC h1' h2' h3' h4' hR hZ hk1 hk2 hW hS hl
  have hneg : ¬ Int32.ofInt n < 0 := fun h9 => by
    have := (o32_lt n 0).mp h9
    have e0 : w32 0 = 0 := by rw [w32_eq]; rfl
    omega
  refine va_newa (ty := newarray.typeOf aty) (a0 := z) hC.1 hC.2.1 (hC.2.2.2.2.1 _ hw) rfl hR.1 hW.1 hW.2 hS hC.2.2.2.2.2.2.1 hz hneg (o32_cl n) hb (by omega) (by omega) hd (fun q cA H1 hK1 hP1 hD1 hS1 => ?_)
  have hq := wl_fresh hD1
  have eA : cA = ca d := hnm ca s cA (hK1.2 6 (cA, newarray.typeOf aty) rfl).2 (fun k q hk => (hR.1.2 k q hk).2)
  subst eA
  rw [← hcz ca, wl_new hq] at hP1 hD1
  exact h q hq p l e R s m args below meth c' D ca A Z K Ks H1 locs (cells + 1) (slots + (w32 n).toNat) ls hC h1' h2' h3' h4' hR hZ (by omega) (by omega) ⟨hP1, hD1⟩ hS1 hl
theorem K_newarray {aty : ArrayType} (hd : decode (mC mi) pc = .ok (.newarray aty, len)) (ho : okE mi pc (.newarray aty) len a b d c t = true) (h : step Γ ρ mi Q (.newarray aty) a b d c t κ L S G M k) (hk : KK Γ ρ mi Q k (pc + len)) : WP Γ ρ κ mi pc L S G M Q := by
  simp only [okE, Bool.and_eq_true, beq_iff_eq] at ho
  obtain ⟨rfl, ho⟩ := ho
  obtain ⟨n, S', rfl, h0, h1, hκ, h⟩ := pI_inv h
  have hB : (w32 n).toNat ≤ 1100 := by omega
  match d, aty, ho, hd, h with
  | 0, .int, _, hd, h => exact newa_core (d := 0) (z := ((w32 n).toNat, .inl (fun _ => 0))) hd rfl rE_int h0 h1 hκ (fun ca s cA q1 q2 => Option.some.inj ((va_nm_int q1).symm.trans (va_nm_int (q2 0 _ rfl)))) (show (w32 n).toNat * 4 ≤ 536870912 by omega) (fun cA => rfl) (fun ca => rfl) (fun q hq => hk _ _ _ _ _ (h q hq))
  | 1, .long, _, hd, h => exact newa_core (d := 1) (z := ((w32 n).toNat, .inr (.inl (fun _ => 0)))) hd rfl rE_long h0 h1 hκ (fun ca s cA q1 q2 => Option.some.inj ((va_nm_long q1).symm.trans (va_nm_long (q2 1 _ rfl)))) (show (w32 n).toNat * 8 ≤ 536870912 by omega) (fun cA => rfl) (fun ca => rfl) (fun q hq => hk _ _ _ _ _ (h q hq))
  | 2, .char, _, hd, h => exact newa_core (d := 2) (z := ((w32 n).toNat, .inl (fun _ => 0))) hd rfl rE_char h0 h1 hκ (fun ca s cA q1 q2 => Option.some.inj ((va_nm_char q1).symm.trans (va_nm_char (q2 2 _ rfl)))) (show (w32 n).toNat * 2 ≤ 536870912 by omega) (fun cA => rfl) (fun ca => rfl) (fun q hq => hk _ _ _ _ _ (h q hq))
  | 3, .boolean, _, hd, h => exact newa_core (d := 3) (z := ((w32 n).toNat, .inl (fun _ => 0))) hd rfl rE_boolean h0 h1 hκ (fun ca s cA q1 q2 => Option.some.inj ((va_nm_boolean q1).symm.trans (va_nm_boolean (q2 3 _ rfl)))) (show (w32 n).toNat * 1 ≤ 536870912 by omega) (fun cA => rfl) (fun ca => rfl) (fun q hq => hk _ _ _ _ _ (h q hq))
theorem K_anewarray {x : Nat} (hd : decode (mC mi) pc = .ok (.anewarray x, len)) (ho : okE mi pc (.anewarray x) len a b d c t = true) (h : step Γ ρ mi Q (.anewarray x) a b d c t κ L S G M k) (hk : KK Γ ρ mi Q k (pc + len)) : WP Γ ρ κ mi pc L S G M Q := by
  simp only [okE, Bool.and_eq_true, beq_iff_eq, List.contains_iff_mem] at ho
  obtain ⟨rfl, he⟩ := ho
  obtain ⟨n, S', rfl, h0, h1, hκ, h⟩ := pI_inv h
  intro p l e R s m args below meth c' D ca A Z K Ks H locs cells slots ls hC h1' h2' h3' h4' hR hZ hk1 hk2 hW hS hl
  have hneg : ¬ Int32.ofInt n < 0 := fun h9 => by
    have := (o32_lt n 0).mp h9
    have e0 : w32 0 = 0 := by rw [w32_eq]; rfl
    omega
  refine va_newq (C := cN 4) hC.1 hC.2.1 hC.2.2.2.1 (hC.2.2.2.2.1 _ (cE_g _ he)) hC.2.2.2.2.2.2.2.1 hR.1 hW.1 hW.2 hS hC.2.2.2.2.2.2.1 hneg (o32_cl n) (by omega) (by omega) (by omega) hd (fun q cA H1 hK1 hP1 hD1 hS1 => ?_)
  have hq := wl_fresh hD1
  have eA : cA = ca 4 := by
    obtain ⟨kA, comp, a1, a2, a3, a4⟩ := (hK1.2 6 (cA, .object RX4) rfl).2
    obtain ⟨kB, comb, b1, b2, b3, b4⟩ := (hR.1.2 4 (ca 4, .object RX4) rfl).2
    exact Option.some.inj (a4.symm.trans b4)
  subst eA
  have e1 := wl_new (ca := ca) (M := M) (t := .inr (4, (w32 n).toNat)) hq
  have hP2 : va_P D vwCl (wl ca G M ++ [(q, cC ca (.inr (4, (w32 n).toNat)) (fun _ => none) (fun _ => 0))]) H1 := hP1
  have hD2 : va_D A (wl ca G M ++ [(q, cC ca (.inr (4, (w32 n).toNat)) (fun _ => none) (fun _ => 0))]) := hD1
  rw [e1] at hP2 hD2
  exact hk _ _ _ _ _ (h q hq) p l e R s m args below meth c' D ca A Z K Ks H1 locs (cells + 1) (slots + (w32 n).toNat) ls hC h1' h2' h3' h4' hR hZ (by omega) (by omega) ⟨hP2, hD2⟩ hS1 hl
theorem K_ireturn (hd : decode (mC mi) pc = .ok (.ireturn, len)) (ho : okE mi pc .ireturn len a b d c t = true) (h : step Γ ρ mi Q .ireturn a b d c t κ L S G M k) : WP Γ ρ κ mi pc L S G M Q := by
  simp only [okE, Bool.and_eq_true, beq_iff_eq, Bool.or_eq_true] at ho
  obtain ⟨rfl, ho⟩ := ho
  match S, h with
  | [.inl x], h =>
    intro p l e R s m args below meth c' D ca A Z K Ks H locs cells slots ls hC h1' h2' h3' h4' hR hZ hk1 hk2 hW hS hl
    refine W.widen (k := K) (n := Ks) (by omega) (by omega) ?_
    refine hZ pc ls H locs (some (vI x)) G M ⟨hd, ?_⟩ h.2 hW hS
    rcases ho with ho | ⟨ho, rfl⟩
    · exact Or.inl ho
    · exact Or.inr ⟨ho, h.1.resolve_left (by omega)⟩
theorem K_lreturn (hd : decode (mC mi) pc = .ok (.lreturn, len)) (ho : okE mi pc .lreturn len a b d c t = true) (h : step Γ ρ mi Q .lreturn a b d c t κ L S G M k) : WP Γ ρ κ mi pc L S G M Q := by
  simp only [okE, Bool.and_eq_true, beq_iff_eq] at ho
  obtain ⟨rfl, ho⟩ := ho
  match S, h with
  | [.inr (.inl x)], h =>
    intro p l e R s m args below meth c' D ca A Z K Ks H locs cells slots ls hC h1' h2' h3' h4' hR hZ hk1 hk2 hW hS hl
    refine W.widen (k := K) (n := Ks) (by omega) (by omega) ?_
    exact hZ pc ls H locs (some (vL x)) G M ⟨hd, ho⟩ h hW hS
theorem K_return (hd : decode (mC mi) pc = .ok (.return_, len)) (ho : okE mi pc .return_ len a b d c t = true) (h : step Γ ρ mi Q .return_ a b d c t κ L S G M k) : WP Γ ρ κ mi pc L S G M Q := by
  simp only [okE, Bool.and_eq_true, beq_iff_eq] at ho
  obtain ⟨rfl, ho⟩ := ho
  match S, h with
  | [], h =>
    intro p l e R s m args below meth c' D ca A Z K Ks H locs cells slots ls hC h1' h2' h3' h4' hR hZ hk1 hk2 hW hS hl
    refine W.widen (k := K) (n := Ks) (by omega) (by omega) ?_
    exact hZ pc ls H locs none G M ⟨hd, ho⟩ h hW hS
end MAKE
