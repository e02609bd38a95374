/-! ===== switches, calls ===== -/
theorem sw_off {x : Int} {P : Nat → Prop} {d pc : Nat} {df : Int} (hdf : (pc : Int) + df = (d : Int)) : ∀ (t : List (Int × Nat)) (ps : List (Int × Int)), t.map (fun q => (q.1, (q.2 : Int))) = ps.map (fun q => (q.1, (pc : Int) + q.2)) → sw x P d t → ∃ tgt : Nat, (pc : Int) + Op.lookupswitch.offset ps df x = (tgt : Int) ∧ P tgt := by
  intro t
  induction t with
  | nil =>
    intro ps h hs
    cases ps with
    | nil => exact ⟨d, hdf, hs⟩
    | cons q r => cases h
  | cons q r ih =>
    intro ps h hs
    cases ps with
    | nil => cases h
    | cons q' r' =>
      simp only [List.map_cons, List.cons.injEq, Prod.mk.injEq] at h
      obtain ⟨⟨h1, h2⟩, h3⟩ := h
      obtain ⟨k', o'⟩ := q'
      dsimp only at h1 h2
      rw [Op.lookupswitch.offset_cons]
      by_cases hx : x = q.1
      · rw [if_pos (by rw [← h1, hx])]
        exact ⟨q.2, h2.symm, hs.1 hx⟩
      · rw [if_neg (by rw [← h1]; exact fun z => hx z.symm)]
        exact ih r' h3 (hs.2 hx)
theorem sw_out {x : Int} {P : Nat → Prop} {d : Nat} : ∀ (t : List (Int × Nat)), sw x P d t → (∀ q ∈ t, ¬ x = q.1) → P d := by
  intro t
  induction t with
  | nil => exact fun h _ => h
  | cons q r ih => exact fun h hn => ih (h.2 (hn q List.mem_cons_self)) (fun q' hq => hn q' (List.mem_cons_of_mem _ hq))
theorem sw_in {x : Int} {P : Nat → Prop} {d : Nat} : ∀ (t : List (Int × Nat)) (j : Nat) (q : Int × Nat), sw x P d t → t[j]? = some q → x = q.1 → (∀ i q', i < j → t[i]? = some q' → ¬ x = q'.1) → P q.2 := by
  intro t
  induction t with
  | nil =>
    intro j q _ h
    cases h
  | cons q0 r ih =>
    intro j q hs hj hx hn
    cases j with
    | zero =>
      cases hj
      exact hs.1 hx
    | succ j => exact ih j q (hs.2 (hn 0 q0 (by omega) rfl)) hj hx (fun i q' hi hq => hn (i + 1) q' (by omega) hq)
section CALL
variable {Γ : aR} {ρ κ mi pc pc' len a b d : Nat} {c : Int} {t : List (Int × Nat)} {L L' S S' : List aV} {G G' : aG} {M M' : aM} {Q : aQ} {k : aK}
theorem K_lookupswitch {df : Int} {ps : Array (Int × Int)} (hd : decode (mC mi) pc = .ok (.lookupswitch df ps, len)) (ho : okE mi pc (.lookupswitch df ps) len a b d c t = true) (h : step Γ ρ mi Q (.lookupswitch df ps) a b d c t κ L S G M k) : WP Γ ρ κ mi pc L S G M Q := by
  simp only [okE, Bool.and_eq_true, beq_iff_eq] at ho
  obtain ⟨⟨h1, h2⟩, h3⟩ := ho
  obtain ⟨x, S', rfl, h⟩ := pI_inv h
  obtain ⟨tgt, ht, hW⟩ := sw_off h1 t ps.toList h2 h
  exact WP_pure (S' := S') (fun hx hb _ _ hl w => lv_lookup (off := Op.lookupswitch.offset ps.toList df (w32 x)) hx hb hd h3 (by rw [o32_toInt]) ht (w _ hl)) hW
theorem K_tableswitch {df lo hi : Int} {offs : Array Int} (hd : decode (mC mi) pc = .ok (.tableswitch df lo hi offs, len)) (ho : okE mi pc (.tableswitch df lo hi offs) len a b d c t = true) (h : step Γ ρ mi Q (.tableswitch df lo hi offs) a b d c t κ L S G M k) : WP Γ ρ κ mi pc L S G M Q := by
  simp only [okE, Bool.and_eq_true, beq_iff_eq] at ho
  obtain ⟨⟨h1, h2⟩, h3⟩ := ho
  obtain ⟨x, S', rfl, h⟩ := pI_inv h
  have hat : ∀ j : Nat, (t[j]?).map (fun q => (q.1, (q.2 : Int))) = (offs[j]?).map (fun o => (lo + (j : Int), (pc : Int) + o)) := by
    intro j
    have := congrArg (fun l => l[j]?) h3
    simp only [List.getElem?_map, List.getElem?_zipIdx, Option.map_map, Nat.zero_add, Array.getElem?_toList] at this
    rw [this]
    rfl
  by_cases hr : w32 x < lo ∨ hi < w32 x
  · refine WP_pure (S' := S') (fun hx hb _ _ hl w => lv_tableOut hx hb hd (by rw [o32_toInt]; exact hr) h1 (w _ hl)) (sw_out t h (fun q hq hxq => ?_))
    obtain ⟨j, hj⟩ := List.getElem?_of_mem hq
    have := hat j
    rw [hj] at this
    cases e : offs[j]? with
    | none => rw [e] at this; cases this
    | some o =>
      rw [e] at this
      simp only [Option.map_some, Option.some.injEq, Prod.mk.injEq] at this
      have hl := (Array.getElem?_eq_some_iff.mp e).1
      omega
  · have hlt : (w32 x - lo).toNat < offs.size := by omega
    have e : offs[(w32 x - lo).toNat]? = some offs[(w32 x - lo).toNat] := Array.getElem?_eq_getElem hlt
    have hj := hat (w32 x - lo).toNat
    rw [e] at hj
    cases e2 : t[(w32 x - lo).toNat]? with
    | none => rw [e2] at hj; cases hj
    | some q =>
      rw [e2] at hj
      simp only [Option.map_some, Option.some.injEq, Prod.mk.injEq] at hj
      refine WP_pure (S' := S') (fun hx hb _ _ hl w => lv_tableIn (tgt := q.2) hx hb hd (by rw [o32_toInt]; omega) (by rw [o32_toInt]; omega) (by rw [o32_toInt]; exact e) hj.2.symm (w _ hl)) (sw_in t _ q h e2 (by omega) (fun i q' hi hq' => ?_))
      have := hat i
      rw [hq'] at this
      cases e3 : offs[i]? with
      | none => rw [e3] at this; cases this
      | some o =>
        rw [e3] at this
        simp only [Option.map_some, Option.some.injEq, Prod.mk.injEq] at this
        omega
theorem call_go {p : Program} {l : Launch} {e : Env} {R : Room} {s : State} {m : MethodId} {args : Array Value} {below : List Frame} {meth : Method} {c : Code} {D : va_G} {ca : Nat → ClassId} {A : Nat → Prop} {Z : State → Prop} {H : Heap} {locs : List Loc} {cells slots κ1 : Nat} {ls : Array Slot} {st0 rest : List Value} {av : Array Value} {Q' : aQ} (hW : Wd D ca G M A H) (hS : va_S A s.heap H locs) (hA : ∀ q : Nat, s.heap.size ≤ q → A q)
    (hr : va_Run p l e R s m args below meth c H locs cells slots κ1 (1100 * κ1) (F0 m pc ls st0) rest (QcM D ca G M H.size Q' av) (va_A (wl ca G M) H.size))
    (kk : ∀ (r : Option aV) (G' : aG) (M' : aM) (H1 : Heap) (locs1 : List Loc), Q' r G' M' → Wd D ca G' M' A H1 → va_S A s.heap H1 locs1 → W p l e R s m args below meth c H1 locs1 (cells + κ1) (slots + 1100 * κ1) Z (F0 m (pc + 3) ls ((r.map cV).toList ++ rest))) : W p l e R s m args below meth c H locs cells slots Z (F0 m pc ls st0) := by
  intro T hT X
  obtain ⟨v, st₀, t, T', Lc, h0, X', hL, e1, e2, ⟨⟨r, G', M', hv, hq, hW'⟩, hz, hkp⟩, st⟩ := hr T hT X
  cases hv
  rw [h0] at hz hkp
  have hF : ∀ q, va_A (wl ca G M) H.size q → A q := by
    rintro q (⟨k, e, hk⟩ | h)
    · exact hW.2.2 k _ hk
    · exact hA q (Nat.le_trans hS.1 h)
  obtain ⟨t2, a1, b1⟩ := kk r G' M' T'.heap (locs ++ Lc) hq ⟨by rw [e1]; exact hW'.1, hW'.2.weaken (fun _ q _ h => hF q.1 h)⟩
    ⟨Nat.le_trans hS.1 (by rw [e1]; exact hz), fun q h1 h2 => by rw [e1, hkp q (Nat.lt_of_lt_of_le h1 hS.1) (fun z => h2 (hF q z))]; exact hS.2.1 q h1 h2, fun q hq => by
      rcases List.mem_append.mp hq with h | h
      · exact hS.2.2 q h
      · exact hF _ (hL q h)⟩ T' rfl X'
  exact ⟨t2, st t2 a1, b1⟩
theorem PcM_blind {D : va_G} {ca : Nat → ClassId} {av : List aV} {sz : Nat} : FrameBlind (PcM Γ D ca G M av sz) := by
  intro a U g mk ⟨h1, h2, h3, ⟨h4, h5, h6⟩, h7⟩
  exact ⟨h1, h2, h3, ⟨va_K.moved (u := U) (U := U.calling g mk a) (Vm.Alike.refl U.vm) h4, fun q hq => va_T.moved (u := U) (U := U.calling g mk a) (Vm.Alike.refl U.vm) (h5 q hq), fun k hk => va_Z.moved (u := U) (U := U.calling g mk a) (Vm.Alike.refl U.vm) (h6 k hk)⟩, SF.moved (u := U) (U := U.calling g mk a) (Vm.Alike.refl U.vm) (fun q _ h => h) h7⟩
theorem PcM_at {p : Program} {s : State} {m : MethodId} {args : Array Value} {meth : Method} {c : Code} {D : va_G} {ca : Nat → ClassId} {A : Nat → Prop} {H : Heap} {locs : List Loc} {av : List aV} (hC : CX p s m args meth c mi A) (hR : Ro Γ D ca A s) (hW : Wd D ca G M A H) (hS : va_S A s.heap H locs) : ∀ U : State, U.heap = H → s.WarmedH U.vm → PcM Γ D ca G M av H.size (av.map cV).toArray U := by
  intro U hU hw
  have hF : ∀ q, va_A (wl ca G M) H.size q → A q := by
    rintro q (⟨k, e, hk⟩ | h)
    · exact hW.2.2 k _ hk
    · exact hC.2.2.2.2.2.2.1 q (Nat.le_trans hS.1 h)
  have hkp : ∀ a : Nat, a < s.heap.size → ¬ A a → U.heap[a]? = s.heap[a]? := fun a h1 h2 => by rw [hU]; exact hS.2.1 a h1 h2
  refine ⟨rfl, by rw [hU], ⟨by rw [hU]; exact hW.1, hW.2.weaken (fun _ _ _ _ => trivial)⟩, ⟨va_K.moved hw.alike hR.1, fun q hq => (((hR.2.1 q hq).kept hkp).moved hw.alike).narrow hF, fun k hk => (((hR.2.2 k hk).kept hkp).moved hw.alike).narrow hF⟩, SF.moved hw.alike (fun q hq h => va_Nw.warmM hw h) hC.2.2.2.2.2.2.2⟩
theorem mW_good {i : Nat} (hi : i ∈ mcE) : GoodIn lw_g (mW i) := by
  intro w hw
  have hg : w ∈ lw_g := by
    rcases List.mem_cons.mp hw with rfl | h
    · exact mcE_g i hi
    · exact h
  exact ⟨hg, good_of_word (lw_gG w hg).2⟩
theorem mY_ok : (List.range 147).all (fun i => plainFor (mY i) && ((mY i).cls == cN (mO i)) && (mKd i != 2 || (mY i).name == "<init>") && (mY i).cls != "java/lang/invoke/MethodHandle" && (mY i).cls != "java/lang/invoke/VarHandle" && (parseMethodDescriptor (mY i).desc).map (fun d => d.parameters.length) == some (mA i) && decide (mN i ≤ 40) && decide (mO i < 15) && mcE.contains i && (mKd i == 1 || miE.contains i) && (mKd i != 0 || mvE.contains i) && (mKd i != 1 || msE.contains i) && (mKd i == 1 || decide (mO i < 11)) && (mKd i != 2 || mR i == none)) = true := by decide +kernel
theorem mE_ok : mE.all (fun q => decide (q.2.2.2 < 147) && (mKd q.2.2.2 == q.2.2.1)) = true := by decide +kernel
theorem nE_ok : nE.all (fun q => decide (q.2.2.2 < 147) && (mKd q.2.2.2 == 2)) = true := by decide +kernel
theorem argL_mem : ∀ (av : List aV) (j : Nat) (q : Nat × Value), q ∈ lvL j (av.flatMap (fun v => match v with | .inr (.inl x) => [vL x, vJ] | w => [w])) → q ∈ lv_args j (av.map cV) := by
  intro av
  induction av with
  | nil =>
    intro j q h
    cases h
  | cons v av ih =>
    intro j q h
    match v with
    | .inl x =>
      rcases List.mem_cons.mp h with rfl | h
      · exact List.mem_cons_self
      · exact List.mem_cons_of_mem _ (ih (j + 1) q h)
    | .inr (.inl x) =>
      rcases List.mem_cons.mp h with rfl | h
      · exact List.mem_cons_self
      · exact List.mem_cons_of_mem _ (ih (j + 2) q h)
    | .inr (.inr (.inl none)) =>
      rcases List.mem_cons.mp h with rfl | h
      · exact List.mem_cons_self
      · exact List.mem_cons_of_mem _ (ih (j + 1) q h)
    | .inr (.inr (.inl (some x))) =>
      rcases List.mem_cons.mp h with rfl | h
      · exact List.mem_cons_self
      · exact List.mem_cons_of_mem _ (ih (j + 1) q h)
    | .inr (.inr (.inr ())) => exact List.mem_cons_of_mem _ (ih (j + 1) q h)
end CALL
