/-! ===== what the numbers beside an instruction must be ===== -/
def ftK (d : Nat) (ty : FieldType) : Bool := match d, ty with
  | 0, .int => true
  | 1, .long => true
  | 2, .object _ => true
  | 2, .array _ => true
  | 3, .boolean => true
  | _, _ => false
def atK (d : Nat) (ty : ArrayType) : Bool := match d, ty with
  | 0, .int => true
  | 1, .long => true
  | 2, .char => true
  | 3, .boolean => true
  | _, _ => false
def okE (mi pc : Nat) (i : Instr) (len a b d : Nat) (c : Int) (t : List (Int × Nat)) : Bool := match i with
  | .iconst n => len == 1 && c == n
  | .bipush n => len == 2 && (Int8.ofInt n).toInt32 == Int32.ofInt c
  | .sipush n => len == 3 && (Int16.ofInt n).toInt32 == Int32.ofInt c
  | .ldc x => len == 2 && kE.contains (mO mi, x, c)
  | .ldc_w x => len == 3 && kE.contains (mO mi, x, c)
  | .lconst n => len == 1 && c == (n.val : Int)
  | .ldc2_w x => len == 3 && lE.contains (mO mi, x, c)
  | .iload_n n => len == 1 && a == n.val
  | .iload n => len == 2 && a == n
  | .lload_n n => len == 1 && a == n.val
  | .lload n => len == 2 && a == n
  | .aload_n n => len == 1 && a == n.val
  | .aload n => len == 2 && a == n
  | .istore_n n => len == 1 && a == n.val && decide (a < mN mi)
  | .istore n => len == 2 && a == n && decide (a < mN mi)
  | .lstore_n n => len == 1 && a == n.val && decide (a + 1 < mN mi)
  | .lstore n => len == 2 && a == n && decide (a + 1 < mN mi)
  | .astore_n n => len == 1 && a == n.val && decide (a < mN mi)
  | .astore n => len == 2 && a == n && decide (a < mN mi)
  | .iinc n z => len == 3 && a == n && c == z
  | .aaload => len == 1 && (d == 4 || d == 5)
  | .getfield x => len == 3 && fE.contains (mO mi, x, a, b) && decide (a < 11) && decide (b < cF a) && (cK a)[b]? == some d
  | .putfield x => len == 3 && fE.contains (mO mi, x, a, b) && decide (a < 11) && decide (b < cF a) && (cK a)[b]? == some d && ftK d (cTy a b) && (!((cT a) b).2.2.2 || (mKd mi == 2 && ((cT a) b).1 == cN (mO mi)))
  | .getstatic x => len == 3 && sE.contains (mO mi, x, a) && decide (a < 2)
  | .new x => len == 3 && cE.contains (mO mi, x, a) && decide (a < 11)
  | .newarray ty => len == 2 && atK d ty
  | .anewarray x => len == 3 && cE.contains (mO mi, x, 4)
  | .goto z => len == 3 && (pc : Int) + z == (a : Int)
  | .ifCond _ z => len == 3 && (pc : Int) + z == (a : Int)
  | .if_icmp _ z => len == 3 && (pc : Int) + z == (a : Int)
  | .tableswitch df lo hi offs => (pc : Int) + df == (a : Int) && hi == lo + offs.size - 1 && t.map (fun q => (q.1, (q.2 : Int))) == (offs.toList.zipIdx.map (fun q => (lo + (q.2 : Int), (pc : Int) + q.1)))
  | .lookupswitch df ps => (pc : Int) + df == (a : Int) && t.map (fun q => (q.1, (q.2 : Int))) == (ps.toList.map (fun q => (q.1, (pc : Int) + q.2))) && (ps.toList.zip (ps.toList.drop 1)).all (fun (a, next) => a.1 < next.1)
  | .ireturn => len == 1 && (mR mi == some .int || (mR mi == some .boolean && b == 1))
  | .lreturn => len == 1 && mR mi == some .long
  | .return_ => len == 1 && mR mi == none
  | .invokevirtual x => len == 3 && mE.contains (mO mi, x, 0, a) && d == mO a && b == mA a + 1
  | .invokestatic x => len == 3 && ((d == 0 && mE.contains (mO mi, x, 1, a) && b == mA a) || (d == 1 && yE.contains (mO mi, x)))
  | .invokespecial x => len == 3 && ((d == 0 && oE.contains (mO mi, x)) || (d == mO a + 1 && b == mA a + 1 && (mE.contains (mO mi, x, 2, a) || nE.contains (mO mi, x, 3, a))))
  | _ => len == 1
theorem pI_inv {S : List aV} {f : Int → List aV → Prop} (h : pI S f) : ∃ (x : Int) (S' : List aV), S = vI x :: S' ∧ f x S' := by
  match S, h with
  | .inl x :: S', h => exact ⟨x, S', rfl, h⟩
theorem pL_inv {S : List aV} {f : Int → List aV → Prop} (h : pL S f) : ∃ (x : Int) (S' : List aV), S = vL x :: S' ∧ f x S' := by
  match S, h with
  | .inr (.inl x) :: S', h => exact ⟨x, S', rfl, h⟩
theorem pR_inv {S : List aV} {f : Option Nat → List aV → Prop} (h : pR S f) : ∃ (x : Option Nat) (S' : List aV), S = vR x :: S' ∧ f x S' := by
  match S, h with
  | .inr (.inr (.inl x)) :: S', h => exact ⟨x, S', rfl, h⟩
theorem pA_inv {S : List aV} {f : Nat → List aV → Prop} (h : pA S f) : ∃ (x : Nat) (S' : List aV), S = vR (some x) :: S' ∧ f x S' := by
  match S, h with
  | .inr (.inr (.inl (some x))) :: S', h => exact ⟨x, S', rfl, h⟩
theorem isI_inv {v : aV} (h : isI v) : ∃ x : Int, v = vI x := by
  match v, h with
  | .inl x, h => exact ⟨x, rfl⟩
theorem isL_inv {v : aV} (h : isL v) : ∃ x : Int, v = vL x := by
  match v, h with
  | .inr (.inl x), h => exact ⟨x, rfl⟩
theorem isA_inv {v : aV} (h : isA v) : ∃ x : Nat, v = vR (some x) := by
  match v, h with
  | .inr (.inr (.inl (some x))), h => exact ⟨x, rfl⟩
section RULES
variable {Γ : aR} {ρ κ mi pc len a b d : Nat} {c : Int} {t : List (Int × Nat)} {L S : List aV} {G : aG} {M : aM} {Q : aQ} {k : aK}
abbrev KK (Γ : aR) (ρ mi : Nat) (Q : aQ) (k : aK) (pc : Nat) : Prop := ∀ (κ : Nat) (L S : List aV) (G : aG) (M : aM), k κ L S G M → WP Γ ρ κ mi pc L S G M Q

theorem K_iconst {n : Int} (hd : decode (mC mi) pc = .ok (.iconst n, len)) (ho : okE mi pc (.iconst n) len a b d c t = true) (h : step Γ ρ mi Q (.iconst n) a b d c t κ L S G M k) (hk : KK Γ ρ mi Q k (pc + len)) : WP Γ ρ κ mi pc L S G M Q := by
  simp only [okE, Bool.and_eq_true, beq_iff_eq] at ho
  obtain ⟨rfl, rfl⟩ := ho
  exact WP_pure (fun hx hb _ _ hl w => lv_iconst hx hb hd rfl (w _ hl)) (hk _ _ _ _ _ h)
theorem K_bipush {n : Int} (hd : decode (mC mi) pc = .ok (.bipush n, len)) (ho : okE mi pc (.bipush n) len a b d c t = true) (h : step Γ ρ mi Q (.bipush n) a b d c t κ L S G M k) (hk : KK Γ ρ mi Q k (pc + len)) : WP Γ ρ κ mi pc L S G M Q := by
  simp only [okE, Bool.and_eq_true, beq_iff_eq] at ho
  obtain ⟨rfl, ho⟩ := ho
  exact WP_pure (fun hx hb _ _ hl w => lv_bipush hx hb hd ho (w _ hl)) (hk _ _ _ _ _ h)
theorem K_sipush {n : Int} (hd : decode (mC mi) pc = .ok (.sipush n, len)) (ho : okE mi pc (.sipush n) len a b d c t = true) (h : step Γ ρ mi Q (.sipush n) a b d c t κ L S G M k) (hk : KK Γ ρ mi Q k (pc + len)) : WP Γ ρ κ mi pc L S G M Q := by
  simp only [okE, Bool.and_eq_true, beq_iff_eq] at ho
  obtain ⟨rfl, ho⟩ := ho
  exact WP_pure (fun hx hb _ _ hl w => lv_sipush hx hb hd ho (w _ hl)) (hk _ _ _ _ _ h)
theorem K_ldc {n : Nat} (hd : decode (mC mi) pc = .ok (.ldc n, len)) (ho : okE mi pc (.ldc n) len a b d c t = true) (h : step Γ ρ mi Q (.ldc n) a b d c t κ L S G M k) (hk : KK Γ ρ mi Q k (pc + len)) : WP Γ ρ κ mi pc L S G M Q := by
  simp only [okE, Bool.and_eq_true, beq_iff_eq, List.contains_iff_mem] at ho
  obtain ⟨rfl, ho⟩ := ho
  exact WP_pure (fun hx hb hn ht hl w => lv_ldc hx hb hn (ht _ (kE_g _ ho)) hd (w _ hl)) (hk _ _ _ _ _ h)
theorem K_ldc_w {n : Nat} (hd : decode (mC mi) pc = .ok (.ldc_w n, len)) (ho : okE mi pc (.ldc_w n) len a b d c t = true) (h : step Γ ρ mi Q (.ldc_w n) a b d c t κ L S G M k) (hk : KK Γ ρ mi Q k (pc + len)) : WP Γ ρ κ mi pc L S G M Q := by
  simp only [okE, Bool.and_eq_true, beq_iff_eq, List.contains_iff_mem] at ho
  obtain ⟨rfl, ho⟩ := ho
  exact WP_pure (fun hx hb hn ht hl w => lv_ldcw hx hb hn (ht _ (kE_g _ ho)) hd (w _ hl)) (hk _ _ _ _ _ h)
theorem K_ldc2_w {n : Nat} (hd : decode (mC mi) pc = .ok (.ldc2_w n, len)) (ho : okE mi pc (.ldc2_w n) len a b d c t = true) (h : step Γ ρ mi Q (.ldc2_w n) a b d c t κ L S G M k) (hk : KK Γ ρ mi Q k (pc + len)) : WP Γ ρ κ mi pc L S G M Q := by
  simp only [okE, Bool.and_eq_true, beq_iff_eq, List.contains_iff_mem] at ho
  obtain ⟨rfl, ho⟩ := ho
  exact WP_pure (fun hx hb hn ht hl w => lv_ldc2 hx hb hn (ht _ (lE_g _ ho)) hd (w _ hl)) (hk _ _ _ _ _ h)
theorem K_lconst {n : Fin 2} (hd : decode (mC mi) pc = .ok (.lconst n, len)) (ho : okE mi pc (.lconst n) len a b d c t = true) (h : step Γ ρ mi Q (.lconst n) a b d c t κ L S G M k) (hk : KK Γ ρ mi Q k (pc + len)) : WP Γ ρ κ mi pc L S G M Q := by
  simp only [okE, Bool.and_eq_true, beq_iff_eq] at ho
  obtain ⟨rfl, rfl⟩ := ho
  exact WP_pure (fun hx hb _ _ hl w => lv_lconst hx hb hd rfl (w _ hl)) (hk _ _ _ _ _ h)
theorem K_iload_n {n : Fin 4} (hd : decode (mC mi) pc = .ok (.iload_n n, len)) (ho : okE mi pc (.iload_n n) len a b d c t = true) (h : step Γ ρ mi Q (.iload_n n) a b d c t κ L S G M k) (hk : KK Γ ρ mi Q k (pc + len)) : WP Γ ρ κ mi pc L S G M Q := by
  simp only [okE, Bool.and_eq_true, beq_iff_eq] at ho
  obtain ⟨rfl, rfl⟩ := ho
  obtain ⟨hi, h⟩ := h
  obtain ⟨x, hx1⟩ := isI_inv hi
  rw [hx1] at h
  exact WP_pure (fun hx hb _ _ hl w => lv_iload_n hx hb hd rfl (hl.at hx1 (by intro h; cases h)) (w _ hl)) (hk _ _ _ _ _ h)
theorem K_iload {n : Nat} (hd : decode (mC mi) pc = .ok (.iload n, len)) (ho : okE mi pc (.iload n) len a b d c t = true) (h : step Γ ρ mi Q (.iload n) a b d c t κ L S G M k) (hk : KK Γ ρ mi Q k (pc + len)) : WP Γ ρ κ mi pc L S G M Q := by
  simp only [okE, Bool.and_eq_true, beq_iff_eq] at ho
  obtain ⟨rfl, rfl⟩ := ho
  obtain ⟨hi, h⟩ := h
  obtain ⟨x, hx1⟩ := isI_inv hi
  rw [hx1] at h
  exact WP_pure (fun hx hb _ _ hl w => lv_iload hx hb hd (hl.at hx1 (by intro h; cases h)) (w _ hl)) (hk _ _ _ _ _ h)
theorem K_lload_n {n : Fin 4} (hd : decode (mC mi) pc = .ok (.lload_n n, len)) (ho : okE mi pc (.lload_n n) len a b d c t = true) (h : step Γ ρ mi Q (.lload_n n) a b d c t κ L S G M k) (hk : KK Γ ρ mi Q k (pc + len)) : WP Γ ρ κ mi pc L S G M Q := by
  simp only [okE, Bool.and_eq_true, beq_iff_eq] at ho
  obtain ⟨rfl, rfl⟩ := ho
  obtain ⟨hi, h⟩ := h
  obtain ⟨x, hx1⟩ := isL_inv hi
  rw [hx1] at h
  exact WP_pure (fun hx hb _ _ hl w => lv_lload_n hx hb hd rfl (hl.at hx1 (by intro h; cases h)) (w _ hl)) (hk _ _ _ _ _ h)
theorem K_lload {n : Nat} (hd : decode (mC mi) pc = .ok (.lload n, len)) (ho : okE mi pc (.lload n) len a b d c t = true) (h : step Γ ρ mi Q (.lload n) a b d c t κ L S G M k) (hk : KK Γ ρ mi Q k (pc + len)) : WP Γ ρ κ mi pc L S G M Q := by
  simp only [okE, Bool.and_eq_true, beq_iff_eq] at ho
  obtain ⟨rfl, rfl⟩ := ho
  obtain ⟨hi, h⟩ := h
  obtain ⟨x, hx1⟩ := isL_inv hi
  rw [hx1] at h
  exact WP_pure (fun hx hb _ _ hl w => lv_lload hx hb hd (hl.at hx1 (by intro h; cases h)) (w _ hl)) (hk _ _ _ _ _ h)
theorem K_aload_n {n : Fin 4} (hd : decode (mC mi) pc = .ok (.aload_n n, len)) (ho : okE mi pc (.aload_n n) len a b d c t = true) (h : step Γ ρ mi Q (.aload_n n) a b d c t κ L S G M k) (hk : KK Γ ρ mi Q k (pc + len)) : WP Γ ρ κ mi pc L S G M Q := by
  simp only [okE, Bool.and_eq_true, beq_iff_eq] at ho
  obtain ⟨rfl, rfl⟩ := ho
  obtain ⟨hi, h⟩ := h
  obtain ⟨x, hx1⟩ := isA_inv hi
  rw [hx1] at h
  exact WP_pure (fun hx hb _ _ hl w => lv_aload_n hx hb hd rfl (hl.at hx1 (by intro h; cases h)) (w _ hl)) (hk _ _ _ _ _ h)
theorem K_aload {n : Nat} (hd : decode (mC mi) pc = .ok (.aload n, len)) (ho : okE mi pc (.aload n) len a b d c t = true) (h : step Γ ρ mi Q (.aload n) a b d c t κ L S G M k) (hk : KK Γ ρ mi Q k (pc + len)) : WP Γ ρ κ mi pc L S G M Q := by
  simp only [okE, Bool.and_eq_true, beq_iff_eq] at ho
  obtain ⟨rfl, rfl⟩ := ho
  obtain ⟨hi, h⟩ := h
  obtain ⟨x, hx1⟩ := isA_inv hi
  rw [hx1] at h
  exact WP_pure (fun hx hb _ _ hl w => lv_aload hx hb hd (hl.at hx1 (by intro h; cases h)) (w _ hl)) (hk _ _ _ _ _ h)
theorem K_istore_n {n : Fin 4} (hd : decode (mC mi) pc = .ok (.istore_n n, len)) (ho : okE mi pc (.istore_n n) len a b d c t = true) (h : step Γ ρ mi Q (.istore_n n) a b d c t κ L S G M k) (hk : KK Γ ρ mi Q k (pc + len)) : WP Γ ρ κ mi pc L S G M Q := by
  simp only [okE, Bool.and_eq_true, beq_iff_eq, decide_eq_true_eq] at ho
  obtain ⟨⟨rfl, rfl⟩, hn⟩ := ho
  obtain ⟨x, S', rfl, hs, h⟩ := pI_inv h
  exact WP_pure (fun hx hb _ _ hl w => lv_istore_n hx hb hd rfl hl.1 hn rfl (fun ls' hl' => w _ (lHas.set1 (v := vI x) hl.2 hs hl'))) (hk _ _ _ _ _ h)
theorem K_istore {n : Nat} (hd : decode (mC mi) pc = .ok (.istore n, len)) (ho : okE mi pc (.istore n) len a b d c t = true) (h : step Γ ρ mi Q (.istore n) a b d c t κ L S G M k) (hk : KK Γ ρ mi Q k (pc + len)) : WP Γ ρ κ mi pc L S G M Q := by
  simp only [okE, Bool.and_eq_true, beq_iff_eq, decide_eq_true_eq] at ho
  obtain ⟨⟨rfl, rfl⟩, hn⟩ := ho
  obtain ⟨x, S', rfl, hs, h⟩ := pI_inv h
  exact WP_pure (fun hx hb _ _ hl w => lv_istore hx hb hd hl.1 hn rfl (fun ls' hl' => w _ (lHas.set1 (v := vI x) hl.2 hs hl'))) (hk _ _ _ _ _ h)
theorem K_lstore_n {n : Fin 4} (hd : decode (mC mi) pc = .ok (.lstore_n n, len)) (ho : okE mi pc (.lstore_n n) len a b d c t = true) (h : step Γ ρ mi Q (.lstore_n n) a b d c t κ L S G M k) (hk : KK Γ ρ mi Q k (pc + len)) : WP Γ ρ κ mi pc L S G M Q := by
  simp only [okE, Bool.and_eq_true, beq_iff_eq, decide_eq_true_eq] at ho
  obtain ⟨⟨rfl, rfl⟩, hn⟩ := ho
  obtain ⟨x, S', rfl, hs, h⟩ := pL_inv h
  exact WP_pure (fun hx hb _ _ hl w => lv_lstore_n hx hb hd rfl hl.1 hn rfl (fun ls' hl' => w _ (lHas.set2 (v := vL x) hl.2 hs hl'))) (hk _ _ _ _ _ h)
theorem K_lstore {n : Nat} (hd : decode (mC mi) pc = .ok (.lstore n, len)) (ho : okE mi pc (.lstore n) len a b d c t = true) (h : step Γ ρ mi Q (.lstore n) a b d c t κ L S G M k) (hk : KK Γ ρ mi Q k (pc + len)) : WP Γ ρ κ mi pc L S G M Q := by
  simp only [okE, Bool.and_eq_true, beq_iff_eq, decide_eq_true_eq] at ho
  obtain ⟨⟨rfl, rfl⟩, hn⟩ := ho
  obtain ⟨x, S', rfl, hs, h⟩ := pL_inv h
  exact WP_pure (fun hx hb _ _ hl w => lv_lstore hx hb hd hl.1 hn rfl (fun ls' hl' => w _ (lHas.set2 (v := vL x) hl.2 hs hl'))) (hk _ _ _ _ _ h)
theorem K_astore_n {n : Fin 4} (hd : decode (mC mi) pc = .ok (.astore_n n, len)) (ho : okE mi pc (.astore_n n) len a b d c t = true) (h : step Γ ρ mi Q (.astore_n n) a b d c t κ L S G M k) (hk : KK Γ ρ mi Q k (pc + len)) : WP Γ ρ κ mi pc L S G M Q := by
  simp only [okE, Bool.and_eq_true, beq_iff_eq, decide_eq_true_eq] at ho
  obtain ⟨⟨rfl, rfl⟩, hn⟩ := ho
  obtain ⟨x, S', rfl, hs, h⟩ := pA_inv h
  exact WP_pure (fun hx hb _ _ hl w => lv_astore_n hx hb hd rfl hl.1 hn rfl (fun ls' hl' => w _ (lHas.set1 (v := vR (some x)) hl.2 hs hl'))) (hk _ _ _ _ _ h)
theorem K_astore {n : Nat} (hd : decode (mC mi) pc = .ok (.astore n, len)) (ho : okE mi pc (.astore n) len a b d c t = true) (h : step Γ ρ mi Q (.astore n) a b d c t κ L S G M k) (hk : KK Γ ρ mi Q k (pc + len)) : WP Γ ρ κ mi pc L S G M Q := by
  simp only [okE, Bool.and_eq_true, beq_iff_eq, decide_eq_true_eq] at ho
  obtain ⟨⟨rfl, rfl⟩, hn⟩ := ho
  obtain ⟨x, S', rfl, hs, h⟩ := pA_inv h
  exact WP_pure (fun hx hb _ _ hl w => lv_astore hx hb hd hl.1 hn rfl (fun ls' hl' => w _ (lHas.set1 (v := vR (some x)) hl.2 hs hl'))) (hk _ _ _ _ _ h)
theorem K_iinc {n : Nat} {z : Int} (hd : decode (mC mi) pc = .ok (.iinc n z, len)) (ho : okE mi pc (.iinc n z) len a b d c t = true) (h : step Γ ρ mi Q (.iinc n z) a b d c t κ L S G M k) (hk : KK Γ ρ mi Q k (pc + len)) : WP Γ ρ κ mi pc L S G M Q := by
  simp only [okE, Bool.and_eq_true, beq_iff_eq] at ho
  obtain ⟨⟨rfl, rfl⟩, rfl⟩ := ho
  obtain ⟨hi, hs, h⟩ := h
  obtain ⟨x, hx1⟩ := isI_inv hi
  rw [hx1] at h
  refine WP_pure (fun {p l e R s m args below meth c' Z H locs cells slots ls} hx hb _ _ hl w => ?_) (hk _ _ _ _ _ h)
  have hm := (lvL_mem L 0 (a, cV (vI x))).mpr ⟨a, vI x, getD_some hx1 (by intro h; cases h), (by intro h; cases h), by rw [Nat.zero_add]⟩
  obtain ⟨j, hj⟩ := List.getElem?_of_mem hm
  exact lv_iinc (x := Int32.ofInt x) hx hb hd hl.1 hj (o32_add x c).symm (hl.lt hx1 (by intro h; cases h)) rfl (fun ls' hl' => w _ (lHas.set1 (v := vI (x + c)) hl.2 hs hl'))
theorem K_iadd (hd : decode (mC mi) pc = .ok (.iadd, len)) (ho : okE mi pc (.iadd) len a b d c t = true) (h : step Γ ρ mi Q (.iadd) a b d c t κ L S G M k) (hk : KK Γ ρ mi Q k (pc + len)) : WP Γ ρ κ mi pc L S G M Q := by
  obtain rfl : len = 1 := by simpa [okE] using ho
  obtain ⟨y, S1, rfl, h⟩ := pI_inv h
  obtain ⟨x, S', rfl, h⟩ := pI_inv h
  refine WP_pure (fun {p l e R s m args below meth c' Z H locs cells slots ls} hx hb _ _ hl w => ?_) (hk _ _ _ _ _ h)
  have w1 := w _ hl
  simp only [List.map_cons, cV, o32_add] at w1
  exact lv_iadd hx hb hd w1
theorem K_isub (hd : decode (mC mi) pc = .ok (.isub, len)) (ho : okE mi pc (.isub) len a b d c t = true) (h : step Γ ρ mi Q (.isub) a b d c t κ L S G M k) (hk : KK Γ ρ mi Q k (pc + len)) : WP Γ ρ κ mi pc L S G M Q := by
  obtain rfl : len = 1 := by simpa [okE] using ho
  obtain ⟨y, S1, rfl, h⟩ := pI_inv h
  obtain ⟨x, S', rfl, h⟩ := pI_inv h
  refine WP_pure (fun {p l e R s m args below meth c' Z H locs cells slots ls} hx hb _ _ hl w => ?_) (hk _ _ _ _ _ h)
  have w1 := w _ hl
  simp only [List.map_cons, cV, o32_sub] at w1
  exact lv_isub hx hb hd w1
theorem K_imul (hd : decode (mC mi) pc = .ok (.imul, len)) (ho : okE mi pc (.imul) len a b d c t = true) (h : step Γ ρ mi Q (.imul) a b d c t κ L S G M k) (hk : KK Γ ρ mi Q k (pc + len)) : WP Γ ρ κ mi pc L S G M Q := by
  obtain rfl : len = 1 := by simpa [okE] using ho
  obtain ⟨y, S1, rfl, h⟩ := pI_inv h
  obtain ⟨x, S', rfl, h⟩ := pI_inv h
  refine WP_pure (fun {p l e R s m args below meth c' Z H locs cells slots ls} hx hb _ _ hl w => ?_) (hk _ _ _ _ _ h)
  have w1 := w _ hl
  simp only [List.map_cons, cV, o32_mul] at w1
  exact lv_imul hx hb hd w1
theorem K_idiv (hd : decode (mC mi) pc = .ok (.idiv, len)) (ho : okE mi pc (.idiv) len a b d c t = true) (h : step Γ ρ mi Q (.idiv) a b d c t κ L S G M k) (hk : KK Γ ρ mi Q k (pc + len)) : WP Γ ρ κ mi pc L S G M Q := by
  obtain rfl : len = 1 := by simpa [okE] using ho
  obtain ⟨y, S1, rfl, h⟩ := pI_inv h
  obtain ⟨x, S', rfl, hne, h⟩ := pI_inv h
  refine WP_pure (fun {p l e R s m args below meth c' Z H locs cells slots ls} hx hb _ _ hl w => ?_) (hk _ _ _ _ _ h)
  have w1 := w _ hl
  simp only [List.map_cons, cV, o32_div] at w1
  exact lv_idiv hx hb hd (fun h0 => hne (((o32_eq y 0).mp h0).trans (by rw [w32_eq]; rfl))) w1
theorem K_irem (hd : decode (mC mi) pc = .ok (.irem, len)) (ho : okE mi pc (.irem) len a b d c t = true) (h : step Γ ρ mi Q (.irem) a b d c t κ L S G M k) (hk : KK Γ ρ mi Q k (pc + len)) : WP Γ ρ κ mi pc L S G M Q := by
  obtain rfl : len = 1 := by simpa [okE] using ho
  obtain ⟨y, S1, rfl, h⟩ := pI_inv h
  obtain ⟨x, S', rfl, hne, h⟩ := pI_inv h
  refine WP_pure (fun {p l e R s m args below meth c' Z H locs cells slots ls} hx hb _ _ hl w => ?_) (hk _ _ _ _ _ h)
  have w1 := w _ hl
  simp only [List.map_cons, cV, o32_rem] at w1
  exact lv_irem hx hb hd (fun h0 => hne (((o32_eq y 0).mp h0).trans (by rw [w32_eq]; rfl))) w1
theorem K_iand (hd : decode (mC mi) pc = .ok (.iand, len)) (ho : okE mi pc (.iand) len a b d c t = true) (h : step Γ ρ mi Q (.iand) a b d c t κ L S G M k) (hk : KK Γ ρ mi Q k (pc + len)) : WP Γ ρ κ mi pc L S G M Q := by
  obtain rfl : len = 1 := by simpa [okE] using ho
  obtain ⟨y, S1, rfl, h⟩ := pI_inv h
  obtain ⟨x, S', rfl, h⟩ := pI_inv h
  refine WP_pure (fun {p l e R s m args below meth c' Z H locs cells slots ls} hx hb _ _ hl w => ?_) (hk _ _ _ _ _ h)
  have w1 := w _ hl
  simp only [List.map_cons, cV, o_bAnd] at w1
  exact lv_iand hx hb hd w1
theorem K_ior (hd : decode (mC mi) pc = .ok (.ior, len)) (ho : okE mi pc (.ior) len a b d c t = true) (h : step Γ ρ mi Q (.ior) a b d c t κ L S G M k) (hk : KK Γ ρ mi Q k (pc + len)) : WP Γ ρ κ mi pc L S G M Q := by
  obtain rfl : len = 1 := by simpa [okE] using ho
  obtain ⟨y, S1, rfl, h⟩ := pI_inv h
  obtain ⟨x, S', rfl, h⟩ := pI_inv h
  refine WP_pure (fun {p l e R s m args below meth c' Z H locs cells slots ls} hx hb _ _ hl w => ?_) (hk _ _ _ _ _ h)
  have w1 := w _ hl
  simp only [List.map_cons, cV, o_bOr] at w1
  exact lv_ior hx hb hd w1
theorem K_ixor (hd : decode (mC mi) pc = .ok (.ixor, len)) (ho : okE mi pc (.ixor) len a b d c t = true) (h : step Γ ρ mi Q (.ixor) a b d c t κ L S G M k) (hk : KK Γ ρ mi Q k (pc + len)) : WP Γ ρ κ mi pc L S G M Q := by
  obtain rfl : len = 1 := by simpa [okE] using ho
  obtain ⟨y, S1, rfl, h⟩ := pI_inv h
  obtain ⟨x, S', rfl, h⟩ := pI_inv h
  refine WP_pure (fun {p l e R s m args below meth c' Z H locs cells slots ls} hx hb _ _ hl w => ?_) (hk _ _ _ _ _ h)
  have w1 := w _ hl
  simp only [List.map_cons, cV, o_bXor] at w1
  exact lv_ixor hx hb hd w1
theorem K_ishl (hd : decode (mC mi) pc = .ok (.ishl, len)) (ho : okE mi pc (.ishl) len a b d c t = true) (h : step Γ ρ mi Q (.ishl) a b d c t κ L S G M k) (hk : KK Γ ρ mi Q k (pc + len)) : WP Γ ρ κ mi pc L S G M Q := by
  obtain rfl : len = 1 := by simpa [okE] using ho
  obtain ⟨y, S1, rfl, h⟩ := pI_inv h
  obtain ⟨x, S', rfl, h⟩ := pI_inv h
  refine WP_pure (fun {p l e R s m args below meth c' Z H locs cells slots ls} hx hb _ _ hl w => ?_) (hk _ _ _ _ _ h)
  have w1 := w _ hl
  simp only [List.map_cons, cV, o_bShl] at w1
  exact lv_ishl hx hb hd w1
theorem K_ishr (hd : decode (mC mi) pc = .ok (.ishr, len)) (ho : okE mi pc (.ishr) len a b d c t = true) (h : step Γ ρ mi Q (.ishr) a b d c t κ L S G M k) (hk : KK Γ ρ mi Q k (pc + len)) : WP Γ ρ κ mi pc L S G M Q := by
  obtain rfl : len = 1 := by simpa [okE] using ho
  obtain ⟨y, S1, rfl, h⟩ := pI_inv h
  obtain ⟨x, S', rfl, h⟩ := pI_inv h
  refine WP_pure (fun {p l e R s m args below meth c' Z H locs cells slots ls} hx hb _ _ hl w => ?_) (hk _ _ _ _ _ h)
  have w1 := w _ hl
  simp only [List.map_cons, cV, o_bShr] at w1
  exact lv_ishr hx hb hd w1
theorem K_iushr (hd : decode (mC mi) pc = .ok (.iushr, len)) (ho : okE mi pc (.iushr) len a b d c t = true) (h : step Γ ρ mi Q (.iushr) a b d c t κ L S G M k) (hk : KK Γ ρ mi Q k (pc + len)) : WP Γ ρ κ mi pc L S G M Q := by
  obtain rfl : len = 1 := by simpa [okE] using ho
  obtain ⟨y, S1, rfl, h⟩ := pI_inv h
  obtain ⟨x, S', rfl, h⟩ := pI_inv h
  refine WP_pure (fun {p l e R s m args below meth c' Z H locs cells slots ls} hx hb _ _ hl w => ?_) (hk _ _ _ _ _ h)
  have w1 := w _ hl
  simp only [List.map_cons, cV, o_bUsh] at w1
  exact lv_iushr hx hb hd rfl w1
theorem K_ladd (hd : decode (mC mi) pc = .ok (.ladd, len)) (ho : okE mi pc (.ladd) len a b d c t = true) (h : step Γ ρ mi Q (.ladd) a b d c t κ L S G M k) (hk : KK Γ ρ mi Q k (pc + len)) : WP Γ ρ κ mi pc L S G M Q := by
  obtain rfl : len = 1 := by simpa [okE] using ho
  obtain ⟨y, S1, rfl, h⟩ := pL_inv h
  obtain ⟨x, S', rfl, h⟩ := pL_inv h
  refine WP_pure (fun {p l e R s m args below meth c' Z H locs cells slots ls} hx hb _ _ hl w => ?_) (hk _ _ _ _ _ h)
  have w1 := w _ hl
  simp only [List.map_cons, cV, o64_add] at w1
  exact lv_ladd hx hb hd w1
theorem K_lmul (hd : decode (mC mi) pc = .ok (.lmul, len)) (ho : okE mi pc (.lmul) len a b d c t = true) (h : step Γ ρ mi Q (.lmul) a b d c t κ L S G M k) (hk : KK Γ ρ mi Q k (pc + len)) : WP Γ ρ κ mi pc L S G M Q := by
  obtain rfl : len = 1 := by simpa [okE] using ho
  obtain ⟨y, S1, rfl, h⟩ := pL_inv h
  obtain ⟨x, S', rfl, h⟩ := pL_inv h
  refine WP_pure (fun {p l e R s m args below meth c' Z H locs cells slots ls} hx hb _ _ hl w => ?_) (hk _ _ _ _ _ h)
  have w1 := w _ hl
  simp only [List.map_cons, cV, o64_mul] at w1
  exact lv_lmul hx hb hd w1
theorem K_ldiv (hd : decode (mC mi) pc = .ok (.ldiv, len)) (ho : okE mi pc (.ldiv) len a b d c t = true) (h : step Γ ρ mi Q (.ldiv) a b d c t κ L S G M k) (hk : KK Γ ρ mi Q k (pc + len)) : WP Γ ρ κ mi pc L S G M Q := by
  obtain rfl : len = 1 := by simpa [okE] using ho
  obtain ⟨y, S1, rfl, h⟩ := pL_inv h
  obtain ⟨x, S', rfl, hne, h⟩ := pL_inv h
  refine WP_pure (fun {p l e R s m args below meth c' Z H locs cells slots ls} hx hb _ _ hl w => ?_) (hk _ _ _ _ _ h)
  have w1 := w _ hl
  simp only [List.map_cons, cV, o64_div] at w1
  exact lv_ldiv hx hb hd (fun h0 => hne (((o64_eq y 0).mp h0).trans (by rw [w64_eq]; rfl))) w1
theorem K_lrem (hd : decode (mC mi) pc = .ok (.lrem, len)) (ho : okE mi pc (.lrem) len a b d c t = true) (h : step Γ ρ mi Q (.lrem) a b d c t κ L S G M k) (hk : KK Γ ρ mi Q k (pc + len)) : WP Γ ρ κ mi pc L S G M Q := by
  obtain rfl : len = 1 := by simpa [okE] using ho
  obtain ⟨y, S1, rfl, h⟩ := pL_inv h
  obtain ⟨x, S', rfl, hne, h⟩ := pL_inv h
  refine WP_pure (fun {p l e R s m args below meth c' Z H locs cells slots ls} hx hb _ _ hl w => ?_) (hk _ _ _ _ _ h)
  have w1 := w _ hl
  simp only [List.map_cons, cV, o64_rem] at w1
  exact lv_lrem hx hb hd (fun h0 => hne (((o64_eq y 0).mp h0).trans (by rw [w64_eq]; rfl))) w1
theorem K_land (hd : decode (mC mi) pc = .ok (.land, len)) (ho : okE mi pc (.land) len a b d c t = true) (h : step Γ ρ mi Q (.land) a b d c t κ L S G M k) (hk : KK Γ ρ mi Q k (pc + len)) : WP Γ ρ κ mi pc L S G M Q := by
  obtain rfl : len = 1 := by simpa [okE] using ho
  obtain ⟨y, S1, rfl, h⟩ := pL_inv h
  obtain ⟨x, S', rfl, h⟩ := pL_inv h
  refine WP_pure (fun {p l e R s m args below meth c' Z H locs cells slots ls} hx hb _ _ hl w => ?_) (hk _ _ _ _ _ h)
  have w1 := w _ hl
  simp only [List.map_cons, cV, o_lAnd] at w1
  exact lv_land hx hb hd w1
theorem K_lor (hd : decode (mC mi) pc = .ok (.lor, len)) (ho : okE mi pc (.lor) len a b d c t = true) (h : step Γ ρ mi Q (.lor) a b d c t κ L S G M k) (hk : KK Γ ρ mi Q k (pc + len)) : WP Γ ρ κ mi pc L S G M Q := by
  obtain rfl : len = 1 := by simpa [okE] using ho
  obtain ⟨y, S1, rfl, h⟩ := pL_inv h
  obtain ⟨x, S', rfl, h⟩ := pL_inv h
  refine WP_pure (fun {p l e R s m args below meth c' Z H locs cells slots ls} hx hb _ _ hl w => ?_) (hk _ _ _ _ _ h)
  have w1 := w _ hl
  simp only [List.map_cons, cV, o_lOr] at w1
  exact lv_lor hx hb hd w1
theorem K_lxor (hd : decode (mC mi) pc = .ok (.lxor, len)) (ho : okE mi pc (.lxor) len a b d c t = true) (h : step Γ ρ mi Q (.lxor) a b d c t κ L S G M k) (hk : KK Γ ρ mi Q k (pc + len)) : WP Γ ρ κ mi pc L S G M Q := by
  obtain rfl : len = 1 := by simpa [okE] using ho
  obtain ⟨y, S1, rfl, h⟩ := pL_inv h
  obtain ⟨x, S', rfl, h⟩ := pL_inv h
  refine WP_pure (fun {p l e R s m args below meth c' Z H locs cells slots ls} hx hb _ _ hl w => ?_) (hk _ _ _ _ _ h)
  have w1 := w _ hl
  simp only [List.map_cons, cV, o_lXor] at w1
  exact lv_lxor hx hb hd w1
theorem K_lshl (hd : decode (mC mi) pc = .ok (.lshl, len)) (ho : okE mi pc (.lshl) len a b d c t = true) (h : step Γ ρ mi Q (.lshl) a b d c t κ L S G M k) (hk : KK Γ ρ mi Q k (pc + len)) : WP Γ ρ κ mi pc L S G M Q := by
  obtain rfl : len = 1 := by simpa [okE] using ho
  obtain ⟨y, S1, rfl, h⟩ := pI_inv h
  obtain ⟨x, S', rfl, h⟩ := pL_inv h
  refine WP_pure (fun {p l e R s m args below meth c' Z H locs cells slots ls} hx hb _ _ hl w => ?_) (hk _ _ _ _ _ h)
  have w1 := w _ hl
  simp only [List.map_cons, cV, o_lShl] at w1
  exact lv_lshl hx hb hd rfl w1
theorem K_lshr (hd : decode (mC mi) pc = .ok (.lshr, len)) (ho : okE mi pc (.lshr) len a b d c t = true) (h : step Γ ρ mi Q (.lshr) a b d c t κ L S G M k) (hk : KK Γ ρ mi Q k (pc + len)) : WP Γ ρ κ mi pc L S G M Q := by
  obtain rfl : len = 1 := by simpa [okE] using ho
  obtain ⟨y, S1, rfl, h⟩ := pI_inv h
  obtain ⟨x, S', rfl, h⟩ := pL_inv h
  refine WP_pure (fun {p l e R s m args below meth c' Z H locs cells slots ls} hx hb _ _ hl w => ?_) (hk _ _ _ _ _ h)
  have w1 := w _ hl
  simp only [List.map_cons, cV, o_lShr] at w1
  exact lv_lshr hx hb hd rfl w1
theorem K_lcmp (hd : decode (mC mi) pc = .ok (.lcmp, len)) (ho : okE mi pc (.lcmp) len a b d c t = true) (h : step Γ ρ mi Q (.lcmp) a b d c t κ L S G M k) (hk : KK Γ ρ mi Q k (pc + len)) : WP Γ ρ κ mi pc L S G M Q := by
  obtain rfl : len = 1 := by simpa [okE] using ho
  obtain ⟨y, S1, rfl, h⟩ := pL_inv h
  obtain ⟨x, S', rfl, h⟩ := pL_inv h
  refine WP_pure (fun {p l e R s m args below meth c' Z H locs cells slots ls} hx hb _ _ hl w => ?_) (hk _ _ _ _ _ h)
  have w1 := w _ hl
  simp only [List.map_cons, cV, ← o64_cmp] at w1
  exact W.lcmp hx hb hd w1
theorem K_i2l (hd : decode (mC mi) pc = .ok (.i2l, len)) (ho : okE mi pc (.i2l) len a b d c t = true) (h : step Γ ρ mi Q (.i2l) a b d c t κ L S G M k) (hk : KK Γ ρ mi Q k (pc + len)) : WP Γ ρ κ mi pc L S G M Q := by
  obtain rfl : len = 1 := by simpa [okE] using ho
  obtain ⟨x, S', rfl, h⟩ := pI_inv h
  exact WP_pure (fun hx hb _ _ hl w => lv_i2l hx hb hd (o32_i2l x) (w _ hl)) (hk _ _ _ _ _ h)
theorem K_l2i (hd : decode (mC mi) pc = .ok (.l2i, len)) (ho : okE mi pc (.l2i) len a b d c t = true) (h : step Γ ρ mi Q (.l2i) a b d c t κ L S G M k) (hk : KK Γ ρ mi Q k (pc + len)) : WP Γ ρ κ mi pc L S G M Q := by
  obtain rfl : len = 1 := by simpa [okE] using ho
  obtain ⟨x, S', rfl, h⟩ := pL_inv h
  exact WP_pure (fun hx hb _ _ hl w => lv_l2i hx hb hd (o64_l2i x) (w _ hl)) (hk _ _ _ _ _ h)
theorem K_i2c (hd : decode (mC mi) pc = .ok (.i2c, len)) (ho : okE mi pc (.i2c) len a b d c t = true) (h : step Γ ρ mi Q (.i2c) a b d c t κ L S G M k) (hk : KK Γ ρ mi Q k (pc + len)) : WP Γ ρ κ mi pc L S G M Q := by
  obtain rfl : len = 1 := by simpa [okE] using ho
  obtain ⟨x, S', rfl, h⟩ := pI_inv h
  exact WP_pure (fun hx hb _ _ hl w => lv_i2c hx hb hd (o32_i2c x) (w _ hl)) (hk _ _ _ _ _ h)
theorem K_dup (hd : decode (mC mi) pc = .ok (.dup, len)) (ho : okE mi pc (.dup) len a b d c t = true) (h : step Γ ρ mi Q (.dup) a b d c t κ L S G M k) (hk : KK Γ ρ mi Q k (pc + len)) : WP Γ ρ κ mi pc L S G M Q := by
  obtain rfl : len = 1 := by simpa [okE] using ho
  match S, h with
  | v :: S', h => exact WP_pure (fun hx hb _ _ hl w => lv_dup hx hb hd (cat_1 h.1) (w _ hl)) (hk _ _ _ _ _ h.2)
theorem K_pop (hd : decode (mC mi) pc = .ok (.pop, len)) (ho : okE mi pc (.pop) len a b d c t = true) (h : step Γ ρ mi Q (.pop) a b d c t κ L S G M k) (hk : KK Γ ρ mi Q k (pc + len)) : WP Γ ρ κ mi pc L S G M Q := by
  obtain rfl : len = 1 := by simpa [okE] using ho
  match S, h with
  | v :: S', h => exact WP_pure (fun hx hb _ _ hl w => lv_pop hx hb hd (cat_1 h.1) (w _ hl)) (hk _ _ _ _ _ h.2)
theorem K_dup2 (hd : decode (mC mi) pc = .ok (.dup2, len)) (ho : okE mi pc (.dup2) len a b d c t = true) (h : step Γ ρ mi Q (.dup2) a b d c t κ L S G M k) (hk : KK Γ ρ mi Q k (pc + len)) : WP Γ ρ κ mi pc L S G M Q := by
  obtain rfl : len = 1 := by simpa [okE] using ho
  match S, h with
  | v :: v2 :: S', h => exact WP_pure (fun hx hb _ _ hl w => lv_dup2_11 hx hb hd (cat_1 h.1) (cat_1 h.2.1) (w _ hl)) (hk _ _ _ _ _ h.2.2)
theorem K_goto {z : Int} (hd : decode (mC mi) pc = .ok (.goto z, len)) (ho : okE mi pc (.goto z) len a b d c t = true) (h : step Γ ρ mi Q (.goto z) a b d c t κ L S G M k) (hk : KK Γ ρ mi Q k (pc + len)) : WP Γ ρ κ mi pc L S G M Q := by
  simp only [okE, Bool.and_eq_true, beq_iff_eq] at ho
  exact WP_pure (S' := S) (fun hx hb _ _ hl w => lv_goto hx hb (by rw [hd, ho.1]) ho.2 (w _ hl)) h
theorem K_ifCond {o : Jvm.ClassFile.Cond} {z : Int} (hd : decode (mC mi) pc = .ok (.ifCond o z, len)) (ho : okE mi pc (.ifCond o z) len a b d c t = true) (h : step Γ ρ mi Q (.ifCond o z) a b d c t κ L S G M k) (hk : KK Γ ρ mi Q k (pc + len)) : WP Γ ρ κ mi pc L S G M Q := by
  simp only [okE, Bool.and_eq_true, beq_iff_eq] at ho
  obtain ⟨rfl, ht⟩ := ho
  obtain ⟨x, S', rfl, h1, h2⟩ := pI_inv h
  have e0 : w32 0 = 0 := by rw [w32_eq]; rfl
  refine WP_br (fun {p l e R s m args below meth c' Z H locs cells slots ls} hx hb u v => ?_) h1 (fun hp => hk _ _ _ _ _ (h2 hp))
  cases o with
  | eq => exact lv_if_eq hx hb hd ht (fun q => u (by rw [← e0]; exact (o32_eq x 0).mp q)) (fun q => v (fun z => q ((o32_eq x 0).mpr (by rw [e0]; exact z))))
  | ne => exact lv_if_ne hx hb hd ht (fun q => u (fun z => q ((o32_eq x 0).mpr (by rw [e0]; exact z)))) (fun q => v (fun z => z (by rw [← e0]; exact (o32_eq x 0).mp q)))
  | lt => exact lv_if_lt hx hb hd ht (fun q => u (by rw [← e0]; exact (o32_lt x 0).mp q)) (fun q => v (fun z => q ((o32_lt x 0).mpr (by rw [e0]; exact z))))
  | ge => exact lv_if_ge hx hb hd ht (fun q => u (by rw [← e0]; exact (o32_le 0 x).mp q)) (fun q => v (fun z => q ((o32_le 0 x).mpr (by rw [e0]; exact z))))
  | gt => exact lv_if_gt hx hb hd ht (fun q => u (by rw [← e0]; exact (o32_lt 0 x).mp q)) (fun q => v (fun z => q ((o32_lt 0 x).mpr (by rw [e0]; exact z))))
  | le => exact lv_if_le hx hb hd ht (fun q => u (by rw [← e0]; exact (o32_le x 0).mp q)) (fun q => v (fun z => q ((o32_le x 0).mpr (by rw [e0]; exact z))))
theorem K_if_icmp {o : Jvm.ClassFile.Cond} {z : Int} (hd : decode (mC mi) pc = .ok (.if_icmp o z, len)) (ho : okE mi pc (.if_icmp o z) len a b d c t = true) (h : step Γ ρ mi Q (.if_icmp o z) a b d c t κ L S G M k) (hk : KK Γ ρ mi Q k (pc + len)) : WP Γ ρ κ mi pc L S G M Q := by
  simp only [okE, Bool.and_eq_true, beq_iff_eq] at ho
  obtain ⟨rfl, ht⟩ := ho
  obtain ⟨y, S1, rfl, h⟩ := pI_inv h
  obtain ⟨x, S', rfl, h1, h2⟩ := pI_inv h
  refine WP_br (fun {p l e R s m args below meth c' Z H locs cells slots ls} hx hb u v => ?_) h1 (fun hp => hk _ _ _ _ _ (h2 hp))
  cases o with
  | eq => exact lv_icmp_eq hx hb hd ht (fun q => u ((o32_eq x y).mp q)) (fun q => v (fun z => q ((o32_eq x y).mpr z)))
  | ne => exact lv_icmp_ne hx hb hd ht (fun q => u (fun z => q ((o32_eq x y).mpr z))) (fun q => v (fun z => z ((o32_eq x y).mp q)))
  | lt => exact lv_icmp_lt hx hb hd ht (fun q => u ((o32_lt x y).mp q)) (fun q => v (fun z => q ((o32_lt x y).mpr z)))
  | ge => exact lv_icmp_ge hx hb hd ht (fun q => u ((o32_le y x).mp q)) (fun q => v (fun z => q ((o32_le y x).mpr z)))
  | gt => exact lv_icmp_gt hx hb hd ht (fun q => u ((o32_lt y x).mp q)) (fun q => v (fun z => q ((o32_lt y x).mpr z)))
  | le => exact lv_icmp_le hx hb hd ht (fun q => u ((o32_le x y).mp q)) (fun q => v (fun z => q ((o32_le x y).mpr z)))
end RULES
