/-! ===== every step, and blocks of steps ===== -/
section BLK
variable {Γ : aR} {ρ κ mi pc len a b d nx : Nat} {c : Int} {t : List (Int × Nat)} {L S : List aV} {G : aG} {M : aM} {Q : aQ} {k : aK}
theorem step_ok {i : Instr} (hd : decode (mC mi) pc = .ok (i, len)) (ho : okE mi pc i len a b d c t = true) (h : step Γ ρ mi Q i a b d c t κ L S G M k) (hk : KK Γ ρ mi Q k (pc + len)) : WP Γ ρ κ mi pc L S G M Q := by
  cases i with
  | iconst => exact K_iconst hd ho h hk
  | bipush => exact K_bipush hd ho h hk
  | sipush => exact K_sipush hd ho h hk
  | ldc => exact K_ldc hd ho h hk
  | ldc_w => exact K_ldc_w hd ho h hk
  | lconst => exact K_lconst hd ho h hk
  | ldc2_w => exact K_ldc2_w hd ho h hk
  | iload_n => exact K_iload_n hd ho h hk
  | iload => exact K_iload hd ho h hk
  | lload_n => exact K_lload_n hd ho h hk
  | lload => exact K_lload hd ho h hk
  | aload_n => exact K_aload_n hd ho h hk
  | aload => exact K_aload hd ho h hk
  | istore_n => exact K_istore_n hd ho h hk
  | istore => exact K_istore hd ho h hk
  | lstore_n => exact K_lstore_n hd ho h hk
  | lstore => exact K_lstore hd ho h hk
  | astore_n => exact K_astore_n hd ho h hk
  | astore => exact K_astore hd ho h hk
  | iinc => exact K_iinc hd ho h hk
  | iadd => exact K_iadd hd ho h hk
  | isub => exact K_isub hd ho h hk
  | imul => exact K_imul hd ho h hk
  | idiv => exact K_idiv hd ho h hk
  | irem => exact K_irem hd ho h hk
  | iand => exact K_iand hd ho h hk
  | ior => exact K_ior hd ho h hk
  | ixor => exact K_ixor hd ho h hk
  | ishl => exact K_ishl hd ho h hk
  | ishr => exact K_ishr hd ho h hk
  | iushr => exact K_iushr hd ho h hk
  | ladd => exact K_ladd hd ho h hk
  | lmul => exact K_lmul hd ho h hk
  | ldiv => exact K_ldiv hd ho h hk
  | lrem => exact K_lrem hd ho h hk
  | land => exact K_land hd ho h hk
  | lor => exact K_lor hd ho h hk
  | lxor => exact K_lxor hd ho h hk
  | lshl => exact K_lshl hd ho h hk
  | lshr => exact K_lshr hd ho h hk
  | lcmp => exact K_lcmp hd ho h hk
  | i2l => exact K_i2l hd ho h hk
  | l2i => exact K_l2i hd ho h hk
  | i2c => exact K_i2c hd ho h hk
  | dup => exact K_dup hd ho h hk
  | pop => exact K_pop hd ho h hk
  | dup2 => exact K_dup2 hd ho h hk
  | iaload => exact K_iaload hd ho h hk
  | caload => exact K_caload hd ho h hk
  | baload => exact K_baload hd ho h hk
  | laload => exact K_laload hd ho h hk
  | aaload => exact K_aaload hd ho h hk
  | iastore => exact K_iastore hd ho h hk
  | castore => exact K_castore hd ho h hk
  | bastore => exact K_bastore hd ho h hk
  | lastore => exact K_lastore hd ho h hk
  | aastore => exact K_aastore hd ho h hk
  | arraylength => exact K_arraylength hd ho h hk
  | getfield => exact K_getfield hd ho h hk
  | putfield => exact K_putfield hd ho h hk
  | getstatic => exact K_getstatic hd ho h hk
  | new => exact K_new hd ho h hk
  | newarray => exact K_newarray hd ho h hk
  | anewarray => exact K_anewarray hd ho h hk
  | goto => exact K_goto hd ho h hk
  | ifCond => exact K_ifCond hd ho h hk
  | if_icmp => exact K_if_icmp hd ho h hk
  | invokevirtual => exact K_invokevirtual hd ho h hk
  | invokestatic => exact K_invokestatic hd ho h hk
  | invokespecial => exact K_invokespecial hd ho h hk
  | tableswitch => exact K_tableswitch hd ho h
  | lookupswitch => exact K_lookupswitch hd ho h
  | ireturn => exact K_ireturn hd ho h
  | lreturn => exact K_lreturn hd ho h
  | return_ => exact K_return hd ho h
  | _ => exact False.elim h
def chk (mi nx : Nat) : Nat → List El → Bool
  | pc, [] => pc == nx
  | pc, e :: r => decide (decode (mC mi) pc = .ok (e.1, e.2.1)) && (okE mi pc e.1 e.2.1 e.2.2.1 e.2.2.2.1 e.2.2.2.2.1 e.2.2.2.2.2.1 e.2.2.2.2.2.2 && chk mi nx (pc + e.2.1) r)
theorem blk : ∀ {es : List El} {pc κ : Nat} {L S : List aV} {G : aG} {M : aM}, chk mi nx pc es = true → vcb Γ ρ mi Q nx es κ L S G M → WP Γ ρ κ mi pc L S G M Q := by
  intro es
  induction es with
  | nil =>
    intro pc κ L S G M h hv
    have e : pc = nx := by simpa [chk] using h
    subst e
    exact hv
  | cons e r ih =>
    intro pc κ L S G M h hv
    simp only [chk, Bool.and_eq_true, decide_eq_true_eq] at h
    exact step_ok h.1 h.2.1 hv (fun κ L S G M hk => ih h.2.2 hk)
theorem chk_app {es es' : List El} : ∀ {pc : Nat}, chk mi nx pc es = true → ∀ {n2 : Nat}, chk mi n2 nx es' = true → chk mi n2 pc (es ++ es') = true := by
  induction es with
  | nil =>
    intro pc h n2 h2
    have e : pc = nx := by simpa [chk] using h
    subst e
    exact h2
  | cons e r ih =>
    intro pc h n2 h2
    simp only [chk, Bool.and_eq_true, decide_eq_true_eq] at h
    simp only [List.cons_append, chk, Bool.and_eq_true, decide_eq_true_eq]
    exact ⟨h.1, h.2.1, ih h.2.2 h2⟩
theorem eq_pre : step (([], fun _ => 0) : aR) 0 0 (fun _ _ _ => True) .iadd 0 0 0 0 [] 0 [] [vI 1, vI 2] (([], fun _ => .inl 0, fun _ _ => none) : aG) (fun _ _ => 0) (fun _ _ _ _ _ => True) := by simp only [step, ↓pI_c]
end BLK
