/-! ===== the end: from the law's entry ===== -/
def R_law : String := "GrazedNamesLaw"
def lw_P (b : Addr) (xs : List Int32) (args : Array Value) (s : State) : Prop := args = #[.ref b] ∧ s.IntsAt b xs ∧ xs.length ≤ 320 ∧ (Jvm.Cond.and given_1 narrow_1).before args s = true
def lw_Q (_ : Array Value) (s : State) (o : Outcome) (t : State) : Prop := o = .returned (some (.int 1)) ∧ Framed s o t [] 600000 7302250
def lw_Z (below : List Frame) (a : Array Value) (s : State) : State → Prop := fun t => ∃ o, t.status = .running ∧ Ended t below o ∧ lw_Q a s o t
/-- the law's own end, with 1 on the stack, nothing written that was there before, its room as the claim has it -/
theorem lw_ret {p : Program} {l : Launch} {e : Env} {s : State} {m : MethodId} {below : List Frame} {meth : Method} {c : Code} {b : Nat} (hx : p.tables.exec = Jvm.exec) (hb : c.code = code) (hr : meth.sig.returnType = ret) (hlocks : meth.locks = false) {pc : Nat} {H : Heap} {ls : Array Slot} (hdg : decode code pc = .ok (.ireturn, 1)) : W p l e room_1 s m #[Value.ref b] below meth c H [] 600000 7302250 (lw_Z below #[Value.ref b] s) (F0 m pc ls [.int 1]) := by
  intro T hT X
  obtain ⟨fs, hret, hrun, hended, hW, hframe⟩ := X.leave (v := some (.int 1)) (hlocks := hlocks) (fun h => by rw [hr] at h; cases h)
  have hmeth' : T.vm.method? m = some meth := X.method'
  refine ⟨T.setFrames fs, ?_, .returned (some (.int 1)), hrun, hended, rfl, ⟨_, rfl⟩, hW, hframe⟩
  jvm_step X.here [X.here.top, hx, hb, hdg, hmeth', hr, ret, narrow_b1]
  (try refine ⟨rfl, ?_⟩); (try refine ⟨rfl, ?_⟩)
  first | (intro acts; rw [hret _ acts rfl rfl rfl]) | rw [hret _ _ rfl rfl rfl]
  exact Steps.refl _
/-- what holds at the law's entry: the machine, the code, the tables' words (any of lw_tbl by 'hts w (by decide +kernel)'), the script of L ints xs at the cell b, what the Statement gives of the start (any of its parts by flat_of_before) -/
def lw_At (p : Program) (s : State) (m : MethodId) (meth : Method) (c : Code) (b L : Nat) (xs : Nat → Int32) : Prop :=
  p.tables.exec = Jvm.exec ∧ c.code = code ∧ meth.sig.returnType = ret ∧ c.maxLocals = 4 ∧ s.vm.findClass R_law = some m.cls ∧ (∀ w ∈ lw_tbl, w.before #[Value.ref b] s = true) ∧ va_X b L xs s s.heap ∧ b < s.heap.size ∧ meth.locks = false ∧ (Jvm.Cond.and given_1 narrow_1).before #[Value.ref b] s = true
theorem ac_of {av : Array Value} {s : State} {ty : FieldType} (h : (Cond.arrayClass ty).before av s = true) : ∃ cA : ClassId, ArrOfT s cA ty ∧ s.vm.findClass ("[" ++ ty.toString) = some cA := by
  obtain ⟨c, k, comp, h1, h2, h3⟩ := Cond.arrayClass_spec h
  exact ⟨c, fun n z => ⟨(fun k h => by cases h), k, h2, comp, h3⟩, h1⟩
theorem zI_in : ∀ k, k < 11 → k ∈ zI := by decide
def six (a b c d e f : ClassId) : Nat → ClassId
  | 0 => a
  | 1 => b
  | 2 => c
  | 3 => d
  | 4 => e
  | _ => f
theorem K_of {av : Array Value} {s : State} (hts : ∀ w ∈ lw_tbl, w.before av s = true) : ∃ (D : va_G) (ca : Nat → ClassId), va_K D vwCl (tysL ca) s := by
  have hKn : ∀ k, k < 11 → ∃ (cC : ClassId) (iS : Nat → Nat), u_Kn s (cN k) (cT k) (cF k) cC iS := fun k hk => u_known (ws := lw_tbl) hts (fun w hw => (lw_gG w ((cOk_all k hk).2.1 w hw)).1) (hts _ (lw_gG _ (zI_g k (zI_in k hk))).1)
  obtain ⟨dC, dI, hD⟩ : ∃ (dC : Nat → ClassId) (dI : Nat → Nat → Nat), ∀ k, k < 11 → u_Kn s (cN k) (cT k) (cF k) (dC k) (dI k) := by
    refine ⟨fun k => if h : k < 11 then Classical.choose (hKn k h) else 0, fun k => if h : k < 11 then Classical.choose (Classical.choose_spec (hKn k h)) else fun _ => 0, fun k hk => ?_⟩
    simp only [dif_pos hk]
    exact Classical.choose_spec (Classical.choose_spec (hKn k hk))
  obtain ⟨c0, p0, q0⟩ := ac_of (hts _ (lw_gG _ rE_int).1)
  obtain ⟨c1, p1, q1⟩ := ac_of (hts _ (lw_gG _ rE_long).1)
  obtain ⟨c2, p2, q2⟩ := ac_of (hts _ (lw_gG _ rE_char).1)
  obtain ⟨c3, p3, q3⟩ := ac_of (hts _ (lw_gG _ rE_boolean).1)
  obtain ⟨comp, c4, k4, h1, h2, h3, h4, h5⟩ := Cond.arrayOver_spec (hts _ rE_now)
  obtain ⟨comp5, c5, k5, g1, g2, g3, g4⟩ := mq_over (hts _ rE_rows)
  refine ⟨(dC, dI), six c0 c1 c2 c3 c4 c5, fun c q hq => ?_, fun k q hk => ?_⟩
  · have hc : c < 11 := (List.getElem?_eq_some_iff.mp hq).1
    rw [(cOk_all c hc).1] at hq
    cases hq
    exact hD c hc
  · match k, hk with
    | 0, hk => cases hk; exact ⟨p0, q0⟩
    | 1, hk => cases hk; exact ⟨p1, q1⟩
    | 2, hk => cases hk; exact ⟨p2, q2⟩
    | 3, hk => cases hk; exact ⟨p3, q3⟩
    | 4, hk => cases hk; exact ⟨fun n z => ⟨(fun k h => by cases h), k4, h3, comp, h4⟩, k4, comp, h3, h4, h1, h5⟩
    | 5, hk => cases hk; exact ⟨fun n z => ⟨(fun k h => by cases h), k5, g2, comp5, g3⟩, g4⟩
    | k + 6, hk => cases hk
theorem T_mark {av : Array Value} {s : State} {A : Nat → Prop} (hfl : ∀ c ∈ flatC (Jvm.Cond.and given_1 narrow_1), c.before av s = true) (hA : ∀ a : Nat, a < s.heap.size → ¬ A a) : ∃ t : Nat, (Term.static RX2 "MARK" "[I").eval av s none [] s = some (.ref t) ∧ va_T .int t 6 (fun j => .int (Int32.ofInt (mkT j))) A s s.heap := by
  refine va_Tof (by decide) (hfl _ (by decide +kernel)) (va_eqt (hfl _ (by decide +kernel))) (fun j hj => ?_) hA
  match j, hj with
  | 0, _ => exact (va_eqt (z := 1) (hfl _ (by decide +kernel)))
  | 1, _ => exact (va_eqt (z := 10) (hfl _ (by decide +kernel)))
  | 2, _ => exact (va_eqt (z := 100) (hfl _ (by decide +kernel)))
  | 3, _ => exact (va_eqt (z := 1000) (hfl _ (by decide +kernel)))
  | 4, _ => exact (va_eqt (z := 10000) (hfl _ (by decide +kernel)))
  | 5, _ => exact (va_eqt (z := 100000) (hfl _ (by decide +kernel)))
  | j + 6, h => exact absurd h (by omega)
theorem T_above {av : Array Value} {s : State} {A : Nat → Prop} (hfl : ∀ c ∈ flatC (Jvm.Cond.and given_1 narrow_1), c.before av s = true) (hA : ∀ a : Nat, a < s.heap.size → ¬ A a) : ∃ t : Nat, (Term.static RX2 "ABOVE" "[I").eval av s none [] s = some (.ref t) ∧ va_T .int t 6 (fun j => .int (Int32.ofInt (abT j))) A s s.heap := by
  refine va_Tof (by decide) (hfl _ (by decide +kernel)) (va_eqt (hfl _ (by decide +kernel))) (fun j hj => ?_) hA
  match j, hj with
  | 0, _ => exact (va_eqt (z := 0) (hfl _ (by decide +kernel)))
  | 1, _ => exact (va_eqt (z := 0) (hfl _ (by decide +kernel)))
  | 2, _ => exact (va_eqt (z := 0) (hfl _ (by decide +kernel)))
  | 3, _ => exact (va_eqt (z := 1) (hfl _ (by decide +kernel)))
  | 4, _ => exact (va_eqt (z := 2) (hfl _ (by decide +kernel)))
  | 5, _ => exact (va_eqt (z := 0) (hfl _ (by decide +kernel)))
  | j + 6, h => exact absurd h (by omega)
def GaT (b L : Nat) (xs : Nat → Int32) (tM tA : Nat) : aR := ([(b, L, fun j => (xs j).toInt), (tM, 6, mkT), (tA, 6, abT)], fun k => if k = 0 then tM else tA)
theorem Ro_of {b L : Nat} {xs : Nat → Int32} {s : State} {A : Nat → Prop} {D : va_G} {ca : Nat → ClassId} {tM tA : Nat} (hA : ∀ a : Nat, a < s.heap.size → ¬ A a) (hK : va_K D vwCl (tysL ca) s) (hX : va_X b L xs s s.heap) (hbl : b < s.heap.size) (hM : va_T .int tM 6 (fun j => .int (Int32.ofInt (mkT j))) A s s.heap) (hN : va_T .int tA 6 (fun j => .int (Int32.ofInt (abT j))) A s s.heap) (zM : va_Z RX2 "MARK" "[I" (.ref tM) A s s.heap) (zA : va_Z RX2 "ABOVE" "[I" (.ref tA) A s s.heap) : Ro (GaT b L xs tM tA) D ca A s := by
  refine ⟨hK, fun q hq => ?_, fun k hk => ?_⟩
  · rcases List.mem_cons.mp hq with rfl | hq
    · obtain ⟨scr, h1, h2, h3, h4, h5⟩ := hX
      refine ⟨scr, h1, h2, h3, Nat.le_of_eq h4.symm, by rw [h4], fun j hj => ?_, hA b hbl⟩
      rw [h5 j hj]
      show some (Value.int (xs j)) = some (Value.int (Int32.ofInt (xs j).toInt))
      rw [Int32.ofInt_toInt]
    rcases List.mem_cons.mp hq with rfl | hq
    · exact hM
    rcases List.mem_cons.mp hq with rfl | hq
    · exact hN
    · cases hq
  · match k, hk with
    | 0, _ => exact zM
    | 1, _ => exact zA
    | k + 2, h => exact absurd h (by omega)
