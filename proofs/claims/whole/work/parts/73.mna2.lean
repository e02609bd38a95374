/-! ===== multianewarray: what the machine does; the rule ===== -/
theorem mq_n6 : (6 : Int32).toNatClampNeg = 6 := by decide
theorem mq_n32 : (32 : Int32).toNatClampNeg = 32 := by decide
theorem mq_p6 : ¬ (6 : Int32) < 0 := by decide
theorem mq_p32 : ¬ (32 : Int32) < 0 := by decide
theorem mq_f32 : ([(32 : Int32)].find? (· < 0)) = none := by decide
theorem mqV_0 (h : Nat) : mqV h 0 = fun _ => Value.null := by
  funext j
  unfold mqV
  rw [if_neg (Nat.not_lt_zero _)]
section MQ2
variable {E : CtlPost} {e : Env} {d : Bool} {acts : List Action} {s : State}
theorem mq_make1 {cI cc : ClassId} {kC : Class} (hkC : s.vm.classes[cI]? = some kC) (hkindC : kC.kind = .array cc .int) (hl : ¬ 32 > e.platform.arrayLengthLimit) (hh : ¬ 32 * componentBytes .int > e.platform.maxHeapBytes) (h1 : s.heap.size < e.platform.maxCells) (h2 : s.slotsUsed + 32 ≤ e.platform.maxSlots) {Q : Addr → Pre} (hq : ∀ acts', Q s.heap.size d acts' (s.pushCell (arrV cI 32 (fun _ => .int 0)))) : wp (multianewarray.make cI [(32 : Int32)]) Q E e d acts s := by
  rw [multianewarray.make]
  simp only [wp_bind', W.ite, mq_p32, if_false, wp_pure', W.theClass, hkC, hkindC, Option.some.injEq, exists_eq_left', mq_n32]
  refine W.newArray_of hkC hkindC hl hh h1 h2 rfl (fun acts' => ?_)
  have := hq acts'
  rw [← arrV_new] at this
  exact this
theorem mq_make2 {cA cI cc : ClassId} {kA kC : Class} (hkA : s.vm.classes[cA]? = some kA) (hkindA : kA.kind = .array cI (.array .int)) (hkC : s.vm.classes[cI]? = some kC) (hkindC : kC.kind = .array cc .int) (hl : ¬ 32 > e.platform.arrayLengthLimit) (hh : ¬ 32 * componentBytes .int > e.platform.maxHeapBytes) (hl6 : ¬ 6 > e.platform.arrayLengthLimit) (hh6 : ¬ 6 * componentBytes (.array .int) > e.platform.maxHeapBytes) (h1 : s.heap.size + 7 ≤ e.platform.maxCells) (h2 : s.slotsUsed + 198 ≤ e.platform.maxSlots) {Q : Addr → Pre} (hq : ∀ d' acts', Q s.heap.size d' acts' (mqS s cA cI 6)) : wp (multianewarray.make cA [(6 : Int32), (32 : Int32)]) Q E e d acts s := by
  rw [multianewarray.make]
  simp only [wp_bind', W.ite, mq_p6, if_false, wp_pure', W.theClass, hkA, hkindA, Option.some.injEq, exists_eq_left', mq_n6, mq_f32]
  refine W.newArray_of hkA hkindA hl6 hh6 (by omega) (by omega) rfl (fun acts1 => ?_)
  have e0 : s.pushCell { cls := cA, slots := Array.replicate 6 Value.null } = mqS s cA cI 0 := by
    show s.pushCell { cls := cA, slots := Array.replicate 6 Value.null, vm := .none } = s.pushCell (arrV cA 6 (mqV s.heap.size 0))
    rw [arrV_new, mqV_0]
  rw [e0]
  rw [ite_self, wp_bind', Std.Legacy.Range.forIn_eq_forIn_range']
  have hsz : ([:6] : Std.Legacy.Range).size = 6 := by simp [Std.Legacy.Range.size]
  rw [hsz]
  show wp (forIn (List.range' 0 6 1) PUnit.unit _) _ E e d acts1 _
  refine wp_forIn_inv (fun rest s' => ∃ i, i ≤ 6 ∧ rest = List.range' i (6 - i) ∧ s' = mqS s cA cI i) _ _ ⟨0, Nat.zero_le _, rfl, rfl⟩ ?_ ?_
  · rintro x rest s' d' acts' Q' ⟨i, hi, hl2, rfl⟩ hnext
    have hlt : i < 6 := by
      by_cases h : i < 6
      · exact h
      · rw [show 6 - i = 0 by omega] at hl2
        cases hl2
    rw [show 6 - i = (6 - (i + 1)) + 1 by omega, List.range'_succ] at hl2
    injection hl2 with hx hrest
    subst hx
    have f1 := mqS_size s cA cI x
    have f3 := mqS_vm s cA cI x
    have f4 := mqS_used s cA cI x
    simp only [wp_bind']
    refine mq_make1 (by rw [f3]; exact hkC) hkindC hl hh (by omega) (by omega) (fun acts2 => ?_)
    simp only [wp_bind', W.writeLoc, wp_pure']
    have ho : ((mqS s cA cI x).pushCell (arrV cI 32 (fun _ => .int 0))).heap[s.heap.size]? = some (arrV cA 6 (mqV s.heap.size x)) := by
      show ((mqS s cA cI x).heap.push _)[s.heap.size]? = _
      rw [Array.getElem?_push, if_neg (by omega)]
      exact mqS_out s cA cI x
    refine ⟨arrV cA 6 (mqV s.heap.size x), ho, by simp [arrV], by rw [arrV_size]; exact hlt, ?_, hnext _ _ _ ⟨x + 1, hlt, hrest, ?_⟩⟩
    · simp [State.fitsSlot, State.slotType?, f3, hkA, hkindA, arrV, fits]
    · rw [f1, arrV_store, mqV_up]
      rfl
  · rintro s' d' acts' ⟨i, hi, hl2, rfl⟩
    have hi6 : i = 6 := by
      by_cases h : i < 6
      · rw [show 6 - i = (6 - (i + 1)) + 1 by omega, List.range'_succ] at hl2
        cases hl2
      · omega
    subst hi6
    simp only [wp_pure']
    exact hq _ _
end MQ2
section MQ3
variable {p : Program} {l : Launch} {e : Env} {R : Room} {s : State} {m : MethodId} {args : Array Value} {below : List Frame} {meth : Method} {c : Code} {H : Heap} {locs : List Loc} {cells slots : Nat} {Q : State → Prop} {cc : ByteArray} {pc : Nat} {ls : Array Slot} {rest : List Value}
theorem mq_W {av : Array Value} (hexec : p.tables.exec = Jvm.exec) (hb : c.code = cc) {own : String} {index : Nat} (hown : s.vm.findClass own = some m.cls) (hclink : (Cond.classLink own index "[[I").before args s = true) (hover : (Cond.arrayOver (.array .int)).before av s = true) (harr : (Cond.arrayClass .int).before args s = true) (hcells : cells + 7 ≤ R.cells) (hslots : slots + 198 ≤ R.slots) (hH : s.heap.size ≤ H.size) (hdg : decode cc pc = .ok (.multianewarray index 2, 4))
    (kk : ∀ (cA cI : ClassId) (kA : Class) (H1 : Heap), s.vm.findClass "[[I" = some cA → s.vm.findClass "[I" = some cI → s.vm.classes[cA]? = some kA → kA.kind = .array cI (.array .int) → H1.size = H.size + 7 → (∀ x, x < H.size → H1[x]? = H[x]?) → H1[H.size]? = some (arrV cA 6 (mqV H.size 6)) → (∀ j, j < 6 → H1[H.size + 1 + j]? = some (arrV cI 32 (fun _ => .int 0))) →
      W p l e R s m args below meth c H1 locs (cells + 7) (slots + 198) Q (F0 m (pc + 4) ls (.ref H.size :: rest))) : W p l e R s m args below meth c H locs cells slots Q (F0 m pc ls (.int 32 :: .int 6 :: rest)) := by
  intro T hT X
  have hpl : e.platform.magicAccessors = ({} : Platform).magicAccessors := by rw [X.admits.platform]
  obtain ⟨cI, cA, kA, hcI, hkA, hkindA, hcA⟩ := mq_over hover
  obtain ⟨cI', kC, cB, hcI', hkC, hkindC⟩ := Cond.arrayClass_spec harr
  have eI : cI' = cI := Option.some.inj (hcI'.symm.trans hcI)
  subst eI
  obtain ⟨c0, hc0, hcl⟩ := Cond.classLink_spec hown hclink e.platform hpl
  cases hcA.symm.trans hc0
  obtain ⟨hg₁, hwarm₁, hready₁⟩ := State.classEntry (e := e) X.warmed hcl
  generalize T.vm.noted m.cls index (.cls cA) = vm₁ at hg₁ hwarm₁ hready₁
  have hal : s.vm.Alike vm₁ := hwarm₁.alike
  obtain ⟨kA₁, hkA₁, heA⟩ := hal.2.2 _ _ hkA
  obtain ⟨kC₁, hkC₁, heC⟩ := hal.2.2 _ _ hkC
  have hkindA₁ : kA₁.kind = .array cI' (.array .int) := by rw [heA]; exact hkindA
  have hkindC₁ : kC₁.kind = .array cB .int := by rw [heC]; exact hkindC
  have X₁ := X.noted hwarm₁
  obtain ⟨hr1, hr2⟩ := X.roomAbove (a := 7) (b := 198) hcells hslots
  obtain ⟨ex, hex, XF0⟩ := mq_stand X₁ cA cI' 6
  have hTs : (T.setVm vm₁).heap.size = H.size := by show T.heap.size = _; rw [hT]
  have XF := XF0.forget (fun y hy => by rw [hex y hy, hTs]; exact hH)
  have hlim : e.platform.arrayLengthLimit = 2147483645 := by rw [Launch.admits_arrayLengthLimit X.admits]
  have hmax : e.platform.maxHeapBytes = 536870912 := by rw [Launch.admits_maxHeapBytes X.admits]
  obtain ⟨t, st, hQ⟩ := kk cA cI' kA (mqS (T.setVm vm₁) cA cI' 6).heap hcA hcI hkA hkindA (by rw [mqS_size, hTs]) (fun x hx => by rw [mqS_old _ _ _ (by rw [hTs]; exact hx)]; show T.heap[x]? = _; rw [hT]) (by rw [← hTs]; exact mqS_out _ _ _ 6) (fun j hj => by rw [← hTs]; exact mqS_row _ _ _ 6 j hj) (mqS (T.setVm vm₁) cA cI' 6) rfl XF
  refine ⟨t, ?_, hQ⟩
  jvm_step X.here [hexec, hb, hdg]
  simp only [multianewarray.sem, wp_bind', W.resolveClassAt_links (State.method?_setTop (F0 m pc ls (.int 32 :: .int 6 :: rest)) X.here.top) hg₁]
  rw [W.popN, if_neg (by decide)]
  refine ⟨F0 m pc ls (.int 32 :: .int 6 :: rest), State.topJava?_setTop' (s := T.setVm vm₁) (F0 m pc ls (.int 32 :: .int 6 :: rest)) X.here.top, [.int 6, .int 32], rest, rfl, rfl, ?_⟩
  simp only [List.mapM_cons, List.mapM_nil, wp_bind', wp_pure']
  refine mq_make2 (kA := kA₁) (kC := kC₁) (cI := cI') (cc := cB) hkA₁ hkindA₁ hkC₁ hkindC₁ (by omega) (by rw [hmax]; decide) (by omega) (by rw [hmax]; decide) (by show T.heap.size + 7 ≤ _; omega) (by show T.slotsUsed + 198 ≤ _; omega) (fun d' acts' => ?_)
  have eS : ((T.setTop (F0 m pc ls (.int 32 :: .int 6 :: rest))).setVm vm₁).setTop (F0 m pc ls rest) = (T.setVm vm₁).setTop (F0 m pc ls rest) := by
    show ((T.setVm vm₁).setTop (F0 m pc ls (.int 32 :: .int 6 :: rest))).setTop _ = _
    rw [State.setTop_setTop]
  rw [eS, mqS_top]
  simp only [wp_bind', W.mark, W.pushRef, State.topJava?_setTop' _ XF.here.top, Option.some.injEq, exists_eq_left', State.setTop_setTop, State.heap_setTop]
  intro acts
  simp [jvm, XF.here.top]
  rw [← hT] at st
  exact st
end MQ3
