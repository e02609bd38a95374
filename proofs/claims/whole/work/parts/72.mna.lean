/-! ===== multianewarray of 6 rows of 32 ints, on the machine ===== -/
theorem mq_over {av : Array Value} {s : State} (h : (Cond.arrayOver (.array .int)).before av s = true) : ∃ (comp c : ClassId) (k : Class), s.vm.findClass "[I" = some comp ∧ s.vm.classes[c]? = some k ∧ k.kind = .array comp (.array .int) ∧ s.vm.findClass "[[I" = some c := by
  simp only [Cond.before, Cond.holds, Cond.value, beq_iff_eq] at h
  cases hc : s.vm.findClass (FieldType.array .int).toString with
  | none => simp [hc] at h
  | some comp =>
    simp only [hc, Option.bind_some, Option.bind_eq_some_iff, Option.map_eq_some_iff] at h
    obtain ⟨c, hi, k, hk, hb⟩ := h
    have hp := (Array.findIdx?_eq_some_iff_getElem.mp hi).2.1
    rw [(Array.getElem?_eq_some_iff.mp hk).2] at hp
    cases hkind : k.kind with
    | array component ty =>
      rw [hkind] at hb hp
      simp at hb hp
      refine ⟨comp, c, k, hc, hk, ?_, hb.2⟩
      rw [hkind, hp, hb.1]
    | _ => rw [hkind] at hb; simp at hb
/-- the rows made so far: i of them, the outer row at h -/
def mqV (h i : Nat) : Nat → Value := fun j => if j < i then .ref (h + 1 + j) else .null
def mqS (s : State) (cA cI : ClassId) : Nat → State
  | 0 => s.pushCell (arrV cA 6 (mqV s.heap.size 0))
  | i + 1 => ((mqS s cA cI i).pushCell (arrV cI 32 (fun _ => .int 0))).setCell s.heap.size (arrV cA 6 (mqV s.heap.size (i + 1)))
theorem mqV_up (h i : Nat) : updV (mqV h i) i (.ref (h + 1 + i)) = mqV h (i + 1) := by
  funext j
  unfold updV mqV
  by_cases e : j = i
  · subst e
    rw [if_pos rfl, if_pos (by omega)]
  · rw [if_neg e]
    by_cases h1 : j < i
    · rw [if_pos h1, if_pos (by omega)]
    · rw [if_neg h1, if_neg (by omega)]
theorem mqS_size (s : State) (cA cI : ClassId) : ∀ i, (mqS s cA cI i).heap.size = s.heap.size + 1 + i
  | 0 => by show (s.heap.push _).size = _; rw [Array.size_push]
  | i + 1 => by
    show (((mqS s cA cI i).heap.push _).setIfInBounds _ _).size = _
    rw [Array.size_setIfInBounds, Array.size_push, mqS_size s cA cI i]
    omega
theorem mqS_vm (s : State) (cA cI : ClassId) : ∀ i, (mqS s cA cI i).vm = s.vm
  | 0 => rfl
  | i + 1 => mqS_vm s cA cI i
theorem mqS_used (s : State) (cA cI : ClassId) : ∀ i, (mqS s cA cI i).slotsUsed = s.slotsUsed + 6 + 32 * i
  | 0 => by show s.slotsUsed + (arrV cA 6 _).slots.size = _; rw [arrV_size]
  | i + 1 => by
    show (mqS s cA cI i).slotsUsed + (arrV cI 32 _).slots.size = _
    rw [arrV_size, mqS_used s cA cI i]
    omega
theorem mqS_out (s : State) (cA cI : ClassId) : ∀ i, (mqS s cA cI i).heap[s.heap.size]? = some (arrV cA 6 (mqV s.heap.size i))
  | 0 => by show (s.heap.push _)[s.heap.size]? = _; simp
  | i + 1 => by
    have h := mqS_size s cA cI i
    show (((mqS s cA cI i).heap.push _).setIfInBounds s.heap.size _)[s.heap.size]? = _
    rw [Array.getElem?_setIfInBounds_self_of_lt (by rw [Array.size_push]; omega)]
theorem mqS_old (s : State) (cA cI : ClassId) {x : Nat} (hx : x < s.heap.size) : ∀ i, (mqS s cA cI i).heap[x]? = s.heap[x]?
  | 0 => by
    show (s.heap.push _)[x]? = _
    rw [Array.getElem?_push, if_neg (by omega)]
  | i + 1 => by
    have h := mqS_size s cA cI i
    show (((mqS s cA cI i).heap.push _).setIfInBounds s.heap.size _)[x]? = _
    rw [Array.getElem?_setIfInBounds, if_neg (by omega), Array.getElem?_push, if_neg (by omega)]
    exact mqS_old s cA cI hx i
theorem mqS_row (s : State) (cA cI : ClassId) : ∀ i j, j < i → (mqS s cA cI i).heap[s.heap.size + 1 + j]? = some (arrV cI 32 (fun _ => .int 0))
  | 0, j, h => absurd h (Nat.not_lt_zero _)
  | i + 1, j, h => by
    have h9 := mqS_size s cA cI i
    show (((mqS s cA cI i).heap.push _).setIfInBounds s.heap.size _)[s.heap.size + 1 + j]? = _
    rw [Array.getElem?_setIfInBounds, if_neg (by omega), Array.getElem?_push]
    by_cases e : j = i
    · subst e
      rw [if_pos h9.symm]
    · rw [if_neg (by omega)]
      exact mqS_row s cA cI i j (by omega)
theorem mqS_top (s : State) (f : JFrame) (cA cI : ClassId) : ∀ i, mqS (s.setTop f) cA cI i = (mqS s cA cI i).setTop f
  | 0 => rfl
  | i + 1 => by
    show ((mqS (s.setTop f) cA cI i).pushCell _).setCell _ _ = _
    rw [mqS_top s f cA cI i]
    rfl
section MQ
variable {p : Program} {l : Launch} {e : Env} {R : Room} {s : State} {m : MethodId} {args : Array Value} {below : List Frame} {meth : Method} {c : Code} {T : State} {locs : List Loc} {cells slots : Nat}
theorem mq_stand (X : Stand p l e R s m args below meth c T locs cells slots) (cA cI : ClassId) : ∀ i, ∃ ex : List Loc, (∀ y ∈ ex, y.base = T.heap.size) ∧ Stand p l e R s m args below meth c (mqS T cA cI i) (locs ++ ex) (cells + 1 + i) (slots + 6 + 32 * i)
  | 0 => by
    have h := X.pushed (arrV cA 6 (mqV T.heap.size 0))
    rw [arrV_size] at h
    exact ⟨[], fun _ h => absurd h List.not_mem_nil, by rw [List.append_nil]; exact h⟩
  | i + 1 => by
    obtain ⟨ex, he, Xi⟩ := mq_stand X cA cI i
    have h9 := mqS_size T cA cI i
    have hc : ((mqS T cA cI i).pushCell (arrV cI 32 (fun _ => .int 0))).heap[T.heap.size]? = some (arrV cA 6 (mqV T.heap.size i)) := by
      show ((mqS T cA cI i).heap.push _)[T.heap.size]? = _
      rw [Array.getElem?_push, if_neg (by omega)]
      exact mqS_out T cA cI i
    have h := (Xi.pushed (arrV cI 32 (fun _ => .int 0))).stored hc i (.ref (T.heap.size + 1 + i))
    rw [arrV_size, arrV_store, mqV_up] at h
    refine ⟨ex ++ [⟨T.heap.size, i⟩], fun y hy => ?_, ?_⟩
    · rcases List.mem_append.mp hy with hy | hy
      · exact he y hy
      · rw [List.mem_singleton.mp hy]
    · rw [← List.append_assoc, show cells + 1 + (i + 1) = cells + 1 + i + 1 by omega, show slots + 6 + 32 * (i + 1) = slots + 6 + 32 * i + 32 by omega]
      exact h
end MQ
