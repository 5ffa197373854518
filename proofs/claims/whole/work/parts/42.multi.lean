/-! multianewarray of four rows of no ints -/
section MULTI
variable {E9 : CtlPost} {e : Env} {d : Bool} {acts : List Action}
theorem zmk_in {s : State} {c0 q0 : ClassId} {k0 : Class} (hk0 : s.vm.classes[c0]? = some k0) (hkind0 : k0.kind = .array q0 .int) (hlim : ¬ 0 > e.platform.arrayLengthLimit) (hheap : ¬ 0 > e.platform.maxHeapBytes) (h1 : s.heap.size < e.platform.maxCells) (h2 : s.slotsUsed ≤ e.platform.maxSlots) {Q : Addr → Pre}
    (hq : ∀ acts', Q s.heap.size d acts' (s.pushCell { cls := c0, slots := #[], vm := .none })) : wp (Op.multianewarray.make c0 [0]) Q E9 e d acts s := by
  unfold Op.multianewarray.make
  simp only [wp_bind', W.theClass, hk0, hkind0, Option.some.injEq, exists_eq_left', Jvm.newArray, Jvm.arrayFits, W.ask, W.ite, W.alloc, W.stop]
  simp
  sorry
end MULTI
