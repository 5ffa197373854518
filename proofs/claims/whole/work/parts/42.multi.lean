/-! multianewarray of four rows of no ints -/
section MULTI
variable {E9 : CtlPost} {e : Env} {d : Bool} {acts : List Action}
def zMi (c0 : ClassId) : Cell := { cls := c0, slots := #[], vm := .none }
def zMc (c6 : ClassId) (a k : Nat) : Cell := arrV c6 4 (fun j => if j < k then .ref (a + 1 + j) else .null)
def zMs (c6 c0 : ClassId) (a : Nat) (s : State) : Nat → State
  | 0 => s
  | k + 1 => ((zMs c6 c0 a s k).pushCell (zMi c0)).setCell a (zMc c6 a (k + 1))
theorem zMc_set {c6 : ClassId} {a k : Nat} : (zMc c6 a k).setSlot k (.ref (a + 1 + k)) = zMc c6 a (k + 1) := by
  unfold zMc
  rw [arrV_store]
  congr 1
  funext j
  unfold updV
  by_cases h : j = k
  · subst h; simp
  · simp only [h, if_false]
    by_cases g : j < k
    · rw [if_pos g, if_pos (by omega)]
    · rw [if_neg g, if_neg (by omega)]
theorem zMc_0 {c6 : ClassId} {a : Nat} : ({ cls := c6, slots := Array.replicate 4 .null, vm := .none } : Cell) = zMc c6 a 0 := by
  rw [arrV_new]
  unfold zMc
  congr 1
theorem zmk_in {s : State} {c0 q0 : ClassId} {k0 : Class} (hk0 : s.vm.classes[c0]? = some k0) (hkind0 : k0.kind = .array q0 .int) (h1 : s.heap.size < e.platform.maxCells) (h2 : s.slotsUsed ≤ e.platform.maxSlots) {Q : Addr → Pre}
    (hq : ∀ acts', Q s.heap.size d acts' (s.pushCell (zMi c0))) : wp (Op.multianewarray.make c0 [0]) Q E9 e d acts s := by
  unfold Op.multianewarray.make
  simp only [wp_bind', W.theClass, hk0, hkind0, Option.some.injEq, exists_eq_left', Jvm.newArray, Jvm.arrayFits, W.ask, W.ite, W.alloc, W.stop]
  simp
  exact ⟨h1, h2, hq _⟩
/-- what holds of the state behind k rows -/
theorem zMs_facts {c6 c0 : ClassId} {s : State} {a : Nat} (hsz : s.heap.size = a + 1) (h0 : s.heap[a]? = some (zMc c6 a 0)) (k : Nat) : (zMs c6 c0 a s k).heap.size = a + 1 + k ∧ (zMs c6 c0 a s k).heap[a]? = some (zMc c6 a k) ∧ (∀ j, j < k → (zMs c6 c0 a s k).heap[a + 1 + j]? = some (zMi c0)) ∧ (∀ x, x < a → (zMs c6 c0 a s k).heap[x]? = s.heap[x]?) ∧ (zMs c6 c0 a s k).vm = s.vm ∧ (zMs c6 c0 a s k).slotsUsed = s.slotsUsed := by
  induction k with
  | zero => exact ⟨hsz, h0, fun j hj => absurd hj (Nat.not_lt_zero j), fun _ _ => rfl, rfl, rfl⟩
  | succ k ih =>
    obtain ⟨i1, i2, i3, i4, i5, i6⟩ := ih
    generalize hS : zMs c6 c0 a s k = t at *
    have e0 : zMs c6 c0 a s (k + 1) = (t.pushCell (zMi c0)).setCell a (zMc c6 a (k + 1)) := by rw [← hS]; rfl
    rw [e0]
    have eh : ((t.pushCell (zMi c0)).setCell a (zMc c6 a (k + 1))).heap = (t.heap.push (zMi c0)).setIfInBounds a (zMc c6 a (k + 1)) := rfl
    rw [eh]
    refine ⟨?_, ?_, fun j hj => ?_, fun x hx => ?_, i5, ?_⟩
    · rw [Array.size_setIfInBounds, Array.size_push, i1]; omega
    · rw [Array.getElem?_setIfInBounds, if_pos rfl, if_pos (by rw [Array.size_push]; omega)]
    · rw [Array.getElem?_setIfInBounds, if_neg (by omega), Array.getElem?_push, i1]
      by_cases g : j = k
      · subst g; rw [if_pos rfl]
      · rw [if_neg (by omega)]; exact i3 j (by omega)
    · rw [Array.getElem?_setIfInBounds, if_neg (by omega), Array.getElem?_push, i1, if_neg (by omega)]
      exact i4 x hx
    · rw [← i6]; rfl
theorem zmk_out {s : State} {g : JFrame} (hs : s.topJava?.isSome) {c6 c0 q0 : ClassId} {k6 k0 : Class} (hk6 : s.vm.classes[c6]? = some k6) (hkind6 : k6.kind = .array c0 (.array .int)) (hk0 : s.vm.classes[c0]? = some k0) (hkind0 : k0.kind = .array q0 .int) (hlim : ¬ e.platform.arrayLengthLimit < 4) (hhp : ¬ e.platform.maxHeapBytes < 4 * componentBytes (.array .int)) (h1 : s.heap.size + 5 ≤ e.platform.maxCells) (h2 : s.slotsUsed + 4 ≤ e.platform.maxSlots) {Q : Addr → Pre}
    (hq : ∀ d' acts', Q s.heap.size d' acts' ((zMs c6 c0 s.heap.size (s.pushCell (zMc c6 s.heap.size 0)) 4).setTop g)) : wp (Op.multianewarray.make c6 [4, 0]) Q E9 e d acts (s.setTop g) := by
  unfold Op.multianewarray.make
  simp only [wp_bind', W.theClass, State.vm_setTop, hk6, hkind6, Option.some.injEq, exists_eq_left', Jvm.newArray, Jvm.arrayFits, W.ask, W.ite, W.alloc, W.stop]
  simp
  rw [if_neg hlim, if_neg hhp]
  have hdef : (∀ (i : Nat) (v : Value), (Array.replicate 4 Value.null)[i]? = some v → s.fitsSlot c6 VmData.none i v = true) := by
    intro i v hv
    rw [Array.getElem?_replicate] at hv
    split at hv
    · cases hv
      simp [State.fitsSlot, State.slotType?, hk6, hkind6]
      rfl
    · cases hv
  refine ⟨by omega, by omega, h2, hdef, ?_⟩
  rw [show ({ cls := c6, slots := Array.replicate 4 Value.null } : Cell) = zMc c6 s.heap.size 0 from zMc_0]
  generalize allocActs (Array.replicate 4 Value.null) (Array.size s.heap) acts = acts1
  have hf := zMs_facts (c6 := c6) (c0 := c0) (s := s.pushCell (zMc c6 s.heap.size 0)) (a := s.heap.size) (by show (s.heap.push _).size = _; rw [Array.size_push]) (by show (s.heap.push _)[s.heap.size]? = _; simp)
  have hfs : ∀ k j, (s.pushCell (zMc c6 s.heap.size 0)).fitsSlot (zMc c6 s.heap.size k).cls (zMc c6 s.heap.size k).vm k (.ref j) = true := fun k j => by
    show s.fitsSlot c6 VmData.none k (.ref j) = true
    simp [State.fitsSlot, State.slotType?, hk6, hkind6]
    rfl
  have hu : (s.pushCell (zMc c6 s.heap.size 0)).slotsUsed = s.slotsUsed + 4 := by
    show s.slotsUsed + (zMc c6 s.heap.size 0).slots.size = _
    unfold zMc
    rw [arrV_size]
  generalize hs1 : s.pushCell (zMc c6 s.heap.size 0) = s1 at hf hu hfs hq ⊢
  have hvm1 : s1.vm = s.vm := by rw [← hs1]; rfl
  refine wp_forIn_inv (fun rest s' => ∃ k, k ≤ 4 ∧ rest = List.range' k (4 - k) ∧ s' = (zMs c6 c0 s.heap.size s1 k).setTop g) _ _ ⟨0, by omega, rfl, rfl⟩ ?_ ?_
  · rintro x rest s' d' acts' Q' ⟨k, hk, hr, rfl⟩ hnext
    have hk4 : k < 4 := by
      rcases Nat.lt_or_ge k 4 with h | h
      · exact h
      · rw [show 4 - k = 0 by omega] at hr; cases hr
    rw [show 4 - k = (4 - (k + 1)) + 1 by omega, List.range'_succ] at hr
    obtain ⟨rfl, rfl⟩ := List.cons.inj hr
    obtain ⟨f1, f2, f3, f4, f5, f6⟩ := hf x
    rw [wp_bind']
    refine zmk_in (q0 := q0) (k0 := k0) (by show (zMs c6 c0 s.heap.size s1 x).vm.classes[c0]? = _; rw [f5, hvm1]; exact hk0) hkind0 (by show (zMs c6 c0 s.heap.size s1 x).heap.size < _; omega) (by show (zMs c6 c0 s.heap.size s1 x).slotsUsed ≤ _; omega) (fun acts2 => ?_)
    simp only [map_eq_pure_bind, wp_bind', W.writeLoc, wp_pure']
    refine ⟨zMc c6 s.heap.size x, ?_, (fun h => by cases h), ?_, ?_, ?_⟩
    · show ((zMs c6 c0 s.heap.size s1 x).heap.push _)[s.heap.size]? = _
      rw [Array.getElem?_push, if_neg (by omega)]
      exact f2
    · unfold zMc; rw [arrV_size]; exact hk4
    · have hk6' : (zMs c6 c0 s.heap.size s1 x).vm.classes[c6]? = some k6 := by rw [f5, hvm1]; exact hk6
      show (zMs c6 c0 s.heap.size s1 x).fitsSlot c6 VmData.none x (.ref _) = true
      simp [State.fitsSlot, State.slotType?, hk6', hkind6]
      rfl
    · refine hnext _ _ _ ⟨x + 1, by omega, rfl, ?_⟩
      show _ = (((zMs c6 c0 s.heap.size s1 x).pushCell (zMi c0)).setCell s.heap.size (zMc c6 s.heap.size (x + 1))).setTop g
      rw [← zMc_set, ← f1]
      rfl
  · rintro s' d' acts' ⟨k, hk, hr, rfl⟩
    have hk4 : k = 4 := by
      rcases Nat.lt_or_ge k 4 with h | h
      · rw [show 4 - k = (4 - (k + 1)) + 1 by omega, List.range'_succ] at hr; cases hr
      · omega
    subst hk4
    exact hq _ _
end MULTI
section MULTI2
variable {p : Program} {l : Launch} {e : Env} {R : Room} {s : State} {m : MethodId} {args : Array Value} {below : List Frame} {meth : Method} {c : Code} {H : Heap} {locs : List Loc} {cells slots : Nat} {Q : State → Prop}
theorem zMs_stand {T : State} {c6 c0 : ClassId} {a : Nat} (X : Stand p l e R s m args below meth c T locs cells slots) (hsz : T.heap.size = a) (k : Nat) : ∃ L, (∀ q ∈ L, q.base = a) ∧ Stand p l e R s m args below meth c (zMs c6 c0 a (T.pushCell (zMc c6 a 0)) k) (locs ++ L) (cells + 1 + k) (slots + 4) := by
  induction k with
  | zero =>
    have h := X.pushed (zMc c6 a 0)
    rw [show (zMc c6 a 0).slots.size = 4 from by unfold zMc; rw [arrV_size]] at h
    exact ⟨[], (fun q hq => by cases hq), by rw [List.append_nil]; exact h⟩
  | succ k ih =>
    obtain ⟨L, hL, h⟩ := ih
    obtain ⟨f1, f2, f3, f4, f5, f6⟩ := zMs_facts (c6 := c6) (c0 := c0) (s := T.pushCell (zMc c6 a 0)) (a := a) (by show (T.heap.push _).size = _; rw [Array.size_push, hsz]) (by show (T.heap.push _)[a]? = _; rw [← hsz]; simp) k
    have h2 := (h.pushed (zMi c0)).stored (a := a) (cell := zMc c6 a k) (by show ((zMs c6 c0 a (T.pushCell (zMc c6 a 0)) k).heap.push _)[a]? = _; rw [Array.getElem?_push, if_neg (by omega)]; exact f2) k (.ref (a + 1 + k))
    rw [zMc_set] at h2
    refine ⟨L ++ [⟨a, k⟩], fun q hq => ?_, ?_⟩
    · rcases List.mem_append.mp hq with z | z
      · exact hL q z
      · rw [List.mem_singleton.mp z]
    · rw [← List.append_assoc]
      exact h2
theorem zafter {TF t' : State} {pc q : Nat} {ls : Array Slot} {rest : List Value} {acts : List Action} (h0 : TF.topJava?.isSome) (h : Steps p.tables e below (TF.setTop (F0 m (pc + 4) ls (.ref q :: rest))) t') : Steps p.tables e below (afterInstr e 4 (.ok () ((TF.setTop (F0 m pc ls rest)).setTop { (F0 m pc ls rest) with stack := .ref q :: rest }) acts)).1 t' := by
  rw [State.setTop_setTop]
  simp [jvm, h0]
  exact h
theorem W.multi40 {cc : ByteArray} (hexec : p.tables.exec = Jvm.exec) (hb : c.code = cc) {own : String} {index : Nat} (hown : s.vm.findClass own = some m.cls) (hclink : (Cond.classLink own index "[[I").before args s = true) {c6 c0 q0 : ClassId} {k6 k0 : Class} (h6 : s.vm.findClass "[[I" = some c6) (hk6 : s.vm.classes[c6]? = some k6) (hkind6 : k6.kind = .array c0 (.array .int)) (hk0 : s.vm.classes[c0]? = some k0) (hkind0 : k0.kind = .array q0 .int)
    {pc : Nat} {ls : Array Slot} {rest : List Value} (hdg : decode cc pc = .ok (.multianewarray index 2, 4)) (hcells : cells + 5 ≤ R.cells) (hslots : slots + 4 ≤ R.slots)
    (kk : ∀ (H' : Heap) (L : List Loc), (∀ q ∈ L, q.base = H.size) → H'.size = H.size + 5 → (∀ x, x < H.size → H'[x]? = H[x]?) → H'[H.size]? = some (zMc c6 H.size 4) → (∀ j, j < 4 → H'[H.size + 1 + j]? = some (zMi c0)) → W p l e R s m args below meth c H' (locs ++ L) (cells + 5) (slots + 4) Q (F0 m (pc + 4) ls (.ref H.size :: rest))) : W p l e R s m args below meth c H locs cells slots Q (F0 m pc ls (.int 0 :: .int 4 :: rest)) := by
  intro T hT X
  subst hT; subst hb
  have hpl : e.platform.magicAccessors = ({} : Platform).magicAccessors := by rw [X.admits.platform]
  obtain ⟨cc', hfcc, hcl⟩ := Cond.classLink_spec hown hclink e.platform hpl
  cases h6.symm.trans hfcc
  obtain ⟨hg₁, hwarm₁, hready₁⟩ := State.classEntry (e := e) X.warmed hcl
  generalize T.vm.noted m.cls index (.cls c6) = vm₁ at hg₁ hwarm₁ hready₁
  have hal : s.vm.Alike vm₁ := hwarm₁.alike
  obtain ⟨k6₁, hk6₁, he6⟩ := hal.2.2 _ _ hk6
  obtain ⟨k0₁, hk0₁, he0⟩ := hal.2.2 _ _ hk0
  have hkind6₁ : k6₁.kind = .array c0 (.array .int) := by rw [he6]; exact hkind6
  have hkind0₁ : k0₁.kind = .array q0 .int := by rw [he0]; exact hkind0
  have hlimit : ¬ e.platform.arrayLengthLimit < 4 := by rw [Launch.admits_arrayLengthLimit X.admits]; omega
  have hheap : ¬ e.platform.maxHeapBytes < 4 * componentBytes (.array .int) := by
    rw [Launch.admits_maxHeapBytes X.admits]; show ¬ 536870912 < 4 * 4; omega
  have X₁ := X.noted hwarm₁
  obtain ⟨hr1, hr2⟩ := X.roomAbove hcells hslots
  obtain ⟨L, hL, X₂⟩ := zMs_stand (c6 := c6) (c0 := c0) (a := T.heap.size) X₁ rfl 4
  obtain ⟨f1, f2, f3, f4, f5, f6⟩ := zMs_facts (c6 := c6) (c0 := c0) (s := (T.setVm vm₁).pushCell (zMc c6 T.heap.size 0)) (a := T.heap.size) (by show (T.heap.push _).size = _; rw [Array.size_push]) (by show (T.heap.push _)[T.heap.size]? = _; simp) 4
  obtain ⟨t', a1, b1⟩ := kk _ L hL (by rw [f1]) (fun x hx => by
    rw [f4 x hx]
    show (T.heap.push _)[x]? = _
    rw [Array.getElem?_push, if_neg (Nat.ne_of_lt hx)]) f2 f3 _ rfl X₂
  refine ⟨t', ?_, b1⟩
  jvm_step X.here [hexec, hdg]
  have hs : T.topJava?.isSome := X.here.top
  have cold : ∀ {Q9 : Unit → Pre} {E8 : CtlPost} {d9 : Bool} {ac : List Action}, wp (Op.multianewarray.sem index 2) Q9 E8 e d9 ac ((T.setVm vm₁).setTop (F0 m pc ls (.int 0 :: .int 4 :: rest))) → wp (Op.multianewarray.sem index 2) Q9 E8 e d9 ac (T.setTop (F0 m pc ls (.int 0 :: .int 4 :: rest))) := fun h => by
    simp only [Op.multianewarray.sem, wp_bind'] at h ⊢
    exact (W.resolveClassAt_transfer (s := T.setTop (F0 m pc ls (.int 0 :: .int 4 :: rest))) (State.method?_setTop _ hs) hg₁ hready₁).mpr h
  refine cold ?_
  have hs2 : (T.setVm vm₁).topJava?.isSome := hs
  have hrdy : ((T.setVm vm₁).setTop (F0 m pc ls (.int 0 :: .int 4 :: rest))).vm.classReady (F0 m pc ls (.int 0 :: .int 4 :: rest)).method.cls index c6 := hready₁
  simp only [Op.multianewarray.sem, wp_bind', W.resolveClassAt_ready (State.method?_setTop (s := T.setVm vm₁) (F0 m pc ls (.int 0 :: .int 4 :: rest)) hs2) hrdy, Jvm.popN, W.pop, wp_pure']
  simp only [State.topJava?_setTop' _ hs2, Option.some.injEq, exists_eq_left', List.cons.injEq, exists_cons_eq, State.setTop_setTop, List.mapM_cons, List.mapM_nil, wp_bind', wp_pure', List.nil_append, List.cons_append]
  refine zmk_out (s := T.setVm vm₁) (q0 := q0) (k6 := k6₁) (k0 := k0₁) hs2 hk6₁ hkind6₁ hk0₁ hkind0₁ hlimit hheap (by show T.heap.size + 5 ≤ _; omega) hr2 (fun d' acts' => ?_)
  have hs3 : (zMs c6 c0 T.heap.size ((T.setVm vm₁).pushCell (zMc c6 T.heap.size 0)) 4).topJava?.isSome := X₂.here.top
  simp only [wp_bind', W.mark, W.pushRef]
  refine ⟨_, State.topJava?_setTop' _ hs3, fun acts => ?_⟩
  exact zafter hs3 a1
end MULTI2
