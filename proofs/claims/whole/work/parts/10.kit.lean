/-! THE JUDGEMENT zG: the machine at a place of a method, over a heap of virtual addresses. A virtual address a stands for the real address ad a; those with 200 ≤ a % 256 are constants (cells that were there before the law began, at adC a). -/
abbrev zH : Type := Nat → Option va_E
def zv (ad : Nat → Nat) : Value → Value := fun v => match v with
  | .ref a => .ref (ad a)
  | v => v
def ze (ad : Nat → Nat) : va_E → va_E := fun e => match e with
  | .inl (c, n, .inr (.inr (.inr (.inr g)))) => .inl (c, n, .inr (.inr (.inr (.inr (fun i => (g i).map ad)))))
  | .inl x => .inl x
  | .inr (ci, fs) => .inr (ci, fs.map (zv ad))
def zok (h : zH) (v : Value) : Prop := ∀ a, v = .ref a → h a ≠ none ∨ 200 ≤ a % 256
def zcl (h : zH) : va_E → Prop := fun e => match e with
  | .inl (_, _, .inr (.inr (.inr (.inr g)))) => ∀ i a, g i = some a → zok h (.ref a)
  | .inl _ => True
  | .inr (_, fs) => ∀ v ∈ fs, zok h v
def zP (Z : zZ) (ad : Nat → Nat) (h : zH) (H : Heap) : Prop :=
  ∃ (L : List Nat) (f : Nat → va_E), va_P Z.1 vwCl (va_pl L f) H ∧ va_D (zA Z) (va_pl L f) ∧ (∀ a e, h a = some e → ad a ∈ L ∧ f (ad a) = ze ad e ∧ zcl h e) ∧
    (∀ a b, h a ≠ none → h b ≠ none → ad a = ad b → a = b) ∧ ∀ a, 200 ≤ a % 256 → ad a = Z.2.2.2 a ∧ h a = none
/-- later: the old addresses stand -/
def zE (ad0 : Nat → Nat) (h0 : zH) (ad : Nat → Nat) (h : zH) : Prop := ∀ a, h0 a ≠ none → h a ≠ none ∧ ad a = ad0 a
theorem zE.rf {ad : Nat → Nat} {h : zH} : zE ad h ad h := fun _ h => ⟨h, rfl⟩
theorem zE.tr {a0 a1 a2 : Nat → Nat} {h0 h1 h2 : zH} (x : zE a0 h0 a1 h1) (y : zE a1 h1 a2 h2) : zE a0 h0 a2 h2 := fun a h => ⟨(y a (x a h).1).1, (y a (x a h).1).2.trans (x a h).2⟩
def zpr (ad : Nat → Nat) (lc : List (Option Value)) : List (Nat × Value) := (List.range lc.length).filterMap fun i => (lc.getD i none).map fun v => (i, zv ad v)
theorem zpr_mem {ad : Nat → Nat} {lc : List (Option Value)} {q : Nat × Value} : q ∈ zpr ad lc ↔ ∃ v, lc[q.1]? = some (some v) ∧ q.2 = zv ad v := by
  unfold zpr
  rw [List.mem_filterMap]
  constructor
  · rintro ⟨i, hi, h⟩
    rw [List.mem_range] at hi
    cases hv : lc.getD i none with
    | none => rw [hv] at h; cases h
    | some v =>
      rw [hv] at h
      cases h
      refine ⟨v, ?_, rfl⟩
      rw [List.getD_eq_getElem?_getD] at hv
      cases hx : lc[i]? with
      | none => rw [hx] at hv; cases hv
      | some y => rw [hx] at hv; exact congrArg some hv
  · rintro ⟨v, h1, h2⟩
    refine ⟨q.1, List.mem_range.mpr (List.getElem?_eq_some_iff.mp h1).1, ?_⟩
    rw [List.getD_eq_getElem?_getD, h1]
    show some (q.1, zv ad v) = some q
    rw [← h2]
def zL (ad : Nat → Nat) (ls : Array Slot) (nL : Nat) (lc : List (Option Value)) : Prop := lv_has ls nL (zpr ad lc)
theorem zL.at {ad : Nat → Nat} {ls : Array Slot} {nL i : Nat} {lc : List (Option Value)} {v : Value} (h : zL ad ls nL lc) (hv : lc[i]? = some (some v)) : ls[i]? = some (.val (zv ad v)) := h.2.2 (i, zv ad v) (zpr_mem.mpr ⟨v, hv, rfl⟩)
theorem zL.less {ad : Nat → Nat} {ls : Array Slot} {nL : Nat} {lc lc' : List (Option Value)} (h : zL ad ls nL lc) (hs : ∀ (i : Nat) (v : Value), lc'[i]? = some (some v) → lc[i]? = some (some v)) : zL ad ls nL lc' :=
  ⟨h.1, h.2.1, fun q hq => by
    obtain ⟨v, h1, h2⟩ := zpr_mem.mp hq
    rw [h2]
    exact h.at (hs _ _ h1)⟩
theorem zv_cat {ad : Nat → Nat} {v : Value} : (zv ad v).category = v.category := by cases v <;> rfl
/-- the locals behind a store -/
def zst (lc : List (Option Value)) (i : Nat) (v : Value) : List (Option Value) := (List.range lc.length).map fun j => if j = i then some v else match lc.getD j none with
  | some w => if (j + 1 = i ∧ w.category = 2) ∨ (v.category = 2 ∧ j = i + 1) then none else some w
  | none => none
theorem zst_at {lc : List (Option Value)} {i j : Nat} {v w : Value} (h : (zst lc i v)[j]? = some (some w)) : (j = i ∧ w = v) ∨ (j ≠ i ∧ lc[j]? = some (some w) ∧ ¬ (j + 1 = i ∧ w.category = 2) ∧ ¬ (v.category = 2 ∧ j = i + 1)) := by
  unfold zst at h
  rw [List.getElem?_map] at h
  cases hr : (List.range lc.length)[j]? with
  | none => rw [hr] at h; cases h
  | some k =>
    rw [hr] at h
    obtain ⟨h1, h2⟩ := List.getElem?_eq_some_iff.mp hr
    rw [List.getElem_range] at h2
    subst h2
    rw [List.length_range] at h1
    have h := Option.some.inj h
    dsimp only at h
    by_cases e : j = i
    · rw [if_pos e] at h
      exact Or.inl ⟨e, (Option.some.inj h).symm⟩
    · rw [if_neg e] at h
      rw [List.getD_eq_getElem?_getD, List.getElem?_eq_getElem h1] at h
      dsimp only [Option.getD_some] at h
      cases hx : lc[j] with
      | none => rw [hx] at h; cases h
      | some y =>
        rw [hx] at h
        dsimp only at h
        by_cases c : (j + 1 = i ∧ y.category = 2) ∨ (v.category = 2 ∧ j = i + 1)
        · rw [if_pos c] at h; cases h
        · rw [if_neg c] at h
          have hy := Option.some.inj h
          subst hy
          exact Or.inr ⟨e, by rw [List.getElem?_eq_getElem h1, hx], fun q => c (Or.inl q), fun q => c (Or.inr q)⟩
theorem zL.st1 {ad : Nat → Nat} {ls : Array Slot} {nL i : Nat} {lc : List (Option Value)} {v : Value} (h : lv_has ls nL ((i, zv ad v) :: (zpr ad lc).filter (fun q => !(q.1 == i) && !(q.1 + 1 == i && q.2.category == 2)))) : zL ad ls nL (zst lc i v) :=
  ⟨h.1, h.2.1, fun q hq => by
    obtain ⟨w, h1, h2⟩ := zpr_mem.mp hq
    rcases zst_at h1 with ⟨e, rfl⟩ | ⟨e, e1, e2, -⟩
    · exact h.2.2 q (by rw [show q = (i, zv ad w) from Prod.ext e h2]; exact List.mem_cons_self)
    · refine h.2.2 q (List.mem_cons_of_mem _ (List.mem_filter.mpr ⟨zpr_mem.mpr ⟨w, e1, h2⟩, ?_⟩))
      simp only [Bool.and_eq_true, Bool.not_eq_true', beq_eq_false_iff_ne, ne_eq, Bool.and_eq_false_iff]
      refine ⟨e, ?_⟩
      by_cases g : q.1 + 1 = i
      · refine Or.inr fun c => e2 ⟨g, ?_⟩
        rw [h2, zv_cat] at c
        exact c
      · exact Or.inl g⟩
theorem zL.st2 {ad : Nat → Nat} {ls : Array Slot} {nL i : Nat} {lc : List (Option Value)} {v : Value} (hv : v.category = 2) (h : lv_has ls nL ((i, zv ad v) :: (zpr ad lc).filter (fun q => !(q.1 == i) && (!(q.1 == i + 1) && !(q.1 + 1 == i && q.2.category == 2))))) : zL ad ls nL (zst lc i v) :=
  ⟨h.1, h.2.1, fun q hq => by
    obtain ⟨w, h1, h2⟩ := zpr_mem.mp hq
    rcases zst_at h1 with ⟨e, rfl⟩ | ⟨e, e1, e2, e3⟩
    · exact h.2.2 q (by rw [show q = (i, zv ad w) from Prod.ext e h2]; exact List.mem_cons_self)
    · refine h.2.2 q (List.mem_cons_of_mem _ (List.mem_filter.mpr ⟨zpr_mem.mpr ⟨w, e1, h2⟩, ?_⟩))
      simp only [Bool.and_eq_true, Bool.not_eq_true', beq_eq_false_iff_ne, ne_eq, Bool.and_eq_false_iff]
      refine ⟨e, fun g => e3 ⟨hv, g⟩, ?_⟩
      by_cases g : q.1 + 1 = i
      · refine Or.inr fun c => e2 ⟨g, ?_⟩
        rw [h2, zv_cat] at c
        exact c
      · exact Or.inl g⟩
def zlo (h : zH) (lc : List (Option Value)) : Prop := ∀ v, some v ∈ lc → zok h v
theorem zlo.at {h : zH} {lc : List (Option Value)} {i : Nat} {v : Value} (x : zlo h lc) (hv : lc[i]? = some (some v)) : zok h v := x v (List.mem_of_getElem? hv)
theorem zlo.st {h : zH} {lc : List (Option Value)} {i : Nat} {v : Value} (x : zlo h lc) (hv : zok h v) : zlo h (zst lc i v) := fun w hw => by
  obtain ⟨j, hj⟩ := List.getElem?_of_mem hw
  rcases zst_at hj with ⟨-, rfl⟩ | ⟨-, e, -⟩
  · exact hv
  · exact x.at e
theorem zlo.less {h : zH} {lc lc' : List (Option Value)} (x : zlo h lc) (hs : ∀ (i : Nat) (v : Value), lc'[i]? = some (some v) → lc[i]? = some (some v)) : zlo h lc' := fun w hw => by
  obtain ⟨j, hj⟩ := List.getElem?_of_mem hw
  exact x.at (hs j w hj)
def zso (h : zH) (st : List Value) : Prop := ∀ v ∈ st, zok h v
theorem zso.tl {h : zH} {v : Value} {st : List Value} (x : zso h (v :: st)) : zso h st := fun w hw => x w (List.mem_cons_of_mem _ hw)
theorem zso.hd {h : zH} {v : Value} {st : List Value} (x : zso h (v :: st)) : zok h v := x v List.mem_cons_self
theorem zso.cn {h : zH} {v : Value} {st : List Value} (hv : zok h v) (x : zso h st) : zso h (v :: st) := fun w hw => by
  rcases List.mem_cons.mp hw with rfl | hw
  · exact hv
  · exact x w hw
theorem zok_i {h : zH} {x : Int32} : zok h (.int x) := fun _ e => nomatch e
theorem zok_l {h : zH} {x : Int64} : zok h (.long x) := fun _ e => nomatch e
theorem zok_n {h : zH} : zok h .null := fun _ e => nomatch e
def zt (Z : zZ) : List (ClassId × FieldType) := [(Z.2.1 0, .int), (Z.2.1 1, .byte), (Z.2.1 2, .boolean), (Z.2.1 3, .long), (Z.2.1 4, .object "java/lang/Object"), (Z.2.1 5, .object "PartyWalls$Proposal"), (Z.2.1 6, .array .int)]
section ZK
variable {Z : zZ} {p : Program} {l : Launch} {e : Env} {R : Room} {s : State} {m : MethodId} {args : Array Value} {below : List Frame} {meth : Method} {c : Code} {Q : State → Prop} {cells slots : Nat} {ad0 : Nat → Nat} {h0 : zH}
variable {h : zH} {pc nL : Nat} {lc : List (Option Value)} {rest : List Value} {cc : ByteArray} {own : String}
def zG (Z : zZ) (ad0 : Nat → Nat) (h0 : zH) (p : Program) (l : Launch) (e : Env) (R : Room) (s : State) (m : MethodId) (args : Array Value) (below : List Frame) (meth : Method) (c : Code) (Q : State → Prop) (cells slots : Nat) (h : zH) (nL : Nat) (pc : Nat) (lc : List (Option Value)) (stk : List Value) : Prop :=
  ∀ (ad : Nat → Nat) (H : Heap) (locs : List Loc) (ls : Array Slot), zP Z ad h H → va_S (zA Z) s.heap H locs → zE ad0 h0 ad h → zL ad ls nL lc → zlo h lc → zso h stk →
    W p l e R s m args below meth c H locs cells slots Q (F0 m pc ls (stk.map (zv ad)))
/-- what stands through a method -/
def zC (Z : zZ) (p : Program) (s : State) (m : MethodId) (args : Array Value) (meth : Method) (c : Code) (cc : ByteArray) (nL : Nat) (own : String) : Prop :=
  p.tables.exec = Jvm.exec ∧ c.code = cc ∧ c.maxLocals = nL ∧ s.vm.findClass own = some m.cls ∧ (∀ w ∈ zw, w.before args s = true) ∧ va_K Z.1 vwCl (zt Z) s ∧ meth.locks = false ∧ Z.2.2.1 ≤ s.heap.size ∧ zK Z s s.heap
variable (C : zC Z p s m args meth c cc nL own)
theorem z_iconst (C : zC Z p s m args meth c cc nL own) {n : Int} {v : Int32} (d : decode cc pc = .ok (.iconst n, 1)) (hn : Int32.ofInt n = v) (k : zG Z ad0 h0 p l e R s m args below meth c Q cells slots h nL (pc + 1) lc (.int v :: rest)) : zG Z ad0 h0 p l e R s m args below meth c Q cells slots h nL pc lc (rest) :=
  fun ad H locs ls hP hS hE hL hl hv => lv_iconst C.1 C.2.1 d hn (k ad H locs ls hP hS hE hL hl (hv.cn zok_i))
theorem z_bipush (C : zC Z p s m args meth c cc nL own) {n : Int} {v : Int32} (d : decode cc pc = .ok (.bipush n, 2)) (hn : (Int8.ofInt n).toInt32 = v) (k : zG Z ad0 h0 p l e R s m args below meth c Q cells slots h nL (pc + 2) lc (.int v :: rest)) : zG Z ad0 h0 p l e R s m args below meth c Q cells slots h nL pc lc (rest) :=
  fun ad H locs ls hP hS hE hL hl hv => lv_bipush C.1 C.2.1 d hn (k ad H locs ls hP hS hE hL hl (hv.cn zok_i))
theorem z_sipush (C : zC Z p s m args meth c cc nL own) {n : Int} {v : Int32} (d : decode cc pc = .ok (.sipush n, 3)) (hn : (Int16.ofInt n).toInt32 = v) (k : zG Z ad0 h0 p l e R s m args below meth c Q cells slots h nL (pc + 3) lc (.int v :: rest)) : zG Z ad0 h0 p l e R s m args below meth c Q cells slots h nL pc lc (rest) :=
  fun ad H locs ls hP hS hE hL hl hv => lv_sipush C.1 C.2.1 d hn (k ad H locs ls hP hS hE hL hl (hv.cn zok_i))
theorem z_lconst (C : zC Z p s m args meth c cc nL own) {n : Fin 2} {v : Int64} (d : decode cc pc = .ok (.lconst n, 1)) (hn : Int64.ofNat (n : Nat) = v) (k : zG Z ad0 h0 p l e R s m args below meth c Q cells slots h nL (pc + 1) lc (.long v :: rest)) : zG Z ad0 h0 p l e R s m args below meth c Q cells slots h nL pc lc (rest) :=
  fun ad H locs ls hP hS hE hL hl hv => lv_lconst C.1 C.2.1 d hn (k ad H locs ls hP hS hE hL hl (hv.cn zok_l))
theorem z_aconst_null (C : zC Z p s m args meth c cc nL own) (d : decode cc pc = .ok (.aconst_null, 1)) (k : zG Z ad0 h0 p l e R s m args below meth c Q cells slots h nL (pc + 1) lc (.null :: rest)) : zG Z ad0 h0 p l e R s m args below meth c Q cells slots h nL pc lc rest :=
  fun ad H locs ls hP hS hE hL hl hv => lv_null C.1 C.2.1 d (k ad H locs ls hP hS hE hL hl (hv.cn zok_n))
theorem z_ldc (C : zC Z p s m args meth c cc nL own) {index : Nat} {v : Int32} (d : decode cc pc = .ok (.ldc index, 2)) (hw : Jvm.Cond.constant own index v ∈ zw) (k : zG Z ad0 h0 p l e R s m args below meth c Q cells slots h nL (pc + 2) lc (.int v :: rest)) : zG Z ad0 h0 p l e R s m args below meth c Q cells slots h nL pc lc rest :=
  fun ad H locs ls hP hS hE hL hl hv => lv_ldc C.1 C.2.1 C.2.2.2.1 (C.2.2.2.2.1 _ hw) d (k ad H locs ls hP hS hE hL hl (hv.cn zok_i))
theorem z_ldc2 (C : zC Z p s m args meth c cc nL own) {index : Nat} {v : Int64} (d : decode cc pc = .ok (.ldc2_w index, 3)) (hw : Jvm.Cond.constantLong own index v ∈ zw) (k : zG Z ad0 h0 p l e R s m args below meth c Q cells slots h nL (pc + 3) lc (.long v :: rest)) : zG Z ad0 h0 p l e R s m args below meth c Q cells slots h nL pc lc rest :=
  fun ad H locs ls hP hS hE hL hl hv => lv_ldc2 C.1 C.2.1 C.2.2.2.1 (C.2.2.2.2.1 _ hw) d (k ad H locs ls hP hS hE hL hl (hv.cn zok_l))
theorem z_iload_n (C : zC Z p s m args meth c cc nL own) {j : Fin 4} {i : Nat} {x : Int32} (d : decode cc pc = .ok (.iload_n j, 1)) (hi : (j : Nat) = i) (hx : lc[i]? = some (some (.int x))) (k : zG Z ad0 h0 p l e R s m args below meth c Q cells slots h nL (pc + 1) lc (.int x :: rest)) : zG Z ad0 h0 p l e R s m args below meth c Q cells slots h nL pc lc (rest) :=
  fun ad H locs ls hP hS hE hL hl hv => lv_iload_n C.1 C.2.1 d hi (hL.at hx) (k ad H locs ls hP hS hE hL hl (hv.cn zok_i))
theorem z_iload (C : zC Z p s m args meth c cc nL own) {i : Nat} {x : Int32} (d : decode cc pc = .ok (.iload i, 2)) (hx : lc[i]? = some (some (.int x))) (k : zG Z ad0 h0 p l e R s m args below meth c Q cells slots h nL (pc + 2) lc (.int x :: rest)) : zG Z ad0 h0 p l e R s m args below meth c Q cells slots h nL pc lc (rest) :=
  fun ad H locs ls hP hS hE hL hl hv => lv_iload C.1 C.2.1 d (hL.at hx) (k ad H locs ls hP hS hE hL hl (hv.cn zok_i))
theorem z_lload_n (C : zC Z p s m args meth c cc nL own) {j : Fin 4} {i : Nat} {x : Int64} (d : decode cc pc = .ok (.lload_n j, 1)) (hi : (j : Nat) = i) (hx : lc[i]? = some (some (.long x))) (k : zG Z ad0 h0 p l e R s m args below meth c Q cells slots h nL (pc + 1) lc (.long x :: rest)) : zG Z ad0 h0 p l e R s m args below meth c Q cells slots h nL pc lc (rest) :=
  fun ad H locs ls hP hS hE hL hl hv => lv_lload_n C.1 C.2.1 d hi (hL.at hx) (k ad H locs ls hP hS hE hL hl (hv.cn zok_l))
theorem z_lload (C : zC Z p s m args meth c cc nL own) {i : Nat} {x : Int64} (d : decode cc pc = .ok (.lload i, 2)) (hx : lc[i]? = some (some (.long x))) (k : zG Z ad0 h0 p l e R s m args below meth c Q cells slots h nL (pc + 2) lc (.long x :: rest)) : zG Z ad0 h0 p l e R s m args below meth c Q cells slots h nL pc lc (rest) :=
  fun ad H locs ls hP hS hE hL hl hv => lv_lload C.1 C.2.1 d (hL.at hx) (k ad H locs ls hP hS hE hL hl (hv.cn zok_l))
theorem z_aload_n (C : zC Z p s m args meth c cc nL own) {j : Fin 4} {i x : Nat} (d : decode cc pc = .ok (.aload_n j, 1)) (hi : (j : Nat) = i) (hx : lc[i]? = some (some (.ref x))) (k : zG Z ad0 h0 p l e R s m args below meth c Q cells slots h nL (pc + 1) lc (.ref x :: rest)) : zG Z ad0 h0 p l e R s m args below meth c Q cells slots h nL pc lc (rest) :=
  fun ad H locs ls hP hS hE hL hl hv => lv_aload_n C.1 C.2.1 d hi (hL.at hx) (k ad H locs ls hP hS hE hL hl (hv.cn (hl.at hx)))
theorem z_aload (C : zC Z p s m args meth c cc nL own) {i x : Nat} (d : decode cc pc = .ok (.aload i, 2)) (hx : lc[i]? = some (some (.ref x))) (k : zG Z ad0 h0 p l e R s m args below meth c Q cells slots h nL (pc + 2) lc (.ref x :: rest)) : zG Z ad0 h0 p l e R s m args below meth c Q cells slots h nL pc lc (rest) :=
  fun ad H locs ls hP hS hE hL hl hv => lv_aload C.1 C.2.1 d (hL.at hx) (k ad H locs ls hP hS hE hL hl (hv.cn (hl.at hx)))
theorem z_istore_n (C : zC Z p s m args meth c cc nL own) {j : Fin 4} {i : Nat} {x : Int32} {lc' : List (Option Value)} (d : decode cc pc = .ok (.istore_n j, 1)) (hi : (j : Nat) = i) (hn : i < nL) (he : zst lc i (.int x) = lc') (k : zG Z ad0 h0 p l e R s m args below meth c Q cells slots h nL (pc + 1) lc' rest) : zG Z ad0 h0 p l e R s m args below meth c Q cells slots h nL pc lc (.int x :: rest) :=
  fun ad H locs ls hP hS hE hL hl hv => lv_istore_n C.1 C.2.1 d hi hL hn rfl (fun ls1 h1 => k ad H locs ls1 hP hS hE (by rw [← he]; exact zL.st1 h1) (by rw [← he]; exact hl.st zok_i) hv.tl)
theorem z_istore (C : zC Z p s m args meth c cc nL own) {i : Nat} {x : Int32} {lc' : List (Option Value)} (d : decode cc pc = .ok (.istore i, 2)) (hn : i < nL) (he : zst lc i (.int x) = lc') (k : zG Z ad0 h0 p l e R s m args below meth c Q cells slots h nL (pc + 2) lc' rest) : zG Z ad0 h0 p l e R s m args below meth c Q cells slots h nL pc lc (.int x :: rest) :=
  fun ad H locs ls hP hS hE hL hl hv => lv_istore C.1 C.2.1 d hL hn rfl (fun ls1 h1 => k ad H locs ls1 hP hS hE (by rw [← he]; exact zL.st1 h1) (by rw [← he]; exact hl.st zok_i) hv.tl)
theorem z_lstore_n (C : zC Z p s m args meth c cc nL own) {j : Fin 4} {i : Nat} {x : Int64} {lc' : List (Option Value)} (d : decode cc pc = .ok (.lstore_n j, 1)) (hi : (j : Nat) = i) (hn : i + 1 < nL) (he : zst lc i (.long x) = lc') (k : zG Z ad0 h0 p l e R s m args below meth c Q cells slots h nL (pc + 1) lc' rest) : zG Z ad0 h0 p l e R s m args below meth c Q cells slots h nL pc lc (.long x :: rest) :=
  fun ad H locs ls hP hS hE hL hl hv => lv_lstore_n C.1 C.2.1 d hi hL hn rfl (fun ls1 h1 => k ad H locs ls1 hP hS hE (by rw [← he]; exact zL.st2 (v := .long x) rfl h1) (by rw [← he]; exact hl.st zok_l) hv.tl)
theorem z_lstore (C : zC Z p s m args meth c cc nL own) {i : Nat} {x : Int64} {lc' : List (Option Value)} (d : decode cc pc = .ok (.lstore i, 2)) (hn : i + 1 < nL) (he : zst lc i (.long x) = lc') (k : zG Z ad0 h0 p l e R s m args below meth c Q cells slots h nL (pc + 2) lc' rest) : zG Z ad0 h0 p l e R s m args below meth c Q cells slots h nL pc lc (.long x :: rest) :=
  fun ad H locs ls hP hS hE hL hl hv => lv_lstore C.1 C.2.1 d hL hn rfl (fun ls1 h1 => k ad H locs ls1 hP hS hE (by rw [← he]; exact zL.st2 (v := .long x) rfl h1) (by rw [← he]; exact hl.st zok_l) hv.tl)
theorem z_astore_n (C : zC Z p s m args meth c cc nL own) {j : Fin 4} {i x : Nat} {lc' : List (Option Value)} (d : decode cc pc = .ok (.astore_n j, 1)) (hi : (j : Nat) = i) (hn : i < nL) (he : zst lc i (.ref x) = lc') (k : zG Z ad0 h0 p l e R s m args below meth c Q cells slots h nL (pc + 1) lc' rest) : zG Z ad0 h0 p l e R s m args below meth c Q cells slots h nL pc lc (.ref x :: rest) :=
  fun ad H locs ls hP hS hE hL hl hv => lv_astore_n C.1 C.2.1 d hi hL hn rfl (fun ls1 h1 => k ad H locs ls1 hP hS hE (by rw [← he]; exact zL.st1 h1) (by rw [← he]; exact hl.st hv.hd) hv.tl)
theorem z_astore (C : zC Z p s m args meth c cc nL own) {i x : Nat} {lc' : List (Option Value)} (d : decode cc pc = .ok (.astore i, 2)) (hn : i < nL) (he : zst lc i (.ref x) = lc') (k : zG Z ad0 h0 p l e R s m args below meth c Q cells slots h nL (pc + 2) lc' rest) : zG Z ad0 h0 p l e R s m args below meth c Q cells slots h nL pc lc (.ref x :: rest) :=
  fun ad H locs ls hP hS hE hL hl hv => lv_astore C.1 C.2.1 d hL hn rfl (fun ls1 h1 => k ad H locs ls1 hP hS hE (by rw [← he]; exact zL.st1 h1) (by rw [← he]; exact hl.st hv.hd) hv.tl)
theorem z_iinc (C : zC Z p s m args meth c cc nL own) {i : Nat} {n : Int} {x v : Int32} {lc' : List (Option Value)} (d : decode cc pc = .ok (.iinc i n, 3)) (hx : lc[i]? = some (some (.int x))) (hn : i < nL) (ev : x + Int32.ofInt n = v) (he : zst lc i (.int v) = lc') (k : zG Z ad0 h0 p l e R s m args below meth c Q cells slots h nL (pc + 3) lc' rest) : zG Z ad0 h0 p l e R s m args below meth c Q cells slots h nL pc lc rest :=
  fun ad H locs ls hP hS hE hL hl hv => by
    obtain ⟨j, hj⟩ := List.getElem?_of_mem (zpr_mem (ad := ad) (q := (i, .int x)) |>.mpr ⟨.int x, hx, rfl⟩)
    exact lv_iinc C.1 C.2.1 d hL hj ev hn rfl (fun ls1 h1 => k ad H locs ls1 hP hS hE (by rw [← he]; exact zL.st1 (v := .int v) h1) (by rw [← he]; exact hl.st zok_i) hv)
theorem z_iadd (C : zC Z p s m args meth c cc nL own) {x y : Int32} (d : decode cc pc = .ok (.iadd, 1))  (k : zG Z ad0 h0 p l e R s m args below meth c Q cells slots h nL (pc + 1) lc (.int (x + y) :: rest)) : zG Z ad0 h0 p l e R s m args below meth c Q cells slots h nL pc lc (.int y :: .int x :: rest) :=
  fun ad H locs ls hP hS hE hL hl hv => lv_iadd C.1 C.2.1 d  (k ad H locs ls hP hS hE hL hl (hv.tl.tl.cn zok_i))
theorem z_isub (C : zC Z p s m args meth c cc nL own) {x y : Int32} (d : decode cc pc = .ok (.isub, 1))  (k : zG Z ad0 h0 p l e R s m args below meth c Q cells slots h nL (pc + 1) lc (.int (x - y) :: rest)) : zG Z ad0 h0 p l e R s m args below meth c Q cells slots h nL pc lc (.int y :: .int x :: rest) :=
  fun ad H locs ls hP hS hE hL hl hv => lv_isub C.1 C.2.1 d  (k ad H locs ls hP hS hE hL hl (hv.tl.tl.cn zok_i))
theorem z_imul (C : zC Z p s m args meth c cc nL own) {x y : Int32} (d : decode cc pc = .ok (.imul, 1))  (k : zG Z ad0 h0 p l e R s m args below meth c Q cells slots h nL (pc + 1) lc (.int (x * y) :: rest)) : zG Z ad0 h0 p l e R s m args below meth c Q cells slots h nL pc lc (.int y :: .int x :: rest) :=
  fun ad H locs ls hP hS hE hL hl hv => lv_imul C.1 C.2.1 d  (k ad H locs ls hP hS hE hL hl (hv.tl.tl.cn zok_i))
theorem z_iand (C : zC Z p s m args meth c cc nL own) {x y : Int32} (d : decode cc pc = .ok (.iand, 1))  (k : zG Z ad0 h0 p l e R s m args below meth c Q cells slots h nL (pc + 1) lc (.int (x &&& y) :: rest)) : zG Z ad0 h0 p l e R s m args below meth c Q cells slots h nL pc lc (.int y :: .int x :: rest) :=
  fun ad H locs ls hP hS hE hL hl hv => lv_iand C.1 C.2.1 d  (k ad H locs ls hP hS hE hL hl (hv.tl.tl.cn zok_i))
theorem z_ior (C : zC Z p s m args meth c cc nL own) {x y : Int32} (d : decode cc pc = .ok (.ior, 1))  (k : zG Z ad0 h0 p l e R s m args below meth c Q cells slots h nL (pc + 1) lc (.int (x ||| y) :: rest)) : zG Z ad0 h0 p l e R s m args below meth c Q cells slots h nL pc lc (.int y :: .int x :: rest) :=
  fun ad H locs ls hP hS hE hL hl hv => lv_ior C.1 C.2.1 d  (k ad H locs ls hP hS hE hL hl (hv.tl.tl.cn zok_i))
theorem z_ixor (C : zC Z p s m args meth c cc nL own) {x y : Int32} (d : decode cc pc = .ok (.ixor, 1))  (k : zG Z ad0 h0 p l e R s m args below meth c Q cells slots h nL (pc + 1) lc (.int (x ^^^ y) :: rest)) : zG Z ad0 h0 p l e R s m args below meth c Q cells slots h nL pc lc (.int y :: .int x :: rest) :=
  fun ad H locs ls hP hS hE hL hl hv => lv_ixor C.1 C.2.1 d  (k ad H locs ls hP hS hE hL hl (hv.tl.tl.cn zok_i))
theorem z_ladd (C : zC Z p s m args meth c cc nL own) {x y : Int64} (d : decode cc pc = .ok (.ladd, 1))  (k : zG Z ad0 h0 p l e R s m args below meth c Q cells slots h nL (pc + 1) lc (.long (x + y) :: rest)) : zG Z ad0 h0 p l e R s m args below meth c Q cells slots h nL pc lc (.long y :: .long x :: rest) :=
  fun ad H locs ls hP hS hE hL hl hv => lv_ladd C.1 C.2.1 d  (k ad H locs ls hP hS hE hL hl (hv.tl.tl.cn zok_l))
theorem z_lsub (C : zC Z p s m args meth c cc nL own) {x y : Int64} (d : decode cc pc = .ok (.lsub, 1))  (k : zG Z ad0 h0 p l e R s m args below meth c Q cells slots h nL (pc + 1) lc (.long (x - y) :: rest)) : zG Z ad0 h0 p l e R s m args below meth c Q cells slots h nL pc lc (.long y :: .long x :: rest) :=
  fun ad H locs ls hP hS hE hL hl hv => lv_lsub C.1 C.2.1 d  (k ad H locs ls hP hS hE hL hl (hv.tl.tl.cn zok_l))
theorem z_lmul (C : zC Z p s m args meth c cc nL own) {x y : Int64} (d : decode cc pc = .ok (.lmul, 1))  (k : zG Z ad0 h0 p l e R s m args below meth c Q cells slots h nL (pc + 1) lc (.long (x * y) :: rest)) : zG Z ad0 h0 p l e R s m args below meth c Q cells slots h nL pc lc (.long y :: .long x :: rest) :=
  fun ad H locs ls hP hS hE hL hl hv => lv_lmul C.1 C.2.1 d  (k ad H locs ls hP hS hE hL hl (hv.tl.tl.cn zok_l))
theorem z_land (C : zC Z p s m args meth c cc nL own) {x y : Int64} (d : decode cc pc = .ok (.land, 1))  (k : zG Z ad0 h0 p l e R s m args below meth c Q cells slots h nL (pc + 1) lc (.long (x &&& y) :: rest)) : zG Z ad0 h0 p l e R s m args below meth c Q cells slots h nL pc lc (.long y :: .long x :: rest) :=
  fun ad H locs ls hP hS hE hL hl hv => lv_land C.1 C.2.1 d  (k ad H locs ls hP hS hE hL hl (hv.tl.tl.cn zok_l))
theorem z_lor (C : zC Z p s m args meth c cc nL own) {x y : Int64} (d : decode cc pc = .ok (.lor, 1))  (k : zG Z ad0 h0 p l e R s m args below meth c Q cells slots h nL (pc + 1) lc (.long (x ||| y) :: rest)) : zG Z ad0 h0 p l e R s m args below meth c Q cells slots h nL pc lc (.long y :: .long x :: rest) :=
  fun ad H locs ls hP hS hE hL hl hv => lv_lor C.1 C.2.1 d  (k ad H locs ls hP hS hE hL hl (hv.tl.tl.cn zok_l))
theorem z_lxor (C : zC Z p s m args meth c cc nL own) {x y : Int64} (d : decode cc pc = .ok (.lxor, 1))  (k : zG Z ad0 h0 p l e R s m args below meth c Q cells slots h nL (pc + 1) lc (.long (x ^^^ y) :: rest)) : zG Z ad0 h0 p l e R s m args below meth c Q cells slots h nL pc lc (.long y :: .long x :: rest) :=
  fun ad H locs ls hP hS hE hL hl hv => lv_lxor C.1 C.2.1 d  (k ad H locs ls hP hS hE hL hl (hv.tl.tl.cn zok_l))
theorem z_idiv (C : zC Z p s m args meth c cc nL own) {x y : Int32} (d : decode cc pc = .ok (.idiv, 1)) (hy : ¬ y = 0) (k : zG Z ad0 h0 p l e R s m args below meth c Q cells slots h nL (pc + 1) lc (.int (x / y) :: rest)) : zG Z ad0 h0 p l e R s m args below meth c Q cells slots h nL pc lc (.int y :: .int x :: rest) :=
  fun ad H locs ls hP hS hE hL hl hv => lv_idiv C.1 C.2.1 d hy (k ad H locs ls hP hS hE hL hl (hv.tl.tl.cn zok_i))
theorem z_irem (C : zC Z p s m args meth c cc nL own) {x y : Int32} (d : decode cc pc = .ok (.irem, 1)) (hy : ¬ y = 0) (k : zG Z ad0 h0 p l e R s m args below meth c Q cells slots h nL (pc + 1) lc (.int (x - x / y * y) :: rest)) : zG Z ad0 h0 p l e R s m args below meth c Q cells slots h nL pc lc (.int y :: .int x :: rest) :=
  fun ad H locs ls hP hS hE hL hl hv => lv_irem C.1 C.2.1 d hy (k ad H locs ls hP hS hE hL hl (hv.tl.tl.cn zok_i))
theorem z_ldiv (C : zC Z p s m args meth c cc nL own) {x y : Int64} (d : decode cc pc = .ok (.ldiv, 1)) (hy : ¬ y = 0) (k : zG Z ad0 h0 p l e R s m args below meth c Q cells slots h nL (pc + 1) lc (.long (x / y) :: rest)) : zG Z ad0 h0 p l e R s m args below meth c Q cells slots h nL pc lc (.long y :: .long x :: rest) :=
  fun ad H locs ls hP hS hE hL hl hv => lv_ldiv C.1 C.2.1 d hy (k ad H locs ls hP hS hE hL hl (hv.tl.tl.cn zok_l))
theorem z_lrem (C : zC Z p s m args meth c cc nL own) {x y : Int64} (d : decode cc pc = .ok (.lrem, 1)) (hy : ¬ y = 0) (k : zG Z ad0 h0 p l e R s m args below meth c Q cells slots h nL (pc + 1) lc (.long (x - x / y * y) :: rest)) : zG Z ad0 h0 p l e R s m args below meth c Q cells slots h nL pc lc (.long y :: .long x :: rest) :=
  fun ad H locs ls hP hS hE hL hl hv => lv_lrem C.1 C.2.1 d hy (k ad H locs ls hP hS hE hL hl (hv.tl.tl.cn zok_l))
theorem z_ineg (C : zC Z p s m args meth c cc nL own) {x : Int32} (d : decode cc pc = .ok (.ineg, 1))  (k : zG Z ad0 h0 p l e R s m args below meth c Q cells slots h nL (pc + 1) lc (.int (-x) :: rest)) : zG Z ad0 h0 p l e R s m args below meth c Q cells slots h nL pc lc (.int x :: rest) :=
  fun ad H locs ls hP hS hE hL hl hv => lv_ineg C.1 C.2.1 d  (k ad H locs ls hP hS hE hL hl (hv.tl.cn zok_i))
theorem z_lneg (C : zC Z p s m args meth c cc nL own) {x : Int64} (d : decode cc pc = .ok (.lneg, 1))  (k : zG Z ad0 h0 p l e R s m args below meth c Q cells slots h nL (pc + 1) lc (.long (-x) :: rest)) : zG Z ad0 h0 p l e R s m args below meth c Q cells slots h nL pc lc (.long x :: rest) :=
  fun ad H locs ls hP hS hE hL hl hv => lv_lneg C.1 C.2.1 d  (k ad H locs ls hP hS hE hL hl (hv.tl.cn zok_l))
theorem z_ishl (C : zC Z p s m args meth c cc nL own) {x y : Int32} (d : decode cc pc = .ok (.ishl, 1))  (k : zG Z ad0 h0 p l e R s m args below meth c Q cells slots h nL (pc + 1) lc (.int (x <<< (y &&& 31)) :: rest)) : zG Z ad0 h0 p l e R s m args below meth c Q cells slots h nL pc lc (.int y :: .int x :: rest) :=
  fun ad H locs ls hP hS hE hL hl hv => lv_ishl C.1 C.2.1 d  (k ad H locs ls hP hS hE hL hl (hv.tl.tl.cn zok_i))
theorem z_ishr (C : zC Z p s m args meth c cc nL own) {x y : Int32} (d : decode cc pc = .ok (.ishr, 1))  (k : zG Z ad0 h0 p l e R s m args below meth c Q cells slots h nL (pc + 1) lc (.int (x >>> (y &&& 31)) :: rest)) : zG Z ad0 h0 p l e R s m args below meth c Q cells slots h nL pc lc (.int y :: .int x :: rest) :=
  fun ad H locs ls hP hS hE hL hl hv => lv_ishr C.1 C.2.1 d  (k ad H locs ls hP hS hE hL hl (hv.tl.tl.cn zok_i))
theorem z_lshl (C : zC Z p s m args meth c cc nL own) {x : Int64} {y : Int32} (d : decode cc pc = .ok (.lshl, 1))  (k : zG Z ad0 h0 p l e R s m args below meth c Q cells slots h nL (pc + 1) lc (.long (x <<< (y.toInt64 &&& 63)) :: rest)) : zG Z ad0 h0 p l e R s m args below meth c Q cells slots h nL pc lc (.int y :: .long x :: rest) :=
  fun ad H locs ls hP hS hE hL hl hv => lv_lshl C.1 C.2.1 d rfl (k ad H locs ls hP hS hE hL hl (hv.tl.tl.cn zok_l))
theorem z_lshr (C : zC Z p s m args meth c cc nL own) {x : Int64} {y : Int32} (d : decode cc pc = .ok (.lshr, 1))  (k : zG Z ad0 h0 p l e R s m args below meth c Q cells slots h nL (pc + 1) lc (.long (x >>> (y.toInt64 &&& 63)) :: rest)) : zG Z ad0 h0 p l e R s m args below meth c Q cells slots h nL pc lc (.int y :: .long x :: rest) :=
  fun ad H locs ls hP hS hE hL hl hv => lv_lshr C.1 C.2.1 d rfl (k ad H locs ls hP hS hE hL hl (hv.tl.tl.cn zok_l))
theorem z_i2l (C : zC Z p s m args meth c cc nL own) {x : Int32} (d : decode cc pc = .ok (.i2l, 1))  (k : zG Z ad0 h0 p l e R s m args below meth c Q cells slots h nL (pc + 1) lc (.long x.toInt64 :: rest)) : zG Z ad0 h0 p l e R s m args below meth c Q cells slots h nL pc lc (.int x :: rest) :=
  fun ad H locs ls hP hS hE hL hl hv => lv_i2l C.1 C.2.1 d rfl (k ad H locs ls hP hS hE hL hl (hv.tl.cn zok_l))
theorem z_l2i (C : zC Z p s m args meth c cc nL own) {x : Int64} (d : decode cc pc = .ok (.l2i, 1))  (k : zG Z ad0 h0 p l e R s m args below meth c Q cells slots h nL (pc + 1) lc (.int x.toInt32 :: rest)) : zG Z ad0 h0 p l e R s m args below meth c Q cells slots h nL pc lc (.long x :: rest) :=
  fun ad H locs ls hP hS hE hL hl hv => lv_l2i C.1 C.2.1 d rfl (k ad H locs ls hP hS hE hL hl (hv.tl.cn zok_i))
theorem z_i2b (C : zC Z p s m args meth c cc nL own) {x : Int32} (d : decode cc pc = .ok (.i2b, 1))  (k : zG Z ad0 h0 p l e R s m args below meth c Q cells slots h nL (pc + 1) lc (.int x.toInt8.toInt32 :: rest)) : zG Z ad0 h0 p l e R s m args below meth c Q cells slots h nL pc lc (.int x :: rest) :=
  fun ad H locs ls hP hS hE hL hl hv => lv_i2b C.1 C.2.1 d rfl (k ad H locs ls hP hS hE hL hl (hv.tl.cn zok_i))
theorem z_i2c (C : zC Z p s m args meth c cc nL own) {x : Int32} (d : decode cc pc = .ok (.i2c, 1))  (k : zG Z ad0 h0 p l e R s m args below meth c Q cells slots h nL (pc + 1) lc (.int (x.toUInt32 % 65536).toInt32 :: rest)) : zG Z ad0 h0 p l e R s m args below meth c Q cells slots h nL pc lc (.int x :: rest) :=
  fun ad H locs ls hP hS hE hL hl hv => lv_i2c C.1 C.2.1 d rfl (k ad H locs ls hP hS hE hL hl (hv.tl.cn zok_i))
theorem z_dup (C : zC Z p s m args meth c cc nL own) {v : Value} (d : decode cc pc = .ok (.dup, 1)) (hc : v.category = 1) (k : zG Z ad0 h0 p l e R s m args below meth c Q cells slots h nL (pc + 1) lc (v :: v :: rest)) : zG Z ad0 h0 p l e R s m args below meth c Q cells slots h nL pc lc (v :: rest) :=
  fun ad H locs ls hP hS hE hL hl hv => lv_dup C.1 C.2.1 d (zv_cat.trans hc) (k ad H locs ls hP hS hE hL hl (hv.cn hv.hd))
theorem z_pop (C : zC Z p s m args meth c cc nL own) {v : Value} (d : decode cc pc = .ok (.pop, 1)) (hc : v.category = 1) (k : zG Z ad0 h0 p l e R s m args below meth c Q cells slots h nL (pc + 1) lc (rest)) : zG Z ad0 h0 p l e R s m args below meth c Q cells slots h nL pc lc (v :: rest) :=
  fun ad H locs ls hP hS hE hL hl hv => lv_pop C.1 C.2.1 d (zv_cat.trans hc) (k ad H locs ls hP hS hE hL hl (hv.tl))
theorem z_dup_x1 (C : zC Z p s m args meth c cc nL own) {v w : Value} (d : decode cc pc = .ok (.dup_x1, 1)) (hc : v.category = 1) (hc2 : w.category = 1) (k : zG Z ad0 h0 p l e R s m args below meth c Q cells slots h nL (pc + 1) lc (v :: w :: v :: rest)) : zG Z ad0 h0 p l e R s m args below meth c Q cells slots h nL pc lc (v :: w :: rest) :=
  fun ad H locs ls hP hS hE hL hl hv => lv_dup_x1 C.1 C.2.1 d (zv_cat.trans hc) (zv_cat.trans hc2) (k ad H locs ls hP hS hE hL hl (((hv.tl.tl.cn hv.hd).cn hv.tl.hd).cn hv.hd))
theorem z_dup_x2 (C : zC Z p s m args meth c cc nL own) {v w u : Value} (d : decode cc pc = .ok (.dup_x2, 1)) (hc : v.category = 1) (hc2 : w.category = 1) (hc3 : u.category = 1) (k : zG Z ad0 h0 p l e R s m args below meth c Q cells slots h nL (pc + 1) lc (v :: w :: u :: v :: rest)) : zG Z ad0 h0 p l e R s m args below meth c Q cells slots h nL pc lc (v :: w :: u :: rest) :=
  fun ad H locs ls hP hS hE hL hl hv => lv_dup_x2 C.1 C.2.1 d (zv_cat.trans hc) (zv_cat.trans hc2) (zv_cat.trans hc3) (k ad H locs ls hP hS hE hL hl ((((hv.tl.tl.tl.cn hv.hd).cn hv.tl.tl.hd).cn hv.tl.hd).cn hv.hd))
theorem z_icmp_eq (C : zC Z p s m args meth c cc nL own) {x y : Int32} {off : Int} {tgt : Nat} (d : decode cc pc = .ok (.if_icmp .eq off, 3)) (ht : (pc : Int) + off = (tgt : Int)) (kt : x = y → zG Z ad0 h0 p l e R s m args below meth c Q cells slots h nL tgt lc rest) (kf : ¬ x = y → zG Z ad0 h0 p l e R s m args below meth c Q cells slots h nL (pc + 3) lc rest) : zG Z ad0 h0 p l e R s m args below meth c Q cells slots h nL pc lc (.int y :: .int x :: rest) :=
  fun ad H locs ls hP hS hE hL hl hv => lv_icmp_eq C.1 C.2.1 d ht (fun q => kt q ad H locs ls hP hS hE hL hl hv.tl.tl) (fun q => kf q ad H locs ls hP hS hE hL hl hv.tl.tl)
theorem z_if_eq (C : zC Z p s m args meth c cc nL own) {x : Int32} {off : Int} {tgt : Nat} (d : decode cc pc = .ok (.ifCond .eq off, 3)) (ht : (pc : Int) + off = (tgt : Int)) (kt : x = 0 → zG Z ad0 h0 p l e R s m args below meth c Q cells slots h nL tgt lc rest) (kf : ¬ x = 0 → zG Z ad0 h0 p l e R s m args below meth c Q cells slots h nL (pc + 3) lc rest) : zG Z ad0 h0 p l e R s m args below meth c Q cells slots h nL pc lc (.int x :: rest) :=
  fun ad H locs ls hP hS hE hL hl hv => lv_if_eq C.1 C.2.1 d ht (fun q => kt q ad H locs ls hP hS hE hL hl hv.tl) (fun q => kf q ad H locs ls hP hS hE hL hl hv.tl)
theorem z_icmp_ne (C : zC Z p s m args meth c cc nL own) {x y : Int32} {off : Int} {tgt : Nat} (d : decode cc pc = .ok (.if_icmp .ne off, 3)) (ht : (pc : Int) + off = (tgt : Int)) (kt : ¬ x = y → zG Z ad0 h0 p l e R s m args below meth c Q cells slots h nL tgt lc rest) (kf : x = y → zG Z ad0 h0 p l e R s m args below meth c Q cells slots h nL (pc + 3) lc rest) : zG Z ad0 h0 p l e R s m args below meth c Q cells slots h nL pc lc (.int y :: .int x :: rest) :=
  fun ad H locs ls hP hS hE hL hl hv => lv_icmp_ne C.1 C.2.1 d ht (fun q => kt q ad H locs ls hP hS hE hL hl hv.tl.tl) (fun q => kf q ad H locs ls hP hS hE hL hl hv.tl.tl)
theorem z_if_ne (C : zC Z p s m args meth c cc nL own) {x : Int32} {off : Int} {tgt : Nat} (d : decode cc pc = .ok (.ifCond .ne off, 3)) (ht : (pc : Int) + off = (tgt : Int)) (kt : ¬ x = 0 → zG Z ad0 h0 p l e R s m args below meth c Q cells slots h nL tgt lc rest) (kf : x = 0 → zG Z ad0 h0 p l e R s m args below meth c Q cells slots h nL (pc + 3) lc rest) : zG Z ad0 h0 p l e R s m args below meth c Q cells slots h nL pc lc (.int x :: rest) :=
  fun ad H locs ls hP hS hE hL hl hv => lv_if_ne C.1 C.2.1 d ht (fun q => kt q ad H locs ls hP hS hE hL hl hv.tl) (fun q => kf q ad H locs ls hP hS hE hL hl hv.tl)
theorem z_icmp_lt (C : zC Z p s m args meth c cc nL own) {x y : Int32} {off : Int} {tgt : Nat} (d : decode cc pc = .ok (.if_icmp .lt off, 3)) (ht : (pc : Int) + off = (tgt : Int)) (kt : x < y → zG Z ad0 h0 p l e R s m args below meth c Q cells slots h nL tgt lc rest) (kf : ¬ x < y → zG Z ad0 h0 p l e R s m args below meth c Q cells slots h nL (pc + 3) lc rest) : zG Z ad0 h0 p l e R s m args below meth c Q cells slots h nL pc lc (.int y :: .int x :: rest) :=
  fun ad H locs ls hP hS hE hL hl hv => lv_icmp_lt C.1 C.2.1 d ht (fun q => kt q ad H locs ls hP hS hE hL hl hv.tl.tl) (fun q => kf q ad H locs ls hP hS hE hL hl hv.tl.tl)
theorem z_if_lt (C : zC Z p s m args meth c cc nL own) {x : Int32} {off : Int} {tgt : Nat} (d : decode cc pc = .ok (.ifCond .lt off, 3)) (ht : (pc : Int) + off = (tgt : Int)) (kt : x < 0 → zG Z ad0 h0 p l e R s m args below meth c Q cells slots h nL tgt lc rest) (kf : ¬ x < 0 → zG Z ad0 h0 p l e R s m args below meth c Q cells slots h nL (pc + 3) lc rest) : zG Z ad0 h0 p l e R s m args below meth c Q cells slots h nL pc lc (.int x :: rest) :=
  fun ad H locs ls hP hS hE hL hl hv => lv_if_lt C.1 C.2.1 d ht (fun q => kt q ad H locs ls hP hS hE hL hl hv.tl) (fun q => kf q ad H locs ls hP hS hE hL hl hv.tl)
theorem z_icmp_ge (C : zC Z p s m args meth c cc nL own) {x y : Int32} {off : Int} {tgt : Nat} (d : decode cc pc = .ok (.if_icmp .ge off, 3)) (ht : (pc : Int) + off = (tgt : Int)) (kt : y ≤ x → zG Z ad0 h0 p l e R s m args below meth c Q cells slots h nL tgt lc rest) (kf : ¬ y ≤ x → zG Z ad0 h0 p l e R s m args below meth c Q cells slots h nL (pc + 3) lc rest) : zG Z ad0 h0 p l e R s m args below meth c Q cells slots h nL pc lc (.int y :: .int x :: rest) :=
  fun ad H locs ls hP hS hE hL hl hv => lv_icmp_ge C.1 C.2.1 d ht (fun q => kt q ad H locs ls hP hS hE hL hl hv.tl.tl) (fun q => kf q ad H locs ls hP hS hE hL hl hv.tl.tl)
theorem z_if_ge (C : zC Z p s m args meth c cc nL own) {x : Int32} {off : Int} {tgt : Nat} (d : decode cc pc = .ok (.ifCond .ge off, 3)) (ht : (pc : Int) + off = (tgt : Int)) (kt : 0 ≤ x → zG Z ad0 h0 p l e R s m args below meth c Q cells slots h nL tgt lc rest) (kf : ¬ 0 ≤ x → zG Z ad0 h0 p l e R s m args below meth c Q cells slots h nL (pc + 3) lc rest) : zG Z ad0 h0 p l e R s m args below meth c Q cells slots h nL pc lc (.int x :: rest) :=
  fun ad H locs ls hP hS hE hL hl hv => lv_if_ge C.1 C.2.1 d ht (fun q => kt q ad H locs ls hP hS hE hL hl hv.tl) (fun q => kf q ad H locs ls hP hS hE hL hl hv.tl)
theorem z_icmp_gt (C : zC Z p s m args meth c cc nL own) {x y : Int32} {off : Int} {tgt : Nat} (d : decode cc pc = .ok (.if_icmp .gt off, 3)) (ht : (pc : Int) + off = (tgt : Int)) (kt : y < x → zG Z ad0 h0 p l e R s m args below meth c Q cells slots h nL tgt lc rest) (kf : ¬ y < x → zG Z ad0 h0 p l e R s m args below meth c Q cells slots h nL (pc + 3) lc rest) : zG Z ad0 h0 p l e R s m args below meth c Q cells slots h nL pc lc (.int y :: .int x :: rest) :=
  fun ad H locs ls hP hS hE hL hl hv => lv_icmp_gt C.1 C.2.1 d ht (fun q => kt q ad H locs ls hP hS hE hL hl hv.tl.tl) (fun q => kf q ad H locs ls hP hS hE hL hl hv.tl.tl)
theorem z_if_gt (C : zC Z p s m args meth c cc nL own) {x : Int32} {off : Int} {tgt : Nat} (d : decode cc pc = .ok (.ifCond .gt off, 3)) (ht : (pc : Int) + off = (tgt : Int)) (kt : 0 < x → zG Z ad0 h0 p l e R s m args below meth c Q cells slots h nL tgt lc rest) (kf : ¬ 0 < x → zG Z ad0 h0 p l e R s m args below meth c Q cells slots h nL (pc + 3) lc rest) : zG Z ad0 h0 p l e R s m args below meth c Q cells slots h nL pc lc (.int x :: rest) :=
  fun ad H locs ls hP hS hE hL hl hv => lv_if_gt C.1 C.2.1 d ht (fun q => kt q ad H locs ls hP hS hE hL hl hv.tl) (fun q => kf q ad H locs ls hP hS hE hL hl hv.tl)
theorem z_icmp_le (C : zC Z p s m args meth c cc nL own) {x y : Int32} {off : Int} {tgt : Nat} (d : decode cc pc = .ok (.if_icmp .le off, 3)) (ht : (pc : Int) + off = (tgt : Int)) (kt : x ≤ y → zG Z ad0 h0 p l e R s m args below meth c Q cells slots h nL tgt lc rest) (kf : ¬ x ≤ y → zG Z ad0 h0 p l e R s m args below meth c Q cells slots h nL (pc + 3) lc rest) : zG Z ad0 h0 p l e R s m args below meth c Q cells slots h nL pc lc (.int y :: .int x :: rest) :=
  fun ad H locs ls hP hS hE hL hl hv => lv_icmp_le C.1 C.2.1 d ht (fun q => kt q ad H locs ls hP hS hE hL hl hv.tl.tl) (fun q => kf q ad H locs ls hP hS hE hL hl hv.tl.tl)
theorem z_if_le (C : zC Z p s m args meth c cc nL own) {x : Int32} {off : Int} {tgt : Nat} (d : decode cc pc = .ok (.ifCond .le off, 3)) (ht : (pc : Int) + off = (tgt : Int)) (kt : x ≤ 0 → zG Z ad0 h0 p l e R s m args below meth c Q cells slots h nL tgt lc rest) (kf : ¬ x ≤ 0 → zG Z ad0 h0 p l e R s m args below meth c Q cells slots h nL (pc + 3) lc rest) : zG Z ad0 h0 p l e R s m args below meth c Q cells slots h nL pc lc (.int x :: rest) :=
  fun ad H locs ls hP hS hE hL hl hv => lv_if_le C.1 C.2.1 d ht (fun q => kt q ad H locs ls hP hS hE hL hl hv.tl) (fun q => kf q ad H locs ls hP hS hE hL hl hv.tl)
theorem z_goto (C : zC Z p s m args meth c cc nL own) {off : Int} {tgt : Nat} (d : decode cc pc = .ok (.goto off, 3)) (ht : (pc : Int) + off = (tgt : Int)) (k : zG Z ad0 h0 p l e R s m args below meth c Q cells slots h nL tgt lc rest) : zG Z ad0 h0 p l e R s m args below meth c Q cells slots h nL pc lc rest :=
  fun ad H locs ls hP hS hE hL hl hv => lv_goto C.1 C.2.1 d ht (k ad H locs ls hP hS hE hL hl hv)
theorem zok_mono {h h' : zH} (x : ∀ b, h b ≠ none → h' b ≠ none) {v : Value} (hv : zok h v) : zok h' v := fun a ha => (hv a ha).imp (x a) id
theorem zcl_mono {h h' : zH} (x : ∀ b, h b ≠ none → h' b ≠ none) {y : va_E} (hy : zcl h y) : zcl h' y := by
  rcases y with ⟨cA, n, f | f | f | f | g⟩ | ⟨ci, fs⟩
  · exact trivial
  · exact trivial
  · exact trivial
  · exact trivial
  · exact fun i a hi => zok_mono x (hy i a hi)
  · exact fun v hv => zok_mono x (hy v hv)
theorem zP_set {ad : Nat → Nat} {h h' : zH} {H1 : Heap} {a : Nat} {e0 e1 : va_E} {L : List Nat} {f : Nat → va_E} (P3 : ∀ a e, h a = some e → ad a ∈ L ∧ f (ad a) = ze ad e ∧ zcl h e) (P4 : ∀ a b, h a ≠ none → h b ≠ none → ad a = ad b → a = b) (P5 : ∀ a, 200 ≤ a % 256 → ad a = Z.2.2.2 a ∧ h a = none)
    (ha : h a = some e0) (hh : ∀ b, h' b = if b = a then some e1 else h b) (hc : zcl h e1) (Q1 : va_P Z.1 vwCl (va_pl L (va_up f (ad a) (ze ad e1))) H1) (Q2 : va_D (zA Z) (va_pl L (va_up f (ad a) (ze ad e1)))) : zP Z ad h' H1 := by
  have hn : h a ≠ none := by rw [ha]; exact Option.some_ne_none _
  have hd : ∀ b, h b ≠ none → h' b ≠ none := fun b hb => by
    rw [hh b]
    by_cases q : b = a
    · rw [if_pos q]; exact Option.some_ne_none _
    · rw [if_neg q]; exact hb
  have hd2 : ∀ b, h' b ≠ none → h b ≠ none := fun b hb => by
    rw [hh b] at hb
    by_cases q : b = a
    · rw [q]; exact hn
    · rw [if_neg q] at hb; exact hb
  refine ⟨L, _, Q1, Q2, fun b y hb => ?_, fun b b2 x1 x2 => P4 b b2 (hd2 b x1) (hd2 b2 x2), fun b hb => ⟨(P5 b hb).1, ?_⟩⟩
  · rw [hh b] at hb
    by_cases q : b = a
    · subst q
      rw [if_pos rfl] at hb
      cases hb
      exact ⟨(P3 b _ ha).1, if_pos rfl, zcl_mono hd hc⟩
    · rw [if_neg q] at hb
      obtain ⟨g1, g2, g3⟩ := P3 b y hb
      have hne : ad b ≠ ad a := fun z => q (P4 b a (by rw [hb]; exact Option.some_ne_none _) hn z)
      exact ⟨g1, (if_neg hne).trans g2, zcl_mono hd g3⟩
  · rw [hh b]
    by_cases q : b = a
    · subst q
      rw [(P5 b hb).2] at ha
      cases ha
    · rw [if_neg q]; exact (P5 b hb).2
theorem zv_same {ad : Nat → Nat} {h : zH} {a q : Nat} (ha : h a = none) (hc : ¬ 200 ≤ a % 256) {v : Value} (hv : zok h v) : zv (va_up ad a q) v = zv ad v := by
  cases v with
  | ref b =>
    have hb : b ≠ a := fun z => by
      subst z
      rcases hv b rfl with g | g
      · exact g ha
      · exact hc g
    exact congrArg Value.ref (if_neg hb)
  | _ => rfl
theorem ze_same {ad : Nat → Nat} {h : zH} {a q : Nat} (ha : h a = none) (hc : ¬ 200 ≤ a % 256) {y : va_E} (hy : zcl h y) : ze (va_up ad a q) y = ze ad y := by
  rcases y with ⟨cA, n, f | f | f | f | g⟩ | ⟨ci, fs⟩
  · rfl
  · rfl
  · rfl
  · rfl
  · show (Sum.inl (cA, n, _) : va_E) = Sum.inl (cA, n, _)
    refine congrArg (fun z : Nat → Option Nat => (Sum.inl (cA, n, .inr (.inr (.inr (.inr z)))) : va_E)) (funext fun i => ?_)
    cases hi : g i with
    | none => rfl
    | some b =>
      have hb : b ≠ a := fun z => by
        subst z
        rcases hy i b hi b rfl with g | g
        · exact g ha
        · exact hc g
      exact congrArg some (if_neg hb)
  · refine congrArg (fun z : List Value => (Sum.inr (ci, z) : va_E)) (List.map_congr_left fun v hv => zv_same ha hc (hy v hv))
theorem zL_same {ad : Nat → Nat} {h : zH} {a q : Nat} {ls : Array Slot} (ha : h a = none) (hc : ¬ 200 ≤ a % 256) (hl : zlo h lc) (hL : zL ad ls nL lc) : zL (va_up ad a q) ls nL lc := ⟨hL.1, hL.2.1, fun z hz => by
  obtain ⟨v, h1, h2⟩ := zpr_mem.mp hz
  rw [h2, zv_same ha hc (hl.at h1)]
  exact hL.at h1⟩
theorem zmap_same {ad : Nat → Nat} {h : zH} {a q : Nat} {st : List Value} (ha : h a = none) (hc : ¬ 200 ≤ a % 256) (hv : zso h st) : st.map (zv (va_up ad a q)) = st.map (zv ad) := List.map_congr_left fun v hq => zv_same ha hc (hv v hq)
theorem zP_new {ad : Nat → Nat} {h h' : zH} {H1 : Heap} {a q : Nat} {e1 : va_E} {L : List Nat} {f : Nat → va_E} (hq : q ∉ L) (P3 : ∀ a e, h a = some e → ad a ∈ L ∧ f (ad a) = ze ad e ∧ zcl h e) (P4 : ∀ a b, h a ≠ none → h b ≠ none → ad a = ad b → a = b) (P5 : ∀ a, 200 ≤ a % 256 → ad a = Z.2.2.2 a ∧ h a = none)
    (ha : h a = none) (hcs : ¬ 200 ≤ a % 256) (hh : ∀ b, h' b = if b = a then some e1 else h b) (hc : zcl h e1) (Q1 : va_P Z.1 vwCl (va_pl (L ++ [q]) (va_up f q (ze ad e1))) H1) (Q2 : va_D (zA Z) (va_pl (L ++ [q]) (va_up f q (ze ad e1)))) : zP Z (va_up ad a q) h' H1 := by
  have hd : ∀ b, h b ≠ none → h' b ≠ none := fun b hb => by
    rw [hh b]
    by_cases g : b = a
    · rw [if_pos g]; exact Option.some_ne_none _
    · rw [if_neg g]; exact hb
  have old : ∀ b, b ≠ a → h' b ≠ none → h b ≠ none ∧ va_up ad a q b = ad b ∧ ad b ∈ L := fun b hb x => by
    rw [hh b, if_neg hb] at x
    cases hy : h b with
    | none => exact absurd hy x
    | some y => exact ⟨Option.some_ne_none _, if_neg hb, (P3 b y hy).1⟩
  refine ⟨_, _, Q1, Q2, fun b y hb => ?_, fun b b2 x1 x2 hx => ?_, fun b hb => ⟨?_, ?_⟩⟩
  · rw [hh b] at hb
    by_cases g : b = a
    · subst g
      rw [if_pos rfl] at hb
      cases hb
      refine ⟨by rw [show va_up ad b q b = q from if_pos rfl]; exact List.mem_append_right _ List.mem_cons_self, ?_, zcl_mono hd hc⟩
      rw [show va_up ad b q b = q from if_pos rfl, ze_same ha hcs hc]
      exact if_pos rfl
    · rw [if_neg g] at hb
      obtain ⟨g1, g2, g3⟩ := P3 b y hb
      have e9 : va_up ad a q b = ad b := if_neg g
      rw [e9, ze_same ha hcs g3]
      have hne : ad b ≠ q := fun z => hq (by rw [← z]; exact g1)
      exact ⟨List.mem_append_left _ g1, (if_neg hne).trans g2, zcl_mono hd g3⟩
  · by_cases g : b = a
    · by_cases g2 : b2 = a
      · rw [g, g2]
      · obtain ⟨-, y2, y3⟩ := old b2 g2 x2
        rw [g, y2, show va_up ad a q a = q from if_pos rfl] at hx
        exact absurd (by rw [hx]; exact y3) hq
    · obtain ⟨y1, y2, y3⟩ := old b g x1
      by_cases g2 : b2 = a
      · rw [g2, y2, show va_up ad a q a = q from if_pos rfl] at hx
        exact absurd (by rw [← hx]; exact y3) hq
      · obtain ⟨z1, z2, -⟩ := old b2 g2 x2
        rw [y2, z2] at hx
        exact P4 b b2 y1 z1 hx
  · have g : b ≠ a := fun z => hcs (by rw [← z]; exact hb)
    exact (if_neg g).trans (P5 b hb).1
  · have g : b ≠ a := fun z => hcs (by rw [← z]; exact hb)
    rw [hh b, if_neg g]
    exact (P5 b hb).2
theorem zE_new {ad : Nat → Nat} {h' : zH} {a q : Nat} {e1 : va_E} (hE : zE ad0 h0 ad h) (ha : h a = none) (hh : ∀ b, h' b = if b = a then some e1 else h b) : zE ad0 h0 (va_up ad a q) h' := fun b hb => by
  obtain ⟨x1, x2⟩ := hE b hb
  have g : b ≠ a := fun z => x1 (by rw [z]; exact ha)
  exact ⟨by rw [hh b, if_neg g]; exact x1, (if_neg g).trans x2⟩
theorem zE_set {ad : Nat → Nat} {h' : zH} {a : Nat} {e1 : va_E} (hE : zE ad0 h0 ad h) (hh : ∀ b, h' b = if b = a then some e1 else h b) : zE ad0 h0 ad h' := fun b hb => by
  obtain ⟨x1, x2⟩ := hE b hb
  refine ⟨?_, x2⟩
  rw [hh b]
  by_cases g : b = a
  · rw [if_pos g]; exact Option.some_ne_none _
  · rw [if_neg g]; exact x1
theorem zd_set {h h' : zH} {a : Nat} {e1 : va_E} (hh : ∀ b, h' b = if b = a then some e1 else h b) : ∀ b, h b ≠ none → h' b ≠ none := fun b hb => by
  rw [hh b]
  by_cases g : b = a
  · rw [if_pos g]; exact Option.some_ne_none _
  · rw [if_neg g]; exact hb
theorem zlo.mono {h h' : zH} (x : ∀ b, h b ≠ none → h' b ≠ none) (hl : zlo h lc) : zlo h' lc := fun v hv => zok_mono x (hl v hv)
theorem zso.mono {h h' : zH} {st : List Value} (x : ∀ b, h b ≠ none → h' b ≠ none) (hl : zso h st) : zso h' st := fun v hv => zok_mono x (hl v hv)
theorem zv_nar {ad : Nat → Nat} {ty : FieldType} {v : Value} (hn : narrow ty v = v) (hf : fits ty v = true) : narrow ty (zv ad v) = zv ad v ∧ fits ty (zv ad v) = true := by
  cases v with
  | ref b => exact ⟨by cases ty <;> rfl, by cases ty <;> first | rfl | cases hf⟩
  | _ => exact ⟨hn, hf⟩

theorem z_get (C : zC Z p s m args meth c cc nL own) {a ci j idx : Nat} {fs : List Value} {v : Value} (d : decode cc pc = .ok (.getfield idx, 3)) (hw : zFl own idx ci j) (ha : h a = some (.inr (ci, fs))) (hf : fs[j]? = some v) (k : zG Z ad0 h0 p l e R s m args below meth c Q cells slots h nL (pc + 3) lc (v :: rest)) : zG Z ad0 h0 p l e R s m args below meth c Q cells slots h nL pc lc (.ref a :: rest) := by
  intro ad H locs ls hP hS hE hL hl hv
  obtain ⟨L, f, P1, P2, P3, P4, P5⟩ := id hP
  obtain ⟨cn, T, N, w1, w2, w3, w4⟩ := hw
  obtain ⟨m1, m2, m3⟩ := P3 a _ ha
  obtain ⟨k9, hk9⟩ := va_pl_get (X := []) (f := f) m1
  rw [m2] at hk9
  exact va_get (ws := va_pl L f) C.1 C.2.1 C.2.2.2.2.1 w2 C.2.2.2.1 C.2.2.2.2.2.1 P1 k9 hk9 w1 j w3 (C.2.2.2.2.1 _ w4) (fun x h => h) (v := zv ad v) (by rw [List.getElem?_map, hf]; rfl) d (k ad H locs ls hP hS hE hL hl (hv.tl.cn (m3 v (List.mem_of_getElem? hf))))
theorem z_getN (C : zC Z p s m args meth c cc nL own) {a ci j idx : Nat} {host : String} {fs : List Value} {v : Value} (d : decode cc pc = .ok (.getfield idx, 3)) (hw : zFn own idx ci j host) (ha : h a = some (.inr (ci, fs))) (hf : fs[j]? = some v) (k : zG Z ad0 h0 p l e R s m args below meth c Q cells slots h nL (pc + 3) lc (v :: rest)) : zG Z ad0 h0 p l e R s m args below meth c Q cells slots h nL pc lc (.ref a :: rest) := by
  intro ad H locs ls hP hS hE hL hl hv
  obtain ⟨L, f, P1, P2, P3, P4, P5⟩ := id hP
  obtain ⟨cn, T, N, w1, w2, w3, w4⟩ := hw
  obtain ⟨m1, m2, m3⟩ := P3 a _ ha
  obtain ⟨k9, hk9⟩ := va_pl_get (X := []) (f := f) m1
  rw [m2] at hk9
  exact va_getN (ws := va_pl L f) C.1 C.2.1 C.2.2.2.2.1 w2 C.2.2.2.1 C.2.2.2.2.2.1 P1 k9 hk9 w1 j w3 (C.2.2.2.2.1 _ w4) (fun x h => h) (v := zv ad v) (by rw [List.getElem?_map, hf]; rfl) d (k ad H locs ls hP hS hE hL hl (hv.tl.cn (m3 v (List.mem_of_getElem? hf))))
theorem z_put (C : zC Z p s m args meth c cc nL own) {a ci j idx : Nat} {ty : FieldType} {fin : Bool} {fs : List Value} {v : Value} {h' : zH} (d : decode cc pc = .ok (.putfield idx, 3)) (hw : zPl own idx ci j ty fin) (hfin : fin = false ∨ meth.name = "<init>") (hn : narrow ty v = v) (hfit : fits ty v = true) (ha : h a = some (.inr (ci, fs))) (hlt : j < fs.length) (hh : ∀ b, h' b = if b = a then some (.inr (ci, fs.set j v)) else h b) (k : zG Z ad0 h0 p l e R s m args below meth c Q cells slots h' nL (pc + 3) lc (rest)) : zG Z ad0 h0 p l e R s m args below meth c Q cells slots h nL pc lc (v :: .ref a :: rest) := by
  intro ad H locs ls hP hS hE hL hl hv
  obtain ⟨L, f, P1, P2, P3, P4, P5⟩ := id hP
  obtain ⟨cn, T, N, ty0, w1, w2, w3, w4, w5, w6, w7, w8, w9⟩ := hw
  obtain ⟨m1, m2, m3⟩ := P3 a _ ha
  obtain ⟨k9, hk9⟩ := va_pl_get (X := []) (f := f) m1
  have hk9a : (va_pl L f)[k9]? = some (ad a, f (ad a)) := hk9
  have hk9b := hk9a
  rw [m2] at hk9b
  obtain ⟨n1, n2⟩ := zv_nar (ad := ad) hn hfit
  have hcl : zcl h (.inr (ci, fs.set j v)) := fun x hx => by
    rcases List.mem_or_eq_of_mem_set hx with g | g
    · exact m3 x g
    · rw [g]; exact hv.hd
  have fin9 : ∀ (H1 : Heap) (locs1 : List Loc), va_P Z.1 vwCl ((va_pl L f).set k9 (ad a, .inr (ci, (fs.map (zv ad)).set j (zv ad v)))) H1 → va_D (zA Z) ((va_pl L f).set k9 (ad a, .inr (ci, (fs.map (zv ad)).set j (zv ad v)))) → va_S (zA Z) s.heap H1 locs1 → W p l e R s m args below meth c H1 locs1 cells slots Q (F0 m (pc + 3) ls (rest.map (zv ad))) := by
    intro H1 locs1 Q1 Q2 Q3
    have e9 : (va_pl L f).set k9 (ad a, .inr (ci, (fs.map (zv ad)).set j (zv ad v))) = va_pl L (va_up f (ad a) (ze ad (.inr (ci, fs.set j v)))) := by
      have e8 := va_pl_set (X := []) (e := ze ad (.inr (ci, fs.set j v))) P2 m1 hk9a
      rw [show ze ad (.inr (ci, fs.set j v)) = .inr (ci, (fs.set j v).map (zv ad)) from rfl, List.map_set] at e8
      rw [show ze ad (.inr (ci, fs.set j v)) = .inr (ci, (fs.set j v).map (zv ad)) from rfl, List.map_set]
      exact e8
    rw [e9] at Q1 Q2
    exact k ad H1 locs1 ls (zP_set P3 P4 P5 ha hh hcl Q1 Q2) Q3 (zE_set hE hh) hL (hl.mono (zd_set hh)) (hv.tl.tl.mono (zd_set hh))
  cases fin with
  | false => exact va_put (ws := va_pl L f) C.1 C.2.1 C.2.2.2.2.1 w2 ty0 w5 w6 C.2.2.2.1 C.2.2.2.2.2.1 P1 P2 hS k9 hk9b w1 j w3 (C.2.2.2.2.1 _ w4) (fun x h => h) w8 w7 n1 n2 (by rw [List.length_map]; exact hlt) d fin9
  | true => exact va_putF (ws := va_pl L f) C.1 C.2.1 C.2.2.2.2.1 w2 ty0 w5 w6 C.2.2.2.1 C.2.2.2.2.2.1 P1 P2 hS k9 hk9b w1 j w3 (C.2.2.2.2.1 _ w4) (fun x h => h) w8 (hfin.resolve_left Bool.noConfusion) (w9 rfl) w7 n1 n2 (by rw [List.length_map]; exact hlt) d fin9
theorem z_iald (C : zC Z p s m args meth c cc nL own) {a n : Nat} {f : Nat → Int32} {i : Int32} (d : decode cc pc = .ok (.iaload, 1)) (ha : h a = some (.inl (Z.2.1 0, n, .inl f))) (hi : vp_in i n) (k : zG Z ad0 h0 p l e R s m args below meth c Q cells slots h nL (pc + 1) lc (.int (f i.toNatClampNeg) :: rest)) : zG Z ad0 h0 p l e R s m args below meth c Q cells slots h nL pc lc (.int i :: .ref a :: rest) := by
  intro ad H locs ls hP hS hE hL hl hv
  obtain ⟨L, g, P1, P2, P3, P4, P5⟩ := id hP
  obtain ⟨m1, m2, m3⟩ := P3 a _ ha
  obtain ⟨k9, hk9⟩ := va_pl_get (X := []) (f := g) m1
  rw [m2] at hk9
  exact va_iald (ws := va_pl L g) C.1 C.2.1 C.2.2.2.2.2.1 P1 k9 0 hk9 rfl hi d (k ad H locs ls hP hS hE hL hl (hv.tl.tl.cn zok_i))
theorem z_bald (C : zC Z p s m args meth c cc nL own) {a n : Nat} {f : Nat → Int32} {i : Int32} (d : decode cc pc = .ok (.baload, 1)) (ha : h a = some (.inl (Z.2.1 1, n, .inl f))) (hi : vp_in i n) (k : zG Z ad0 h0 p l e R s m args below meth c Q cells slots h nL (pc + 1) lc (.int (f i.toNatClampNeg) :: rest)) : zG Z ad0 h0 p l e R s m args below meth c Q cells slots h nL pc lc (.int i :: .ref a :: rest) := by
  intro ad H locs ls hP hS hE hL hl hv
  obtain ⟨L, g, P1, P2, P3, P4, P5⟩ := id hP
  obtain ⟨m1, m2, m3⟩ := P3 a _ ha
  obtain ⟨k9, hk9⟩ := va_pl_get (X := []) (f := g) m1
  rw [m2] at hk9
  exact va_bald (ws := va_pl L g) C.1 C.2.1 C.2.2.2.2.2.1 P1 k9 1 hk9 rfl hi d (k ad H locs ls hP hS hE hL hl (hv.tl.tl.cn zok_i))
theorem z_zald (C : zC Z p s m args meth c cc nL own) {a n : Nat} {f : Nat → Int32} {i : Int32} (d : decode cc pc = .ok (.baload, 1)) (ha : h a = some (.inl (Z.2.1 2, n, .inl f))) (hi : vp_in i n) (k : zG Z ad0 h0 p l e R s m args below meth c Q cells slots h nL (pc + 1) lc (.int (f i.toNatClampNeg) :: rest)) : zG Z ad0 h0 p l e R s m args below meth c Q cells slots h nL pc lc (.int i :: .ref a :: rest) := by
  intro ad H locs ls hP hS hE hL hl hv
  obtain ⟨L, g, P1, P2, P3, P4, P5⟩ := id hP
  obtain ⟨m1, m2, m3⟩ := P3 a _ ha
  obtain ⟨k9, hk9⟩ := va_pl_get (X := []) (f := g) m1
  rw [m2] at hk9
  exact va_zald (ws := va_pl L g) C.1 C.2.1 C.2.2.2.2.2.1 P1 k9 2 hk9 rfl hi d (k ad H locs ls hP hS hE hL hl (hv.tl.tl.cn zok_i))
theorem z_iast (C : zC Z p s m args meth c cc nL own) {a n : Nat} {f : Nat → Int32} {i x : Int32} {h' : zH} (d : decode cc pc = .ok (.iastore, 1)) (ha : h a = some (.inl (Z.2.1 0, n, .inl f))) (hi : vp_in i n) (hh : ∀ b, h' b = if b = a then some (.inl (Z.2.1 0, n, .inl (upd f i.toNatClampNeg x))) else h b) (k : zG Z ad0 h0 p l e R s m args below meth c Q cells slots h' nL (pc + 1) lc (rest)) : zG Z ad0 h0 p l e R s m args below meth c Q cells slots h nL pc lc (.int x :: .int i :: .ref a :: rest) := by
  intro ad H locs ls hP hS hE hL hl hv
  obtain ⟨L, g, P1, P2, P3, P4, P5⟩ := id hP
  obtain ⟨m1, m2, m3⟩ := P3 a _ ha
  obtain ⟨k9, hk9⟩ := va_pl_get (X := []) (f := g) m1
  have hk9a : (va_pl L g)[k9]? = some (ad a, g (ad a)) := hk9
  have hk9b := hk9a
  rw [m2] at hk9b
  refine va_iast (ws := va_pl L g) C.1 C.2.1 C.2.2.2.2.2.1 P1 P2 hS k9 0 hk9b rfl hi d (fun H1 locs1 Q1 Q2 Q3 => ?_)
  have e8 := va_pl_set (X := []) (e := .inl (Z.2.1 0, n, .inl (upd f i.toNatClampNeg x))) P2 m1 hk9a
  have e9 : (va_pl L g).set k9 (ad a, .inl (Z.2.1 0, n, .inl (upd f i.toNatClampNeg x))) = va_pl L (va_up g (ad a) (.inl (Z.2.1 0, n, .inl (upd f i.toNatClampNeg x)))) := e8
  rw [e9] at Q1 Q2
  exact k ad H1 locs1 ls (zP_set P3 P4 P5 ha hh (e1 := .inl (Z.2.1 0, n, .inl (upd f i.toNatClampNeg x))) trivial Q1 Q2) Q3 (zE_set hE hh) hL (hl.mono (zd_set hh)) (hv.tl.tl.tl.mono (zd_set hh))
theorem z_bast (C : zC Z p s m args meth c cc nL own) {a n : Nat} {f : Nat → Int32} {i x : Int32} {h' : zH} (d : decode cc pc = .ok (.bastore, 1)) (ha : h a = some (.inl (Z.2.1 1, n, .inl f))) (hi : vp_in i n) (hh : ∀ b, h' b = if b = a then some (.inl (Z.2.1 1, n, .inl (upd f i.toNatClampNeg (vp_nar .byte x)))) else h b) (k : zG Z ad0 h0 p l e R s m args below meth c Q cells slots h' nL (pc + 1) lc (rest)) : zG Z ad0 h0 p l e R s m args below meth c Q cells slots h nL pc lc (.int x :: .int i :: .ref a :: rest) := by
  intro ad H locs ls hP hS hE hL hl hv
  obtain ⟨L, g, P1, P2, P3, P4, P5⟩ := id hP
  obtain ⟨m1, m2, m3⟩ := P3 a _ ha
  obtain ⟨k9, hk9⟩ := va_pl_get (X := []) (f := g) m1
  have hk9a : (va_pl L g)[k9]? = some (ad a, g (ad a)) := hk9
  have hk9b := hk9a
  rw [m2] at hk9b
  refine va_bast (ws := va_pl L g) C.1 C.2.1 C.2.2.2.2.2.1 P1 P2 hS k9 1 hk9b rfl hi d (fun H1 locs1 Q1 Q2 Q3 => ?_)
  have e8 := va_pl_set (X := []) (e := .inl (Z.2.1 1, n, .inl (upd f i.toNatClampNeg (vp_nar .byte x)))) P2 m1 hk9a
  have e9 : (va_pl L g).set k9 (ad a, .inl (Z.2.1 1, n, .inl (upd f i.toNatClampNeg (vp_nar .byte x)))) = va_pl L (va_up g (ad a) (.inl (Z.2.1 1, n, .inl (upd f i.toNatClampNeg (vp_nar .byte x))))) := e8
  rw [e9] at Q1 Q2
  exact k ad H1 locs1 ls (zP_set P3 P4 P5 ha hh (e1 := .inl (Z.2.1 1, n, .inl (upd f i.toNatClampNeg (vp_nar .byte x)))) trivial Q1 Q2) Q3 (zE_set hE hh) hL (hl.mono (zd_set hh)) (hv.tl.tl.tl.mono (zd_set hh))
theorem z_zast (C : zC Z p s m args meth c cc nL own) {a n : Nat} {f : Nat → Int32} {i x : Int32} {h' : zH} (d : decode cc pc = .ok (.bastore, 1)) (ha : h a = some (.inl (Z.2.1 2, n, .inl f))) (hi : vp_in i n) (hh : ∀ b, h' b = if b = a then some (.inl (Z.2.1 2, n, .inl (upd f i.toNatClampNeg (vp_nar .boolean x)))) else h b) (k : zG Z ad0 h0 p l e R s m args below meth c Q cells slots h' nL (pc + 1) lc (rest)) : zG Z ad0 h0 p l e R s m args below meth c Q cells slots h nL pc lc (.int x :: .int i :: .ref a :: rest) := by
  intro ad H locs ls hP hS hE hL hl hv
  obtain ⟨L, g, P1, P2, P3, P4, P5⟩ := id hP
  obtain ⟨m1, m2, m3⟩ := P3 a _ ha
  obtain ⟨k9, hk9⟩ := va_pl_get (X := []) (f := g) m1
  have hk9a : (va_pl L g)[k9]? = some (ad a, g (ad a)) := hk9
  have hk9b := hk9a
  rw [m2] at hk9b
  refine va_zast (ws := va_pl L g) C.1 C.2.1 C.2.2.2.2.2.1 P1 P2 hS k9 2 hk9b rfl hi d (fun H1 locs1 Q1 Q2 Q3 => ?_)
  have e8 := va_pl_set (X := []) (e := .inl (Z.2.1 2, n, .inl (upd f i.toNatClampNeg (vp_nar .boolean x)))) P2 m1 hk9a
  have e9 : (va_pl L g).set k9 (ad a, .inl (Z.2.1 2, n, .inl (upd f i.toNatClampNeg (vp_nar .boolean x)))) = va_pl L (va_up g (ad a) (.inl (Z.2.1 2, n, .inl (upd f i.toNatClampNeg (vp_nar .boolean x))))) := e8
  rw [e9] at Q1 Q2
  exact k ad H1 locs1 ls (zP_set P3 P4 P5 ha hh (e1 := .inl (Z.2.1 2, n, .inl (upd f i.toNatClampNeg (vp_nar .boolean x)))) trivial Q1 Q2) Q3 (zE_set hE hh) hL (hl.mono (zd_set hh)) (hv.tl.tl.tl.mono (zd_set hh))
theorem z_alen (C : zC Z p s m args meth c cc nL own) {a t n : Nat} {x : vp_A} {ty : FieldType} {v : Int32} (d : decode cc pc = .ok (.arraylength, 1)) (ha : h a = some (.inl (Z.2.1 t, x))) (ht : (zt Z)[t]? = some (Z.2.1 t, ty)) (hv0 : Int32.ofNat x.1 = v) (k : zG Z ad0 h0 p l e R s m args below meth c Q cells slots h nL (pc + 1) lc (.int v :: rest)) : zG Z ad0 h0 p l e R s m args below meth c Q cells slots h nL pc lc (.ref a :: rest) := by
  intro ad H locs ls hP hS hE hL hl hv
  obtain ⟨L, g, P1, P2, P3, P4, P5⟩ := id hP
  obtain ⟨m1, m2, m3⟩ := P3 a _ ha
  obtain ⟨k9, hk9⟩ := va_pl_get (X := []) (f := g) m1
  have e7 : ∃ x', ze ad (.inl (Z.2.1 t, x)) = .inl (Z.2.1 t, x') ∧ x'.1 = x.1 := by
    rcases x with ⟨n, f | f | f | f | q⟩ <;> exact ⟨_, rfl, rfl⟩
  obtain ⟨x', e8, e9⟩ := e7
  rw [m2, e8] at hk9
  exact va_alen (ws := va_pl L g) C.1 C.2.1 C.2.2.2.2.2.1 P1 k9 t hk9 ht (by rw [e9]; exact hv0) d (k ad H locs ls hP hS hE hL hl (hv.tl.cn zok_i))
def zS (Z : zZ) (ad : Nat → Nat) (h : zH) (U : State) : Prop := zP Z ad h U.heap ∧ va_K Z.1 vwCl (zt Z) U ∧ Z.2.2.1 ≤ U.heap.size ∧ zK Z U U.heap
def zPc (Z : zZ) (ad : Nat → Nat) (h : zH) (av : List Value) : Array Value → State → Prop := fun a U => a = (av.map (zv ad)).toArray ∧ zS Z ad h U ∧ zso h av
def zQ (Z : zZ) (ad0 : Nat → Nat) (h0 : zH) (P : Option Value → zH → Prop) : Array Value → State → Outcome → State → Prop := fun _ st oc t =>
  (∃ (v : Option Value) (ad : Nat → Nat) (h : zH), oc = .returned (v.map (zv ad)) ∧ (∀ x, v = some x → zok h x) ∧ P v h ∧ zP Z ad h t.heap ∧ zE ad0 h0 ad h) ∧ va_F (zA Z) st t
def zX (Z : zZ) (ad0 : Nat → Nat) (h0 : zH) (X : Nat → zH → Prop) : String → State → State → Prop := fun E st t =>
  (∃ (k : Nat) (ad : Nat → Nat) (h : zH), k < 3 ∧ E = zXn k ∧ X k h ∧ zP Z ad h t.heap ∧ zE ad0 h0 ad h) ∧ va_F (zA Z) st t
/-- a contract: the method y, with the arguments av, over the heap h0, comes back with P -/
def zN (Z : zZ) (l : Launch) (y : MethodName) (cc : ByteArray) (nL : Nat) (ret : Option FieldType) (rm : Room) (h0 : zH) (av : List Value) (P : Option Value → zH → Prop) : Prop :=
  ∀ ad0, Met l y (Cond.code y cc nL ret :: zw) rm (zPc Z ad0 h0 av) (zQ Z ad0 h0 P) rm.cells rm.slots (zA Z)
/-- .. or throws with X -/
def zM (Z : zZ) (l : Launch) (y : MethodName) (cc : ByteArray) (nL : Nat) (ret : Option FieldType) (rm : Room) (h0 : zH) (av : List Value) (P : Option Value → zH → Prop) (X : Nat → zH → Prop) : Prop :=
  ∀ ad0, vx_Met l y (Cond.code y cc nL ret :: zw) rm (zPc Z ad0 h0 av) (zQ Z ad0 h0 P) (zX Z ad0 h0 X) rm.cells rm.slots (zA Z)
def zen (nL : Nat) (q : List (Nat × Value)) : List (Option Value) := (List.range nL).map fun i => (q.find? (fun z => z.1 == i)).map (·.2)
theorem zen_at {nL i : Nat} {q : List (Nat × Value)} {v : Value} (h : (zen nL q)[i]? = some (some v)) : (i, v) ∈ q := by
  unfold zen at h
  rw [List.getElem?_map] at h
  cases hr : (List.range nL)[i]? with
  | none => rw [hr] at h; cases h
  | some k =>
    rw [hr] at h
    obtain ⟨h1, h2⟩ := List.getElem?_eq_some_iff.mp hr
    rw [List.getElem_range] at h2
    subst h2
    have h : (q.find? (fun z => z.1 == i)).map (fun z => z.2) = some v := Option.some.inj h
    cases hf : q.find? (fun z => z.1 == i) with
    | none => rw [hf] at h; cases h
    | some z =>
      rw [hf] at h
      have hz := List.mem_of_find?_eq_some hf
      have h3 := List.find?_some hf
      have h4 : z.1 = i := by simpa using h3
      have h5 : z.2 = v := Option.some.inj h
      rw [← h4, ← h5]
      exact hz
theorem zargs_map (ad : Nat → Nat) : ∀ (vs : List Value) (i : Nat), lv_args i (vs.map (zv ad)) = (lv_args i vs).map (fun q => (q.1, zv ad q.2))
  | [], _ => rfl
  | v :: vs, i => by
    rw [List.map_cons, lv_args, lv_args, List.map_cons, zv_cat, zargs_map ad vs]
theorem zargs_mem : ∀ (vs : List Value) (i : Nat) (q : Nat × Value), q ∈ lv_args i vs → q.2 ∈ vs
  | [], _, _, h => by cases h
  | v :: vs, i, q, h => by
    rw [lv_args] at h
    rcases List.mem_cons.mp h with rfl | h
    · exact List.mem_cons_self
    · exact List.mem_cons_of_mem _ (zargs_mem vs _ q h)
theorem zsl_len (ad : Nat → Nat) (vs : List Value) : (lg_sl (vs.map (zv ad))).length = (lg_sl vs).length := by
  induction vs with
  | nil => rfl
  | cons v vs ih =>
    unfold lg_sl at ih ⊢
    rw [List.map_cons, List.flatMap_cons, List.flatMap_cons, List.length_append, List.length_append, ih, zv_cat]
    by_cases hc : v.category = 2
    · rw [if_pos hc, if_pos hc]; rfl
    · rw [if_neg hc, if_neg hc]; rfl
theorem zL_entry {ad : Nat → Nat} {av : List Value} {nL : Nat} {lc0 : List (Option Value)} (hlen : (lg_sl av).length ≤ nL) (he : zen nL (lv_args 0 av) = lc0) : zL ad (((lg_sl (av.map (zv ad))) ++ List.replicate (nL - (lg_sl (av.map (zv ad))).length) Slot.unset).toArray) nL lc0 := by
  have h := lv_entry (av.map (zv ad)) (n := nL) (by rw [zsl_len]; exact hlen)
  refine ⟨h.1, h.2.1, fun q hq => ?_⟩
  obtain ⟨v, h1, h2⟩ := zpr_mem.mp hq
  rw [← he] at h1
  refine h.2.2 q ?_
  rw [zargs_map]
  exact List.mem_map.mpr ⟨(q.1, v), zen_at h1, Prod.ext rfl h2.symm⟩
theorem zlo_entry {h : zH} {av : List Value} {nL : Nat} {lc0 : List (Option Value)} (hv : zso h av) (he : zen nL (lv_args 0 av) = lc0) : zlo h lc0 := fun v hm => by
  obtain ⟨i, hi⟩ := List.getElem?_of_mem hm
  rw [← he] at hi
  exact hv v (zargs_mem av 0 _ (zen_at hi))
/-- a method's body, from its entry: it returns -/
theorem z_enterN {y : MethodName} {ret : Option FieldType} {rm : Room} {h0 : zH} {av : List Value} {P : Option Value → zH → Prop} {lc0 : List (Option Value)} (hy : plainName y.cls = true) (hlen : (lg_sl av).length ≤ nL) (he : zen nL (lv_args 0 av) = lc0)
    (body : ∀ (p : Program) (e : Env) (s : State) (m : MethodId) (args : Array Value) (below : List Frame) (meth : Method) (c : Code) (ad0 : Nat → Nat), zC Z p s m args meth c cc nL y.cls → meth.sig.returnType = ret → meth.name = y.name →
      zG Z ad0 h0 p l e rm s m args below meth c (MQ below (zQ Z ad0 h0 P) args s rm.cells rm.slots (zA Z)) 0 0 h0 nL 0 lc0 []) : zN Z l y cc nL ret rm h0 av P := by
  intro ad0
  refine Met.ofW (cc := cc) (maxL := nL) (ret := ret) hy rfl ?_
  intro p e s m args below meth c s₁ B hml hv
  obtain ⟨rfl, ⟨hP, hK, hlo, hk⟩, hav⟩ := hv
  have hts0 := atoms_spec (ws := Cond.code y cc nL ret :: zw) B.pre
  have hC : zC Z p s m (av.map (zv ad0)).toArray meth c cc nL y.cls := ⟨B.exec, B.bytes, hml, findClass_of_methodNamed B.named, fun w hw => hts0 w (List.mem_cons_of_mem _ hw), hK, B.notSynchronized, hlo, hk⟩
  have k := body p e s m (av.map (zv ad0)).toArray below meth c ad0 hC B.returns (name_of_methodNamed B.named B.method).1
  rw [lg_entry_eq]
  exact k ad0 s.heap [] _ hP va_S.rf zE.rf (zL_entry hlen he) (zlo_entry hav he) (fun _ h => by cases h)
/-- .. it returns or throws -/
theorem z_enterM {y : MethodName} {ret : Option FieldType} {rm : Room} {h0 : zH} {av : List Value} {P : Option Value → zH → Prop} {X : Nat → zH → Prop} {lc0 : List (Option Value)} (hy : plainName y.cls = true) (hlen : (lg_sl av).length ≤ nL) (he : zen nL (lv_args 0 av) = lc0)
    (body : ∀ (p : Program) (e : Env) (s : State) (m : MethodId) (args : Array Value) (below : List Frame) (meth : Method) (c : Code) (ad0 : Nat → Nat), zC Z p s m args meth c cc nL y.cls → meth.sig.returnType = ret → (∀ x ∈ c.exceptionTable.toList, False) →
      zG Z ad0 h0 p l e rm s m args below meth c (vx_MQ below (zQ Z ad0 h0 P) (zX Z ad0 h0 X) args s rm.cells rm.slots (zA Z)) 0 0 h0 nL 0 lc0 []) : zM Z l y cc nL ret rm h0 av P X := by
  intro ad0
  refine vx_ofW (cc := cc) (maxL := nL) (ret := ret) hy rfl ?_
  intro p e s m args below meth c s₁ B hml hex hv
  obtain ⟨rfl, ⟨hP, hK, hlo, hk⟩, hav⟩ := hv
  have hts0 := atoms_spec (ws := Cond.code y cc nL ret :: zw) B.pre
  have hC : zC Z p s m (av.map (zv ad0)).toArray meth c cc nL y.cls := ⟨B.exec, B.bytes, hml, findClass_of_methodNamed B.named, fun w hw => hts0 w (List.mem_cons_of_mem _ hw), hK, B.notSynchronized, hlo, hk⟩
  have k := body p e s m (av.map (zv ad0)).toArray below meth c ad0 hC B.returns hex
  rw [lg_entry_eq]
  exact k ad0 s.heap [] _ hP va_S.rf zE.rf (zL_entry hlen he) (zlo_entry hav he) (fun _ h => by cases h)
theorem zG.up {Qc : Array Value → State → Outcome → State → Prop} {XC : String → State → State → Prop} {mc ms : Nat} {free : Addr → Prop} {st : List Value} (k : zG Z ad0 h0 p l e R s m args below meth c (MQ below Qc args s mc ms free) cells slots h nL pc lc st) : zG Z ad0 h0 p l e R s m args below meth c (vx_MQ below Qc XC args s mc ms free) cells slots h nL pc lc st :=
  fun ad H locs ls hP hS hE hL hl hv => vx_ret (k ad H locs ls hP hS hE hL hl hv)
theorem zG.wide {c2 s2 : Nat} {st : List Value} (h1 : cells ≤ c2) (h2 : slots ≤ s2) (k : zG Z ad0 h0 p l e R s m args below meth c Q c2 s2 h nL pc lc st) : zG Z ad0 h0 p l e R s m args below meth c Q cells slots h nL pc lc st :=
  fun ad H locs ls hP hS hE hL hl hv => W.widen h1 h2 (k ad H locs ls hP hS hE hL hl hv)
theorem zG.less {lc' : List (Option Value)} {st : List Value} (hs : ∀ (i : Nat) (v : Value), lc'[i]? = some (some v) → lc[i]? = some (some v)) (k : zG Z ad0 h0 p l e R s m args below meth c Q cells slots h nL pc lc' st) : zG Z ad0 h0 p l e R s m args below meth c Q cells slots h nL pc lc st :=
  fun ad H locs ls hP hS hE hL hl hv => k ad H locs ls hP hS hE (hL.less hs) (hl.less hs) hv
variable {P : Option Value → zH → Prop} {X : Nat → zH → Prop} {mc ms : Nat}
theorem z_iret (C : zC Z p s m args meth c cc nL own) {v : Int32} {ty : FieldType} (d : decode cc pc = .ok (.ireturn, 1)) (hr : meth.sig.returnType = some ty) (hn : narrow ty (.int v) = .int v) (hp : P (some (.int v)) h) (hc : cells ≤ mc) (hs : slots ≤ ms) :
    zG Z ad0 h0 p l e R s m args below meth c (MQ below (zQ Z ad0 h0 P) args s mc ms (zA Z)) cells slots h nL pc lc [.int v] :=
  fun ad H locs ls hP hS hE hL hl hv => W.widen hc hs (W.zret C.1 C.2.1 hr hn (fun t ht _ => ⟨⟨some (.int v), ad, h, rfl, fun x hx => by cases hx; exact zok_i, hp, by rw [ht]; exact hP, hE⟩, hS.F ht⟩) hS.2.2 d C.2.2.2.2.2.2.1)
theorem z_lret (C : zC Z p s m args meth c cc nL own) {v : Int64} (d : decode cc pc = .ok (.lreturn, 1)) (hr : meth.sig.returnType = some .long) (hp : P (some (.long v)) h) (hc : cells ≤ mc) (hs : slots ≤ ms) :
    zG Z ad0 h0 p l e R s m args below meth c (MQ below (zQ Z ad0 h0 P) args s mc ms (zA Z)) cells slots h nL pc lc [.long v] :=
  fun ad H locs ls hP hS hE hL hl hv => W.widen hc hs (W.lret C.1 C.2.1 hr (fun t ht _ => ⟨⟨some (.long v), ad, h, rfl, fun x hx => by cases hx; exact zok_l, hp, by rw [ht]; exact hP, hE⟩, hS.F ht⟩) hS.2.2 d C.2.2.2.2.2.2.1)
theorem z_vret (C : zC Z p s m args meth c cc nL own) (d : decode cc pc = .ok (.return_, 1)) (hr : meth.sig.returnType = none) (hp : P none h) (hc : cells ≤ mc) (hs : slots ≤ ms) :
    zG Z ad0 h0 p l e R s m args below meth c (MQ below (zQ Z ad0 h0 P) args s mc ms (zA Z)) cells slots h nL pc lc [] :=
  fun ad H locs ls hP hS hE hL hl hv => W.widen hc hs (W.vret C.1 C.2.1 hr (fun t ht _ => ⟨⟨none, ad, h, rfl, (fun x hx => by cases hx), hp, by rw [ht]; exact hP, hE⟩, hS.F ht⟩) hS.2.2 d C.2.2.2.2.2.2.1)
theorem z_aret (C : zC Z p s m args meth c cc nL own) {v : Value} {rt : FieldType} (d : decode cc pc = .ok (.areturn, 1)) (hr : meth.sig.returnType = some rt) (hrt : (∃ n, rt = .object n) ∨ ∃ t, rt = .array t) (hv0 : v = .null ∨ ∃ a, v = .ref a) (hp : P (some v) h) (hc : cells ≤ mc) (hs : slots ≤ ms) :
    zG Z ad0 h0 p l e R s m args below meth c (MQ below (zQ Z ad0 h0 P) args s mc ms (zA Z)) cells slots h nL pc lc [v] :=
  fun ad H locs ls hP hS hE hL hl hv => W.widen hc hs (W.aret C.1 C.2.1 hr hrt (by rcases hv0 with rfl | ⟨a, rfl⟩; exact Or.inl rfl; exact Or.inr ⟨_, rfl⟩) (fun t ht _ => ⟨⟨some v, ad, h, rfl, fun x hx => by cases hx; exact hv.hd, hp, by rw [ht]; exact hP, hE⟩, hS.F ht⟩) hS.2.2 d C.2.2.2.2.2.2.1)
theorem z_keep {ad : Nat → Nat} {H : Heap} {locs L : List Loc} {st₀ t T' : State} (hS : va_S (zA Z) s.heap H locs) (g0 : st₀.heap = H) (e1 : T'.heap = t.heap) (hLo : ∀ q ∈ L, zA Z q.base) (hF : va_F (zA Z) st₀ t) : va_S (zA Z) s.heap T'.heap (locs ++ L) := by
  obtain ⟨z1, z2⟩ := hF
  rw [g0] at z1 z2
  exact ⟨Nat.le_trans hS.1 (by rw [e1]; exact z1), fun q h1 h2 => by rw [e1, z2 q (Nat.lt_of_lt_of_le h1 hS.1) h2]; exact hS.2.1 q h1 h2, fun q hq => by
    rcases List.mem_append.mp hq with g | g
    · exact hS.2.2 q g
    · exact hLo q g⟩
theorem z_hok {ad ad1 : Nat → Nat} {h h1 : zH} {H H1 : Heap} (hP : zP Z ad h H) (hP1 : zP Z ad1 h1 H1) (hE1 : zE ad h ad1 h1) (x : Value) (hx : zok h x) : zok h1 x ∧ zv ad1 x = zv ad x := by
  refine ⟨fun b hb => (hx b hb).imp (fun g => (hE1 b g).1) id, ?_⟩
  cases x with
  | ref b =>
    rcases hx b rfl with g | g
    · exact congrArg Value.ref (hE1 b g).2
    · obtain ⟨-, -, -, -, -, -, p5⟩ := hP
      obtain ⟨-, -, -, -, -, -, q5⟩ := hP1
      exact congrArg Value.ref ((q5 b g).1.trans (p5 b g).1.symm)
  | _ => rfl
theorem z_back {ad : Nat → Nat} {H : Heap} {locs : List Loc} {ls : Array Slot} {st : List Value} {T : State} (hP : zP Z ad h H) (hS : va_S (zA Z) s.heap H locs) (hE : zE ad0 h0 ad h) (hL : zL ad ls nL lc) (hl : zlo h lc) (hv : zso h st) (hsub : ∀ v ∈ rest, v ∈ st)
    {v1 : Option Value} {ad1 : Nat → Nat} {h1 : zH} {st₀ t T' : State} {L : List Loc} {c2 s2 : Nat} (g0 : st₀.heap = H) (X' : Stand p l e R s m args below meth c T' (locs ++ L) c2 s2) (hLo : ∀ q ∈ L, zA Z q.base) (e1 : T'.heap = t.heap) (okv : ∀ x, v1 = some x → zok h1 x) (hP1 : zP Z ad1 h1 t.heap) (hE1 : zE ad h ad1 h1) (hF : va_F (zA Z) st₀ t)
    (stp : Goes p e below T (F0 m pc ls (st.map (zv ad))) T' { F0 m pc ls (st.map (zv ad)) with pc := pc + 3, stack := (v1.map (zv ad1)).toList ++ rest.map (zv ad) })
    (kk : zG Z ad0 h0 p l e R s m args below meth c Q c2 s2 h1 nL (pc + 3) lc (v1.toList ++ rest)) : ∃ t2, Steps p.tables e below (T.setTop (F0 m pc ls (st.map (zv ad)))) t2 ∧ Q t2 := by
  have hok := z_hok hP hP1 hE1
  have hrest : zso h rest := fun x hx => hv x (hsub x hx)
  have emap : rest.map (zv ad) = rest.map (zv ad1) := List.map_congr_left fun x hx => (hok x (hrest x hx)).2.symm
  obtain ⟨t2, a1', b1⟩ := kk ad1 T'.heap (locs ++ L) ls (by rw [e1]; exact hP1) (z_keep (ad := ad) hS g0 e1 hLo hF) (hE.tr hE1) ⟨hL.1, hL.2.1, fun q hq => by
      obtain ⟨x, x1, x2⟩ := zpr_mem.mp hq
      rw [x2, (hok x (hl.at x1)).2]
      exact hL.at x1⟩ (fun x hx => (hok x (hl x hx)).1) (fun x hx => by
      rcases List.mem_append.mp hx with g | g
      · exact okv x (by cases v1 with
          | none => cases g
          | some y => cases List.mem_singleton.mp g; rfl)
      · exact (hok x (hrest x g)).1) T' rfl X'
  refine ⟨t2, stp t2 ?_, b1⟩
  have ev : (v1.map (zv ad1)).toList ++ rest.map (zv ad) = (v1.toList ++ rest).map (zv ad1) := by
    rw [emap, List.map_append]
    cases v1 <;> rfl
  show Steps _ _ _ (T'.setTop { F0 m pc ls (st.map (zv ad)) with pc := pc + 3, stack := (v1.map (zv ad1)).toList ++ rest.map (zv ad) }) t2
  rw [ev]
  exact a1'
/-- behind a call that returns -/
theorem z_after {st : List Value} {P1 : Option Value → zH → Prop} {a1 : (Nat → Nat) → Array Value} (hr : ∀ (ad : Nat → Nat) (H : Heap) (locs : List Loc) (ls : Array Slot), zP Z ad h H → va_S (zA Z) s.heap H locs → zL ad ls nL lc → zso h st → va_Run p l e R s m args below meth c H locs cells slots mc ms (F0 m pc ls (st.map (zv ad))) (rest.map (zv ad)) (zQ Z ad h P1 (a1 ad)) (zA Z)) (hsub : ∀ v ∈ rest, v ∈ st)
    (kk : ∀ (v : Option Value) (h1 : zH), P1 v h1 → zG Z ad0 h0 p l e R s m args below meth c Q (cells + mc) (slots + ms) h1 nL (pc + 3) lc (v.toList ++ rest)) : zG Z ad0 h0 p l e R s m args below meth c Q cells slots h nL pc lc st := by
  intro ad H locs ls hP hS hE hL hl hv
  intro T hT Xs
  obtain ⟨v, st₀, t, T', L, g0, X', hLo, e1, e2, ⟨⟨v1, ad1, h1, rv, okv, hp, hP1, hE1⟩, hF⟩, stp⟩ := hr ad H locs ls hP hS hL hv T hT Xs
  cases rv
  exact z_back hP hS hE hL hl hv hsub g0 X' hLo e1 okv hP1 hE1 hF stp (kk v1 h1 hp)
/-- behind a call that returns or throws, where nothing is caught -/
theorem z_afterM {st : List Value} {P0 P1 : Option Value → zH → Prop} {X0 X1 : Nat → zH → Prop} {a1 : (Nat → Nat) → Array Value} {mc0 ms0 : Nat} (C : zC Z p s m args meth c cc nL own) (hex : ∀ x ∈ c.exceptionTable.toList, False) (hr : ∀ (ad : Nat → Nat) (H : Heap) (locs : List Loc) (ls : Array Slot), zP Z ad h H → va_S (zA Z) s.heap H locs → zL ad ls nL lc → zso h st → vx_Run p l e R s m args below meth c H locs cells slots mc ms (F0 m pc ls (st.map (zv ad))) (rest.map (zv ad)) (zQ Z ad h P1 (a1 ad)) (zX Z ad h X1) (zA Z)) (hsub : ∀ v ∈ rest, v ∈ st) (hx : ∀ k h1, X1 k h1 → X0 k h1) (hc : cells + mc ≤ mc0) (hs : slots + ms ≤ ms0)
    (kk : ∀ (v : Option Value) (h1 : zH), P1 v h1 → zG Z ad0 h0 p l e R s m args below meth c (vx_MQ below (zQ Z ad0 h0 P0) (zX Z ad0 h0 X0) args s mc0 ms0 (zA Z)) (cells + mc) (slots + ms) h1 nL (pc + 3) lc (v.toList ++ rest)) : zG Z ad0 h0 p l e R s m args below meth c (vx_MQ below (zQ Z ad0 h0 P0) (zX Z ad0 h0 X0) args s mc0 ms0 (zA Z)) cells slots h nL pc lc st := by
  intro ad H locs ls hP hS hE hL hl hv
  intro T hT Xs
  rcases hr ad H locs ls hP hS hL hv T hT Xs with ⟨v, st₀, t, T', L, g0, X', hLo, e1, e2, ⟨⟨v1, ad1, h1, rv, okv, hp, hP1, hE1⟩, hF⟩, stp⟩ | ⟨q, st₀, t, T', L, E, ce, g0, X', hLo, e1, e2, ⟨⟨k, ad1, h1, hk3, rfl, hX, hP1, hE1⟩, hF⟩, hce, hcv, hcl, stp⟩
  · cases rv
    exact z_back hP hS hE hL hl hv hsub g0 X' hLo e1 okv hP1 hE1 hF stp (kk v1 h1 hp)
  · have hS1 := z_keep (ad := ad) hS g0 e1 hLo hF
    obtain ⟨t2, a1', b1⟩ := vx_out (Qc := zQ Z ad0 h0 P0) (XC := zX Z ad0 h0 X0) (free := zA Z) (rest := rest.map (zv ad)) (ls := ls) (pc := pc) (q := q) (fun x hx => (hex x hx).elim) C.2.2.2.2.2.2.1 (H := T'.heap) (by rw [e1]; exact hce) hcv hcl (fun t' ht' _ => ⟨⟨k, ad1, h1, hk3, rfl, hx k h1 hX, by rw [ht', e1]; exact hP1, hE.tr hE1⟩, hS1.F ht'⟩) hS1.2.2 hc hs T' rfl X'
    exact ⟨t2, stp.trans a1', b1⟩
theorem zPc_blind {ad : Nat → Nat} {av : List Value} : FrameBlind (zPc Z ad h av) := fun a U g mk q => ⟨q.1, ⟨q.2.1.1, va_K.moved (u := U) (U := U.calling g mk a) (Vm.Alike.refl U.vm) q.2.1.2.1, q.2.1.2.2.1, zK_blind q.2.1.2.2.2⟩, q.2.2⟩
theorem zPc_at {ad : Nat → Nat} {H : Heap} {locs : List Loc} {av : List Value} (C : zC Z p s m args meth c cc nL own) (hP : zP Z ad h H) (hS : va_S (zA Z) s.heap H locs) (hv : zso h av) {U : State} (hU : U.heap = H) (hW : s.WarmedH U.vm) : zPc Z ad h av (av.map (zv ad)).toArray U :=
  ⟨rfl, ⟨by rw [hU]; exact hP, va_K.moved hW.alike C.2.2.2.2.2.1, by rw [hU]; exact Nat.le_trans C.2.2.2.2.2.2.2.1 hS.1, by rw [hU]; exact zK_warm hW hS C.2.2.2.2.2.2.2.2⟩, hv⟩
theorem zso_args {av rest : List Value} {st : List Value} (he : st = av.reverse ++ rest) (hv : zso h st) : zso h av := fun x hx => hv x (by rw [he]; exact List.mem_append_left _ (List.mem_reverse.mpr hx))
theorem zmap_args {ad : Nat → Nat} {av rest st : List Value} (he : st = av.reverse ++ rest) : st.map (zv ad) = (av.map (zv ad)).reverse ++ rest.map (zv ad) := by rw [he, List.map_append, List.map_reverse]
theorem zcats {ad : Nat → Nat} (rest : List Value) : ((rest.map (zv ad)).map fun v => v.category).sum = (rest.map fun v => v.category).sum := by
  rw [List.map_map]
  exact congrArg List.sum (List.map_congr_left fun v _ => zv_cat)
theorem zw_good : ∀ w ∈ zw, w ∈ zw ∧ ((w.onTables && w.keeps) = true ∨ ∃ ty, w = .arrayClass ty) := fun w hw => ⟨hw, good_of_word (List.mem_filter.mp hw).2⟩
theorem zcallB (C : zC Z p s m args meth c cc nL own) {idx : Nat} {y : MethodName} {bytes : ByteArray} {maxL n : Nat} {ret : Option FieldType} {rm : Room} (k : zLk own idx y bytes maxL ret n) (hR : rm.frames + 1 ≤ R.frames ∧ 8 + (maxL + 11) + rm.locals ≤ R.locals) :
    CallB R s args own idx y bytes maxL ret (Cond.code y bytes maxL ret :: zw) rm rm.cells rm.slots n := by
  obtain ⟨k1, k2, k3, k4⟩ := k
  exact callB_of n (Ts := zw) C.2.2.2.2.1 (fun w hw => by
    rcases List.mem_cons.mp hw with rfl | hw
    · exact zw_good _ k1
    · exact zw_good _ hw) rfl rfl rfl (C.2.2.2.2.1 _ k2) (C.2.2.2.2.1 _ k4) k3 hR
theorem z_callS (C : zC Z p s m args meth c cc nL own) {idx maxL n : Nat} {y : MethodName} {bytes : ByteArray} {ret : Option FieldType} {rm : Room} {av st : List Value} {P1 : Option Value → zH → Prop} (d : decode cc pc = .ok (.invokestatic idx, 3)) (k : zLk own idx y bytes maxL ret n) (hst : Cond.static y ∈ zw) (hM : zN Z l y bytes maxL ret rm h av P1) (he : st = av.reverse ++ rest) (hn : av.length = n) (hR : rm.frames + 1 ≤ R.frames ∧ 8 + (maxL + 11) + rm.locals ≤ R.locals) (hw8 : (rest.map fun v => v.category).sum ≤ 8) (hf : cells + rm.cells ≤ R.cells ∧ slots + rm.slots ≤ R.slots)
    (kk : ∀ (v : Option Value) (h1 : zH), P1 v h1 → zG Z ad0 h0 p l e R s m args below meth c Q (cells + rm.cells) (slots + rm.slots) h1 nL (pc + 3) lc (v.toList ++ rest)) : zG Z ad0 h0 p l e R s m args below meth c Q cells slots h nL pc lc st :=
  z_after (a1 := fun ad => (av.map (zv ad)).toArray) (fun ad H locs ls hP hS hL hv => va_runS ⟨C.1, C.2.1, C.2.2.1, C.2.2.2.1, C.2.2.2.2.1⟩ (hM ad) ⟨zcallB C k hR, C.2.2.2.2.1 _ hst⟩ ⟨zPc_blind, fun U hU hW => zPc_at C hP hS (zso_args he hv) hU hW⟩ rfl (by rw [List.length_map]; exact hn) hL.1 (zmap_args he) (by show 2 * 0 + _ ≤ 8; rw [zcats]; omega) d hf) (fun v hv => by rw [he]; exact List.mem_append_right _ hv) kk
theorem z_callV (C : zC Z p s m args meth c cc nL own) {idx maxL n b ci N : Nat} {T : u_T} {fs : List Value} {y : MethodName} {bytes : ByteArray} {ret : Option FieldType} {rm : Room} {av st : List Value} {P1 : Option Value → zH → Prop} (d : decode cc pc = .ok (.invokevirtual idx, 3)) (k : zLk own idx y bytes maxL ret n) (hi : Cond.instanceMethod y ∈ zw) (hse : Cond.selects y.cls y y ∈ zw) (hM : zN Z l y bytes maxL ret rm h (.ref b :: av) P1) (he : st = av.reverse ++ .ref b :: rest) (hn : av.length = n) (hb : h b = some (.inr (ci, fs))) (hc : vwCl[ci]? = some (y.cls, T, N)) (hR : rm.frames + 1 ≤ R.frames ∧ 8 + (maxL + 11) + rm.locals ≤ R.locals) (hw8 : (rest.map fun v => v.category).sum ≤ 8) (hf : cells + rm.cells ≤ R.cells ∧ slots + rm.slots ≤ R.slots)
    (kk : ∀ (v : Option Value) (h1 : zH), P1 v h1 → zG Z ad0 h0 p l e R s m args below meth c Q (cells + rm.cells) (slots + rm.slots) h1 nL (pc + 3) lc (v.toList ++ rest)) : zG Z ad0 h0 p l e R s m args below meth c Q cells slots h nL pc lc st :=
  z_after (a1 := fun ad => ((.ref b :: av).map (zv ad)).toArray) (fun ad H locs ls hP hS hL hv => va_runV (b := ad b) (As := av.map (zv ad)) (C := y.cls) ⟨C.1, C.2.1, C.2.2.1, C.2.2.2.1, C.2.2.2.2.1⟩ (hM ad) ⟨zcallB C k hR, C.2.2.2.2.1 _ hi, C.2.2.2.2.1 _ hse⟩ ⟨zPc_blind, by
    obtain ⟨L, f, P1, P2, P3, P4, P5⟩ := id hP
    obtain ⟨m1, m2, m3⟩ := P3 b _ hb
    obtain ⟨k9, hk9⟩ := va_pl_get (X := []) (f := f) m1
    rw [m2] at hk9
    exact va_recv (ws := va_pl L f) C.2.2.2.2.2.1 P1 hc hk9, fun U hU hW => zPc_at (av := .ref b :: av) C hP hS (fun x hx => hv x (by
      rw [he]
      rcases List.mem_cons.mp hx with g | g
      · rw [g]; exact List.mem_append_right _ List.mem_cons_self
      · exact List.mem_append_left _ (List.mem_reverse.mpr g))) hU hW⟩ rfl (by rw [List.length_map]; exact hn) hL.1 (zmap_args he) (by show 2 * 0 + _ ≤ 8; rw [zcats]; omega) d hf) (fun v hv => by rw [he]; exact List.mem_append_right _ (List.mem_cons_of_mem _ hv)) kk
theorem z_callI (C : zC Z p s m args meth c cc nL own) {idx maxL n b : Nat} {y : MethodName} {bytes : ByteArray} {rm : Room} {av st : List Value} {P1 : Option Value → zH → Prop} (d : decode cc pc = .ok (.invokespecial idx, 3)) (k : zLk own idx y bytes maxL none n) (hi : Cond.instanceMethod y ∈ zw) (hy : y.name = "<init>") (hM : zN Z l y bytes maxL none rm h (.ref b :: av) P1) (he : st = av.reverse ++ .ref b :: rest) (hn : av.length = n) (hR : rm.frames + 1 ≤ R.frames ∧ 8 + (maxL + 11) + rm.locals ≤ R.locals) (hw8 : (rest.map fun v => v.category).sum ≤ 8) (hf : cells + rm.cells ≤ R.cells ∧ slots + rm.slots ≤ R.slots)
    (kk : ∀ (v : Option Value) (h1 : zH), P1 v h1 → zG Z ad0 h0 p l e R s m args below meth c Q (cells + rm.cells) (slots + rm.slots) h1 nL (pc + 3) lc (v.toList ++ rest)) : zG Z ad0 h0 p l e R s m args below meth c Q cells slots h nL pc lc st :=
  z_after (a1 := fun ad => ((.ref b :: av).map (zv ad)).toArray) (fun ad H locs ls hP hS hL hv => va_runI (b := ad b) (As := av.map (zv ad)) ⟨C.1, C.2.1, C.2.2.1, C.2.2.2.1, C.2.2.2.2.1⟩ (hM ad) ⟨zcallB C k hR, hy, C.2.2.2.2.1 _ hi⟩ ⟨zPc_blind, fun U hU hW => zPc_at (av := .ref b :: av) C hP hS (fun x hx => hv x (by
      rw [he]
      rcases List.mem_cons.mp hx with g | g
      · rw [g]; exact List.mem_append_right _ List.mem_cons_self
      · exact List.mem_append_left _ (List.mem_reverse.mpr g))) hU hW⟩ rfl (by rw [List.length_map]; exact hn) hL.1 (zmap_args he) (by show 2 * 0 + _ ≤ 8; rw [zcats]; omega) d hf) (fun v hv => by rw [he]; exact List.mem_append_right _ (List.mem_cons_of_mem _ hv)) kk
theorem z_callSM (C : zC Z p s m args meth c cc nL own) {P0 : Option Value → zH → Prop} {X0 X1 : Nat → zH → Prop} {mc0 ms0 : Nat} (hex : ∀ x ∈ c.exceptionTable.toList, False) {idx maxL n : Nat} {y : MethodName} {bytes : ByteArray} {ret : Option FieldType} {rm : Room} {av st : List Value} {P1 : Option Value → zH → Prop} (d : decode cc pc = .ok (.invokestatic idx, 3)) (k : zLk own idx y bytes maxL ret n) (hst : Cond.static y ∈ zw) (hM : zM Z l y bytes maxL ret rm h av P1 X1) (he : st = av.reverse ++ rest) (hn : av.length = n) (hR : rm.frames + 1 ≤ R.frames ∧ 8 + (maxL + 11) + rm.locals ≤ R.locals) (hw8 : (rest.map fun v => v.category).sum ≤ 8) (hf : cells + rm.cells ≤ R.cells ∧ slots + rm.slots ≤ R.slots) (hx : ∀ k h1, X1 k h1 → X0 k h1) (hc0 : cells + rm.cells ≤ mc0) (hs0 : slots + rm.slots ≤ ms0)
    (kk : ∀ (v : Option Value) (h1 : zH), P1 v h1 → zG Z ad0 h0 p l e R s m args below meth c (vx_MQ below (zQ Z ad0 h0 P0) (zX Z ad0 h0 X0) args s mc0 ms0 (zA Z)) (cells + rm.cells) (slots + rm.slots) h1 nL (pc + 3) lc (v.toList ++ rest)) : zG Z ad0 h0 p l e R s m args below meth c (vx_MQ below (zQ Z ad0 h0 P0) (zX Z ad0 h0 X0) args s mc0 ms0 (zA Z)) cells slots h nL pc lc st :=
  z_afterM C hex (a1 := fun ad => (av.map (zv ad)).toArray) (fun ad H locs ls hP hS hL hv => vx_runS ⟨C.1, C.2.1, C.2.2.1, C.2.2.2.1, C.2.2.2.2.1⟩ (hM ad) ⟨zcallB C k hR, C.2.2.2.2.1 _ hst⟩ ⟨zPc_blind, fun U hU hW => zPc_at C hP hS (zso_args he hv) hU hW⟩ rfl (by rw [List.length_map]; exact hn) hL.1 (zmap_args he) (by show 2 * 0 + _ ≤ 8; rw [zcats]; omega) d hf) (fun v hv => by rw [he]; exact List.mem_append_right _ hv) hx hc0 hs0 kk
theorem z_callVM (C : zC Z p s m args meth c cc nL own) {P0 : Option Value → zH → Prop} {X0 X1 : Nat → zH → Prop} {mc0 ms0 : Nat} (hex : ∀ x ∈ c.exceptionTable.toList, False) {idx maxL n b ci N : Nat} {T : u_T} {fs : List Value} {y : MethodName} {bytes : ByteArray} {ret : Option FieldType} {rm : Room} {av st : List Value} {P1 : Option Value → zH → Prop} (d : decode cc pc = .ok (.invokevirtual idx, 3)) (k : zLk own idx y bytes maxL ret n) (hi : Cond.instanceMethod y ∈ zw) (hse : Cond.selects y.cls y y ∈ zw) (hM : zM Z l y bytes maxL ret rm h (.ref b :: av) P1 X1) (he : st = av.reverse ++ .ref b :: rest) (hn : av.length = n) (hb : h b = some (.inr (ci, fs))) (hc : vwCl[ci]? = some (y.cls, T, N)) (hR : rm.frames + 1 ≤ R.frames ∧ 8 + (maxL + 11) + rm.locals ≤ R.locals) (hw8 : (rest.map fun v => v.category).sum ≤ 8) (hf : cells + rm.cells ≤ R.cells ∧ slots + rm.slots ≤ R.slots) (hx : ∀ k h1, X1 k h1 → X0 k h1) (hc0 : cells + rm.cells ≤ mc0) (hs0 : slots + rm.slots ≤ ms0)
    (kk : ∀ (v : Option Value) (h1 : zH), P1 v h1 → zG Z ad0 h0 p l e R s m args below meth c (vx_MQ below (zQ Z ad0 h0 P0) (zX Z ad0 h0 X0) args s mc0 ms0 (zA Z)) (cells + rm.cells) (slots + rm.slots) h1 nL (pc + 3) lc (v.toList ++ rest)) : zG Z ad0 h0 p l e R s m args below meth c (vx_MQ below (zQ Z ad0 h0 P0) (zX Z ad0 h0 X0) args s mc0 ms0 (zA Z)) cells slots h nL pc lc st :=
  z_afterM C hex (a1 := fun ad => ((.ref b :: av).map (zv ad)).toArray) (fun ad H locs ls hP hS hL hv => vx_runV (b := ad b) (As := av.map (zv ad)) (C := y.cls) ⟨C.1, C.2.1, C.2.2.1, C.2.2.2.1, C.2.2.2.2.1⟩ (hM ad) ⟨zcallB C k hR, C.2.2.2.2.1 _ hi, C.2.2.2.2.1 _ hse⟩ ⟨zPc_blind, by
    obtain ⟨L, f, P1, P2, P3, P4, P5⟩ := id hP
    obtain ⟨m1, m2, m3⟩ := P3 b _ hb
    obtain ⟨k9, hk9⟩ := va_pl_get (X := []) (f := f) m1
    rw [m2] at hk9
    exact va_recv (ws := va_pl L f) C.2.2.2.2.2.1 P1 hc hk9, fun U hU hW => zPc_at (av := .ref b :: av) C hP hS (fun x hx => hv x (by
      rw [he]
      rcases List.mem_cons.mp hx with g | g
      · rw [g]; exact List.mem_append_right _ List.mem_cons_self
      · exact List.mem_append_left _ (List.mem_reverse.mpr g))) hU hW⟩ rfl (by rw [List.length_map]; exact hn) hL.1 (zmap_args he) (by show 2 * 0 + _ ≤ 8; rw [zcats]; omega) d hf) (fun v hv => by rw [he]; exact List.mem_append_right _ (List.mem_cons_of_mem _ hv)) hx hc0 hs0 kk
theorem z_objInit (C : zC Z p s m args meth c cc nL own) {idx a : Nat} (d : decode cc pc = .ok (.invokespecial idx, 3)) (h1 : Cond.methodLink own idx Lib.objectInit ∈ zw) (h2 : Cond.instanceMethod Lib.objectInit ∈ zw) (h3 : Cond.code Lib.objectInit ⟨#[0xb1]⟩ 1 none ∈ zw) (hR : 1 ≤ R.frames ∧ (rest.map fun v => v.category).sum + 12 ≤ R.locals) (k : zG Z ad0 h0 p l e R s m args below meth c Q cells slots h nL (pc + 3) lc rest) : zG Z ad0 h0 p l e R s m args below meth c Q cells slots h nL pc lc (.ref a :: rest) :=
  fun ad H locs ls hP hS hE hL hl hv => W.objInit C.1 C.2.1 C.2.2.2.1 (C.2.2.2.2.1 _ h1) (C.2.2.2.2.1 _ h2) (C.2.2.2.2.1 _ h3) rfl (hL.1.trans C.2.2.1.symm) rfl d hR.1 (by show 2 * 0 + _ + 12 ≤ _; rw [zcats]; omega) (k ad H locs ls hP hS hE hL hl hv.tl)
end ZK
