/-! THE LAW: arrays of longs, methods with handlers, the script -/
section LAWR
variable {Z : zZ} {p : Program} {l : Launch} {e : Env} {R : Room} {s : State} {m : MethodId} {args : Array Value} {below : List Frame} {meth : Method} {c : Code} {Q : State → Prop} {cells slots : Nat} {ad0 : Nat → Nat} {h0 : zH}
variable {h : zH} {pc nL : Nat} {lc : List (Option Value)} {rest : List Value} {cc : ByteArray} {own : String} {mk : zMk} {st : zTs}
theorem z_jld (C : zC Z p s m args meth c cc nL own) {a n : Nat} {f : Nat → Int64} {i : Int32} (d : decode cc pc = .ok (.laload, 1)) (ha : h a = some (.inl (Z.2.1 3, n, .inr (.inl f)))) (hi : vp_in i n) (k : zG Z ad0 h0 p l e R s m args below meth c Q cells slots h nL (pc + 1) lc (.long (f i.toNatClampNeg) :: rest)) : zG Z ad0 h0 p l e R s m args below meth c Q cells slots h nL pc lc (.int i :: .ref a :: rest) := by
  intro ad H locs ls hP hS hE hL hl hv
  obtain ⟨L, g, P1, P2, P3, P4, P5⟩ := id hP
  obtain ⟨m1, m2, m3⟩ := P3 a _ ha
  obtain ⟨k9, hk9⟩ := va_pl_get (X := []) (f := g) m1
  rw [m2] at hk9
  exact va_lald (ws := va_pl L g) C.1 C.2.1 C.2.2.2.2.2.1 P1 k9 3 hk9 rfl hi d (k ad H locs ls hP hS hE hL hl (hv.tl.tl.cn zok_l))
theorem z_jst (C : zC Z p s m args meth c cc nL own) {a n : Nat} {f : Nat → Int64} {i : Int32} {x : Int64} {h' : zH} (d : decode cc pc = .ok (.lastore, 1)) (ha : h a = some (.inl (Z.2.1 3, n, .inr (.inl f)))) (hi : vp_in i n) (hh : ∀ b, h' b = if b = a then some (.inl (Z.2.1 3, n, .inr (.inl (vp_updL f i.toNatClampNeg x)))) else h b) (k : zG Z ad0 h0 p l e R s m args below meth c Q cells slots h' nL (pc + 1) lc rest) : zG Z ad0 h0 p l e R s m args below meth c Q cells slots h nL pc lc (.long x :: .int i :: .ref a :: rest) := by
  intro ad H locs ls hP hS hE hL hl hv
  obtain ⟨L, g, P1, P2, P3, P4, P5⟩ := id hP
  obtain ⟨m1, m2, m3⟩ := P3 a _ ha
  obtain ⟨k9, hk9⟩ := va_pl_get (X := []) (f := g) m1
  have hk9a : (va_pl L g)[k9]? = some (ad a, g (ad a)) := hk9
  have hk9b := hk9a
  rw [m2] at hk9b
  refine va_last (ws := va_pl L g) C.1 C.2.1 C.2.2.2.2.2.1 P1 P2 hS k9 3 hk9b rfl hi d (fun H1 locs1 Q1 Q2 Q3 => ?_)
  have e9 : (va_pl L g).set k9 (ad a, ze ad (.inl (Z.2.1 3, n, .inr (.inl (vp_updL f i.toNatClampNeg x))))) = va_pl L (va_up g (ad a) (ze ad (.inl (Z.2.1 3, n, .inr (.inl (vp_updL f i.toNatClampNeg x)))))) := va_pl_set (X := []) P2 m1 hk9a
  have ez : (.inl (Z.2.1 3, n, .inr (.inl (vp_updL f i.toNatClampNeg x))) : va_E) = ze ad (.inl (Z.2.1 3, n, .inr (.inl (vp_updL f i.toNatClampNeg x)))) := rfl
  rw [ez, e9] at Q1 Q2
  exact k ad H1 locs1 ls (zP_set P3 P4 P5 ha hh trivial Q1 Q2) Q3 (zE_set hE hh) hL (hl.mono (zd_set hh)) (hv.tl.tl.tl.mono (zd_set hh))
theorem t_jld (C : zC Z p s m args meth c cc nL own) {i : Int32} (d : decode cc pc = .ok (.laload, 1)) (hi : vp_in i 1) (kk : zG Z ad0 h0 p l e R s m args below meth c Q cells slots (zh Z mk st) nL (pc + 1) lc (.long (zgJ st 9 0 i.toNatClampNeg) :: rest)) : zG Z ad0 h0 p l e R s m args below meth c Q cells slots (zh Z mk st) nL pc lc (.int i :: .ref 9 :: rest) := by
  intro ad H locs ls hP hS hE hL hl hv
  have e3 := zh_at (k := 9) (i := 0) (by decide) hv.tl.hd
  exact z_jld C d e3 hi kk ad H locs ls hP hS hE hL hl hv
theorem t_jst (C : zC Z p s m args meth c cc nL own) {i : Int32} {x : Int64} (d : decode cc pc = .ok (.lastore, 1)) (hi : vp_in i 1) (kk : zG Z ad0 h0 p l e R s m args below meth c Q cells slots (zh Z mk (zuJ st 9 0 i.toNatClampNeg x)) nL (pc + 1) lc rest) : zG Z ad0 h0 p l e R s m args below meth c Q cells slots (zh Z mk st) nL pc lc (.long x :: .int i :: .ref 9 :: rest) := by
  intro ad H locs ls hP hS hE hL hl hv
  have e3 := zh_at (k := 9) (i := 0) (by decide) hv.tl.tl.hd
  refine z_jst C d e3 hi (zh_up (st' := zuJ st 9 0 i.toNatClampNeg x) (by decide) rfl zo_J ?_ hv.tl.tl.hd) kk ad H locs ls hP hS hE hL hl hv
  show (Sum.inl (Z.2.1 3, 1, .inr (.inl (zgJ (zuJ st 9 0 i.toNatClampNeg x) 9 0))) : va_E) = _
  rw [zs_J]
  refine congrArg (fun z : Nat → Int64 => (Sum.inl (Z.2.1 3, 1, .inr (.inl z)) : va_E)) (funext fun j => ?_)
  unfold zp1 vp_updL
  rfl
/-- the contract of a method with handlers: it comes back -/
def zO (Z : zZ) (l : Launch) (y : MethodName) (cc : ByteArray) (nL : Nat) (ret : Option FieldType) (hh : List (Nat × Nat × Nat × Nat)) (rm : Room) (h0 : zH) (av : List Value) (P : Option Value → zH → Prop) : Prop :=
  ∀ ad0, Met l y (Cond.codeWith y cc nL ret hh :: zw) rm (zPc Z ad0 h0 av) (zQ Z ad0 h0 P) rm.cells rm.slots (zA Z)
theorem z_enterW {y : MethodName} {ret : Option FieldType} {hh : List (Nat × Nat × Nat × Nat)} {rm : Room} {h0 : zH} {av : List Value} {P : Option Value → zH → Prop} {lc0 : List (Option Value)} (hy : plainName y.cls = true) (hlen : (lg_sl av).length ≤ nL) (he : zen nL (lv_args 0 av) = lc0)
    (body : ∀ (p : Program) (e : Env) (s : State) (m : MethodId) (args : Array Value) (below : List Frame) (meth : Method) (c : Code) (ad0 : Nat → Nat), zC Z p s m args meth c cc nL y.cls → meth.sig.returnType = ret → c.exceptionTable.toList = tableOf hh →
      zG Z ad0 h0 p l e rm s m args below meth c (MQ below (zQ Z ad0 h0 P) args s rm.cells rm.slots (zA Z)) 0 0 h0 nL 0 lc0 []) : zO Z l y cc nL ret hh rm h0 av P := by
  intro ad0
  refine va_MetW (cc := cc) (maxL := nL) (ret := ret) (hh := hh) hy rfl ?_
  intro p e s m args below meth c s₁ B hml hv
  obtain ⟨rfl, ⟨hP, hK, hlo, hk⟩, hav⟩ := hv
  have hts0 := atoms_spec (ws := Cond.codeWith y cc nL ret hh :: zw) B.pre
  have hC : zC Z p s m (av.map (zv ad0)).toArray meth c cc nL y.cls := ⟨B.exec, B.bytes, hml, findClass_of_methodNamed B.named, fun w hw => hts0 w (List.mem_cons_of_mem _ hw), hK, B.notSynchronized, hlo, hk⟩
  have k := body p e s m (av.map (zv ad0)).toArray below meth c ad0 hC B.returns (vx_table (x := y) B (hts0 _ List.mem_cons_self))
  rw [lg_entry_eq]
  exact k ad0 s.heap [] _ hP va_S.rf zE.rf (zL_entry hlen he) (zlo_entry hav he) (fun _ h => by cases h)
/-- a handler of the class k: it stores the exception, and gives back kc -/
def zHd (tab : List ExceptionTableEntry) (own : String) (cc : ByteArray) (pc k nL : Nat) (kc : Int32) : Prop := ∃ (pre : List ExceptionTableEntry) (x : ExceptionTableEntry) (suf : List ExceptionTableEntry) (ln ix : Nat) (n : Int), tab = pre ++ x :: suf ∧ (∀ z ∈ pre, covers z pc = false ∨ (z.catchType ≠ 0 ∧ ∃ nm : String, Cond.classLink own z.catchType nm ∈ zw ∧ (zXn k, nm) ∈ zncast)) ∧ covers x pc = true ∧ x.catchType ≠ 0 ∧ Cond.classLink own x.catchType (zXn k) ∈ zw ∧ (zXn k, zXn k) ∈ zcast ∧ ix < nL ∧
  ((∃ j : Fin 4, (j : Nat) = ix ∧ ln = 1 ∧ decode cc x.handlerPc = .ok (.astore_n j, 1)) ∨ (ln = 2 ∧ decode cc x.handlerPc = .ok (.astore ix, 2))) ∧ decode cc (x.handlerPc + ln) = .ok (.iconst n, 1) ∧ Int32.ofInt n = kc ∧ decode cc (x.handlerPc + ln + 1) = .ok (.ireturn, 1)
theorem zC_ncast (C : zC Z p s m args meth c cc nL own) : ∀ q ∈ zncast, va_Nc q.1 q.2 s := (zC_zK C).2.2.2.2.2.2.2.2.2.2.2.1
theorem z_callVC (C : zC Z p s m args meth c cc nL own) {tab : List ExceptionTableEntry} (ht : c.exceptionTable.toList = tab) (hr9 : meth.sig.returnType = some .int) {X1 : Nat → zH → Prop} {P0 : Option Value → zH → Prop} {mc0 ms0 : Nat} {idx maxL n b ci N : Nat} {T : u_T} {fs : List Value} {y : MethodName} {bytes : ByteArray} {ret : Option FieldType} {rm : Room} {av stk : List Value} {P1 : Option Value → zH → Prop} (d : decode cc pc = .ok (.invokevirtual idx, 3)) (k : zLk own idx y bytes maxL ret n) (hi : Cond.instanceMethod y ∈ zw) (hse : Cond.selects y.cls y y ∈ zw) (hM : zM Z l y bytes maxL ret rm h (.ref b :: av) P1 X1) (he : stk = av.reverse ++ .ref b :: rest) (hn : av.length = n) (hb : h b = some (.inr (ci, fs))) (hc : vwCl[ci]? = some (y.cls, T, N)) (hR : rm.frames + 1 ≤ R.frames ∧ 8 + (maxL + 11) + rm.locals ≤ R.locals) (hw8 : (rest.map fun v => v.category).sum ≤ 8) (hf : cells + rm.cells ≤ R.cells ∧ slots + rm.slots ≤ R.slots) (hc0 : cells + rm.cells ≤ mc0) (hs0 : slots + rm.slots ≤ ms0)
    (hX : ∀ k9 h1, X1 k9 h1 → ∃ kc, zHd tab own cc pc k9 nL kc ∧ P0 (some (.int kc)) h1)
    (kk : ∀ (v : Option Value) (h1 : zH), P1 v h1 → zG Z ad0 h0 p l e R s m args below meth c (MQ below (zQ Z ad0 h0 P0) args s mc0 ms0 (zA Z)) (cells + rm.cells) (slots + rm.slots) h1 nL (pc + 3) lc (v.toList ++ rest)) : zG Z ad0 h0 p l e R s m args below meth c (MQ below (zQ Z ad0 h0 P0) args s mc0 ms0 (zA Z)) cells slots h nL pc lc stk := by
  intro ad H locs ls hP hS hE hL hl hv T9 hT9 Xs
  have hr : vx_Run p l e R s m args below meth c H locs cells slots rm.cells rm.slots (F0 m pc ls (stk.map (zv ad))) (rest.map (zv ad)) (zQ Z ad h P1 ((.ref b :: av).map (zv ad)).toArray) (zX Z ad h X1) (zA Z) := vx_runV (b := ad b) (As := av.map (zv ad)) (C := y.cls) ⟨C.1, C.2.1, C.2.2.1, C.2.2.2.1, C.2.2.2.2.1⟩ (hM ad) ⟨zcallB C k hR, C.2.2.2.2.1 _ hi, C.2.2.2.2.1 _ hse⟩ ⟨zPc_blind, by
    obtain ⟨L, f, P1, P2, P3, P4, P5⟩ := id hP
    obtain ⟨m1, m2, m3⟩ := P3 b _ hb
    obtain ⟨k9, hk9⟩ := va_pl_get (X := []) (f := f) m1
    rw [m2] at hk9
    exact va_recv (ws := va_pl L f) C.2.2.2.2.2.1 P1 hc hk9, fun U hU hW => zPc_at (av := .ref b :: av) C hP hS (fun x hx => hv x (by
      rw [he]
      rcases List.mem_cons.mp hx with g | g
      · rw [g]; exact List.mem_append_right _ List.mem_cons_self
      · exact List.mem_append_left _ (List.mem_reverse.mpr g))) hU hW⟩ rfl (by rw [List.length_map]; exact hn) hL.1 (zmap_args he) (by show 2 * 0 + _ ≤ 8; rw [zcats]; omega) d hf
  rcases hr T9 hT9 Xs with ⟨v, st₀, t, T', L, g0, X', hLo, e1, e2, ⟨⟨v1, ad1, h1, rv, okv, hp, hP1, hE1⟩, hF⟩, stp⟩ | ⟨q, st₀, t, T', L, E, ce, g0, X', hLo, e1, e2, ⟨⟨kx, ad1, h1, hk3, rfl, hX9, hP1, hE1⟩, hF⟩, hce, hcv, hcl, stp⟩
  · cases rv
    exact z_back hP hS hE hL hl hv (fun v hv => by rw [he]; exact List.mem_append_right _ (List.mem_cons_of_mem _ hv)) g0 X' hLo e1 okv hP1 hE1 hF stp (kk v1 h1 hp)
  · have hS1 := z_keep (ad := ad) hS g0 e1 hLo hF
    obtain ⟨kc, ⟨pre, x, suf, ln, ix, n9, w1, w2, w3, w4, w5, w6, w7, w8, w9, w10, w11⟩, hp⟩ := hX kx h1 hX9
    have fin : ∀ ls', W p l e R s m args below meth c T'.heap (locs ++ L) (cells + rm.cells) (slots + rm.slots) (MQ below (zQ Z ad0 h0 P0) args s mc0 ms0 (zA Z)) (F0 m (x.handlerPc + ln) ls' []) := fun ls' => by
      have hlocks := C.2.2.2.2.2.2.1
      refine W.widen hc0 hs0 ?_
      refine lv_iconst (v := kc) C.1 C.2.1 w9 w10 ?_
      exact W.iret C.1 C.2.1 hr9 (fun t' ht' hW => ⟨⟨some (.int kc), ad1, h1, rfl, fun y hy => by cases hy; exact zok_i, hp, by rw [ht', e1]; exact hP1, hE.tr hE1⟩, hS1.F ht'⟩) hS1.2.2 w11
    obtain ⟨t2, a1', b1⟩ := vx_catch (pc := pc) (ls := ls) (rest := rest.map (zv ad)) C.2.2.2.1 pre x suf (ht.trans w1) (fun z hz => (w2 z hz).imp id fun y => ⟨y.1, y.2.choose, C.2.2.2.2.1 _ y.2.choose_spec.1, zC_ncast C _ y.2.choose_spec.2⟩) w3 w4 (C.2.2.2.2.1 _ w5) (va_Nw.use rfl (zC_cast C _ w6)) (H := T'.heap) (by rw [e1]; exact hce) hcv hcl (by
      rcases w8 with ⟨j, q1, rfl, q2⟩ | ⟨rfl, q2⟩
      · exact lv_astore_n C.1 C.2.1 q2 q1 hL w7 rfl (fun ls' _ => fin ls')
      · exact lv_astore C.1 C.2.1 q2 hL w7 rfl (fun ls' _ => fin ls')) T' rfl X'
    exact ⟨t2, stp.trans a1', b1⟩
end LAWR
