/-! THE LAW: arrays of longs, methods with handlers, the script. The answer's array (kind 9) holds the number Z.2.1 9: what a call of the class has told stands in Z, and the model's calls are read over that Z -/
def zjn (x : Int64) : Nat := x.toUInt64.toNat
theorem zjn_of {x : Int64} : Int64.ofNat (zjn x) = x := by
  obtain ⟨⟨b⟩⟩ := x
  show (⟨⟨BitVec.ofNat 64 b.toNat⟩⟩ : Int64) = ⟨⟨b⟩⟩
  rw [BitVec.ofNat_toNat, BitVec.setWidth_eq]
def zZx (Z : zZ) (x : Nat) : zZ := (Z.1, fun k => if k = 9 then x else Z.2.1 k, Z.2.2)
theorem zZx_self (Z : zZ) : zZx Z (Z.2.1 9) = Z := by
  obtain ⟨a, b, c⟩ := Z
  have e : (fun k => if k = 9 then b 9 else b k) = b := funext fun k => by
    by_cases h : k = 9
    · rw [if_pos h, h]
    · rw [if_neg h]
  show (a, (fun k => if k = 9 then b 9 else b k), c) = (a, b, c)
  rw [e]
theorem zZx_tw (Z : zZ) (x y : Nat) : zZx (zZx Z x) y = zZx Z y := by
  obtain ⟨a, b, c⟩ := Z
  have e : (fun k => if k = 9 then y else if k = 9 then x else b k) = fun k => if k = 9 then y else b k := funext fun k => by
    by_cases h : k = 9
    · rw [if_pos h, if_pos h]
    · rw [if_neg h, if_neg h, if_neg h]
  show (a, (fun k => if k = 9 then y else if k = 9 then x else b k), c) = _
  rw [e]
  rfl
set_option maxHeartbeats 4000000 in
set_option maxRecDepth 100000 in
theorem zshp_x {cA : Nat → ClassId} {x k : Nat} (h : ¬ k = 9) : zshp k (fun t => if t = 9 then x else cA t) = zshp k cA := by
  unfold zshp
  split
  all_goals first
    | exact absurd rfl h
    | rfl
    | (split <;> first | rfl | contradiction)
theorem zh_x {Z : zZ} {mk : zMk} {st : zTs} {x a : Nat} (h : ¬ a % 256 = 9) : zh (zZx Z x) mk st a = zh Z mk st a := by
  unfold zh zsh
  rw [show (zZx Z x).2.1 = fun t => if t = 9 then x else Z.2.1 t from rfl, zshp_x h]
theorem zh_9 {Z : zZ} {mk : zMk} {st : zTs} {a : Nat} (h : a % 256 = 9) : zh Z mk st a = if a / 256 < zgN st 9 then some (.inl (Z.2.1 3, 1, .inr (.inl fun j => if j = 0 ∧ a / 256 = 0 then Int64.ofNat (Z.2.1 9) else 0))) else none := by
  unfold zh
  rw [h]
  by_cases c : a / 256 < zgN st 9
  · rw [if_pos ⟨by decide, c⟩, if_pos c]
    rfl
  · rw [if_neg (fun z => c z.2), if_neg c]
section LAWR
variable {Z : zZ} {p : Program} {l : Launch} {e : Env} {R : Room} {s : State} {m : MethodId} {args : Array Value} {below : List Frame} {meth : Method} {c : Code} {Q : State → Prop} {cells slots : Nat} {ad0 : Nat → Nat} {h0 : zH}
variable {h : zH} {pc nL : Nat} {lc : List (Option Value)} {rest : List Value} {cc : ByteArray} {own : String} {mk : zMk} {st : zTs}
theorem z_jld (C : zC Z p s m args meth c cc nL own) {a n : Nat} {f : Nat → Int64} {i : Int32} (d : decode cc pc = .ok (.laload, 1)) (ha : h a = some (.inl (Z.2.1 3, n, .inr (.inl f)))) (hi : vp_in i n) (k : zG Z ad0 h0 p l e R s m args below meth c Q cells slots h nL (pc + 1) lc (.long (f i.toNatClampNeg) :: rest)) : zG Z ad0 h0 p l e R s m args below meth c Q cells slots h nL pc lc (.int i :: .ref a :: rest) := by
  intro ad H locs ls hP hS hE hL hl hv
  obtain ⟨L, g, P1, P2, P3, P4, P5⟩ := id hP
  obtain ⟨m1, m2, m3⟩ := P3 a _ ha
  obtain ⟨k9, hk9⟩ := va_pl_get (X := []) (f := g) m1
  rw [m2] at hk9
  exact va_lald (ws := va_pl L g) C.1 C.2.1 C.2.2.2.2.2.1 P1 k9 3 hk9 rfl hi d (k ad H locs ls hP hS hE hL hl (hv.tl.tl.cn zok_l))
theorem z_jst (C : zC Z p s m args meth c cc nL own) {a n : Nat} {f : Nat → Int64} {i : Int32} {x : Int64} {h' : zH} (d : decode cc pc = .ok (.lastore, 1)) (ha : h a = some (.inl (Z.2.1 3, n, .inr (.inl f)))) (hi : vp_in i n) (hh : ∀ b, h' b = if b = a then some (.inl (Z.2.1 3, n, .inr (.inl (vp_updL f i.toNatClampNeg x)))) else h b) (k : zG Z ad0 h0 p l e R s m args below meth c Q cells slots h' nL (pc + 1) lc rest) : zG Z ad0 h0 p l e R s m args below meth c Q cells slots h nL pc lc (.long x :: .int i :: .ref a :: rest) := by
  intro ad H locs ls hP hS hE hL hl hv
  obtain ⟨L, g, P1, P2, P3, P4, P5⟩ := id hP
  obtain ⟨m1, m2, m3⟩ := P3 a _ ha
  obtain ⟨k9, hk9⟩ := va_pl_get (X := []) (f := g) m1
  have hk9a : (va_pl L g)[k9]? = some (ad a, g (ad a)) := hk9
  have hk9b := hk9a
  rw [m2] at hk9b
  refine va_last (ws := va_pl L g) C.1 C.2.1 C.2.2.2.2.2.1 P1 P2 hS k9 3 hk9b rfl hi d (fun H1 locs1 Q1 Q2 Q3 => ?_)
  have e9 : (va_pl L g).set k9 (ad a, ze ad (.inl (Z.2.1 3, n, .inr (.inl (vp_updL f i.toNatClampNeg x))))) = va_pl L (va_up g (ad a) (ze ad (.inl (Z.2.1 3, n, .inr (.inl (vp_updL f i.toNatClampNeg x)))))) := va_pl_set (X := []) P2 m1 hk9a
  have ez : (.inl (Z.2.1 3, n, .inr (.inl (vp_updL f i.toNatClampNeg x))) : va_E) = ze ad (.inl (Z.2.1 3, n, .inr (.inl (vp_updL f i.toNatClampNeg x)))) := rfl
  rw [ez, e9] at Q1 Q2
  exact k ad H1 locs1 ls (zP_set P3 P4 P5 ha hh trivial Q1 Q2) Q3 (zE_set hE hh) hL (hl.mono (zd_set hh)) (hv.tl.tl.tl.mono (zd_set hh))
theorem t_jld (C : zC Z p s m args meth c cc nL own) {i : Int32} (d : decode cc pc = .ok (.laload, 1)) (hi : i = 0) (kk : zG Z ad0 h0 p l e R s m args below meth c Q cells slots (zh Z mk st) nL (pc + 1) lc (.long (Int64.ofNat (Z.2.1 9)) :: rest)) : zG Z ad0 h0 p l e R s m args below meth c Q cells slots (zh Z mk st) nL pc lc (.int i :: .ref 9 :: rest) := by
  intro ad H locs ls hP hS hE hL hl hv
  subst hi
  have g := hv.tl.hd 9 rfl
  have e3 : zh Z mk st 9 = some (.inl (Z.2.1 3, 1, .inr (.inl fun j => if j = 0 ∧ 9 / 256 = 0 then Int64.ofNat (Z.2.1 9) else 0))) := by
    have q := zh_9 (Z := Z) (mk := mk) (st := st) (a := 9) rfl
    by_cases c9 : 9 / 256 < zgN st 9
    · rw [if_pos c9] at q
      exact q
    · rw [if_neg c9] at q
      exact absurd (g.resolve_right (by decide)) (fun z => z q)
  exact z_jld C d e3 (by unfold vp_in; decide) kk ad H locs ls hP hS hE hL hl hv
theorem t_jst (C : zC Z p s m args meth c cc nL own) {i : Int32} {x : Int64} (d : decode cc pc = .ok (.lastore, 1)) (hi : i = 0) (kk : zG Z ad0 h0 p l e R s m args below meth c Q cells slots (zh (zZx Z (zjn x)) mk st) nL (pc + 1) lc rest) : zG Z ad0 h0 p l e R s m args below meth c Q cells slots (zh Z mk st) nL pc lc (.long x :: .int i :: .ref 9 :: rest) := by
  intro ad H locs ls hP hS hE hL hl hv
  subst hi
  have g := hv.tl.tl.hd 9 rfl
  have c9 : 9 / 256 < zgN st 9 := by
    have q := zh_9 (Z := Z) (mk := mk) (st := st) (a := 9) rfl
    by_cases c9 : 9 / 256 < zgN st 9
    · exact c9
    · rw [if_neg c9] at q
      exact absurd (g.resolve_right (by decide)) (fun z => z q)
  have e3 : zh Z mk st 9 = some (.inl (Z.2.1 3, 1, .inr (.inl fun j => if j = 0 ∧ 9 / 256 = 0 then Int64.ofNat (Z.2.1 9) else 0))) := by
    rw [zh_9 (a := 9) rfl, if_pos c9]
  refine z_jst C d e3 (by unfold vp_in; decide) (fun b => ?_) kk ad H locs ls hP hS hE hL hl hv
  by_cases hb : b = 9
  · subst hb
    rw [if_pos rfl, zh_9 (a := 9) rfl, if_pos c9]
    refine congrArg (fun z : Nat → Int64 => some (Sum.inl (Z.2.1 3, 1, .inr (.inl z)) : va_E)) (funext fun j => ?_)
    show (if j = 0 ∧ 9 / 256 = 0 then Int64.ofNat (zjn x) else 0) = vp_updL (fun j => if j = 0 ∧ 9 / 256 = 0 then Int64.ofNat (Z.2.1 9) else 0) 0 x j
    unfold vp_updL
    by_cases hj : j = 0
    · rw [if_pos ⟨hj, rfl⟩, if_pos hj]
      exact zjn_of
    · rw [if_neg (fun z => hj z.1), if_neg hj]
      exact (if_neg (fun z => hj z.1)).symm
  · rw [if_neg hb]
    by_cases h9 : b % 256 = 9
    · rw [zh_9 h9, zh_9 h9]
      have n0 : ¬ b / 256 = 0 := fun z => hb (by omega)
      have e : (fun j : Nat => if j = 0 ∧ b / 256 = 0 then Int64.ofNat ((zZx Z (zjn x)).2.1 9) else 0) = fun j => if j = 0 ∧ b / 256 = 0 then Int64.ofNat (Z.2.1 9) else 0 := funext fun j => by rw [if_neg (fun z => n0 z.2), if_neg (fun z => n0 z.2)]
      rw [e]
      rfl
    · exact zh_x h9
/-- what stands over Z stands over Z with another answer -/
theorem zC_x (C : zC Z p s m args meth c cc nL own) (x : Nat) : zC (zZx Z x) p s m args meth c cc nL own := C
theorem zG_y {h : zH} {stk : List Value} (x : Nat) (k : zG Z ad0 h0 p l e R s m args below meth c Q cells slots h nL pc lc stk) : zG (zZx Z x) ad0 h0 p l e R s m args below meth c Q cells slots h nL pc lc stk := k
theorem zG_x {h : zH} {stk : List Value} (x : Nat) (k : zG (zZx Z x) ad0 h0 p l e R s m args below meth c Q cells slots h nL pc lc stk) : zG Z ad0 h0 p l e R s m args below meth c Q cells slots h nL pc lc stk := k
/-- the contract of a method with handlers: it comes back -/
def zO (Z : zZ) (l : Launch) (y : MethodName) (cc : ByteArray) (nL : Nat) (ret : Option FieldType) (hh : List (Nat × Nat × Nat × Nat)) (rm : Room) (h0 : zH) (av : List Value) (P : Option Value → zH → Prop) : Prop :=
  ∀ ad0, Met l y (Cond.codeWith y cc nL ret hh :: zw) rm (zPc Z ad0 h0 av) (zQ Z ad0 h0 P) rm.cells rm.slots (zA Z)
theorem z_enterW {y : MethodName} {ret : Option FieldType} {hh : List (Nat × Nat × Nat × Nat)} {rm : Room} {h0 : zH} {av : List Value} {P : Option Value → zH → Prop} {lc0 : List (Option Value)} (hy : plainName y.cls = true) (hlen : (lg_sl av).length ≤ nL) (he : zen nL (lv_args 0 av) = lc0)
    (body : ∀ (p : Program) (e : Env) (s : State) (m : MethodId) (args : Array Value) (below : List Frame) (meth : Method) (c : Code) (ad0 : Nat → Nat), zC Z p s m args meth c cc nL y.cls → meth.sig.returnType = ret → c.exceptionTable.toList = tableOf hh →
      zG Z ad0 h0 p l e rm s m args below meth c (MQ below (zQ Z ad0 h0 P) args s rm.cells rm.slots (zA Z)) 0 0 h0 nL 0 lc0 []) : zO Z l y cc nL ret hh rm h0 av P := by
  intro ad0
  refine va_MetW (cc := cc) (maxL := nL) (ret := ret) (hh := hh) hy rfl ?_
  intro p e s m args below meth c s₁ B hml hv
  obtain ⟨rfl, ⟨hP, hK, hlo, hk⟩, hav⟩ := hv
  have hts0 := atoms_spec (ws := Cond.codeWith y cc nL ret hh :: zw) B.pre
  have hC : zC Z p s m (av.map (zv ad0)).toArray meth c cc nL y.cls := ⟨B.exec, B.bytes, hml, findClass_of_methodNamed B.named, fun w hw => hts0 w (List.mem_cons_of_mem _ hw), hK, B.notSynchronized, hlo, hk⟩
  have k := body p e s m (av.map (zv ad0)).toArray below meth c ad0 hC B.returns (vx_table (x := y) B (hts0 _ List.mem_cons_self))
  rw [lg_entry_eq]
  exact k ad0 s.heap [] _ hP va_S.rf zE.rf (zL_entry hlen he) (zlo_entry hav he) (fun _ h => by cases h)
/-- a handler of the class k: it stores the exception, and gives back kc -/
def zHd (tab : List ExceptionTableEntry) (own : String) (cc : ByteArray) (pc k nL : Nat) (kc : Int32) : Prop := ∃ (pre : List ExceptionTableEntry) (x : ExceptionTableEntry) (suf : List ExceptionTableEntry) (ln ix : Nat) (n : Int), tab = pre ++ x :: suf ∧ (∀ z ∈ pre, covers z pc = false ∨ (z.catchType ≠ 0 ∧ ∃ nm : String, Cond.classLink own z.catchType nm ∈ zw ∧ (zXn k, nm) ∈ zncast)) ∧ covers x pc = true ∧ x.catchType ≠ 0 ∧ Cond.classLink own x.catchType (zXn k) ∈ zw ∧ (zXn k, zXn k) ∈ zcast ∧ ix < nL ∧
  ((∃ j : Fin 4, (j : Nat) = ix ∧ ln = 1 ∧ decode cc x.handlerPc = .ok (.astore_n j, 1)) ∨ (ln = 2 ∧ decode cc x.handlerPc = .ok (.astore ix, 2))) ∧ decode cc (x.handlerPc + ln) = .ok (.iconst n, 1) ∧ Int32.ofInt n = kc ∧ decode cc (x.handlerPc + ln + 1) = .ok (.ireturn, 1)
theorem zC_ncast (C : zC Z p s m args meth c cc nL own) : ∀ q ∈ zncast, va_Nc q.1 q.2 s := (zC_zK C).2.2.2.2.2.2.2.2.2.2.2.1
theorem z_callVC (C : zC Z p s m args meth c cc nL own) {tab : List ExceptionTableEntry} (ht : c.exceptionTable.toList = tab) (hr9 : meth.sig.returnType = some .int) {X1 : Nat → zH → Prop} {P0 : Option Value → zH → Prop} {mc0 ms0 : Nat} {idx maxL n b ci N : Nat} {T : u_T} {fs : List Value} {y : MethodName} {bytes : ByteArray} {ret : Option FieldType} {rm : Room} {av stk : List Value} {P1 : Option Value → zH → Prop} (d : decode cc pc = .ok (.invokevirtual idx, 3)) (k : zLk own idx y bytes maxL ret n) (hi : Cond.instanceMethod y ∈ zw) (hse : Cond.selects y.cls y y ∈ zw) (hM : zM Z l y bytes maxL ret rm h (.ref b :: av) P1 X1) (he : stk = av.reverse ++ .ref b :: rest) (hn : av.length = n) (hb : h b = some (.inr (ci, fs))) (hc : vwCl[ci]? = some (y.cls, T, N)) (hR : rm.frames + 1 ≤ R.frames ∧ 8 + (maxL + 11) + rm.locals ≤ R.locals) (hw8 : (rest.map fun v => v.category).sum ≤ 8) (hf : cells + rm.cells ≤ R.cells ∧ slots + rm.slots ≤ R.slots) (hc0 : cells + rm.cells ≤ mc0) (hs0 : slots + rm.slots ≤ ms0)
    (hX : ∀ k9 h1, X1 k9 h1 → ∃ kc, zHd tab own cc pc k9 nL kc ∧ P0 (some (.int kc)) h1)
    (kk : ∀ (v : Option Value) (h1 : zH), P1 v h1 → zG Z ad0 h0 p l e R s m args below meth c (MQ below (zQ Z ad0 h0 P0) args s mc0 ms0 (zA Z)) (cells + rm.cells) (slots + rm.slots) h1 nL (pc + 3) lc (v.toList ++ rest)) : zG Z ad0 h0 p l e R s m args below meth c (MQ below (zQ Z ad0 h0 P0) args s mc0 ms0 (zA Z)) cells slots h nL pc lc stk := by
  intro ad H locs ls hP hS hE hL hl hv T9 hT9 Xs
  have hr : vx_Run p l e R s m args below meth c H locs cells slots rm.cells rm.slots (F0 m pc ls (stk.map (zv ad))) (rest.map (zv ad)) (zQ Z ad h P1 ((.ref b :: av).map (zv ad)).toArray) (zX Z ad h X1) (zA Z) := vx_runV (b := ad b) (As := av.map (zv ad)) (C := y.cls) ⟨C.1, C.2.1, C.2.2.1, C.2.2.2.1, C.2.2.2.2.1⟩ (hM ad) ⟨zcallB C k hR, C.2.2.2.2.1 _ hi, C.2.2.2.2.1 _ hse⟩ ⟨zPc_blind, by
    obtain ⟨L, f, P1, P2, P3, P4, P5⟩ := id hP
    obtain ⟨m1, m2, m3⟩ := P3 b _ hb
    obtain ⟨k9, hk9⟩ := va_pl_get (X := []) (f := f) m1
    rw [m2] at hk9
    exact va_recv (ws := va_pl L f) C.2.2.2.2.2.1 P1 hc hk9, fun U hU hW => zPc_at (av := .ref b :: av) C hP hS (fun x hx => hv x (by
      rw [he]
      rcases List.mem_cons.mp hx with g | g
      · rw [g]; exact List.mem_append_right _ List.mem_cons_self
      · exact List.mem_append_left _ (List.mem_reverse.mpr g))) hU hW⟩ rfl (by rw [List.length_map]; exact hn) hL.1 (zmap_args he) (by show 2 * 0 + _ ≤ 8; rw [zcats]; omega) d hf
  rcases hr T9 hT9 Xs with ⟨v, st₀, t, T', L, g0, X', hLo, e1, e2, ⟨⟨v1, ad1, h1, rv, okv, hp, hP1, hE1⟩, hF⟩, stp⟩ | ⟨q, st₀, t, T', L, E, ce, g0, X', hLo, e1, e2, ⟨⟨kx, ad1, h1, hk3, rfl, hX9, hP1, hE1⟩, hF⟩, hce, hcv, hcl, stp⟩
  · cases rv
    exact z_back hP hS hE hL hl hv (fun v hv => by rw [he]; exact List.mem_append_right _ (List.mem_cons_of_mem _ hv)) g0 X' hLo e1 okv hP1 hE1 hF stp (kk v1 h1 hp)
  · have hS1 := z_keep (ad := ad) hS g0 e1 hLo hF
    obtain ⟨kc, ⟨pre, x, suf, ln, ix, n9, w1, w2, w3, w4, w5, w6, w7, w8, w9, w10, w11⟩, hp⟩ := hX kx h1 hX9
    have fin : ∀ ls', W p l e R s m args below meth c T'.heap (locs ++ L) (cells + rm.cells) (slots + rm.slots) (MQ below (zQ Z ad0 h0 P0) args s mc0 ms0 (zA Z)) (F0 m (x.handlerPc + ln) ls' []) := fun ls' => by
      have hlocks := C.2.2.2.2.2.2.1
      refine W.widen hc0 hs0 ?_
      refine lv_iconst (v := kc) C.1 C.2.1 w9 w10 ?_
      exact W.iret C.1 C.2.1 hr9 (fun t' ht' hW => ⟨⟨some (.int kc), ad1, h1, rfl, fun y hy => by cases hy; exact zok_i, hp, by rw [ht', e1]; exact hP1, hE.tr hE1⟩, hS1.F ht'⟩) hS1.2.2 w11
    obtain ⟨t2, a1', b1⟩ := vx_catch (pc := pc) (ls := ls) (rest := rest.map (zv ad)) C.2.2.2.1 pre x suf (ht.trans w1) (fun z hz => (w2 z hz).imp id fun y => ⟨y.1, y.2.choose, C.2.2.2.2.1 _ y.2.choose_spec.1, zC_ncast C _ y.2.choose_spec.2⟩) w3 w4 (C.2.2.2.2.1 _ w5) (va_Nw.use rfl (zC_cast C _ w6)) (H := T'.heap) (by rw [e1]; exact hce) hcv hcl (by
      rcases w8 with ⟨j, q1, rfl, q2⟩ | ⟨rfl, q2⟩
      · exact lv_astore_n C.1 C.2.1 q2 q1 hL w7 rfl (fun ls' _ => fin ls')
      · exact lv_astore C.1 C.2.1 q2 hL w7 rfl (fun ls' _ => fin ls')) T' rfl X'
    exact ⟨t2, stp.trans a1', b1⟩
theorem t_callVC (C : zC Z p s m args meth c cc nL own) {tab : List ExceptionTableEntry} (ht : c.exceptionTable.toList = tab) (hr9 : meth.sig.returnType = some .int) {X1 : Nat → zH → Prop} {P0 : Option Value → zH → Prop} {mc0 ms0 : Nat} {idx maxL n c2 s2 N : Nat} {T : u_T} {y : MethodName} {bytes : ByteArray} {ret : Option FieldType} {rm : Room} {stk : List Value} {P1 : Option Value → zH → Prop} (av : List Value) (d : decode cc pc = .ok (.invokevirtual idx, 3)) (k : zLk own idx y bytes maxL ret n) (hi : Cond.instanceMethod y ∈ zw) (hse : Cond.selects y.cls y y ∈ zw) (hM : zM Z l y bytes maxL ret rm (zh Z zm1 st) (.ref 10 :: av) P1 X1) (he : stk = av.reverse ++ .ref 10 :: rest) (hn : av.length = n) (hc : vwCl[10]? = some (y.cls, T, N)) (hR : rm.frames + 1 ≤ R.frames ∧ 8 + (maxL + 11) + rm.locals ≤ R.locals) (hw8 : (rest.map fun v => v.category).sum ≤ 8) (hq : cells + rm.cells ≤ c2 ∧ slots + rm.slots ≤ s2 ∧ c2 ≤ R.cells ∧ s2 ≤ R.slots) (hm : c2 ≤ mc0 ∧ s2 ≤ ms0)
    (hX : ∀ k9 h1, X1 k9 h1 → ∃ kc, zHd tab own cc pc k9 nL kc ∧ P0 (some (.int kc)) h1)
    (kk : ∀ (v : Option Value) (h1 : zH), P1 v h1 → zG Z ad0 h0 p l e R s m args below meth c (MQ below (zQ Z ad0 h0 P0) args s mc0 ms0 (zA Z)) c2 s2 h1 nL (pc + 3) lc (v.toList ++ rest)) : zG Z ad0 h0 p l e R s m args below meth c (MQ below (zQ Z ad0 h0 P0) args s mc0 ms0 (zA Z)) cells slots (zh Z zm1 st) nL pc lc stk := by
  intro ad H locs ls hP hS hE hL hl hv
  have e3 := zh_at (Z := Z) (mk := zm1) (st := st) (k := 10) (i := 0) (by decide) (hv (.ref 10) (by rw [he]; exact List.mem_append_right _ List.mem_cons_self))
  exact z_callVC C ht hr9 d k hi hse hM he hn e3 hc hR hw8 ⟨Nat.le_trans hq.1 hq.2.2.1, Nat.le_trans hq.2.1 hq.2.2.2⟩ (Nat.le_trans hq.1 hm.1) (Nat.le_trans hq.2.1 hm.2) hX (fun v h1 hp => zG.wide hq.1 hq.2.1 (kk v h1 hp)) ad H locs ls hP hS hE hL hl hv
/-- the words of a call of a method with handlers -/
def zLw (own : String) (idx : Nat) (y : MethodName) (bytes : ByteArray) (maxL : Nat) (ret : Option FieldType) (hh : List (Nat × Nat × Nat × Nat)) (n : Nat) : Prop :=
  Cond.codeWith y bytes maxL ret hh ∈ zw ∧ Cond.initialized y.cls ∈ zw ∧ (y.cls ≠ "java/lang/invoke/MethodHandle" ∧ y.cls ≠ "java/lang/invoke/VarHandle" ∧ (parseMethodDescriptor y.desc).map (fun d => d.parameters.length) = some n) ∧ Cond.methodLink own idx y ∈ zw ∧ Cond.static y ∈ zw
theorem zcallBW (C : zC Z p s m args meth c cc nL own) {idx : Nat} {y : MethodName} {bytes : ByteArray} {maxL n : Nat} {ret : Option FieldType} {hh : List (Nat × Nat × Nat × Nat)} {rm : Room} (k : zLw own idx y bytes maxL ret hh n) (hR : rm.frames + 1 ≤ R.frames ∧ 8 + (maxL + 11) + rm.locals ≤ R.locals) :
    vx_CSW R s args own idx y bytes maxL ret hh (Cond.codeWith y bytes maxL ret hh :: zw) rm rm.cells rm.slots n := by
  obtain ⟨k1, k2, k3, k4, k5⟩ := k
  refine vx_cwSW n (Ts := zw) C.2.2.2.2.1 (fun w hw => ?_) rfl rfl rfl k3 hR
  unfold va_wsS at hw
  rcases List.mem_append.mp hw with hw | hw
  · rcases List.mem_cons.mp hw with rfl | hw
    · exact zw_good _ k4
    · rcases List.mem_cons.mp hw with rfl | hw
      · exact zw_good _ k5
      · rcases List.mem_cons.mp hw with rfl | hw
        · exact zw_good _ k2
        · cases hw
  · rcases List.mem_cons.mp hw with rfl | hw
    · exact zw_good _ k1
    · exact zw_good _ hw
theorem t_callSO (C : zC Z p s m args meth c cc nL own) {h : zH} {idx maxL n c2 s2 : Nat} {y : MethodName} {bytes : ByteArray} {ret : Option FieldType} {hh : List (Nat × Nat × Nat × Nat)} {rm : Room} {stk : List Value} {P1 : Option Value → zH → Prop} (av : List Value) (d : decode cc pc = .ok (.invokestatic idx, 3)) (k : zLw own idx y bytes maxL ret hh n) (hM : zO Z l y bytes maxL ret hh rm h av P1) (he : stk = av.reverse ++ rest) (hn : av.length = n) (hR : rm.frames + 1 ≤ R.frames ∧ 8 + (maxL + 11) + rm.locals ≤ R.locals) (hw8 : (rest.map fun v => v.category).sum ≤ 8) (hq : cells + rm.cells ≤ c2 ∧ slots + rm.slots ≤ s2 ∧ c2 ≤ R.cells ∧ s2 ≤ R.slots)
    (kk : ∀ (v : Option Value) (h1 : zH), P1 v h1 → zG Z ad0 h0 p l e R s m args below meth c Q c2 s2 h1 nL (pc + 3) lc (v.toList ++ rest)) : zG Z ad0 h0 p l e R s m args below meth c Q cells slots h nL pc lc stk :=
  z_after (a1 := fun ad => (av.map (zv ad)).toArray) (fun ad H locs ls hP hS hL hv => vx_runSW ⟨C.1, C.2.1, C.2.2.1, C.2.2.2.1, C.2.2.2.2.1⟩ (hM ad) (zcallBW C k hR) ⟨zPc_blind, fun U hU hW => zPc_at C hP hS (zso_args he hv) hU hW⟩ rfl (by rw [List.length_map]; exact hn) hL.1 (zmap_args he) (by show 2 * 0 + _ ≤ 8; rw [zcats]; omega) d ⟨Nat.le_trans hq.1 hq.2.2.1, Nat.le_trans hq.2.1 hq.2.2.2⟩) (fun v hv => by rw [he]; exact List.mem_append_right _ hv) (fun v h1 hp => zG.wide hq.1 hq.2.1 (kk v h1 hp))
/-- the end of a wrapper: its number, the answer that the array holds now, the state -/
def zWx (Z : zZ) (P : Int32 → Nat → zTs → Prop) : Option Value → zH → Prop := fun v h => ∃ (r : Int32) (x : Nat) (s9 : zTs), v = some (.int r) ∧ h = zh (zZx Z x) zm1 s9 ∧ P r x s9
theorem k_Wx {P : Int32 → Nat → zTs → Prop} (k : ∀ r x s9, P r x s9 → zG (zZx Z x) ad0 h0 p l e R s m args below meth c Q cells slots (zh (zZx Z x) zm1 s9) nL pc lc (.int r :: rest)) : ∀ v h1, zWx Z P v h1 → zG Z ad0 h0 p l e R s m args below meth c Q cells slots h1 nL pc lc (v.toList ++ rest) := by
  rintro v h1 ⟨r, x, s9, rfl, rfl, hp⟩
  exact k r x s9 hp
/-- the script at 208 -/
def zSx (Z : zZ) (s : State) (L : Nat) (xs : Nat → Int32) : Prop := va_X (Z.2.2.2 208) L xs s s.heap ∧ Z.2.2.2 208 < s.heap.size ∧ ¬ zA Z (Z.2.2.2 208)
theorem t_sld (C : zC Z p s m args meth c cc nL own) {L : Nat} {xs : Nat → Int32} (X : zSx Z s L xs) {h : zH} {i : Int32} (d : decode cc pc = .ok (.iaload, 1)) (hi : vp_in i L) (kk : zG Z ad0 h0 p l e R s m args below meth c Q cells slots h nL (pc + 1) lc (.int (xs i.toNatClampNeg) :: rest)) : zG Z ad0 h0 p l e R s m args below meth c Q cells slots h nL pc lc (.int i :: .ref 208 :: rest) := by
  intro ad H locs ls hP hS hE hL hl hv
  obtain ⟨x1, x2, x3⟩ := X
  have ea : ad 208 = Z.2.2.2 208 := by
    obtain ⟨L9, f9, P1, P2, P3, P4, P5⟩ := id hP
    exact (P5 208 (by decide)).1
  show W p l e R s m args below meth c H locs cells slots Q (F0 m pc ls (.int i :: .ref (ad 208) :: rest.map (zv ad)))
  rw [ea]
  exact va_sld C.1 C.2.1 x1 x2 x3 hS hi d (kk ad H locs ls hP hS hE hL hl (hv.tl.tl.cn zok_i))
theorem t_slen (C : zC Z p s m args meth c cc nL own) {L : Nat} {xs : Nat → Int32} (X : zSx Z s L xs) {h : zH} (d : decode cc pc = .ok (.arraylength, 1)) (kk : zG Z ad0 h0 p l e R s m args below meth c Q cells slots h nL (pc + 1) lc (.int (Int32.ofNat L) :: rest)) : zG Z ad0 h0 p l e R s m args below meth c Q cells slots h nL pc lc (.ref 208 :: rest) := by
  intro ad H locs ls hP hS hE hL hl hv
  obtain ⟨x1, x2, x3⟩ := X
  have ea : ad 208 = Z.2.2.2 208 := by
    obtain ⟨L9, f9, P1, P2, P3, P4, P5⟩ := id hP
    exact (P5 208 (by decide)).1
  show W p l e R s m args below meth c H locs cells slots Q (F0 m pc ls (.ref (ad 208) :: rest.map (zv ad)))
  rw [ea]
  exact va_slen C.1 C.2.1 x1 x2 x3 hS d (kk ad H locs ls hP hS hE hL hl (hv.tl.cn zok_i))
end LAWR
