/-- how often a loop may turn, as far as its predicate is concerned -/
def zfu : Nat := 100000
theorem zn_bool {x : Int32} (g : x = 0 ∨ x = 1) : narrow .boolean (.int x) = .int x := by rcases g with rfl | rfl <;> rfl
theorem zn_boolf {x : Int32} (g : x = 0 ∨ x = 1) : narrow .boolean (.int x) = .int x ∧ fits .boolean (.int x) = true := by rcases g with rfl | rfl <;> exact ⟨rfl, rfl⟩
theorem zsw_out {x : Int32} {n : Nat} (h : ∀ k, k < n → ¬ x = nI k) : x.toInt < 0 ∨ ((n : Int) - 1) < x.toInt := by
  rcases (show x.toInt < 0 ∨ 0 ≤ x.toInt by omega) with a | a
  · exact Or.inl a
  · refine Or.inr (Int.not_le.mp fun b => ?_)
    obtain ⟨k, hk⟩ := Int.eq_ofNat_of_zero_le a
    have hr := x.toInt_lt
    refine h k (by omega) (Int32.toInt_inj.mp ?_)
    rw [nI_toInt (by omega), hk]
theorem zsw_out1 {x : Int32} {lo n : Nat} (hl : lo + n < 2 ^ 31) (h : ∀ k, k < n → ¬ x = nI (lo + k)) : x.toInt < lo ∨ ((lo : Int) + n - 1) < x.toInt := by
  rcases (show x.toInt < lo ∨ (lo : Int) ≤ x.toInt by omega) with a | a
  · exact Or.inl a
  · refine Or.inr (Int.not_le.mp fun b => ?_)
    obtain ⟨k, hk⟩ := Int.eq_ofNat_of_zero_le (show (0 : Int) ≤ x.toInt - lo by omega)
    refine h k (by omega) (Int32.toInt_inj.mp ?_)
    rw [nI_toInt (by omega)]
    omega
theorem z_ofWF {l : Launch} {y : MethodName} {ws ws' : List Cond} {rm : Room} {Pc : Array Value → State → Prop} {Qc : Array Value → State → Outcome → State → Prop} {mc ms : Nat} {free : Addr → Prop} {cc : ByteArray} {maxL : Nat} {ret : Option FieldType}
    (hy : plainFor y = true) (hw : ws = Cond.code y cc maxL ret :: ws')
    (body : ∀ p e s m args below meth c s₁, BodyLoose p l y (headSpec ws rm) cc maxL ret e s m args below meth c s₁ → c.maxLocals = maxL → Pc args s →
      W p l e (headSpec ws rm).room s m args below meth c s.heap [] 0 0 (MQ below Qc args s mc ms free) (entryFrame m args maxL)) : Met l y ws rm Pc Qc mc ms free := by
  refine MetFree.of_bodySF (code := cc) (maxLocals := maxL) (ret := ret) hy ?_ ?_
  · intro args s m h hn
    obtain ⟨meth, c, h1, h2, h3, h4, h5, h6, -, -⟩ := Cond.code_spec hn (atoms_spec (ws := ws) h _ (by rw [hw]; exact List.mem_cons_self))
    exact ⟨meth, c, h1, h2, h3, h4, h5, h6⟩
  · intro p e s m args below meth c s₁ B hml hP _
    have hh0 : s₁.heap = s.heap := by rw [B.state]; rfl
    obtain ⟨t, a1, o, b1, b2, b3⟩ := body p e s m args below meth c s₁ B hml hP s₁ hh0 (Stand.of_body B)
    exact ⟨t, o, a1, b1, b2, ⟨b3.1, b3.2⟩⟩
/-- a method of the JDK, from its entry: it returns -/
theorem z_enterF {Z : zZ} {l : Launch} {nL : Nat} {cc : ByteArray} {y : MethodName} {ret : Option FieldType} {rm : Room} {h0 : zH} {av : List Value} {P : Option Value → zH → Prop} {lc0 : List (Option Value)} (hy : plainFor y = true) (hlen : (lg_sl av).length ≤ nL) (he : zen nL (lv_args 0 av) = lc0)
    (body : ∀ (p : Program) (e : Env) (s : State) (m : MethodId) (args : Array Value) (below : List Frame) (meth : Method) (c : Code) (ad0 : Nat → Nat), zC Z p s m args meth c cc nL y.cls → meth.sig.returnType = ret → meth.name = y.name →
      zG Z ad0 h0 p l e rm s m args below meth c (MQ below (zQ Z ad0 h0 P) args s rm.cells rm.slots (zA Z)) 0 0 h0 nL 0 lc0 []) : zN Z l y cc nL ret rm h0 av P := by
  intro ad0
  refine z_ofWF (cc := cc) (maxL := nL) (ret := ret) hy rfl ?_
  intro p e s m args below meth c s₁ B hml hv
  obtain ⟨rfl, ⟨hP, hK, hlo, hk⟩, hav⟩ := hv
  have hts0 := atoms_spec (ws := Cond.code y cc nL ret :: zw) B.pre
  have hC : zC Z p s m (av.map (zv ad0)).toArray meth c cc nL y.cls := ⟨B.exec, B.bytes, hml, findClass_of_methodNamed B.named, fun w hw => hts0 w (List.mem_cons_of_mem _ hw), hK, B.notSynchronized, hlo, hk⟩
  have k := body p e s m (av.map (zv ad0)).toArray below meth c ad0 hC B.returns (name_of_methodNamed B.named B.method).1
  rw [lg_entry_eq]
  exact k ad0 s.heap [] _ hP va_S.rf zE.rf (zL_entry hlen he) (zlo_entry hav he) (fun _ h => by cases h)
section ZU
variable {Z : zZ} {p : Program} {l : Launch} {e : Env} {R : Room} {s : State} {m : MethodId} {args : Array Value} {below : List Frame} {meth : Method} {c : Code} {Q : State → Prop} {cells slots : Nat} {ad0 : Nat → Nat} {h0 h : zH}
variable {mk : zMk} {st : zTs} {pc nL : Nat} {lc : List (Option Value)} {rest : List Value} {cc : ByteArray} {own : String}
theorem z_lcmp (C : zC Z p s m args meth c cc nL own) {x y : Int64} (d : decode cc pc = .ok (.lcmp, 1)) (k : zG Z ad0 h0 p l e R s m args below meth c Q cells slots h nL (pc + 1) lc (.int (lg_cmp x y) :: rest)) : zG Z ad0 h0 p l e R s m args below meth c Q cells slots h nL pc lc (.long y :: .long x :: rest) :=
  fun ad H locs ls hP hS hE hL hl hv => W.lcmp C.1 C.2.1 d (k ad H locs ls hP hS hE hL hl (hv.tl.tl.cn zok_i))
theorem z_ldc_w (C : zC Z p s m args meth c cc nL own) {index : Nat} {v : Int32} (d : decode cc pc = .ok (.ldc_w index, 3)) (hw : Jvm.Cond.constant own index v ∈ zw) (k : zG Z ad0 h0 p l e R s m args below meth c Q cells slots h nL (pc + 3) lc (.int v :: rest)) : zG Z ad0 h0 p l e R s m args below meth c Q cells slots h nL pc lc (rest) :=
  fun ad H locs ls hP hS hE hL hl hv => lv_ldcw C.1 C.2.1 C.2.2.2.1 (C.2.2.2.2.1 _ hw) d (k ad H locs ls hP hS hE hL hl (hv.cn zok_i))
theorem z_dup2 (C : zC Z p s m args meth c cc nL own) {v u : Value} (d : decode cc pc = .ok (.dup2, 1)) (h1 : v.category = 1) (h2 : u.category = 1) (k : zG Z ad0 h0 p l e R s m args below meth c Q cells slots h nL (pc + 1) lc (v :: u :: v :: u :: rest)) : zG Z ad0 h0 p l e R s m args below meth c Q cells slots h nL pc lc (v :: u :: rest) :=
  fun ad H locs ls hP hS hE hL hl hv => lv_dup2_11 C.1 C.2.1 d (zv_cat.trans h1) (zv_cat.trans h2) (k ad H locs ls hP hS hE hL hl ((hv.cn hv.tl.hd).cn hv.hd))
theorem z_dup2L (C : zC Z p s m args meth c cc nL own) {v : Value} (d : decode cc pc = .ok (.dup2, 1)) (h1 : v.category = 2) (k : zG Z ad0 h0 p l e R s m args below meth c Q cells slots h nL (pc + 1) lc (v :: v :: rest)) : zG Z ad0 h0 p l e R s m args below meth c Q cells slots h nL pc lc (v :: rest) :=
  fun ad H locs ls hP hS hE hL hl hv => lv_dup2_2 C.1 C.2.1 d (zv_cat.trans h1) (k ad H locs ls hP hS hE hL hl (hv.cn hv.hd))
theorem z_tableOut (C : zC Z p s m args meth c cc nL own) {dflt lo hi : Int} {offs : Array Int} {len : Nat} {x : Int32} {tgt : Nat} (d : decode cc pc = .ok (.tableswitch dflt lo hi offs, len)) (hx : x.toInt < lo ∨ hi < x.toInt) (ht : (pc : Int) + dflt = (tgt : Int)) (k : zG Z ad0 h0 p l e R s m args below meth c Q cells slots h nL tgt lc (rest)) : zG Z ad0 h0 p l e R s m args below meth c Q cells slots h nL pc lc (.int x :: rest) :=
  fun ad H locs ls hP hS hE hL hl hv => lv_tableOut C.1 C.2.1 d hx ht (k ad H locs ls hP hS hE hL hl hv.tl)
theorem z_tableIn (C : zC Z p s m args meth c cc nL own) {dflt lo hi : Int} {offs : Array Int} {len : Nat} {x : Int32} {off : Int} {tgt : Nat} (d : decode cc pc = .ok (.tableswitch dflt lo hi offs, len)) (h1 : ¬ x.toInt < lo) (h2 : ¬ hi < x.toInt) (ho : offs[(x.toInt - lo).toNat]? = some off) (ht : (pc : Int) + off = (tgt : Int)) (k : zG Z ad0 h0 p l e R s m args below meth c Q cells slots h nL tgt lc (rest)) : zG Z ad0 h0 p l e R s m args below meth c Q cells slots h nL pc lc (.int x :: rest) :=
  fun ad H locs ls hP hS hE hL hl hv => lv_tableIn C.1 C.2.1 d h1 h2 ho ht (k ad H locs ls hP hS hE hL hl hv.tl)
theorem z_ifnull (C : zC Z p s m args meth c cc nL own) {k : Nat} {o : Option Nat} {off : Int} {tgt : Nat} (d : decode cc pc = .ok (.ifnull off, 3)) (ht : (pc : Int) + off = (tgt : Int)) (kn : o = none → zG Z ad0 h0 p l e R s m args below meth c Q cells slots h nL tgt lc (rest)) (ks : ∀ y, o = some y → zG Z ad0 h0 p l e R s m args below meth c Q cells slots h nL (pc + 3) lc (rest)) : zG Z ad0 h0 p l e R s m args below meth c Q cells slots h nL pc lc (va_rf (o.map fun y => k + 256 * y) :: rest) := by
  intro ad H locs ls hP hS hE hL hl hv
  cases ho : o with
  | none => exact lv_ifnullN C.1 C.2.1 d ht (kn ho ad H locs ls hP hS hE hL hl hv.tl)
  | some y => exact lv_ifnull C.1 C.2.1 d (ks y ho ad H locs ls hP hS hE hL hl hv.tl)
theorem z_ifnonnull (C : zC Z p s m args meth c cc nL own) {k : Nat} {o : Option Nat} {off : Int} {tgt : Nat} (d : decode cc pc = .ok (.ifnonnull off, 3)) (ht : (pc : Int) + off = (tgt : Int)) (kn : o = none → zG Z ad0 h0 p l e R s m args below meth c Q cells slots h nL (pc + 3) lc (rest)) (ks : ∀ y, o = some y → zG Z ad0 h0 p l e R s m args below meth c Q cells slots h nL tgt lc (rest)) : zG Z ad0 h0 p l e R s m args below meth c Q cells slots h nL pc lc (va_rf (o.map fun y => k + 256 * y) :: rest) := by
  intro ad H locs ls hP hS hE hL hl hv
  cases ho : o with
  | none => exact lv_ifnonnullN C.1 C.2.1 d (kn ho ad H locs ls hP hS hE hL hl hv.tl)
  | some y => exact lv_ifnonnull C.1 C.2.1 d ht (ks y ho ad H locs ls hP hS hE hL hl hv.tl)
theorem t_topq {o : Option Nat} {k : Nat} (kk : ∀ q : Option Nat, q = o → zG Z ad0 h0 p l e R s m args below meth c Q cells slots h nL pc lc (va_rf (q.map fun y => k + 256 * y) :: rest)) : zG Z ad0 h0 p l e R s m args below meth c Q cells slots h nL pc lc (va_rf (o.map fun y => k + 256 * y) :: rest) := kk o rfl
theorem t_same {lc' : List (Option Value)} {stk stk' : List Value} (h1 : lc = lc') (h2 : stk = stk') (k : zG Z ad0 h0 p l e R s m args below meth c Q cells slots h nL pc lc' (stk')) : zG Z ad0 h0 p l e R s m args below meth c Q cells slots h nL pc lc (stk) := by rw [h1, h2]; exact k
theorem z_aloadq (C : zC Z p s m args meth c cc nL own) {i : Nat} {o : Option Nat} (d : decode cc pc = .ok (.aload i, 2)) (hx : lc[i]? = some (some (va_rf o))) (k : zG Z ad0 h0 p l e R s m args below meth c Q cells slots h nL (pc + 2) lc (va_rf o :: rest)) : zG Z ad0 h0 p l e R s m args below meth c Q cells slots h nL pc lc (rest) := by
  intro ad H locs ls hP hS hE hL hl hv
  cases o with
  | none => exact lv_aloadN C.1 C.2.1 d (hL.at hx) (k ad H locs ls hP hS hE hL hl (hv.cn (hl.at hx)))
  | some y => exact lv_aload C.1 C.2.1 d (hL.at hx) (k ad H locs ls hP hS hE hL hl (hv.cn (hl.at hx)))
theorem z_aload_nq (C : zC Z p s m args meth c cc nL own) {j : Fin 4} {i : Nat} {o : Option Nat} (d : decode cc pc = .ok (.aload_n j, 1)) (hi : (j : Nat) = i) (hx : lc[i]? = some (some (va_rf o))) (k : zG Z ad0 h0 p l e R s m args below meth c Q cells slots h nL (pc + 1) lc (va_rf o :: rest)) : zG Z ad0 h0 p l e R s m args below meth c Q cells slots h nL pc lc (rest) := by
  intro ad H locs ls hP hS hE hL hl hv
  cases o with
  | none => exact lv_aload_nN C.1 C.2.1 d hi (hL.at hx) (k ad H locs ls hP hS hE hL hl (hv.cn (hl.at hx)))
  | some y => exact lv_aload_n C.1 C.2.1 d hi (hL.at hx) (k ad H locs ls hP hS hE hL hl (hv.cn (hl.at hx)))
theorem z_throw (C : zC Z p s m args meth c cc nL own) (hfl : l.stackTraces = false) (hex : ∀ x ∈ c.exceptionTable.toList, False) {P0 : Option Value → zH → Prop} {X0 : Nat → zH → Prop} {mc0 ms0 ik is ic six : Nat} {text : String} (kx : Nat) (hk3 : kx < 3) (w0 : zTw own ik ic kx) (hstr : (own, is, text, six) ∈ zstrL)
    (d0 : decode cc pc = .ok (.new ik, 3)) (d3 : decode cc (pc + 3) = .ok (.dup, 1)) (d4 : decode cc (pc + 4) = .ok (.ldc is, 2)) (d6 : decode cc (pc + 6) = .ok (.invokespecial ic, 3)) (d9 : decode cc (pc + 9) = .ok (.athrow, 1))
    (hR : 5 < R.frames ∧ (rest.map fun v => v.category).sum + 82 ≤ R.locals ∧ cells + 1 ≤ R.cells ∧ slots + 6 ≤ R.slots) (hm : cells + 1 ≤ mc0 ∧ slots + 6 ≤ ms0) (hx : X0 kx h) :
    zG Z ad0 h0 p l e R s m args below meth c (vx_MQ below (zQ Z ad0 h0 P0) (zX Z ad0 h0 X0) args s mc0 ms0 (zA Z)) cells slots h nL pc lc rest := by
  intro ad H locs ls hP hS hE hL hl hv
  obtain ⟨w1, w2, w3, w4, w5⟩ := w0
  have hK := C.2.2.2.2.2.2.2.2
  have hbad : ∀ w ∈ zbad, w.before args s = true := fun w hw => by
    rcases List.mem_append.mp hw with g | g
    · obtain ⟨z, hz, rfl⟩ := List.mem_map.mp g
      exact va_Nw.use rfl (hK.2.2.2.2.2.2.2.2.1 z hz)
    · obtain ⟨z, hz, rfl⟩ := List.mem_map.mp g
      exact va_Nw.use rfl (hK.2.2.2.2.2.2.2.2.2.1 z hz)
  have hfit : Bundle.fit (zXn kx) = true := by
    rcases (show kx = 0 ∨ kx = 1 ∨ kx = 2 by omega) with rfl | rfl | rfl <;> decide +kernel
  exact vx_throwS (A := zA Z) (names := zxn) (Qc := zQ Z ad0 h0 P0) (XC := zX Z ad0 h0 X0) C.1 C.2.1 hfl C.2.2.2.1 hfit (by decide +kernel) (C.2.2.2.2.1 _ w1) (C.2.2.2.2.1 _ w2) (hK.2.1 _ hstr)
    (vx_hat (B := zbad) (fun w hw => C.2.2.2.2.1 w (w3 w hw)) w4 hbad) w5 hK.1.1 hK.1.2 hS (hL.1.trans C.2.2.1.symm) d0 d3 d4 d6 d9 (fun x q => (hex x q).elim) hR.1 (by rw [zcats]; exact hR.2.1) hR.2.2.1 hR.2.2.2 C.2.2.2.2.2.2.1
    (fun t _ h1 h2 => ⟨⟨kx, ad, h, hk3, rfl, hx, by
      obtain ⟨L, f, P1, P2, P3, P4, P5⟩ := hP
      exact ⟨L, f, P1.kept (fun k9 q9 hq9 => h2 q9.1 ((P1 k9 q9 hq9).lt)), P2, P3, P4, P5⟩, hE⟩, ⟨Nat.le_trans hS.1 h1, fun q9 g1 g2 => (h2 q9 (Nat.lt_of_lt_of_le g1 hS.1)).trans (hS.2.1 q9 g1 g2)⟩⟩) hS.2.2 hm.1 hm.2
theorem z_throwW (C : zC Z p s m args meth c cc nL own) (hfl : l.stackTraces = false) (hex : ∀ x ∈ c.exceptionTable.toList, False) {P0 : Option Value → zH → Prop} {X0 : Nat → zH → Prop} {mc0 ms0 ik is ic six : Nat} {text : String} (kx : Nat) (hk3 : kx < 3) (w0 : zTw own ik ic kx) (hstr : (own, is, text, six) ∈ zstrL)
    (d0 : decode cc pc = .ok (.new ik, 3)) (d3 : decode cc (pc + 3) = .ok (.dup, 1)) (d4 : decode cc (pc + 4) = .ok (.ldc_w is, 3)) (d6 : decode cc (pc + 7) = .ok (.invokespecial ic, 3)) (d9 : decode cc (pc + 10) = .ok (.athrow, 1))
    (hR : 5 < R.frames ∧ (rest.map fun v => v.category).sum + 82 ≤ R.locals ∧ cells + 1 ≤ R.cells ∧ slots + 6 ≤ R.slots) (hm : cells + 1 ≤ mc0 ∧ slots + 6 ≤ ms0) (hx : X0 kx h) :
    zG Z ad0 h0 p l e R s m args below meth c (vx_MQ below (zQ Z ad0 h0 P0) (zX Z ad0 h0 X0) args s mc0 ms0 (zA Z)) cells slots h nL pc lc rest := by
  intro ad H locs ls hP hS hE hL hl hv
  obtain ⟨w1, w2, w3, w4, w5⟩ := w0
  have hK := C.2.2.2.2.2.2.2.2
  have hbad : ∀ w ∈ zbad, w.before args s = true := fun w hw => by
    rcases List.mem_append.mp hw with g | g
    · obtain ⟨z, hz, rfl⟩ := List.mem_map.mp g
      exact va_Nw.use rfl (hK.2.2.2.2.2.2.2.2.1 z hz)
    · obtain ⟨z, hz, rfl⟩ := List.mem_map.mp g
      exact va_Nw.use rfl (hK.2.2.2.2.2.2.2.2.2.1 z hz)
  have hfit : Bundle.fit (zXn kx) = true := by
    rcases (show kx = 0 ∨ kx = 1 ∨ kx = 2 by omega) with rfl | rfl | rfl <;> decide +kernel
  exact vx_throwSW (A := zA Z) (names := zxn) (Qc := zQ Z ad0 h0 P0) (XC := zX Z ad0 h0 X0) C.1 C.2.1 hfl C.2.2.2.1 hfit (by decide +kernel) (C.2.2.2.2.1 _ w1) (C.2.2.2.2.1 _ w2) (hK.2.1 _ hstr)
    (vx_hat (B := zbad) (fun w hw => C.2.2.2.2.1 w (w3 w hw)) w4 hbad) w5 hK.1.1 hK.1.2 hS (hL.1.trans C.2.2.1.symm) d0 d3 d4 d6 d9 (fun x q => (hex x q).elim) hR.1 (by rw [zcats]; exact hR.2.1) hR.2.2.1 hR.2.2.2 C.2.2.2.2.2.2.1
    (fun t _ h1 h2 => ⟨⟨kx, ad, h, hk3, rfl, hx, by
      obtain ⟨L, f, P1, P2, P3, P4, P5⟩ := hP
      exact ⟨L, f, P1.kept (fun k9 q9 hq9 => h2 q9.1 ((P1 k9 q9 hq9).lt)), P2, P3, P4, P5⟩, hE⟩, ⟨Nat.le_trans hS.1 h1, fun q9 g1 g2 => (h2 q9 (Nat.lt_of_lt_of_le g1 hS.1)).trans (hS.2.1 q9 g1 g2)⟩⟩) hS.2.2 hm.1 hm.2
theorem z_astoreq (C : zC Z p s m args meth c cc nL own) {i : Nat} {o : Option Nat} {lc' : List (Option Value)} (d : decode cc pc = .ok (.astore i, 2)) (hn : i < nL) (he : zst lc i (va_rf o) = lc') (k : zG Z ad0 h0 p l e R s m args below meth c Q cells slots h nL (pc + 2) lc' (rest)) : zG Z ad0 h0 p l e R s m args below meth c Q cells slots h nL pc lc (va_rf o :: rest) := by
  intro ad H locs ls hP hS hE hL hl hv
  cases o with
  | none => exact lv_astoreN C.1 C.2.1 d hL hn rfl (fun ls1 h1 => k ad H locs ls1 hP hS hE (by rw [← he]; exact zL.st1 (v := .null) h1) (by rw [← he]; exact hl.st hv.hd) hv.tl)
  | some y => exact lv_astore C.1 C.2.1 d hL hn rfl (fun ls1 h1 => k ad H locs ls1 hP hS hE (by rw [← he]; exact zL.st1 (v := .ref y) h1) (by rw [← he]; exact hl.st hv.hd) hv.tl)
theorem z_astore_nq (C : zC Z p s m args meth c cc nL own) {j : Fin 4} {i : Nat} {o : Option Nat} {lc' : List (Option Value)} (d : decode cc pc = .ok (.astore_n j, 1)) (hi : (j : Nat) = i) (hn : i < nL) (he : zst lc i (va_rf o) = lc') (k : zG Z ad0 h0 p l e R s m args below meth c Q cells slots h nL (pc + 1) lc' (rest)) : zG Z ad0 h0 p l e R s m args below meth c Q cells slots h nL pc lc (va_rf o :: rest) := by
  intro ad H locs ls hP hS hE hL hl hv
  cases o with
  | none => exact lv_astore_nN C.1 C.2.1 d hi hL hn rfl (fun ls1 h1 => k ad H locs ls1 hP hS hE (by rw [← he]; exact zL.st1 (v := .null) h1) (by rw [← he]; exact hl.st hv.hd) hv.tl)
  | some y => exact lv_astore_n C.1 C.2.1 d hi hL hn rfl (fun ls1 h1 => k ad H locs ls1 hP hS hE (by rw [← he]; exact zL.st1 (v := .ref y) h1) (by rw [← he]; exact hl.st hv.hd) hv.tl)
end ZU
