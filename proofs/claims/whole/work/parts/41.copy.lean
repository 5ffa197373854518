/-! STORES INTO AND COPIES OF ARRAYS; CLASS OBJECTS; WORDS OF CONSTRUCTORS -/
section COPY
variable {Z : zZ} {p : Program} {l : Launch} {e : Env} {R : Room} {s : State} {m : MethodId} {args : Array Value} {below : List Frame} {meth : Method} {c : Code} {Q : State → Prop} {cells slots : Nat} {ad0 : Nat → Nat} {h0 : zH}
variable {h : zH} {pc nL : Nat} {lc : List (Option Value)} {rest : List Value} {cc : ByteArray} {own : String} {mk : zMk} {st : zTs}
theorem zC_zK (C : zC Z p s m args meth c cc nL own) : zK Z s s.heap := C.2.2.2.2.2.2.2.2
theorem zC_AO1 (C : zC Z p s m args meth c cc nL own) : va_AO "java/lang/Object" s := (zC_zK C).2.2.2.2.2.2.2.2.2.2.2.2.1
theorem zC_AO2 (C : zC Z p s m args meth c cc nL own) : va_AO "PartyWalls$Proposal" s := (zC_zK C).2.2.2.2.2.2.2.2.2.2.2.2.2.1
theorem zC_Mi (C : zC Z p s m args meth c cc nL own) : va_Mi "[Ljava/lang/Object;" (Z.2.2.2 207) s := (zC_zK C).2.2.2.2.2.2.2.2.2.2.2.2.2.2.1
theorem zC_I2 (C : zC Z p s m args meth c cc nL own) : zI2 Z s := (zC_zK C).2.2.2.2.2.2.2.2.2.2.2.2.2.2.2
theorem zC_decl (C : zC Z p s m args meth c cc nL own) : ∀ y ∈ zdecl, va_Nw (.declares y) s := (zC_zK C).2.2.2.2.2.2.2.2.2.1
theorem zC_cast (C : zC Z p s m args meth c cc nL own) : ∀ q ∈ zcast, va_Nw (.castable q.1 q.2) s := (zC_zK C).2.2.2.2.2.2.2.2.1
theorem z_acmpR_eq (C : zC Z p s m args meth c cc nL own) {a : Nat} {off : Int} {tgt : Nat} (d : decode cc pc = .ok (.if_acmp .eq off, 3)) (ht : (pc : Int) + off = (tgt : Int)) (kt : zG Z ad0 h0 p l e R s m args below meth c Q cells slots h nL tgt lc (rest)) : zG Z ad0 h0 p l e R s m args below meth c Q cells slots h nL pc lc (.ref a :: .ref a :: rest) :=
  fun ad H locs ls hP hS hE hL hl hv => lv_acmp_eq (rx := some (ad a)) (ry := some (ad a)) C.1 C.2.1 d ht (fun _ => kt ad H locs ls hP hS hE hL hl hv.tl.tl) (fun z => absurd rfl z)
theorem z_acmpR_ne (C : zC Z p s m args meth c cc nL own) {a : Nat} {off : Int} {tgt : Nat} (d : decode cc pc = .ok (.if_acmp .ne off, 3)) (ht : (pc : Int) + off = (tgt : Int)) (kf : zG Z ad0 h0 p l e R s m args below meth c Q cells slots h nL (pc + 3) lc (rest)) : zG Z ad0 h0 p l e R s m args below meth c Q cells slots h nL pc lc (.ref a :: .ref a :: rest) :=
  fun ad H locs ls hP hS hE hL hl hv => lv_acmp_ne (rx := some (ad a)) (ry := some (ad a)) C.1 C.2.1 d ht (fun z => absurd rfl z) (fun _ => kf ad H locs ls hP hS hE hL hl hv.tl.tl)
/-- an element behind the last one of a list's array -/
theorem t_astdO (C : zC Z p s m args meth c cc nL own) {k0 a y el ci N : Nat} {cn : String} {T : u_T} {x : Int32} {n : Nat} (d : decode cc pc = .ok (.aastore, 1)) (hk : k0 < 200) (he : el < 200) (ha : a % 256 = k0)
    (hs : ∀ s9 : zTs, zgP s9 k0 (a / 256) 0 = n → zsh Z.2.1 mk s9 k0 (a / 256) = .inl (Z.2.1 4, n, .inr (.inr (.inr (.inr (fun j => if j < zgL s9 k0 (a / 256) then some (el + 256 * j) else none)))))) (hn : zgP st k0 (a / 256) 0 = n) (hs2 : ∃ fs, zsh Z.2.1 mk st el y = .inr (ci, fs)) (hc : vwCl[ci]? = some (cn, T, N)) (hca : (cn, "java/lang/Object") ∈ zcast) (hi : vp_in x n) (hx : x.toNatClampNeg = zgL st k0 (a / 256)) (hy : y = zgL st k0 (a / 256))
    (kk : zG Z ad0 h0 p l e R s m args below meth c Q cells slots (zh Z mk (zuL st k0 (a / 256) (zgL st k0 (a / 256) + 1))) nL (pc + 1) lc (rest)) : zG Z ad0 h0 p l e R s m args below meth c Q cells slots (zh Z mk st) nL pc lc (.ref (el + 256 * y) :: .int x :: .ref a :: rest) := by
  intro ad H locs ls hP hS hE hL hl hv
  have ha' : a = k0 + 256 * (a / 256) := by omega
  generalize a / 256 = i at *
  subst ha'
  obtain ⟨fs, e2⟩ := hs2
  have e4 := zh_at he hv.hd
  rw [e2] at e4
  have e3 := zh_at hk hv.tl.tl.hd
  rw [hs st hn] at e3
  have ho : ∀ k' i', ¬ (k' = k0 ∧ i' = i) → zsh Z.2.1 mk (zuL st k0 i (zgL st k0 i + 1)) k' i' = zsh Z.2.1 mk st k' i' := fun k' i' g => by
    unfold zsh
    rw [show zgL (zuL st k0 i (zgL st k0 i + 1)) k' i' = zgL st k' i' from zp2_ne g]
    rfl
  refine z_astqO C d e3 rfl hi e4 hc hca (zh_up (st' := zuL st k0 i (zgL st k0 i + 1)) hk rfl ho ?_ hv.tl.tl.hd) kk ad H locs ls hP hS hE hL hl hv
  rw [hs (zuL st k0 i (zgL st k0 i + 1)) hn]
  refine congrArg (fun g9 : Nat → Option Nat => (.inl (Z.2.1 4, n, .inr (.inr (.inr (.inr g9)))) : va_E)) (funext fun j => ?_)
  rw [show zgL (zuL st k0 i (zgL st k0 i + 1)) k0 i = zgL st k0 i + 1 from zp2_at, hx]
  unfold va_up
  by_cases g : j = zgL st k0 i
  · rw [if_pos g, if_pos (by omega), hy, g]
  · rw [if_neg g]
    show _ = if j < zgL st k0 i then some (el + 256 * j) else none
    by_cases g2 : j < zgL st k0 i
    · rw [if_pos g2, if_pos (by omega)]
    · rw [if_neg g2, if_neg (by omega)]
theorem z_asg (vm : Vm) (c : ClassId) : vm.assignable c c = true := by
  show vm.assignableAux _ c c = true
  unfold Vm.assignableAux
  simp
/-- a row of ints into an array of such rows -/
theorem z_astA (C : zC Z p s m args meth c cc nL own) {a n b9 n9 : Nat} {f9 : Nat → Int32} {f : Nat → Option Nat} {i : Int32} {h' : zH} (d : decode cc pc = .ok (.aastore, 1)) (ha : h a = some (.inl (Z.2.1 6, n, .inr (.inr (.inr (.inr f)))))) (hi : vp_in i n) (hb : h b9 = some (.inl (Z.2.1 0, n9, .inl f9))) (hh : ∀ b, h' b = if b = a then some (.inl (Z.2.1 6, n, .inr (.inr (.inr (.inr (va_up f i.toNatClampNeg (some b9))))))) else h b) (k : zG Z ad0 h0 p l e R s m args below meth c Q cells slots h' nL (pc + 1) lc (rest)) : zG Z ad0 h0 p l e R s m args below meth c Q cells slots h nL pc lc (.ref b9 :: .int i :: .ref a :: rest) := by
  intro ad H locs ls hP hS hE hL hl hv
  obtain ⟨L, g, P1, P2, P3, P4, P5⟩ := id hP
  obtain ⟨m1, m2, m3⟩ := P3 a _ ha
  obtain ⟨k9, hk9⟩ := va_pl_get (X := []) (f := g) m1
  obtain ⟨n1, n2, n3⟩ := P3 b9 _ hb
  obtain ⟨kb, hkb⟩ := va_pl_get (X := []) (f := g) n1
  rw [n2] at hkb
  have hk9a : (va_pl L g)[k9]? = some (ad a, g (ad a)) := hk9
  have hk9b := hk9a
  rw [m2] at hk9b
  have hkb : (va_pl L g)[kb]? = some (ad b9, .inl (Z.2.1 0, n9, .inl f9)) := hkb
  have hc9 : zcl h (.inl (Z.2.1 6, n, .inr (.inr (.inr (.inr (va_up f i.toNatClampNeg (some b9))))))) := fun j a hj => by
    unfold va_up at hj
    by_cases q : j = i.toNatClampNeg
    · rw [if_pos q] at hj
      cases hj
      exact hv.hd
    · rw [if_neg q] at hj
      exact m3 j a hj
  have hlt : i.toNatClampNeg < n := Nat.not_le.mp fun q => hi (Or.inr q)
  have h0' : ¬ i < 0 := fun q => hi (Or.inl q)
  have c1 : H[ad a]? = some (vp_cell (Z.2.1 6) (n, .inr (.inr (.inr (.inr fun i => (f i).map ad))))) := P1 k9 _ hk9b
  have c2 : H[ad b9]? = some (vp_cell (Z.2.1 0) (n9, .inl f9)) := P1 kb _ hkb
  obtain ⟨k6, g1, g2⟩ := zC_I2 C
  have hfa : s.vm.findClass ("[" ++ FieldType.int.toString) = some (Z.2.1 0) := (C.2.2.2.2.2.1.2 0 (Z.2.1 0, .int) rfl).2
  obtain ⟨k0, g3, -⟩ := Vm.findClass_spec hfa
  refine W.aast C.1 C.2.1 c1 (fun q z => by cases z) (fun z => by cases z) g1 g2 rfl g3 ⟨h0', ?_⟩ c2 (fun q z => by cases z) g3 (z_asg _ _) rfl rfl d (fun H' e1 e2 e3 => ?_)
  · rw [vp_cell_q]
    show _ < (arrV _ _ _).slots.size
    rw [arrV_size]
    exact hlt
  have e8 := va_pl_set (X := []) (e := ze ad (.inl (Z.2.1 6, n, .inr (.inr (.inr (.inr (va_up f i.toNatClampNeg (some b9)))))))) P2 m1 hk9a
  have e9 : (va_pl L g).set k9 (ad a, ze ad (.inl (Z.2.1 6, n, .inr (.inr (.inr (.inr (va_up f i.toNatClampNeg (some b9)))))))) = va_pl L (va_up g (ad a) (ze ad (.inl (Z.2.1 6, n, .inr (.inr (.inr (.inr (va_up f i.toNatClampNeg (some b9))))))))) := e8
  have ez : ze ad (.inl (Z.2.1 6, n, .inr (.inr (.inr (.inr (va_up f i.toNatClampNeg (some b9))))))) = .inl (Z.2.1 6, n, .inr (.inr (.inr (.inr (va_up (fun i => (f i).map ad) i.toNatClampNeg (some (ad b9))))))) := by
    refine congrArg (fun g9 : Nat → Option Nat => (.inl (Z.2.1 6, n, .inr (.inr (.inr (.inr g9)))) : va_E)) (?_ : (fun j => (va_up f i.toNatClampNeg (some b9) j).map ad) = va_up (fun i => (f i).map ad) i.toNatClampNeg (some (ad b9)))
    funext j
    unfold va_up
    by_cases q : j = i.toNatClampNeg
    · rw [if_pos q, if_pos q]; rfl
    · rw [if_neg q, if_neg q]
  have ec : H'[ad a]? = some (vp_cell (Z.2.1 6) (n, .inr (.inr (.inr (.inr (va_up (fun i => (f i).map ad) i.toNatClampNeg (some (ad b9)))))))) := by
    rw [e1, vp_cell_q, vp_cell_q, arrV_store]
    congr 2
    funext q
    by_cases hq : q = i.toNatClampNeg
    · subst hq
      simp [updV, va_up, va_rf]
    · simp [updV, va_up, hq]
  have Q1 := P1.set P2 hk9a (e := ze ad (.inl (Z.2.1 6, n, .inr (.inr (.inr (.inr (va_up f i.toNatClampNeg (some b9)))))))) (by rw [ez]; exact ec) e3
  have Q2 := P2.set hk9a (e := ze ad (.inl (Z.2.1 6, n, .inr (.inr (.inr (.inr (va_up f i.toNatClampNeg (some b9))))))))
  rw [e9] at Q1 Q2
  exact k ad H' _ ls (zP_set P3 P4 P5 ha hh hc9 Q1 Q2) (hS.put e2 e3 (P2.2 k9 _ hk9a)) (zE_set hE hh) hL (hl.mono (zd_set hh)) (hv.tl.tl.tl.mono (zd_set hh))
theorem t_astA (C : zC Z p s m args meth c cc nL own) {i y a b : Nat} {x : Int32} (d : decode cc pc = .ok (.aastore, 1)) (ha : a = 68 + 256 * i) (hb : b = 69 + 256 * y) (hi : vp_in x 4) (kk : zG Z ad0 h0 p l e R s m args below meth c Q cells slots (zh Z mk (zuR st 68 i x.toNatClampNeg (some y))) nL (pc + 1) lc (rest)) : zG Z ad0 h0 p l e R s m args below meth c Q cells slots (zh Z mk st) nL pc lc (.ref b :: .int x :: .ref a :: rest) := by
  intro ad H locs ls hP hS hE hL hl hv
  subst ha
  subst hb
  have e4 := zh_at (k := 69) (by decide) hv.hd
  have e3 := zh_at (k := 68) (by decide) hv.tl.tl.hd
  exact z_astA C d e3 hi e4 (zh_up (st' := zuR st 68 i x.toNatClampNeg (some y)) (by decide) rfl zo_R (by rw [show zsh Z.2.1 mk (zuR st 68 i x.toNatClampNeg (some y)) 68 i = .inl (Z.2.1 6, 4, .inr (.inr (.inr (.inr (fun j => (zgR (zuR st 68 i x.toNatClampNeg (some y)) 68 i j).map fun y => 69 + 256 * y))))) from rfl, zs_R, zp1_up]; rfl) hv.tl.tl.hd) kk ad H locs ls hP hS hE hL hl hv

/-- System.arraycopy: words -/
def zCpw (own : String) (idx : Nat) : Prop := Cond.methodLink own idx arraycopyName ∈ zw ∧ Cond.native arraycopyName ∈ zw ∧ Cond.static arraycopyName ∈ zw ∧ Cond.initialized "java/lang/System" ∈ zw
theorem z_cpI (C : zC Z p s m args meth c cc nL own) {idx a0 a1 n0 n1 : Nat} {f g : Nat → Int32} {sp dp n : Int32} {h' : zH} (d : decode cc pc = .ok (.invokestatic idx, 3)) (hw : zCpw own idx) (ha0 : h a0 = some (.inl (Z.2.1 0, n0, .inl f))) (ha1 : h a1 = some (.inl (Z.2.1 0, n1, .inl g))) (h1 : ¬ sp < 0) (h2 : ¬ dp < 0) (h3 : ¬ n < 0) (h4 : sp.toNatClampNeg + n.toNatClampNeg ≤ n0) (h5 : dp.toNatClampNeg + n.toNatClampNeg ≤ n1)
    (hR : 1 ≤ R.frames ∧ (rest.map fun v => v.category).sum + 20 ≤ R.locals) (hh : ∀ b, h' b = if b = a1 then some (.inl (Z.2.1 0, n1, .inl (va_cpy f g sp.toNatClampNeg dp.toNatClampNeg n.toNatClampNeg))) else h b) (k : zG Z ad0 h0 p l e R s m args below meth c Q cells slots h' nL (pc + 3) lc rest) : zG Z ad0 h0 p l e R s m args below meth c Q cells slots h nL pc lc (.int n :: .int dp :: .ref a1 :: .int sp :: .ref a0 :: rest) := by
  intro ad H locs ls hP hS hE hL hl hv
  obtain ⟨L, g9, P1, P2, P3, P4, P5⟩ := id hP
  obtain ⟨m1, m2, m3⟩ := P3 a0 _ ha0
  obtain ⟨k0, hk0⟩ := va_pl_get (X := []) (f := g9) m1
  obtain ⟨n1', n2, n3⟩ := P3 a1 _ ha1
  obtain ⟨k1, hk1⟩ := va_pl_get (X := []) (f := g9) n1'
  have hk1a : (va_pl L g9)[k1]? = some (ad a1, g9 (ad a1)) := hk1
  rw [m2] at hk0
  rw [n2] at hk1
  refine va_copyi (rest := rest.map (zv ad)) (ws := va_pl L g9) C.1 C.2.1 (C.2.2.1.trans hL.1.symm) C.2.2.2.1 (C.2.2.2.2.1 _ hw.1) (C.2.2.2.2.1 _ hw.2.1) (C.2.2.2.2.1 _ hw.2.2.1) (C.2.2.2.2.1 _ hw.2.2.2) C.2.2.2.2.2.1 P1 P2 hS k0 k1 0 0 hk0 hk1 (ty := .int) rfl rfl rfl h1 h2 h3 h4 h5 (fun i hi => rfl) hR.1 (by rw [zcats]; exact Nat.le_trans (Nat.add_le_add_left (show nativeFrameWords "java/lang/System" "arraycopy" 5 + 11 ≤ 20 from by decide +kernel) _) hR.2) d (fun H1 locs1 Q1 Q2 Q3 => ?_)
  have ez : (.inl (Z.2.1 0, n1, .inl (va_cpy f g sp.toNatClampNeg dp.toNatClampNeg n.toNatClampNeg)) : va_E) = ze ad (.inl (Z.2.1 0, n1, .inl (va_cpy f g sp.toNatClampNeg dp.toNatClampNeg n.toNatClampNeg))) := rfl
  have e9 : (va_pl L g9).set k1 (ad a1, ze ad (.inl (Z.2.1 0, n1, .inl (va_cpy f g sp.toNatClampNeg dp.toNatClampNeg n.toNatClampNeg)))) = va_pl L (va_up g9 (ad a1) (ze ad (.inl (Z.2.1 0, n1, .inl (va_cpy f g sp.toNatClampNeg dp.toNatClampNeg n.toNatClampNeg))))) := va_pl_set (X := []) P2 n1' hk1a
  rw [ez, e9] at Q1 Q2
  exact k ad H1 locs1 ls (zP_set P3 P4 P5 ha1 hh trivial Q1 Q2) Q3 (zE_set hE hh) hL (hl.mono (zd_set hh)) (hv.tl.tl.tl.tl.tl.mono (zd_set hh))
/-- a whole row of ints anew -/
def zuB (s : zTs) (k i : Nat) (f : Nat → Int32) : zTs := (s.1, s.2.1, s.2.2.1, s.2.2.2.1, zp2 (zgA s) k i f, s.2.2.2.2.2)
theorem t_cpI (C : zC Z p s m args meth c cc nL own) {idx k0 i0 k1 i1 a0 a1 n0 n1 : Nat} {sp dp n : Int32} (d : decode cc pc = .ok (.invokestatic idx, 3)) (hw : zCpw own idx) (hk0 : k0 < 200) (hk1 : k1 < 200) (e0 : a0 = k0 + 256 * i0) (e1 : a1 = k1 + 256 * i1) (hs0 : zsh Z.2.1 mk st k0 i0 = .inl (Z.2.1 0, n0, .inl (zgA st k0 i0))) (hs1 : ∀ f, zsh Z.2.1 mk (zuB st k1 i1 f) k1 i1 = .inl (Z.2.1 0, n1, .inl (zgA (zuB st k1 i1 f) k1 i1))) (hs2 : zsh Z.2.1 mk st k1 i1 = .inl (Z.2.1 0, n1, .inl (zgA st k1 i1))) (h1 : ¬ sp < 0) (h2 : ¬ dp < 0) (h3 : ¬ n < 0) (h4 : sp.toNatClampNeg + n.toNatClampNeg ≤ n0) (h5 : dp.toNatClampNeg + n.toNatClampNeg ≤ n1)
    (hR : 1 ≤ R.frames ∧ (rest.map fun v => v.category).sum + 20 ≤ R.locals) (kk : zG Z ad0 h0 p l e R s m args below meth c Q cells slots (zh Z mk (zuB st k1 i1 (va_cpy (zgA st k0 i0) (zgA st k1 i1) sp.toNatClampNeg dp.toNatClampNeg n.toNatClampNeg))) nL (pc + 3) lc rest) : zG Z ad0 h0 p l e R s m args below meth c Q cells slots (zh Z mk st) nL pc lc (.int n :: .int dp :: .ref a1 :: .int sp :: .ref a0 :: rest) := by
  intro ad H locs ls hP hS hE hL hl hv
  subst e0
  subst e1
  have x0 := zh_at hk0 hv.tl.tl.tl.tl.hd
  have x1 := zh_at hk1 hv.tl.tl.hd
  rw [hs0] at x0
  rw [hs2] at x1
  exact z_cpI C d hw x0 x1 h1 h2 h3 h4 h5 hR (zh_up (st' := zuB st k1 i1 (va_cpy (zgA st k0 i0) (zgA st k1 i1) sp.toNatClampNeg dp.toNatClampNeg n.toNatClampNeg)) hk1 rfl (fun k' i' g => by
    unfold zsh
    rw [show zgA (zuB st k1 i1 (va_cpy (zgA st k0 i0) (zgA st k1 i1) sp.toNatClampNeg dp.toNatClampNeg n.toNatClampNeg)) k' i' = zgA st k' i' from zp2_ne g]
    rfl) (by rw [hs1, show zgA (zuB st k1 i1 (va_cpy (zgA st k0 i0) (zgA st k1 i1) sp.toNatClampNeg dp.toNatClampNeg n.toNatClampNeg)) k1 i1 = _ from zp2_at]) hv.tl.tl.hd) kk ad H locs ls hP hS hE hL hl hv
theorem z_cpQ (C : zC Z p s m args meth c cc nL own) {idx a0 a1 n0 n1 ci N : Nat} {cn : String} {T : u_T} {f g : Nat → Option Nat} {sp dp n : Int32} {h' : zH} (d : decode cc pc = .ok (.invokestatic idx, 3)) (hw : zCpw own idx) (ha0 : h a0 = some (.inl (Z.2.1 4, n0, .inr (.inr (.inr (.inr f)))))) (ha1 : h a1 = some (.inl (Z.2.1 4, n1, .inr (.inr (.inr (.inr g)))))) (h1 : ¬ sp < 0) (h2 : ¬ dp < 0) (h3 : ¬ n < 0) (h4 : sp.toNatClampNeg + n.toNatClampNeg ≤ n0) (h5 : dp.toNatClampNeg + n.toNatClampNeg ≤ n1)
    (hel : ∀ j y, f j = some y → ∃ fs, h y = some (.inr (ci, fs))) (hc : vwCl[ci]? = some (cn, T, N)) (hca : (cn, "java/lang/Object") ∈ zcast)
    (hR : 1 ≤ R.frames ∧ (rest.map fun v => v.category).sum + 20 ≤ R.locals) (hh : ∀ b, h' b = if b = a1 then some (.inl (Z.2.1 4, n1, .inr (.inr (.inr (.inr (va_cpy f g sp.toNatClampNeg dp.toNatClampNeg n.toNatClampNeg)))))) else h b) (k : zG Z ad0 h0 p l e R s m args below meth c Q cells slots h' nL (pc + 3) lc rest) : zG Z ad0 h0 p l e R s m args below meth c Q cells slots h nL pc lc (.int n :: .int dp :: .ref a1 :: .int sp :: .ref a0 :: rest) := by
  intro ad H locs ls hP hS hE hL hl hv
  obtain ⟨L, g9, P1, P2, P3, P4, P5⟩ := id hP
  obtain ⟨m1, m2, m3⟩ := P3 a0 _ ha0
  obtain ⟨k0, hk0⟩ := va_pl_get (X := []) (f := g9) m1
  obtain ⟨n1', n2, n3⟩ := P3 a1 _ ha1
  obtain ⟨k1, hk1⟩ := va_pl_get (X := []) (f := g9) n1'
  have hk1a : (va_pl L g9)[k1]? = some (ad a1, g9 (ad a1)) := hk1
  rw [m2] at hk0
  rw [n2] at hk1
  have hcpy : ∀ j, (va_cpy (fun i => (f i).map ad) (fun i => (g i).map ad) sp.toNatClampNeg dp.toNatClampNeg n.toNatClampNeg) j = (va_cpy f g sp.toNatClampNeg dp.toNatClampNeg n.toNatClampNeg j).map ad := fun j => by
    unfold va_cpy
    by_cases q : dp.toNatClampNeg ≤ j ∧ j < dp.toNatClampNeg + n.toNatClampNeg
    · rw [if_pos q, if_pos q]
    · rw [if_neg q, if_neg q]
  refine va_copyq (rest := rest.map (zv ad)) (ws := va_pl L g9) (f := fun i => (f i).map ad) (g := fun i => (g i).map ad) (C := cn) C.1 C.2.1 (C.2.2.1.trans hL.1.symm) C.2.2.2.1 (C.2.2.2.2.1 _ hw.1) (C.2.2.2.2.1 _ hw.2.1) (C.2.2.2.2.1 _ hw.2.2.1) (C.2.2.2.2.1 _ hw.2.2.2) C.2.2.2.2.2.1 P1 P2 hS k0 k1 4 4 hk0 hk1 (E0 := "java/lang/Object") (E1 := "java/lang/Object") rfl rfl h1 h2 h3 h4 h5 ?_ ?_ hR.1 (by rw [zcats]; exact Nat.le_trans (Nat.add_le_add_left (show nativeFrameWords "java/lang/System" "arraycopy" 5 + 11 ≤ 20 from by decide +kernel) _) hR.2) d (fun H1 locs1 Q1 Q2 Q3 => ?_)
  · intro i _ y hy
    cases hf : f (sp.toNatClampNeg + i) with
    | none => rw [hf] at hy; cases hy
    | some y0 =>
      rw [hf] at hy
      cases hy
      obtain ⟨fs, e2⟩ := hel _ _ hf
      obtain ⟨x1, x2, x3⟩ := P3 y0 _ e2
      obtain ⟨kb, hkb⟩ := va_pl_get (X := []) (f := g9) x1
      rw [x2] at hkb
      exact va_recv (ws := va_pl L g9) C.2.2.2.2.2.1 P1 hc hkb
  · intro comp c0 q1 q2
    obtain ⟨c3, t3, w1, w2, w3⟩ := Cond.castable_spec (va_Nw.use (A := args) rfl (zC_cast C _ hca))
    cases w1.symm.trans q2
    cases w2.symm.trans q1
    exact w3
  have e7 : (va_cpy (fun i => (f i).map ad) (fun i => (g i).map ad) sp.toNatClampNeg dp.toNatClampNeg n.toNatClampNeg) = fun j => (va_cpy f g sp.toNatClampNeg dp.toNatClampNeg n.toNatClampNeg j).map ad := funext hcpy
  have ez : (.inl (Z.2.1 4, n1, .inr (.inr (.inr (.inr (va_cpy (fun i => (f i).map ad) (fun i => (g i).map ad) sp.toNatClampNeg dp.toNatClampNeg n.toNatClampNeg))))) : va_E) = ze ad (.inl (Z.2.1 4, n1, .inr (.inr (.inr (.inr (va_cpy f g sp.toNatClampNeg dp.toNatClampNeg n.toNatClampNeg)))))) := by rw [e7]; rfl
  have e9 : (va_pl L g9).set k1 (ad a1, ze ad (.inl (Z.2.1 4, n1, .inr (.inr (.inr (.inr (va_cpy f g sp.toNatClampNeg dp.toNatClampNeg n.toNatClampNeg))))))) = va_pl L (va_up g9 (ad a1) (ze ad (.inl (Z.2.1 4, n1, .inr (.inr (.inr (.inr (va_cpy f g sp.toNatClampNeg dp.toNatClampNeg n.toNatClampNeg)))))))) := va_pl_set (X := []) P2 n1' hk1a
  rw [ez, e9] at Q1 Q2
  refine k ad H1 locs1 ls (zP_set P3 P4 P5 ha1 hh (fun j b hb => ?_) Q1 Q2) Q3 (zE_set hE hh) hL (hl.mono (zd_set hh)) (hv.tl.tl.tl.tl.tl.mono (zd_set hh))
  unfold va_cpy at hb
  by_cases q : dp.toNatClampNeg ≤ j ∧ j < dp.toNatClampNeg + n.toNatClampNeg
  · rw [if_pos q] at hb; exact m3 _ _ hb
  · rw [if_neg q] at hb; exact n3 _ _ hb
/-- all of one list's array to the start of a fresh one -/
theorem t_cpQ (C : zC Z p s m args meth c cc nL own) {idx k0 a0 a1 n0 n1 el ci N : Nat} {cn : String} {T : u_T} {n : Int32} (d : decode cc pc = .ok (.invokestatic idx, 3)) (hw : zCpw own idx) (hk0 : k0 < 200) (he : el < 200) (e0 : a0 % 256 = k0) (e1 : a1 % 256 = k0) (hne : ¬ a0 / 256 = a1 / 256)
    (hs : ∀ (s9 : zTs) (i9 : Nat), zsh Z.2.1 mk s9 k0 i9 = .inl (Z.2.1 4, zgP s9 k0 i9 0, .inr (.inr (.inr (.inr (fun j => if j < zgL s9 k0 i9 then some (el + 256 * j) else none)))))) (hn0 : zgP st k0 (a0 / 256) 0 = n0) (hn1 : zgP st k0 (a1 / 256) 0 = n1) (hs2 : ∀ y, ∃ fs, zsh Z.2.1 mk st el y = .inr (ci, fs)) (hc : vwCl[ci]? = some (cn, T, N)) (hca : (cn, "java/lang/Object") ∈ zcast) (hv9 : ∀ y, y < zgL st k0 (a0 / 256) → y < zgN st el)
    (h3 : ¬ n < 0) (h4 : n.toNatClampNeg ≤ n0) (h5 : n.toNatClampNeg ≤ n1) (h6 : zgL st k0 (a0 / 256) ≤ n.toNatClampNeg) (h7 : zgL st k0 (a1 / 256) = 0)
    (hR : 1 ≤ R.frames ∧ (rest.map fun v => v.category).sum + 20 ≤ R.locals) (kk : zG Z ad0 h0 p l e R s m args below meth c Q cells slots (zh Z mk (zuL st k0 (a1 / 256) (zgL st k0 (a0 / 256)))) nL (pc + 3) lc rest) : zG Z ad0 h0 p l e R s m args below meth c Q cells slots (zh Z mk st) nL pc lc (.int n :: .int 0 :: .ref a1 :: .int 0 :: .ref a0 :: rest) := by
  intro ad H locs ls hP hS hE hL hl hv
  have ha0 : a0 = k0 + 256 * (a0 / 256) := by omega
  have ha1 : a1 = k0 + 256 * (a1 / 256) := by omega
  generalize a0 / 256 = i0 at *
  generalize a1 / 256 = i1 at *
  subst ha0
  subst ha1
  have x0 := zh_at hk0 hv.tl.tl.tl.tl.hd
  have x1 := zh_at hk0 hv.tl.tl.hd
  rw [hs] at x0 x1
  rw [hn0] at x0
  rw [hn1] at x1
  have ho : ∀ k' i', ¬ (k' = k0 ∧ i' = i1) → zsh Z.2.1 mk (zuL st k0 i1 (zgL st k0 i0)) k' i' = zsh Z.2.1 mk st k' i' := fun k' i' g => by
    unfold zsh
    rw [show zgL (zuL st k0 i1 (zgL st k0 i0)) k' i' = zgL st k' i' from zp2_ne g]
    rfl
  refine z_cpQ C d hw x0 x1 (by decide) (by decide) h3 (by show 0 + _ ≤ _; omega) (by show 0 + _ ≤ _; omega) (fun j y hy => ?_) hc hca hR (zh_up (st' := zuL st k0 i1 (zgL st k0 i0)) hk0 rfl ho ?_ hv.tl.tl.hd) kk ad H locs ls hP hS hE hL hl hv
  · by_cases q : j < zgL st k0 i0
    · have hy := (if_pos q).symm.trans hy
      cases hy
      obtain ⟨fs, e2⟩ := hs2 j
      refine ⟨fs, ?_⟩
      obtain ⟨y1, y2⟩ := zh_md (k := el) (i := j) he
      unfold zh
      rw [y1, y2, if_pos ⟨he, hv9 j q⟩, e2]
    · have hy := (if_neg q).symm.trans hy
      cases hy
  · rw [hs]
    rw [show zgP (zuL st k0 i1 (zgL st k0 i0)) k0 i1 0 = n1 from hn1, show zgL (zuL st k0 i1 (zgL st k0 i0)) k0 i1 = zgL st k0 i0 from zp2_at]
    refine congrArg (fun g9 : Nat → Option Nat => (.inl (Z.2.1 4, n1, .inr (.inr (.inr (.inr g9)))) : va_E)) (funext fun j => ?_)
    show _ = va_cpy _ _ 0 0 _ j
    unfold va_cpy
    rw [h7]
    by_cases q : j < n.toNatClampNeg
    · rw [if_pos (by omega : 0 ≤ j ∧ j < 0 + n.toNatClampNeg), show 0 + (j - 0) = j by omega]
    · rw [if_neg (by omega : ¬ (0 ≤ j ∧ j < 0 + n.toNatClampNeg)), if_neg (by omega)]
      exact (if_neg (Nat.not_lt_zero j)).symm
/-- the length of a list's array, which may be the empty one -/
theorem t_lenV (C : zC Z p s m args meth c cc nL own) {k0 a : Nat} (d : decode cc pc = .ok (.arraylength, 1)) (hk : k0 < 200) (hs : ∀ i9, zsh Z.2.1 mk st k0 i9 = .inl (Z.2.1 4, zgP st k0 i9 0, .inr (.inr (.inr (.inr (fun j => if j < zgL st k0 i9 then some ((k0 - 14) + 256 * j) else none)))))) (ha : a = 204 ∨ a % 256 = k0) (kk : ∀ x : Int32, x = (if a = 204 then 0 else Int32.ofNat (zgP st k0 (a / 256) 0)) → zG Z ad0 h0 p l e R s m args below meth c Q cells slots (zh Z mk st) nL (pc + 1) lc (.int x :: rest)) : zG Z ad0 h0 p l e R s m args below meth c Q cells slots (zh Z mk st) nL pc lc (.ref a :: rest) := by
  by_cases g : a = 204
  · subst g
    exact z_klen C (q := 204) (n := 0) (v := 0) d (by decide) (fun z => z.2.2.2.2.2.2.1.2) (by decide) (kk 0 (if_pos rfl).symm)
  · rcases ha with q | q
    · exact absurd q g
    · exact t_len4 C d hk q (hs _) rfl (kk _ (if_neg g).symm)
theorem z_ldcM (C : zC Z p s m args meth c cc nL own) {idx : Nat} (d : decode cc pc = .ok (.ldc idx, 2)) (hw : Cond.classLink own idx "[Ljava/lang/Object;" ∈ zw) (k : zG Z ad0 h0 p l e R s m args below meth c Q cells slots h nL (pc + 2) lc (.ref 207 :: rest)) : zG Z ad0 h0 p l e R s m args below meth c Q cells slots h nL pc lc rest := by
  intro ad H locs ls hP hS hE hL hl hv
  obtain ⟨L, f, P1, P2, P3, P4, P5⟩ := id hP
  have kk := k ad H locs ls hP hS hE hL hl (hv.cn fun b hb => by cases hb; exact Or.inr (by decide))
  rw [List.map_cons, show zv ad (.ref 207) = .ref (Z.2.2.2 207) from congrArg Value.ref (P5 207 (by decide)).1] at kk
  exact va_ldcM C.1 C.2.1 C.2.2.2.1 (C.2.2.2.2.1 _ hw) (zC_Mi C) d kk
theorem t_getC (C : zC Z p s m args meth c cc nL own) {idx k0 a n : Nat} {f : Nat → Option Nat} (d : decode cc pc = .ok (.invokevirtual idx, 3)) (hw1 : Cond.methodLink own idx ⟨"java/lang/Object", "getClass", "()Ljava/lang/Class;"⟩ ∈ zw) (hw2 : Cond.selects "[Ljava/lang/Object;" ⟨"java/lang/Object", "getClass", "()Ljava/lang/Class;"⟩ ⟨"java/lang/Object", "getClass", "()Ljava/lang/Class;"⟩ ∈ zw) (hw3 : Cond.instanceMethod ⟨"java/lang/Object", "getClass", "()Ljava/lang/Class;"⟩ ∈ zw) (hw4 : Cond.native ⟨"java/lang/Object", "getClass", "()Ljava/lang/Class;"⟩ ∈ zw) (hk : k0 < 200) (ha : a % 256 = k0) (hs : zsh Z.2.1 mk st k0 (a / 256) = .inl (Z.2.1 4, n, .inr (.inr (.inr (.inr f))))) (hR : 1 ≤ R.frames ∧ (rest.map fun v => v.category).sum + 14 ≤ R.locals)
    (k : zG Z ad0 h0 p l e R s m args below meth c Q cells slots (zh Z mk st) nL (pc + 3) lc (.ref 207 :: rest)) : zG Z ad0 h0 p l e R s m args below meth c Q cells slots (zh Z mk st) nL pc lc (.ref a :: rest) := by
  intro ad H locs ls hP hS hE hL hl hv
  have ha' : a = k0 + 256 * (a / 256) := by omega
  generalize a / 256 = i at *
  subst ha'
  have e3 := zh_at hk hv.hd
  rw [hs] at e3
  obtain ⟨L, g, P1, P2, P3, P4, P5⟩ := id hP
  obtain ⟨m1, m2, m3⟩ := P3 _ _ e3
  obtain ⟨k9, hk9⟩ := va_pl_get (X := []) (f := g) m1
  rw [m2] at hk9
  have c1 : H[ad (k0 + 256 * i)]? = some (vp_cell (Z.2.1 4) (n, .inr (.inr (.inr (.inr fun i => (f i).map ad))))) := P1 k9 _ hk9
  have kk := k ad H locs ls hP hS hE hL hl (hv.tl.cn fun b hb => by cases hb; exact Or.inr (by decide))
  rw [List.map_cons, show zv ad (.ref 207) = .ref (Z.2.2.2 207) from congrArg Value.ref (P5 207 (by decide)).1] at kk
  exact va_getC C.1 C.2.1 (C.2.2.1.trans hL.1.symm) C.2.2.2.1 (C.2.2.2.2.1 _ hw1) (va_Nw.use rfl (zC_decl C _ (by decide))) (C.2.2.2.2.1 _ hw2) (C.2.2.2.2.1 _ hw3) (C.2.2.2.2.1 _ hw4) (zC_Mi C) ⟨_, c1, rfl, va_nmO (C.2.2.2.2.2.1.2 4 (Z.2.1 4, .object "java/lang/Object") rfl).2 rfl⟩ hR.1 (by rw [zcats]; exact hR.2) d kk
/-- a field that a reference finds in a class above -/
def zFs (own : String) (idx ci j : Nat) (ref : String) : Prop := ∃ (cn : String) (T : u_T) (N : Nat) (ty0 : Nat → FieldType) (ty : FieldType), vwCl[ci]? = some (cn, T, N) ∧ (∀ w ∈ u_ws cn T N, w ∈ zw) ∧ j < N ∧ Cond.fieldLink own idx ref (T j).2.1 (T j).2.2.1 ∈ zw ∧ Cond.sameField ref (T j).1 (T j).2.1 (T j).2.2.1 ∈ zw ∧ (∀ k, k < N → parseFieldDescriptor (T k).2.2.1 = some (ty0 k)) ∧ (∀ a, a < N → ∀ b, b < N → a ≠ b → (T a).2.1 ≠ (T b).2.1) ∧ parseFieldDescriptor (T j).2.2.1 = some ty ∧ (T j).2.2.2 = false ∧ ty = .int
theorem z_getS (C : zC Z p s m args meth c cc nL own) {a ci j idx : Nat} {ref : String} {fs : List Value} {v : Value} (d : decode cc pc = .ok (.getfield idx, 3)) (hw : zFs own idx ci j ref) (ha : h a = some (.inr (ci, fs))) (hf : fs[j]? = some v) (k : zG Z ad0 h0 p l e R s m args below meth c Q cells slots h nL (pc + 3) lc (v :: rest)) : zG Z ad0 h0 p l e R s m args below meth c Q cells slots h nL pc lc (.ref a :: rest) := by
  intro ad H locs ls hP hS hE hL hl hv
  obtain ⟨L, f, P1, P2, P3, P4, P5⟩ := id hP
  obtain ⟨cn, T, N, ty0, ty, w1, w2, w3, w4, w5, -⟩ := hw
  obtain ⟨m1, m2, m3⟩ := P3 a _ ha
  obtain ⟨k9, hk9⟩ := va_pl_get (X := []) (f := f) m1
  rw [m2] at hk9
  exact va_get (ws := va_pl L f) C.1 C.2.1 C.2.2.2.2.1 w2 C.2.2.2.1 C.2.2.2.2.2.1 P1 k9 hk9 w1 j w3 (C.2.2.2.2.1 _ w4) (fun x h => u_same (C.2.2.2.2.1 _ w5) x h) (v := zv ad v) (by rw [List.getElem?_map, hf]; rfl) d (k ad H locs ls hP hS hE hL hl (hv.tl.cn (m3 v (List.mem_of_getElem? hf))))
theorem z_putS (C : zC Z p s m args meth c cc nL own) {a ci j idx : Nat} {ref : String} {fs : List Value} {x : Int32} {h' : zH} (d : decode cc pc = .ok (.putfield idx, 3)) (hw : zFs own idx ci j ref) (ha : h a = some (.inr (ci, fs))) (hlt : j < fs.length) (hh : ∀ b, h' b = if b = a then some (.inr (ci, fs.set j (.int x))) else h b) (k : zG Z ad0 h0 p l e R s m args below meth c Q cells slots h' nL (pc + 3) lc (rest)) : zG Z ad0 h0 p l e R s m args below meth c Q cells slots h nL pc lc (.int x :: .ref a :: rest) := by
  intro ad H locs ls hP hS hE hL hl hv
  obtain ⟨L, f, P1, P2, P3, P4, P5⟩ := id hP
  obtain ⟨cn, T, N, ty0, ty, w1, w2, w3, w4, w5, w6, w7, w8, w9, rfl⟩ := hw
  obtain ⟨m1, m2, m3⟩ := P3 a _ ha
  obtain ⟨k9, hk9⟩ := va_pl_get (X := []) (f := f) m1
  have hk9a : (va_pl L f)[k9]? = some (ad a, f (ad a)) := hk9
  have hk9b := hk9a
  rw [m2] at hk9b
  have hcl : zcl h (.inr (ci, fs.set j (.int x))) := fun y hy => by
    rcases List.mem_or_eq_of_mem_set hy with g | g
    · exact m3 y g
    · rw [g]; exact hv.hd
  refine va_put (ws := va_pl L f) C.1 C.2.1 C.2.2.2.2.1 w2 ty0 w6 w7 C.2.2.2.1 C.2.2.2.2.2.1 P1 P2 hS k9 hk9b w1 j w3 (C.2.2.2.2.1 _ w4) (fun x h => u_same (C.2.2.2.2.1 _ w5) x h) w9 w8 rfl rfl (by rw [List.length_map]; exact hlt) d (fun H1 locs1 Q1 Q2 Q3 => ?_)
  have e9 : (va_pl L f).set k9 (ad a, .inr (ci, (fs.map (zv ad)).set j (zv ad (.int x)))) = va_pl L (va_up f (ad a) (ze ad (.inr (ci, fs.set j (.int x))))) := by
    have e8 := va_pl_set (X := []) (e := ze ad (.inr (ci, fs.set j (.int x)))) P2 m1 hk9a
    rw [show ze ad (.inr (ci, fs.set j (.int x))) = .inr (ci, (fs.set j (.int x)).map (zv ad)) from rfl, List.map_set] at e8
    rw [show ze ad (.inr (ci, fs.set j (.int x))) = .inr (ci, (fs.set j (.int x)).map (zv ad)) from rfl, List.map_set]
    exact e8
  have Q1 : va_P Z.1 vwCl ((va_pl L f).set k9 (ad a, .inr (ci, (fs.map (zv ad)).set j (zv ad (.int x))))) H1 := Q1
  have Q2 : va_D (zA Z) ((va_pl L f).set k9 (ad a, .inr (ci, (fs.map (zv ad)).set j (zv ad (.int x))))) := Q2
  rw [e9] at Q1 Q2
  exact k ad H1 locs1 ls (zP_set P3 P4 P5 ha hh hcl Q1 Q2) Q3 (zE_set hE hh) hL (hl.mono (zd_set hh)) (hv.tl.tl.mono (zd_set hh))
theorem t_getS (C : zC Z p s m args meth c cc nL own) {k i ci j idx a : Nat} {ref : String} {v : Value} (d : decode cc pc = .ok (.getfield idx, 3)) (hw : zFs own idx ci j ref) (hk : k < 200) (ha : a = k + 256 * i) (hf : ∃ fs, zsh Z.2.1 mk st k i = .inr (ci, fs) ∧ fs[j]? = some v) (kk : zG Z ad0 h0 p l e R s m args below meth c Q cells slots (zh Z mk st) nL (pc + 3) lc (v :: rest)) : zG Z ad0 h0 p l e R s m args below meth c Q cells slots (zh Z mk st) nL pc lc (.ref a :: rest) := by
  intro ad H locs ls hP hS hE hL hl hv
  subst ha
  obtain ⟨fs, f1, f2⟩ := hf
  have e3 := zh_at hk hv.hd
  rw [f1] at e3
  exact z_getS C d hw e3 f2 kk ad H locs ls hP hS hE hL hl hv
theorem t_putS (C : zC Z p s m args meth c cc nL own) {k i ci j idx a : Nat} {ref : String} {x : Int32} {st' : zTs} (d : decode cc pc = .ok (.putfield idx, 3)) (hw : zFs own idx ci j ref) (hk : k < 200) (ha : a = k + 256 * i) (hu : zPu Z.2.1 mk st k i mk st' ci j (.int x)) (kk : zG Z ad0 h0 p l e R s m args below meth c Q cells slots (zh Z mk st') nL (pc + 3) lc (rest)) : zG Z ad0 h0 p l e R s m args below meth c Q cells slots (zh Z mk st) nL pc lc (.int x :: .ref a :: rest) := by
  intro ad H locs ls hP hS hE hL hl hv
  subst ha
  obtain ⟨u1, u2, fs, u3, u4, u5⟩ := hu
  have e3 := zh_at hk hv.tl.hd
  rw [u3] at e3
  exact z_putS C d hw e3 u4 (zh_up hk u1 u2 u5 hv.tl.hd) kk ad H locs ls hP hS hE hL hl hv
def zWV (Z : zZ) (P : Nat → zTs → Prop) : Option Value → zH → Prop := fun v h => ∃ r s9, v = some (.ref r) ∧ h = zh Z zm1 s9 ∧ P r s9
theorem k_WV {P : Nat → zTs → Prop} (k : ∀ r s9, P r s9 → zG Z ad0 h0 p l e R s m args below meth c Q cells slots (zh Z zm1 s9) nL pc lc (.ref r :: rest)) : ∀ v h1, zWV Z P v h1 → zG Z ad0 h0 p l e R s m args below meth c Q cells slots h1 nL pc lc (v.toList ++ rest) := by
  rintro v h1 ⟨r, s9, rfl, rfl, hp⟩
  exact k r s9 hp

theorem lo_X11_1 : Cond.methodLink RX11 1 Lib.objectInit ∈ zw := zw_1 38 (by decide +kernel) (by decide +kernel)
theorem lo_Jxa1e45_1 : Cond.methodLink RJxa1e45 1 Lib.objectInit ∈ zw := zw_1 52 (by decide +kernel) (by decide +kernel)
theorem lo_X1_3 : Cond.methodLink RX1 3 Lib.objectInit ∈ zw := zw_1 72 (by decide +kernel) (by decide +kernel)
theorem lo_X3_3 : Cond.methodLink RX3 3 Lib.objectInit ∈ zw := zw_1 107 (by decide +kernel) (by decide +kernel)
theorem lo_X6_3 : Cond.methodLink RX6 3 Lib.objectInit ∈ zw := zw_1 126 (by decide +kernel) (by decide +kernel)
theorem lo_X5_3 : Cond.methodLink RX5 3 Lib.objectInit ∈ zw := zw_1 134 (by decide +kernel) (by decide +kernel)
theorem lo_X8_3 : Cond.methodLink RX8 3 Lib.objectInit ∈ zw := zw_2 199 (by decide +kernel) (by decide +kernel)
theorem lo_X10_3 : Cond.methodLink RX10 3 Lib.objectInit ∈ zw := zw_4 71 (by decide +kernel) (by decide +kernel)
theorem lo_X4_1 : Cond.methodLink RX4 1 Lib.objectInit ∈ zw := zw_5 22 (by decide +kernel) (by decide +kernel)
theorem lo_X7_3 : Cond.methodLink RX7 3 Lib.objectInit ∈ zw := zw_6 43 (by decide +kernel) (by decide +kernel)
theorem lo_X2_3 : Cond.methodLink RX2 3 Lib.objectInit ∈ zw := zw_6 151 (by decide +kernel) (by decide +kernel)
theorem lo_X12_1 : Cond.methodLink RX12 1 Lib.objectInit ∈ zw := zw_7 3 (by decide +kernel) (by decide +kernel)
theorem lo_inst : Cond.instanceMethod Lib.objectInit ∈ zw := zw_1 39 (by decide +kernel) (by decide +kernel)
theorem lo_code : Cond.code Lib.objectInit ⟨#[0xb1]⟩ 1 none ∈ zw := zw_1 40 (by decide +kernel) (by decide +kernel)
theorem la_int : Cond.arrayClass .int ∈ zw := zw_1 101 (by decide +kernel) (by decide +kernel)
theorem la_byte : Cond.arrayClass .byte ∈ zw := zw_1 202 (by decide +kernel) (by decide +kernel)
theorem la_boolean : Cond.arrayClass .boolean ∈ zw := zw_8 5 (by decide +kernel) (by decide +kernel)
theorem la_long : Cond.arrayClass .long ∈ zw := zw_9 216 (by decide +kernel) (by decide +kernel)
theorem nl_X11_7 : zNl RX11 7 0 3 [.int 0, .null, .int 0] := ⟨RJx4a65c, TJx4a65c, tyJx4a65c, rfl, in_Jx4a65c, zw_1 41 (by decide +kernel) (by decide +kernel), zw_1 42 (by decide +kernel) (by decide +kernel), zw_1 4 (by decide +kernel) (by decide +kernel), tyJx4a65c_ok, by decide⟩
theorem nl_X11_35 : zNl RX11 35 1 9 [.null, .null, .null, .null, .int 0, .null, .null, .null, .int 0] := ⟨RX1, TX1, tyX1, rfl, in_X1, zw_1 67 (by decide +kernel) (by decide +kernel), zw_1 68 (by decide +kernel) (by decide +kernel), zw_1 5 (by decide +kernel) (by decide +kernel), tyX1_ok, by decide⟩
theorem nl_X11_42 : zNl RX11 42 3 4 [.null, .null, .null, .int 0] := ⟨RX3, TX3, tyX3, rfl, in_X3, zw_1 102 (by decide +kernel) (by decide +kernel), zw_1 103 (by decide +kernel) (by decide +kernel), zw_1 6 (by decide +kernel) (by decide +kernel), tyX3_ok, by decide⟩
theorem nl_X11_53 : zNl RX11 53 6 13 [.null, .null, .int 0, .int 0, .int 0, .int 0, .null, .int 0, .int 0, .int 0, .null, .int 0, .int 0] := ⟨RX6, TX6, tyX6, rfl, in_X6, zw_1 121 (by decide +kernel) (by decide +kernel), zw_1 122 (by decide +kernel) (by decide +kernel), zw_1 7 (by decide +kernel) (by decide +kernel), tyX6_ok, by decide⟩
theorem nl_X11_62 : zNl RX11 62 5 14 [.int 0, .null, .null, .int 0, .int 0, .int 0, .int 0, .int 0, .int 0, .int 0, .int 0, .int 0, .int 0, .int 0] := ⟨RX5, TX5, tyX5, rfl, in_X5, zw_2 3 (by decide +kernel) (by decide +kernel), zw_1 130 (by decide +kernel) (by decide +kernel), zw_1 10 (by decide +kernel) (by decide +kernel), tyX5_ok, by decide⟩
theorem nl_X11_84 : zNl RX11 84 8 6 [.null, .null, .null, .null, .null, .null] := ⟨RX8, TX8, tyX8, rfl, in_X8, zw_2 194 (by decide +kernel) (by decide +kernel), zw_2 195 (by decide +kernel) (by decide +kernel), zw_1 17 (by decide +kernel) (by decide +kernel), tyX8_ok, by decide⟩
theorem nl_X11_155 : zNl RX11 155 9 18 [.null, .int 0, .int 0, .null, .int 0, .int 0, .int 0, .int 0, .int 0, .int 0, .null, .int 0, .null, .null, .int 0, .int 0, .int 0, .int 0] := ⟨RX10, TX10, tyX10, rfl, in_X10, zw_4 66 (by decide +kernel) (by decide +kernel), zw_4 67 (by decide +kernel) (by decide +kernel), zw_1 29 (by decide +kernel) (by decide +kernel), tyX10_ok, by decide⟩
theorem nl_X11_229 : zNl RX11 229 4 3 [.int 0, .int 0, .int 0] := ⟨RX4, TX4, tyX4, rfl, in_X4, zw_5 17 (by decide +kernel) (by decide +kernel), zw_5 18 (by decide +kernel) (by decide +kernel), zw_1 30 (by decide +kernel) (by decide +kernel), tyX4_ok, by decide⟩
theorem nl_X11_364 : zNl RX11 364 7 4 [.int 0, .null, .null, .int 0] := ⟨RX7, TX7, tyX7, rfl, in_X7, zw_6 38 (by decide +kernel) (by decide +kernel), zw_6 39 (by decide +kernel) (by decide +kernel), zw_1 31 (by decide +kernel) (by decide +kernel), tyX7_ok, by decide⟩
theorem nl_X11_405 : zNl RX11 405 2 3 [.null, .null, .int 0] := ⟨RX2, TX2, tyX2, rfl, in_X2, zw_6 146 (by decide +kernel) (by decide +kernel), zw_6 147 (by decide +kernel) (by decide +kernel), zw_1 32 (by decide +kernel) (by decide +kernel), tyX2_ok, by decide⟩
theorem nl_X6_32 : zNl RX6 32 5 14 [.int 0, .null, .null, .int 0, .int 0, .int 0, .int 0, .int 0, .int 0, .int 0, .int 0, .int 0, .int 0, .int 0] := ⟨RX5, TX5, tyX5, rfl, in_X5, zw_1 129 (by decide +kernel) (by decide +kernel), zw_1 130 (by decide +kernel) (by decide +kernel), zw_1 10 (by decide +kernel) (by decide +kernel), tyX5_ok, by decide⟩
theorem nl_X10_30 : zNl RX10 30 4 3 [.int 0, .int 0, .int 0] := ⟨RX4, TX4, tyX4, rfl, in_X4, zw_4 72 (by decide +kernel) (by decide +kernel), zw_5 18 (by decide +kernel) (by decide +kernel), zw_1 30 (by decide +kernel) (by decide +kernel), tyX4_ok, by decide⟩
theorem nl_L_8 : zNl RL 8 10 17 [.null, .null, .null, .null, .null, .null, .null, .null, .null, .null, .null, .int 0, .int 0, .int 0, .int 0, .int 0, .null] := ⟨RX11, TX11, tyX11, rfl, in_X11, zw_1 33 (by decide +kernel) (by decide +kernel), zw_1 34 (by decide +kernel) (by decide +kernel), zw_1 1 (by decide +kernel) (by decide +kernel), tyX11_ok, by decide⟩
theorem nl_L_147 : zNl RL 147 11 80 [.int 0, .int 0, .int 0, .int 0, .null, .null, .int 0, .int 0, .int 0, .int 0, .int 0, .int 0, .int 0, .null, .null, .null, .null, .null, .null, .null, .null, .int 0, .null, .int 0, .null, .null, .null, .null, .null, .null, .null, .null, .null, .null, .null, .null, .null, .null, .null, .null, .null, .int 0, .null, .null, .null, .null, .null, .null, .int 0, .int 0, .null, .null, .null, .null, .null, .null, .null, .null, .null, .null, .null, .null, .null, .null, .null, .null, .int 0, .int 0, .null, .null, .null, .null, .null, .null, .null, .null, .int 0, .null, .null, .null] := ⟨RX12, TX12, tyX12, rfl, in_X12, zw_6 238 (by decide +kernel) (by decide +kernel), zw_6 239 (by decide +kernel) (by decide +kernel), zw_1 11 (by decide +kernel) (by decide +kernel), tyX12_ok, by decide⟩
theorem ln_X1_init : Cond.code yX1_init cX1_init 1 none ∈ zw := zw_1 71 (by decide +kernel) (by decide +kernel)
theorem lni_X1_init : Cond.initialized (yX1_init).cls ∈ zw := zw_1 5 (by decide +kernel) (by decide +kernel)
theorem lnm_X1_init : Cond.instanceMethod yX1_init ∈ zw := zw_1 70 (by decide +kernel) (by decide +kernel)
theorem ln_X3_init : Cond.code yX3_init cX3_init 1 none ∈ zw := zw_1 106 (by decide +kernel) (by decide +kernel)
theorem lni_X3_init : Cond.initialized (yX3_init).cls ∈ zw := zw_1 6 (by decide +kernel) (by decide +kernel)
theorem lnm_X3_init : Cond.instanceMethod yX3_init ∈ zw := zw_1 105 (by decide +kernel) (by decide +kernel)
theorem ln_X5_init : Cond.code yX5_init cX5_init 1 none ∈ zw := zw_1 133 (by decide +kernel) (by decide +kernel)
theorem lni_X5_init : Cond.initialized (yX5_init).cls ∈ zw := zw_1 10 (by decide +kernel) (by decide +kernel)
theorem lnm_X5_init : Cond.instanceMethod yX5_init ∈ zw := zw_1 132 (by decide +kernel) (by decide +kernel)
theorem ln_X2_init : Cond.code yX2_init cX2_init 1 none ∈ zw := zw_6 150 (by decide +kernel) (by decide +kernel)
theorem lni_X2_init : Cond.initialized (yX2_init).cls ∈ zw := zw_1 32 (by decide +kernel) (by decide +kernel)
theorem lnm_X2_init : Cond.instanceMethod yX2_init ∈ zw := zw_6 149 (by decide +kernel) (by decide +kernel)
theorem lnm_X11_init : Cond.instanceMethod yX11_init ∈ zw := zw_1 36 (by decide +kernel) (by decide +kernel)
theorem lnm_X4_init : Cond.instanceMethod yX4_init ∈ zw := zw_5 20 (by decide +kernel) (by decide +kernel)
theorem lnm_X6_init : Cond.instanceMethod yX6_init ∈ zw := zw_1 124 (by decide +kernel) (by decide +kernel)
theorem lnm_X7_init : Cond.instanceMethod yX7_init ∈ zw := zw_6 41 (by decide +kernel) (by decide +kernel)
theorem lnm_X8_init : Cond.instanceMethod yX8_init ∈ zw := zw_2 197 (by decide +kernel) (by decide +kernel)
theorem lnm_X10_init : Cond.instanceMethod yX10_init ∈ zw := zw_4 69 (by decide +kernel) (by decide +kernel)
theorem lnm_X12_init : Cond.instanceMethod yX12_init ∈ zw := zw_7 1 (by decide +kernel) (by decide +kernel)
theorem lnm_Jxa1e45_init_da8c8 : Cond.instanceMethod yJxa1e45_init_da8c8 ∈ zw := zw_1 50 (by decide +kernel) (by decide +kernel)
theorem lnm_Jxc12de_init_da8c8 : Cond.instanceMethod yJxc12de_init_da8c8 ∈ zw := zw_1 47 (by decide +kernel) (by decide +kernel)
theorem lnm_Jx4a65c_init_da8c8 : Cond.instanceMethod yJx4a65c_init_da8c8 ∈ zw := zw_1 44 (by decide +kernel) (by decide +kernel)
theorem lcp_J7_150 : zCpw RJ7 150 := ⟨zw_3 37 (by decide +kernel) (by decide +kernel), zw_3 39 (by decide +kernel) (by decide +kernel), zw_3 38 (by decide +kernel) (by decide +kernel), zw_1 21 (by decide +kernel) (by decide +kernel)⟩
theorem lgc_1 : Cond.methodLink RJ7 86 ⟨"java/lang/Object", "getClass", "()Ljava/lang/Class;"⟩ ∈ zw := zw_3 8 (by decide +kernel) (by decide +kernel)
theorem lgc_2 : Cond.selects "[Ljava/lang/Object;" ⟨"java/lang/Object", "getClass", "()Ljava/lang/Class;"⟩ ⟨"java/lang/Object", "getClass", "()Ljava/lang/Class;"⟩ ∈ zw := zw_9 237 (by decide +kernel) (by decide +kernel)
theorem lgc_3 : Cond.instanceMethod ⟨"java/lang/Object", "getClass", "()Ljava/lang/Class;"⟩ ∈ zw := zw_3 9 (by decide +kernel) (by decide +kernel)
theorem lgc_4 : Cond.native ⟨"java/lang/Object", "getClass", "()Ljava/lang/Class;"⟩ ∈ zw := zw_3 27 (by decide +kernel) (by decide +kernel)
theorem fz_Jx4a65c_63 : zFs RJx4a65c 63 0 0 "java/util/ArrayList" := ⟨RJx4a65c, TJx4a65c, 3, tyJx4a65c, .int, rfl, in_Jx4a65c, by decide, zw_1 58 (by decide +kernel) (by decide +kernel), zw_1 59 (by decide +kernel) (by decide +kernel), tyJx4a65c_ok, nmJx4a65c, rfl, rfl, rfl⟩
theorem fq_Jxc12de_7 : zPl RJxc12de 7 0 0 .int false := ⟨RJx4a65c, TJx4a65c, 3, tyJx4a65c, rfl, in_Jx4a65c, by decide, zw_1 57 (by decide +kernel) (by decide +kernel), tyJx4a65c_ok, nmJx4a65c, rfl, rfl, fun h => nomatch h⟩
end COPY
