section ZT
variable {Z : zZ} {p : Program} {l : Launch} {e : Env} {R : Room} {s : State} {m : MethodId} {args : Array Value} {below : List Frame} {meth : Method} {c : Code} {Q : State → Prop} {cells slots : Nat} {ad0 : Nat → Nat} {h0 : zH}
variable {mk : zMk} {st : zTs} {pc nL : Nat} {lc : List (Option Value)} {rest : List Value} {cc : ByteArray} {own : String}
theorem t_get (C : zC Z p s m args meth c cc nL own) {k i ci j idx a : Nat} {v : Value} (d : decode cc pc = .ok (.getfield idx, 3)) (hw : zFl own idx ci j) (hk : k < 200) (ha : a = k + 256 * i) (hf : ∃ fs, zsh Z.2.1 mk st k i = .inr (ci, fs) ∧ fs[j]? = some v) (kk : zG Z ad0 h0 p l e R s m args below meth c Q cells slots (zh Z mk st) nL (pc + 3) lc (v :: rest)) : zG Z ad0 h0 p l e R s m args below meth c Q cells slots (zh Z mk st) nL pc lc (.ref a :: rest) := by
  intro ad H locs ls hP hS hE hL hl hv
  obtain ⟨fs, e1, e2⟩ := hf
  subst ha
  have e3 := zh_at hk hv.hd
  rw [e1] at e3
  exact z_get C d hw e3 e2 kk ad H locs ls hP hS hE hL hl hv
theorem t_put (C : zC Z p s m args meth c cc nL own) {k i ci j idx a : Nat} {ty : FieldType} {fin : Bool} {v : Value} {mk' : zMk} {st' : zTs} (d : decode cc pc = .ok (.putfield idx, 3)) (hw : zPl own idx ci j ty fin) (hfin : fin = false ∨ meth.name = "<init>") (hk : k < 200) (ha : a = k + 256 * i) (hnf : narrow ty v = v ∧ fits ty v = true) (hu : zPu Z.2.1 mk st k i mk' st' ci j v) (kk : zG Z ad0 h0 p l e R s m args below meth c Q cells slots (zh Z mk' st') nL (pc + 3) lc (rest)) : zG Z ad0 h0 p l e R s m args below meth c Q cells slots (zh Z mk st) nL pc lc (v :: .ref a :: rest) := by
  intro ad H locs ls hP hS hE hL hl hv
  obtain ⟨u1, u2, fs, u3, u4, u5⟩ := hu
  subst ha
  have e3 := zh_at hk hv.tl.hd
  rw [u3] at e3
  exact z_put C d hw hfin hnf.1 hnf.2 e3 u4 (zh_up hk u1 u2 u5 hv.tl.hd) kk ad H locs ls hP hS hE hL hl hv
theorem t_iald (C : zC Z p s m args meth c cc nL own) {k i a n : Nat} {f : Nat → Int32} {x : Int32} (d : decode cc pc = .ok (.iaload, 1)) (hk : k < 200) (ha : a = k + 256 * i) (hs : zsh Z.2.1 mk st k i = .inl (Z.2.1 0, n, .inl f)) (hi : vp_in x n) (kk : zG Z ad0 h0 p l e R s m args below meth c Q cells slots (zh Z mk st) nL (pc + 1) lc (.int (f x.toNatClampNeg) :: rest)) : zG Z ad0 h0 p l e R s m args below meth c Q cells slots (zh Z mk st) nL pc lc (.int x :: .ref a :: rest) := by
  intro ad H locs ls hP hS hE hL hl hv
  subst ha
  have e3 := zh_at hk hv.tl.hd
  rw [hs] at e3
  exact z_iald C d e3 hi kk ad H locs ls hP hS hE hL hl hv
theorem t_bald (C : zC Z p s m args meth c cc nL own) {k i a n : Nat} {f : Nat → Int32} {x : Int32} (d : decode cc pc = .ok (.baload, 1)) (hk : k < 200) (ha : a = k + 256 * i) (hs : zsh Z.2.1 mk st k i = .inl (Z.2.1 1, n, .inl f)) (hi : vp_in x n) (kk : zG Z ad0 h0 p l e R s m args below meth c Q cells slots (zh Z mk st) nL (pc + 1) lc (.int (f x.toNatClampNeg) :: rest)) : zG Z ad0 h0 p l e R s m args below meth c Q cells slots (zh Z mk st) nL pc lc (.int x :: .ref a :: rest) := by
  intro ad H locs ls hP hS hE hL hl hv
  subst ha
  have e3 := zh_at hk hv.tl.hd
  rw [hs] at e3
  exact z_bald C d e3 hi kk ad H locs ls hP hS hE hL hl hv
theorem t_zald (C : zC Z p s m args meth c cc nL own) {k i a n : Nat} {f : Nat → Int32} {x : Int32} (d : decode cc pc = .ok (.baload, 1)) (hk : k < 200) (ha : a = k + 256 * i) (hs : zsh Z.2.1 mk st k i = .inl (Z.2.1 2, n, .inl f)) (hi : vp_in x n) (kk : zG Z ad0 h0 p l e R s m args below meth c Q cells slots (zh Z mk st) nL (pc + 1) lc (.int (f x.toNatClampNeg) :: rest)) : zG Z ad0 h0 p l e R s m args below meth c Q cells slots (zh Z mk st) nL pc lc (.int x :: .ref a :: rest) := by
  intro ad H locs ls hP hS hE hL hl hv
  subst ha
  have e3 := zh_at hk hv.tl.hd
  rw [hs] at e3
  exact z_zald C d e3 hi kk ad H locs ls hP hS hE hL hl hv
theorem t_iast (C : zC Z p s m args meth c cc nL own) {k i a n : Nat} {y x : Int32} (d : decode cc pc = .ok (.iastore, 1)) (hk : k < 200) (ha : a = k + 256 * i) (hs : ∀ s9, zsh Z.2.1 mk s9 k i = .inl (Z.2.1 0, n, .inl (zgA s9 k i))) (hi : vp_in y n) (kk : zG Z ad0 h0 p l e R s m args below meth c Q cells slots (zh Z mk (zuA st k i y.toNatClampNeg x)) nL (pc + 1) lc (rest)) : zG Z ad0 h0 p l e R s m args below meth c Q cells slots (zh Z mk st) nL pc lc (.int x :: .int y :: .ref a :: rest) := by
  intro ad H locs ls hP hS hE hL hl hv
  subst ha
  have e3 := zh_at hk hv.tl.tl.hd
  rw [hs] at e3
  exact z_iast C d e3 hi (zh_up (st' := zuA st k i y.toNatClampNeg x) hk rfl zo_A (by rw [hs, zs_A]; rfl) hv.tl.tl.hd) kk ad H locs ls hP hS hE hL hl hv
theorem t_bast (C : zC Z p s m args meth c cc nL own) {k i a n : Nat} {y x : Int32} (d : decode cc pc = .ok (.bastore, 1)) (hk : k < 200) (ha : a = k + 256 * i) (hs : ∀ s9, zsh Z.2.1 mk s9 k i = .inl (Z.2.1 1, n, .inl (zgA s9 k i))) (hi : vp_in y n) (kk : zG Z ad0 h0 p l e R s m args below meth c Q cells slots (zh Z mk (zuA st k i y.toNatClampNeg (vp_nar .byte x))) nL (pc + 1) lc (rest)) : zG Z ad0 h0 p l e R s m args below meth c Q cells slots (zh Z mk st) nL pc lc (.int x :: .int y :: .ref a :: rest) := by
  intro ad H locs ls hP hS hE hL hl hv
  subst ha
  have e3 := zh_at hk hv.tl.tl.hd
  rw [hs] at e3
  exact z_bast C d e3 hi (zh_up (st' := zuA st k i y.toNatClampNeg (vp_nar .byte x)) hk rfl zo_A (by rw [hs, zs_A]; rfl) hv.tl.tl.hd) kk ad H locs ls hP hS hE hL hl hv
theorem t_zast (C : zC Z p s m args meth c cc nL own) {k i a n : Nat} {y x : Int32} (d : decode cc pc = .ok (.bastore, 1)) (hk : k < 200) (ha : a = k + 256 * i) (hs : ∀ s9, zsh Z.2.1 mk s9 k i = .inl (Z.2.1 2, n, .inl (zgA s9 k i))) (hi : vp_in y n) (kk : zG Z ad0 h0 p l e R s m args below meth c Q cells slots (zh Z mk (zuA st k i y.toNatClampNeg (vp_nar .boolean x))) nL (pc + 1) lc (rest)) : zG Z ad0 h0 p l e R s m args below meth c Q cells slots (zh Z mk st) nL pc lc (.int x :: .int y :: .ref a :: rest) := by
  intro ad H locs ls hP hS hE hL hl hv
  subst ha
  have e3 := zh_at hk hv.tl.tl.hd
  rw [hs] at e3
  exact z_zast C d e3 hi (zh_up (st' := zuA st k i y.toNatClampNeg (vp_nar .boolean x)) hk rfl zo_A (by rw [hs, zs_A]; rfl) hv.tl.tl.hd) kk ad H locs ls hP hS hE hL hl hv
theorem t_alen (C : zC Z p s m args meth c cc nL own) {k i a t n : Nat} {f : Nat → Int32} {ty : FieldType} {v : Int32} (d : decode cc pc = .ok (.arraylength, 1)) (hk : k < 200) (ha : a = k + 256 * i) (hs : zsh Z.2.1 mk st k i = .inl (Z.2.1 t, n, .inl f)) (ht : (zt Z)[t]? = some (Z.2.1 t, ty)) (hv0 : Int32.ofNat n = v) (kk : zG Z ad0 h0 p l e R s m args below meth c Q cells slots (zh Z mk st) nL (pc + 1) lc (.int v :: rest)) : zG Z ad0 h0 p l e R s m args below meth c Q cells slots (zh Z mk st) nL pc lc (.ref a :: rest) := by
  intro ad H locs ls hP hS hE hL hl hv
  subst ha
  have e3 := zh_at hk hv.hd
  rw [hs] at e3
  exact z_alen (n := 0) C d e3 ht hv0 kk ad H locs ls hP hS hE hL hl hv
theorem t_topi {h : zH} {x : Int32} (k : ∀ y : Int32, y = x → zG Z ad0 h0 p l e R s m args below meth c Q cells slots h nL pc lc (.int y :: rest)) : zG Z ad0 h0 p l e R s m args below meth c Q cells slots h nL pc lc (.int x :: rest) := k x rfl
theorem t_topl {h : zH} {x : Int64} (k : ∀ y : Int64, y = x → zG Z ad0 h0 p l e R s m args below meth c Q cells slots h nL pc lc (.long y :: rest)) : zG Z ad0 h0 p l e R s m args below meth c Q cells slots h nL pc lc (.long x :: rest) := k x rfl
theorem t_tops {stk : List Value} (k : ∀ s9 : zTs, s9 = st → zG Z ad0 h0 p l e R s m args below meth c Q cells slots (zh Z mk s9) nL pc lc (stk)) : zG Z ad0 h0 p l e R s m args below meth c Q cells slots (zh Z mk st) nL pc lc (stk) := k st rfl
def zdr : List Bool → List (Option Value) → List (Option Value)
  | true :: a, x :: b => x :: zdr a b
  | false :: a, _ :: b => none :: zdr a b
  | _, _ => []
theorem zdr_at : ∀ (a : List Bool) (b : List (Option Value)) (i : Nat) (v : Value), (zdr a b)[i]? = some (some v) → b[i]? = some (some v)
  | true :: a, x :: b, 0, v, h => h
  | false :: a, x :: b, 0, v, h => by cases h
  | true :: a, x :: b, i + 1, v, h => zdr_at a b i v h
  | false :: a, x :: b, i + 1, v, h => zdr_at a b i v h
  | [], _, _, v, h => by cases h
  | true :: _, [], _, v, h => by cases h
  | false :: _, [], _, v, h => by cases h
theorem t_drop {h : zH} {lc' : List (Option Value)} {stk : List Value} (mask : List Bool) (he : zdr mask lc = lc') (k : zG Z ad0 h0 p l e R s m args below meth c Q cells slots h nL pc lc' (stk)) : zG Z ad0 h0 p l e R s m args below meth c Q cells slots h nL pc lc (stk) := zG.less (fun i v q => zdr_at mask lc i v (by rw [he]; exact q)) k
/-- the ends of calls: R.. where nothing of the state changes, W.. where it does -/
def zRi (Z : zZ) (st : zTs) (P : Int32 → Prop) : Option Value → zH → Prop := fun v h => h = zh Z zm1 st ∧ ∃ r, v = some (.int r) ∧ P r
def zRl (Z : zZ) (st : zTs) (P : Int64 → Prop) : Option Value → zH → Prop := fun v h => h = zh Z zm1 st ∧ ∃ r, v = some (.long r) ∧ P r
def zRv (Z : zZ) (st : zTs) (P : Prop) : Option Value → zH → Prop := fun v h => h = zh Z zm1 st ∧ v = none ∧ P
def zRr (Z : zZ) (st : zTs) (k : Nat) (P : Nat → Prop) : Option Value → zH → Prop := fun v h => h = zh Z zm1 st ∧ ∃ r, v = some (.ref (k + 256 * r)) ∧ P r
def zWi (Z : zZ) (P : Int32 → zTs → Prop) : Option Value → zH → Prop := fun v h => ∃ r s9, v = some (.int r) ∧ h = zh Z zm1 s9 ∧ P r s9
def zWl (Z : zZ) (P : Int64 → zTs → Prop) : Option Value → zH → Prop := fun v h => ∃ r s9, v = some (.long r) ∧ h = zh Z zm1 s9 ∧ P r s9
def zWv (Z : zZ) (mk : zMk) (P : zTs → Prop) : Option Value → zH → Prop := fun v h => ∃ s9, v = none ∧ h = zh Z mk s9 ∧ P s9
def zWr (Z : zZ) (k : Nat) (P : Nat → zTs → Prop) : Option Value → zH → Prop := fun v h => ∃ r s9, v = some (.ref (k + 256 * r)) ∧ h = zh Z zm1 s9 ∧ P r s9
def zWo (Z : zZ) (k : Nat) (P : Option Nat → zTs → Prop) : Option Value → zH → Prop := fun v h => ∃ r s9, v = some (va_rf (r.map fun y => k + 256 * y)) ∧ h = zh Z zm1 s9 ∧ P r s9
def zXs (Z : zZ) (X : Nat → zTs → Prop) : Nat → zH → Prop := fun k h => ∃ s9, h = zh Z zm1 s9 ∧ X k s9
def zXr (Z : zZ) (st : zTs) (X : Nat → Prop) : Nat → zH → Prop := fun k h => h = zh Z zm1 st ∧ X k
theorem k_Ri {P : Int32 → Prop} (k : ∀ r, P r → zG Z ad0 h0 p l e R s m args below meth c Q cells slots (zh Z zm1 st) nL pc lc (.int r :: rest)) : ∀ v h1, zRi Z st P v h1 → zG Z ad0 h0 p l e R s m args below meth c Q cells slots h1 nL pc lc (v.toList ++ rest) := by
  rintro v h1 ⟨rfl, r, rfl, hp⟩
  exact k r hp
theorem k_Rl {P : Int64 → Prop} (k : ∀ r, P r → zG Z ad0 h0 p l e R s m args below meth c Q cells slots (zh Z zm1 st) nL pc lc (.long r :: rest)) : ∀ v h1, zRl Z st P v h1 → zG Z ad0 h0 p l e R s m args below meth c Q cells slots h1 nL pc lc (v.toList ++ rest) := by
  rintro v h1 ⟨rfl, r, rfl, hp⟩
  exact k r hp
theorem k_Rv {P : Prop} (k : P → zG Z ad0 h0 p l e R s m args below meth c Q cells slots (zh Z zm1 st) nL pc lc (rest)) : ∀ v h1, zRv Z st P v h1 → zG Z ad0 h0 p l e R s m args below meth c Q cells slots h1 nL pc lc (v.toList ++ rest) := by
  rintro v h1 ⟨rfl, rfl, hp⟩
  exact k hp
theorem k_Rr {k0 : Nat} {P : Nat → Prop} (k : ∀ r, P r → zG Z ad0 h0 p l e R s m args below meth c Q cells slots (zh Z zm1 st) nL pc lc (.ref (k0 + 256 * r) :: rest)) : ∀ v h1, zRr Z st k0 P v h1 → zG Z ad0 h0 p l e R s m args below meth c Q cells slots h1 nL pc lc (v.toList ++ rest) := by
  rintro v h1 ⟨rfl, r, rfl, hp⟩
  exact k r hp
theorem k_Wi {P : Int32 → zTs → Prop} (k : ∀ r s9, P r s9 → zG Z ad0 h0 p l e R s m args below meth c Q cells slots (zh Z zm1 s9) nL pc lc (.int r :: rest)) : ∀ v h1, zWi Z P v h1 → zG Z ad0 h0 p l e R s m args below meth c Q cells slots h1 nL pc lc (v.toList ++ rest) := by
  rintro v h1 ⟨r, s9, rfl, rfl, hp⟩
  exact k r s9 hp
theorem k_Wl {P : Int64 → zTs → Prop} (k : ∀ r s9, P r s9 → zG Z ad0 h0 p l e R s m args below meth c Q cells slots (zh Z zm1 s9) nL pc lc (.long r :: rest)) : ∀ v h1, zWl Z P v h1 → zG Z ad0 h0 p l e R s m args below meth c Q cells slots h1 nL pc lc (v.toList ++ rest) := by
  rintro v h1 ⟨r, s9, rfl, rfl, hp⟩
  exact k r s9 hp
theorem k_Wv {P : zTs → Prop} (k : ∀ s9, P s9 → zG Z ad0 h0 p l e R s m args below meth c Q cells slots (zh Z mk s9) nL pc lc (rest)) : ∀ v h1, zWv Z mk P v h1 → zG Z ad0 h0 p l e R s m args below meth c Q cells slots h1 nL pc lc (v.toList ++ rest) := by
  rintro v h1 ⟨s9, rfl, rfl, hp⟩
  exact k s9 hp
theorem k_Wr {k0 : Nat} {P : Nat → zTs → Prop} (k : ∀ r s9, P r s9 → zG Z ad0 h0 p l e R s m args below meth c Q cells slots (zh Z zm1 s9) nL pc lc (.ref (k0 + 256 * r) :: rest)) : ∀ v h1, zWr Z k0 P v h1 → zG Z ad0 h0 p l e R s m args below meth c Q cells slots h1 nL pc lc (v.toList ++ rest) := by
  rintro v h1 ⟨r, s9, rfl, rfl, hp⟩
  exact k r s9 hp
theorem k_Wo {k0 : Nat} {P : Option Nat → zTs → Prop} (k : ∀ r s9, P r s9 → zG Z ad0 h0 p l e R s m args below meth c Q cells slots (zh Z zm1 s9) nL pc lc (va_rf (r.map fun y => k0 + 256 * y) :: rest)) : ∀ v h1, zWo Z k0 P v h1 → zG Z ad0 h0 p l e R s m args below meth c Q cells slots h1 nL pc lc (v.toList ++ rest) := by
  rintro v h1 ⟨r, s9, rfl, rfl, hp⟩
  exact k r s9 hp

theorem t_callS (C : zC Z p s m args meth c cc nL own)  {idx maxL n c2 s2 : Nat} {y : MethodName} {bytes : ByteArray} {ret : Option FieldType} {rm : Room} {stk : List Value} {P1 : Option Value → zH → Prop} (av : List Value) (d : decode cc pc = .ok (.invokestatic idx, 3)) (k : zLk own idx y bytes maxL ret n) (hst : Cond.static y ∈ zw) (hM : zN Z l y bytes maxL ret rm (zh Z mk st) av P1) (he : stk = av.reverse ++ rest) (hn : av.length = n) (hR : rm.frames + 1 ≤ R.frames ∧ 8 + (maxL + 11) + rm.locals ≤ R.locals) (hw8 : (rest.map fun v => v.category).sum ≤ 8) (hq : cells + rm.cells ≤ c2 ∧ slots + rm.slots ≤ s2 ∧ c2 ≤ R.cells ∧ s2 ≤ R.slots) 
    (kk : ∀ (v : Option Value) (h1 : zH), P1 v h1 → zG Z ad0 h0 p l e R s m args below meth c Q c2 s2 h1 nL (pc + 3) lc (v.toList ++ rest)) : zG Z ad0 h0 p l e R s m args below meth c Q cells slots (zh Z mk st) nL pc lc (stk) :=
  z_callS C  d k hst hM he hn hR hw8 ⟨Nat.le_trans hq.1 hq.2.2.1, Nat.le_trans hq.2.1 hq.2.2.2⟩  (fun v h1 hp => zG.wide hq.1 hq.2.1 (kk v h1 hp))
theorem t_callV (C : zC Z p s m args meth c cc nL own)  {idx maxL n b kd i ci N c2 s2 : Nat} {T : u_T} {y : MethodName} {bytes : ByteArray} {ret : Option FieldType} {rm : Room} {stk : List Value} {P1 : Option Value → zH → Prop} (av : List Value) (d : decode cc pc = .ok (.invokevirtual idx, 3)) (k : zLk own idx y bytes maxL ret n) (hi : Cond.instanceMethod y ∈ zw) (hse : Cond.selects y.cls y y ∈ zw) (hM : zN Z l y bytes maxL ret rm (zh Z mk st) (.ref b :: av) P1) (he : stk = av.reverse ++ .ref b :: rest) (hn : av.length = n) (hk : kd < 200) (hb : b = kd + 256 * i) (hs : ∃ fs, zsh Z.2.1 mk st kd i = .inr (ci, fs)) (hc : vwCl[ci]? = some (y.cls, T, N)) (hR : rm.frames + 1 ≤ R.frames ∧ 8 + (maxL + 11) + rm.locals ≤ R.locals) (hw8 : (rest.map fun v => v.category).sum ≤ 8) (hq : cells + rm.cells ≤ c2 ∧ slots + rm.slots ≤ s2 ∧ c2 ≤ R.cells ∧ s2 ≤ R.slots) 
    (kk : ∀ (v : Option Value) (h1 : zH), P1 v h1 → zG Z ad0 h0 p l e R s m args below meth c Q c2 s2 h1 nL (pc + 3) lc (v.toList ++ rest)) : zG Z ad0 h0 p l e R s m args below meth c Q cells slots (zh Z mk st) nL pc lc (stk) := by
  intro ad H locs ls hP hS hE hL hl hv
  obtain ⟨fs, e1⟩ := hs
  have e3 := zh_at (Z := Z) (mk := mk) (st := st) hk (by rw [← hb]; exact hv (.ref b) (by rw [he]; exact List.mem_append_right _ List.mem_cons_self))
  rw [e1, ← hb] at e3
  exact z_callV C  d k hi hse hM he hn e3 hc hR hw8 ⟨Nat.le_trans hq.1 hq.2.2.1, Nat.le_trans hq.2.1 hq.2.2.2⟩  (fun v h1 hp => zG.wide hq.1 hq.2.1 (kk v h1 hp)) ad H locs ls hP hS hE hL hl hv
theorem t_callI (C : zC Z p s m args meth c cc nL own) {idx maxL n b c2 s2 : Nat} {y : MethodName} {bytes : ByteArray} {rm : Room} {stk : List Value} {P1 : Option Value → zH → Prop} (av : List Value) (d : decode cc pc = .ok (.invokespecial idx, 3)) (k : zLk own idx y bytes maxL none n) (hi : Cond.instanceMethod y ∈ zw) (hy : y.name = "<init>") (hM : zN Z l y bytes maxL none rm (zh Z mk st) (.ref b :: av) P1) (he : stk = av.reverse ++ .ref b :: rest) (hn : av.length = n) (hR : rm.frames + 1 ≤ R.frames ∧ 8 + (maxL + 11) + rm.locals ≤ R.locals) (hw8 : (rest.map fun v => v.category).sum ≤ 8) (hq : cells + rm.cells ≤ c2 ∧ slots + rm.slots ≤ s2 ∧ c2 ≤ R.cells ∧ s2 ≤ R.slots)
    (kk : ∀ (v : Option Value) (h1 : zH), P1 v h1 → zG Z ad0 h0 p l e R s m args below meth c Q c2 s2 h1 nL (pc + 3) lc (v.toList ++ rest)) : zG Z ad0 h0 p l e R s m args below meth c Q cells slots (zh Z mk st) nL pc lc (stk) :=
  z_callI C d k hi hy hM he hn hR hw8 ⟨Nat.le_trans hq.1 hq.2.2.1, Nat.le_trans hq.2.1 hq.2.2.2⟩ (fun v h1 hp => zG.wide hq.1 hq.2.1 (kk v h1 hp))
theorem t_callSM (C : zC Z p s m args meth c cc nL own) {X0 X1 : Nat → zH → Prop} {P0 : Option Value → zH → Prop} {mc0 ms0 : Nat} (hex : ∀ x ∈ c.exceptionTable.toList, False) {idx maxL n c2 s2 : Nat} {y : MethodName} {bytes : ByteArray} {ret : Option FieldType} {rm : Room} {stk : List Value} {P1 : Option Value → zH → Prop} (av : List Value) (d : decode cc pc = .ok (.invokestatic idx, 3)) (k : zLk own idx y bytes maxL ret n) (hst : Cond.static y ∈ zw) (hM : zM Z l y bytes maxL ret rm (zh Z mk st) av P1 X1) (he : stk = av.reverse ++ rest) (hn : av.length = n) (hR : rm.frames + 1 ≤ R.frames ∧ 8 + (maxL + 11) + rm.locals ≤ R.locals) (hw8 : (rest.map fun v => v.category).sum ≤ 8) (hq : cells + rm.cells ≤ c2 ∧ slots + rm.slots ≤ s2 ∧ c2 ≤ R.cells ∧ s2 ≤ R.slots) (hx : ∀ k h1, X1 k h1 → X0 k h1) (hm : c2 ≤ mc0 ∧ s2 ≤ ms0)
    (kk : ∀ (v : Option Value) (h1 : zH), P1 v h1 → zG Z ad0 h0 p l e R s m args below meth c (vx_MQ below (zQ Z ad0 h0 P0) (zX Z ad0 h0 X0) args s mc0 ms0 (zA Z)) c2 s2 h1 nL (pc + 3) lc (v.toList ++ rest)) : zG Z ad0 h0 p l e R s m args below meth c (vx_MQ below (zQ Z ad0 h0 P0) (zX Z ad0 h0 X0) args s mc0 ms0 (zA Z)) cells slots (zh Z mk st) nL pc lc (stk) :=
  z_callSM C hex d k hst hM he hn hR hw8 ⟨Nat.le_trans hq.1 hq.2.2.1, Nat.le_trans hq.2.1 hq.2.2.2⟩ hx (Nat.le_trans hq.1 hm.1) (Nat.le_trans hq.2.1 hm.2) (fun v h1 hp => zG.wide hq.1 hq.2.1 (kk v h1 hp))
theorem t_callVM (C : zC Z p s m args meth c cc nL own) {X0 X1 : Nat → zH → Prop} {P0 : Option Value → zH → Prop} {mc0 ms0 : Nat} (hex : ∀ x ∈ c.exceptionTable.toList, False) {idx maxL n b kd i ci N c2 s2 : Nat} {T : u_T} {y : MethodName} {bytes : ByteArray} {ret : Option FieldType} {rm : Room} {stk : List Value} {P1 : Option Value → zH → Prop} (av : List Value) (d : decode cc pc = .ok (.invokevirtual idx, 3)) (k : zLk own idx y bytes maxL ret n) (hi : Cond.instanceMethod y ∈ zw) (hse : Cond.selects y.cls y y ∈ zw) (hM : zM Z l y bytes maxL ret rm (zh Z mk st) (.ref b :: av) P1 X1) (he : stk = av.reverse ++ .ref b :: rest) (hn : av.length = n) (hk : kd < 200) (hb : b = kd + 256 * i) (hs : ∃ fs, zsh Z.2.1 mk st kd i = .inr (ci, fs)) (hc : vwCl[ci]? = some (y.cls, T, N)) (hR : rm.frames + 1 ≤ R.frames ∧ 8 + (maxL + 11) + rm.locals ≤ R.locals) (hw8 : (rest.map fun v => v.category).sum ≤ 8) (hq : cells + rm.cells ≤ c2 ∧ slots + rm.slots ≤ s2 ∧ c2 ≤ R.cells ∧ s2 ≤ R.slots) (hx : ∀ k h1, X1 k h1 → X0 k h1) (hm : c2 ≤ mc0 ∧ s2 ≤ ms0)
    (kk : ∀ (v : Option Value) (h1 : zH), P1 v h1 → zG Z ad0 h0 p l e R s m args below meth c (vx_MQ below (zQ Z ad0 h0 P0) (zX Z ad0 h0 X0) args s mc0 ms0 (zA Z)) c2 s2 h1 nL (pc + 3) lc (v.toList ++ rest)) : zG Z ad0 h0 p l e R s m args below meth c (vx_MQ below (zQ Z ad0 h0 P0) (zX Z ad0 h0 X0) args s mc0 ms0 (zA Z)) cells slots (zh Z mk st) nL pc lc (stk) := by
  intro ad H locs ls hP hS hE hL hl hv
  obtain ⟨fs, e1⟩ := hs
  have e3 := zh_at (Z := Z) (mk := mk) (st := st) hk (by rw [← hb]; exact hv (.ref b) (by rw [he]; exact List.mem_append_right _ List.mem_cons_self))
  rw [e1, ← hb] at e3
  exact z_callVM C hex d k hi hse hM he hn e3 hc hR hw8 ⟨Nat.le_trans hq.1 hq.2.2.1, Nat.le_trans hq.2.1 hq.2.2.2⟩ hx (Nat.le_trans hq.1 hm.1) (Nat.le_trans hq.2.1 hm.2) (fun v h1 hp => zG.wide hq.1 hq.2.1 (kk v h1 hp)) ad H locs ls hP hS hE hL hl hv
end ZT
