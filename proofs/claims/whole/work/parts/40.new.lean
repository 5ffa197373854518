/-! NEW OBJECTS AND ARRAYS -/
section NEWS
variable {Z : zZ} {p : Program} {l : Launch} {e : Env} {R : Room} {s : State} {m : MethodId} {args : Array Value} {below : List Frame} {meth : Method} {c : Code} {Q : State → Prop} {cells slots : Nat} {ad0 : Nat → Nat} {h0 : zH}
variable {h : zH} {pc nL : Nat} {lc : List (Option Value)} {rest : List Value} {cc : ByteArray} {own : String} {mk : zMk} {st : zTs}
/-- a new cell, at the virtual address a -/
theorem z_fresh {ad : Nat → Nat} {H1 : Heap} {locs : List Loc} {ls : Array Slot} {q : Nat} {L : List Nat} {f : Nat → va_E} {a pcn : Nat} {e1 : va_E} {h' : zH} (P3 : ∀ a e, h a = some e → ad a ∈ L ∧ f (ad a) = ze ad e ∧ zcl h e) (P4 : ∀ a b, h a ≠ none → h b ≠ none → ad a = ad b → a = b) (P5 : ∀ a, 200 ≤ a % 256 → ad a = Z.2.2.2 a ∧ h a = none)
    (hE : zE ad0 h0 ad h) (hL : zL ad ls nL lc) (hl : zlo h lc) (hv : zso h rest) (ha : h a = none) (hcs : ¬ 200 ≤ a % 256) (hh : ∀ b, h' b = if b = a then some e1 else h b) (hc : zcl h e1) (Q1 : va_P Z.1 vwCl (va_pl L f ++ [(q, ze ad e1)]) H1) (Q2 : va_D (zA Z) (va_pl L f ++ [(q, ze ad e1)])) (Q3 : va_S (zA Z) s.heap H1 locs)
    (k : zG Z ad0 h0 p l e R s m args below meth c Q cells slots h' nL pcn lc (.ref a :: rest)) : W p l e R s m args below meth c H1 locs cells slots Q (F0 m pcn ls (.ref q :: rest.map (zv ad))) := by
  have hq : q ∉ L := fun hm => by
    obtain ⟨i, hi⟩ := va_pl_get (X := []) (f := f) hm
    have hi : (va_pl L f)[i]? = some (q, f q) := hi
    have hlt := (List.getElem?_eq_some_iff.mp hi).1
    have e := Q2.1 i (va_pl L f).length (q, f q) (q, ze ad e1) (by rw [List.getElem?_append_left hlt]; exact hi) (by rw [List.getElem?_append_right (Nat.le_refl _), Nat.sub_self]; rfl) rfl
    omega
  rw [va_pl_push hq] at Q1 Q2
  have kk := k (va_up ad a q) H1 locs ls (zP_new hq P3 P4 P5 ha hcs hh hc Q1 Q2) Q3 (zE_new hE ha hh) (zL_same ha hcs hl hL) (hl.mono (zd_set hh)) ((hv.mono (zd_set hh)).cn fun b hb => by
    cases hb
    refine Or.inl ?_
    rw [hh, if_pos rfl]
    exact Option.some_ne_none _)
  have e9 : (Value.ref a :: rest).map (zv (va_up ad a q)) = .ref q :: rest.map (zv ad) := by
    rw [List.map_cons, zmap_same ha hcs hv]
    exact congrArg (· :: _) (congrArg Value.ref (if_pos rfl))
  rw [e9] at kk
  exact kk
/-- what new of the class number ci wants -/
def zNl (own : String) (idx ci N : Nat) (fs : List Value) : Prop := ∃ (cn : String) (T : u_T) (ty : Nat → FieldType), vwCl[ci]? = some (cn, T, N) ∧ (∀ w ∈ u_ws cn T N, w ∈ zw) ∧ Cond.classLink own idx cn ∈ zw ∧ Cond.instantiable cn N ∈ zw ∧ Cond.initialized cn ∈ zw ∧ (∀ k, k < N → parseFieldDescriptor (T k).2.2.1 = some (ty k)) ∧ ∀ j, j < N → defaultValue (ty j) = vp_V fs j
theorem z_new (C : zC Z p s m args meth c cc nL own) {idx ci N a : Nat} {fs : List Value} {h' : zH} (d : decode cc pc = .ok (.new idx, 3)) (hw : zNl own idx ci N fs) (hn : ∀ v ∈ fs, ∀ b, v ≠ .ref b) (ha : h a = none) (hcs : ¬ 200 ≤ a % 256) (hh : ∀ b, h' b = if b = a then some (.inr (ci, fs)) else h b) (hcl : cells + 1 ≤ R.cells) (hsl : slots + N ≤ R.slots)
    (k : zG Z ad0 h0 p l e R s m args below meth c Q (cells + 1) (slots + N) h' nL (pc + 3) lc (.ref a :: rest)) : zG Z ad0 h0 p l e R s m args below meth c Q cells slots h nL pc lc rest := by
  intro ad H locs ls hP hS hE hL hl hv
  obtain ⟨L, f, P1, P2, P3, P4, P5⟩ := id hP
  obtain ⟨cn, T, ty, w1, w2, w3, w4, w5, w6, w7⟩ := hw
  have ez : ze ad (.inr (ci, fs)) = .inr (ci, fs) := by
    refine congrArg (fun z : List Value => (Sum.inr (ci, z) : va_E)) ?_
    conv => rhs; rw [← List.map_id fs]
    refine List.map_congr_left fun v hv => ?_
    cases v with
    | ref b => exact absurd rfl (hn _ hv b)
    | _ => rfl
  refine va_new C.1 C.2.1 C.2.2.2.2.1 w2 ty w6 C.2.2.2.1 (C.2.2.2.2.1 _ w3) (C.2.2.2.2.1 _ w4) (C.2.2.2.2.1 _ w5) C.2.2.2.2.2.1 P1 P2 hS (fun q hq => Nat.le_trans C.2.2.2.2.2.2.2.1 hq) w1 w7 hcl hsl d (fun q H1 Q1 Q2 Q3 => ?_)
  rw [← ez] at Q1 Q2
  exact z_fresh P3 P4 P5 hE hL hl hv ha hcs hh (fun v hv b hb => absurd hb (hn v hv b)) Q1 Q2 Q3 k
theorem zcA_eq {cA : ClassId} {t : Nat} {ty : FieldType} (hK : va_K Z.1 vwCl (zt Z ++ [(cA, ty)]) s) (ht : (zt Z)[t]? = some (Z.2.1 t, ty)) : cA = Z.2.1 t := by
  have x1 := (hK.2 (zt Z).length (cA, ty) (by rw [List.getElem?_append_right (Nat.le_refl _), Nat.sub_self]; rfl)).2
  have x2 := (hK.2 t (Z.2.1 t, ty) (by rw [List.getElem?_append_left (List.getElem?_eq_some_iff.mp ht).1]; exact ht)).2
  cases ty with
  | object D =>
    obtain ⟨-, -, -, -, -, g1⟩ := x1
    obtain ⟨-, -, -, -, -, g2⟩ := x2
    exact Option.some.inj (g1.symm.trans g2)
  | _ => exact Option.some.inj (x1.symm.trans x2)
theorem z_newa (C : zC Z p s m args meth c cc nL own) {atype : ArrayType} {ty : FieldType} {t N' a : Nat} {n : Int32} {a0 : vp_A} {h' : zH} (d : decode cc pc = .ok (.newarray atype, 2)) (hw : Cond.arrayClass ty ∈ zw) (hty : newarray.typeOf atype = ty) (ht : (zt Z)[t]? = some (Z.2.1 t, ty)) (ha0 : ∀ cA : ClassId, vp_cell cA a0 = arrV cA N' (fun _ => defaultValue ty)) (hze : ∀ (ad : Nat → Nat) (cA : ClassId), ze ad (.inl (cA, a0)) = .inl (cA, a0)) (hz : zcl h (.inl (Z.2.1 t, a0))) (hn : ¬ n < 0) (hN : n.toNatClampNeg = N') (hby : N' * componentBytes ty ≤ 536870912)
    (ha : h a = none) (hcs : ¬ 200 ≤ a % 256) (hh : ∀ b, h' b = if b = a then some (.inl (Z.2.1 t, a0)) else h b) (hcl : cells + 1 ≤ R.cells) (hsl : slots + N' ≤ R.slots)
    (k : zG Z ad0 h0 p l e R s m args below meth c Q (cells + 1) (slots + N') h' nL (pc + 2) lc (.ref a :: rest)) : zG Z ad0 h0 p l e R s m args below meth c Q cells slots h nL pc lc (.int n :: rest) := by
  intro ad H locs ls hP hS hE hL hl hv
  obtain ⟨L, f, P1, P2, P3, P4, P5⟩ := id hP
  subst hty
  refine va_newa C.1 C.2.1 (C.2.2.2.2.1 _ hw) rfl C.2.2.2.2.2.1 P1 P2 hS (fun q hq => Nat.le_trans C.2.2.2.2.2.2.2.1 hq) ha0 hn hN hby hcl hsl d (fun q cA H1 Q0 Q1 Q2 Q3 => ?_)
  have eA := zcA_eq Q0 ht
  subst eA
  rw [← hze ad] at Q1 Q2
  exact z_fresh P3 P4 P5 hE hL hl hv.tl ha hcs hh hz Q1 Q2 Q3 k
theorem z_newq (C : zC Z p s m args meth c cc nL own) {E : String} {idx t N' a : Nat} {n : Int32} {h' : zH} (d : decode cc pc = .ok (.anewarray idx, 3)) (hw : Cond.classLink own idx E ∈ zw) (hAO : va_AO E s) (ht : (zt Z)[t]? = some (Z.2.1 t, .object E)) (hn : ¬ n < 0) (hN : n.toNatClampNeg = N') (hby : N' * 4 ≤ 536870912)
    (ha : h a = none) (hcs : ¬ 200 ≤ a % 256) (hh : ∀ b, h' b = if b = a then some (.inl (Z.2.1 t, N', .inr (.inr (.inr (.inr (fun _ => none)))))) else h b) (hcl : cells + 1 ≤ R.cells) (hsl : slots + N' ≤ R.slots)
    (k : zG Z ad0 h0 p l e R s m args below meth c Q (cells + 1) (slots + N') h' nL (pc + 3) lc (.ref a :: rest)) : zG Z ad0 h0 p l e R s m args below meth c Q cells slots h nL pc lc (.int n :: rest) := by
  intro ad H locs ls hP hS hE hL hl hv
  obtain ⟨L, f, P1, P2, P3, P4, P5⟩ := id hP
  refine va_newq C.1 C.2.1 C.2.2.2.1 (C.2.2.2.2.1 _ hw) hAO C.2.2.2.2.2.1 P1 P2 hS (fun q hq => Nat.le_trans C.2.2.2.2.2.2.2.1 hq) hn hN hby hcl hsl d (fun q cA H1 Q0 Q1 Q2 Q3 => ?_)
  have eA := zcA_eq Q0 ht
  subst eA
  have ez : ze ad (.inl (Z.2.1 t, N', .inr (.inr (.inr (.inr (fun _ => none)))))) = .inl (Z.2.1 t, N', .inr (.inr (.inr (.inr (fun _ => none))))) := rfl
  rw [← ez] at Q1 Q2
  exact z_fresh P3 P4 P5 hE hL hl hv.tl ha hcs hh (fun i b hb => by cases hb) Q1 Q2 Q3 k
/-- a constructor of a nest mate -/
theorem z_callIN (C : zC Z p s m args meth c cc nL own) {idx maxL n b : Nat} {y : MethodName} {bytes : ByteArray} {rm : Room} {av stk : List Value} {P1 : Option Value → zH → Prop} (d : decode cc pc = .ok (.invokespecial idx, 3)) (hm : (own, idx, y, "PartyWalls") ∈ zmnest) (hco : Cond.code y bytes maxL none ∈ zw) (hini : Cond.initialized y.cls ∈ zw) (hd : y.cls ≠ "java/lang/invoke/MethodHandle" ∧ y.cls ≠ "java/lang/invoke/VarHandle" ∧ (parseMethodDescriptor y.desc).map (fun d => d.parameters.length) = some n) (hi : Cond.instanceMethod y ∈ zw) (hy : y.name = "<init>") (hM : zN Z l y bytes maxL none rm h (.ref b :: av) P1) (he : stk = av.reverse ++ .ref b :: rest) (hn : av.length = n) (hR : rm.frames + 1 ≤ R.frames ∧ 8 + (maxL + 11) + rm.locals ≤ R.locals) (hw8 : (rest.map fun v => v.category).sum ≤ 8) (hf : cells + rm.cells ≤ R.cells ∧ slots + rm.slots ≤ R.slots)
    (kk : ∀ (v : Option Value) (h1 : zH), P1 v h1 → zG Z ad0 h0 p l e R s m args below meth c Q (cells + rm.cells) (slots + rm.slots) h1 nL (pc + 3) lc (v.toList ++ rest)) : zG Z ad0 h0 p l e R s m args below meth c Q cells slots h nL pc lc stk :=
  z_after (a1 := fun ad => ((.ref b :: av).map (zv ad)).toArray) (fun ad H locs ls hP hS hL hv => va_runIN (b := ad b) (As := av.map (zv ad)) ⟨C.1, C.2.1, C.2.2.1, C.2.2.2.1, C.2.2.2.2.1⟩ (hM ad) ⟨va_cnB (ws' := zw) (Ts := zw) (host := "PartyWalls") n C.2.2.2.2.1 (fun w hw => by
    rcases List.mem_cons.mp hw with rfl | hw
    · exact zw_good _ hco
    · exact zw_good _ hw) rfl rfl rfl (C.2.2.2.2.2.2.2.2.2.2.2.2.2.2.2.2.2.2.1.1 _ hm) (C.2.2.2.2.1 _ hini) hd hR, hy, C.2.2.2.2.1 _ hi⟩ ⟨zPc_blind, fun U hU hW => zPc_at (av := .ref b :: av) C hP hS (fun x hx => hv x (by
      rw [he]
      rcases List.mem_cons.mp hx with g | g
      · rw [g]; exact List.mem_append_right _ List.mem_cons_self
      · exact List.mem_append_left _ (List.mem_reverse.mpr g))) hU hW⟩ rfl (by rw [List.length_map]; exact hn) hL.1 (zmap_args he) (by show 2 * 0 + _ ≤ 8; rw [zcats]; omega) d hf) (fun v hv => by rw [he]; exact List.mem_append_right _ (List.mem_cons_of_mem _ hv)) kk
/-! the same over the state -/
theorem zh_ou2 {k : Nat} (hk : k < 200) : ¬ 200 ≤ (k + 256 * zgN st k) % 256 := by
  obtain ⟨x1, x2⟩ := zh_md (k := k) (i := zgN st k) hk
  omega
theorem zh_out {k : Nat} (hk : k < 200) : zh Z mk st (k + 256 * zgN st k) = none := by
  obtain ⟨x1, x2⟩ := zh_md (k := k) (i := zgN st k) hk
  unfold zh
  rw [x1, x2, if_neg (by omega)]
theorem zN_W {k : Nat} : zgN (zuW st k) = zp1 (zgN st) k (zgN st k + 1) := rfl
theorem zN_V {k n : Nat} : zgN (zuV st k n) = zp1 (zgN st) k (zgN st k + 1) := rfl
theorem zN_U {k n : Nat} : zgN (zuU st k n) = zp1 (zgN st) k (zgN st k + 1) := rfl
/-- a new array of ArrayList's: room n, nothing in it -/
def zuX (s : zTs) (k n : Nat) : zTs := (zp1 s.1 k (s.1 k + 1), zgF s, zp2 (zgP s) k (s.1 k) (fun _ => n), zgO s, zgA s, zgR s, zp2 (zgL s) k (s.1 k) 0, zgJ s)
theorem zN_X {k n : Nat} : zgN (zuX st k n) = zp1 (zgN st) k (zgN st k + 1) := rfl
theorem zo_W {cA : Nat → ClassId} {k : Nat} : ∀ k' i', ¬ (k' = k ∧ i' = zgN st k) → zsh cA (zm0 mk k (zgN st k)) (zuW st k) k' i' = zsh cA mk st k' i' := fun k' i' h => by
  unfold zsh
  rw [show zm0 mk k (zgN st k) k' i' = mk k' i' from zp2_ne h, show zgF (zuW st k) k' i' = zgF st k' i' from zp2_ne h, show zgO (zuW st k) k' i' = zgO st k' i' from zp2_ne h]
  rfl
theorem zo_V {cA : Nat → ClassId} {k n : Nat} : ∀ k' i', ¬ (k' = k ∧ i' = zgN st k) → zsh cA mk (zuV st k n) k' i' = zsh cA mk st k' i' := fun k' i' h => by
  unfold zsh
  rw [show zgA (zuV st k n) k' i' = zgA st k' i' from zp2_ne h, show zgL (zuV st k n) k' i' = zgL st k' i' from zp2_ne h]
  rfl
theorem zo_U {cA : Nat → ClassId} {k n : Nat} : ∀ k' i', ¬ (k' = k ∧ i' = zgN st k) → zsh cA mk (zuU st k n) k' i' = zsh cA mk st k' i' := fun k' i' h => by
  unfold zsh
  rw [show zgR (zuU st k n) k' i' = zgR st k' i' from zp2_ne h, show zgL (zuU st k n) k' i' = zgL st k' i' from zp2_ne h]
  rfl
theorem zo_X {cA : Nat → ClassId} {k n : Nat} : ∀ k' i', ¬ (k' = k ∧ i' = zgN st k) → zsh cA mk (zuX st k n) k' i' = zsh cA mk st k' i' := fun k' i' h => by
  unfold zsh
  rw [show zgP (zuX st k n) k' i' = zgP st k' i' from zp2_ne h, show zgL (zuX st k n) k' i' = zgL st k' i' from zp2_ne h]
  rfl
theorem zs_WF {k : Nat} : zgF (zuW st k) k (zgN st k) = (fun _ => 0) := zp2_at
theorem zs_WO {k : Nat} : zgO (zuW st k) k (zgN st k) = (fun _ => none) := zp2_at
theorem zs_Wm {k : Nat} : zm0 mk k (zgN st k) k (zgN st k) = (fun _ => false) := zp2_at
theorem zs_V {k n : Nat} : zgA (zuV st k n) k (zgN st k) = (fun _ => 0) ∧ zgL (zuV st k n) k (zgN st k) = n := ⟨zp2_at, zp2_at⟩
theorem zs_U {k n : Nat} : zgR (zuU st k n) k (zgN st k) = (fun _ => none) ∧ zgL (zuU st k n) k (zgN st k) = n := ⟨zp2_at, zp2_at⟩
theorem zs_X {k n : Nat} : zgP (zuX st k n) k (zgN st k) = (fun _ => n) ∧ zgL (zuX st k n) k (zgN st k) = 0 := ⟨zp2_at, zp2_at⟩
def znr (fs : List Value) : Bool := fs.all fun v => match v with
  | .ref _ => false
  | _ => true
theorem znr_ok {fs : List Value} (h : znr fs = true) : ∀ v ∈ fs, ∀ b, v ≠ .ref b := fun v hv b e => by
  subst e
  exact Bool.noConfusion (List.all_eq_true.mp h _ hv)
theorem t_new (C : zC Z p s m args meth c cc nL own) {idx ci N k : Nat} {fs : List Value} (d : decode cc pc = .ok (.new idx, 3)) (hw : zNl own idx ci N fs) (hn : znr fs = true) (hk : k < 200) (he : zsh Z.2.1 (zm0 mk k (zgN st k)) (zuW st k) k (zgN st k) = .inr (ci, fs)) {c2 s2 : Nat} (hq : cells + 1 ≤ c2 ∧ slots + N ≤ s2 ∧ c2 ≤ R.cells ∧ s2 ≤ R.slots)
    (kk : zG Z ad0 h0 p l e R s m args below meth c Q c2 s2 (zh Z (zm0 mk k (zgN st k)) (zuW st k)) nL (pc + 3) lc (.ref (k + 256 * zgN st k) :: rest)) : zG Z ad0 h0 p l e R s m args below meth c Q cells slots (zh Z mk st) nL pc lc rest :=
  z_new C d hw (znr_ok hn) (zh_out hk) (zh_ou2 hk) (zh_nw hk zN_W zo_W he).2 (Nat.le_trans hq.1 hq.2.2.1) (Nat.le_trans hq.2.1 hq.2.2.2) (zG.wide hq.1 hq.2.1 kk)
theorem t_newa (C : zC Z p s m args meth c cc nL own) {atype : ArrayType} {ty : FieldType} {t N' k : Nat} {n : Int32} (d : decode cc pc = .ok (.newarray atype, 2)) (hw : Cond.arrayClass ty ∈ zw) (hty : newarray.typeOf atype = ty) (ht : (zt Z)[t]? = some (Z.2.1 t, ty)) (ha0 : ∀ cA : ClassId, vp_cell cA (N', .inl fun _ => 0) = arrV cA N' (fun _ => defaultValue ty)) (hn : ¬ n < 0) (hN : n.toNatClampNeg = N') (hby : N' * componentBytes ty ≤ 536870912) (hk : k < 200) (he : zsh Z.2.1 mk (zuV st k N') k (zgN st k) = .inl (Z.2.1 t, N', .inl fun _ => 0)) {c2 s2 : Nat} (hq : cells + 1 ≤ c2 ∧ slots + N' ≤ s2 ∧ c2 ≤ R.cells ∧ s2 ≤ R.slots)
    (kk : zG Z ad0 h0 p l e R s m args below meth c Q c2 s2 (zh Z mk (zuV st k N')) nL (pc + 2) lc (.ref (k + 256 * zgN st k) :: rest)) : zG Z ad0 h0 p l e R s m args below meth c Q cells slots (zh Z mk st) nL pc lc (.int n :: rest) :=
  z_newa C d hw hty ht ha0 (fun _ _ => rfl) trivial hn hN hby (zh_out hk) (zh_ou2 hk) (zh_nw hk zN_V zo_V he).2 (Nat.le_trans hq.1 hq.2.2.1) (Nat.le_trans hq.2.1 hq.2.2.2) (zG.wide hq.1 hq.2.1 kk)
theorem t_newj (C : zC Z p s m args meth c cc nL own) {t N' k : Nat} {n : Int32} (d : decode cc pc = .ok (.newarray .long, 2)) (hw : Cond.arrayClass .long ∈ zw) (ht : (zt Z)[t]? = some (Z.2.1 t, .long)) (hn : ¬ n < 0) (hN : n.toNatClampNeg = N') (hby : N' * componentBytes .long ≤ 536870912) (hk : k < 200) (he : zsh Z.2.1 mk (zuV st k N') k (zgN st k) = .inl (Z.2.1 t, N', .inr (.inl fun _ => 0))) {c2 s2 : Nat} (hq : cells + 1 ≤ c2 ∧ slots + N' ≤ s2 ∧ c2 ≤ R.cells ∧ s2 ≤ R.slots)
    (kk : zG Z ad0 h0 p l e R s m args below meth c Q c2 s2 (zh Z mk (zuV st k N')) nL (pc + 2) lc (.ref (k + 256 * zgN st k) :: rest)) : zG Z ad0 h0 p l e R s m args below meth c Q cells slots (zh Z mk st) nL pc lc (.int n :: rest) :=
  z_newa (a0 := (N', .inr (.inl fun _ => 0))) C d hw rfl ht (fun _ => rfl) (fun _ _ => rfl) trivial hn hN hby (zh_out hk) (zh_ou2 hk) (zh_nw hk zN_V zo_V he).2 (Nat.le_trans hq.1 hq.2.2.1) (Nat.le_trans hq.2.1 hq.2.2.2) (zG.wide hq.1 hq.2.1 kk)
theorem t_newq (C : zC Z p s m args meth c cc nL own) {E : String} {idx t N' k : Nat} {n : Int32} {st' : zTs} (d : decode cc pc = .ok (.anewarray idx, 3)) (hw : Cond.classLink own idx E ∈ zw) (hAO : va_AO E s) (ht : (zt Z)[t]? = some (Z.2.1 t, .object E)) (hn : ¬ n < 0) (hN : n.toNatClampNeg = N') (hby : N' * 4 ≤ 536870912) (hk : k < 200) (hN2 : zgN st' = zp1 (zgN st) k (zgN st k + 1)) (ho : ∀ k' i', ¬ (k' = k ∧ i' = zgN st k) → zsh Z.2.1 mk st' k' i' = zsh Z.2.1 mk st k' i') (he : zsh Z.2.1 mk st' k (zgN st k) = .inl (Z.2.1 t, N', .inr (.inr (.inr (.inr (fun _ => none)))))) {c2 s2 : Nat} (hq : cells + 1 ≤ c2 ∧ slots + N' ≤ s2 ∧ c2 ≤ R.cells ∧ s2 ≤ R.slots)
    (kk : zG Z ad0 h0 p l e R s m args below meth c Q c2 s2 (zh Z mk st') nL (pc + 3) lc (.ref (k + 256 * zgN st k) :: rest)) : zG Z ad0 h0 p l e R s m args below meth c Q cells slots (zh Z mk st) nL pc lc (.int n :: rest) :=
  z_newq C d hw hAO ht hn hN hby (zh_out hk) (zh_ou2 hk) (zh_nw hk hN2 ho he).2 (Nat.le_trans hq.1 hq.2.2.1) (Nat.le_trans hq.2.1 hq.2.2.2) (zG.wide hq.1 hq.2.1 kk)
theorem t_callIN (C : zC Z p s m args meth c cc nL own) {idx maxL n b c2 s2 : Nat} {y : MethodName} {bytes : ByteArray} {rm : Room} {stk : List Value} {P1 : Option Value → zH → Prop} (av : List Value) (d : decode cc pc = .ok (.invokespecial idx, 3)) (hm : (own, idx, y, "PartyWalls") ∈ zmnest) (hco : Cond.code y bytes maxL none ∈ zw) (hini : Cond.initialized y.cls ∈ zw) (hd : y.cls ≠ "java/lang/invoke/MethodHandle" ∧ y.cls ≠ "java/lang/invoke/VarHandle" ∧ (parseMethodDescriptor y.desc).map (fun d => d.parameters.length) = some n) (hi : Cond.instanceMethod y ∈ zw) (hy : y.name = "<init>") (hM : zN Z l y bytes maxL none rm (zh Z mk st) (.ref b :: av) P1) (he : stk = av.reverse ++ .ref b :: rest) (hn : av.length = n) (hR : rm.frames + 1 ≤ R.frames ∧ 8 + (maxL + 11) + rm.locals ≤ R.locals) (hw8 : (rest.map fun v => v.category).sum ≤ 8) (hq : cells + rm.cells ≤ c2 ∧ slots + rm.slots ≤ s2 ∧ c2 ≤ R.cells ∧ s2 ≤ R.slots)
    (kk : ∀ (v : Option Value) (h1 : zH), P1 v h1 → zG Z ad0 h0 p l e R s m args below meth c Q c2 s2 h1 nL (pc + 3) lc (v.toList ++ rest)) : zG Z ad0 h0 p l e R s m args below meth c Q cells slots (zh Z mk st) nL pc lc stk :=
  z_callIN C d hm hco hini hd hi hy hM he hn hR hw8 ⟨Nat.le_trans hq.1 hq.2.2.1, Nat.le_trans hq.2.1 hq.2.2.2⟩ (fun v h1 hp => zG.wide hq.1 hq.2.1 (kk v h1 hp))
/-- another mask that hides nothing more -/
theorem zh_mask {mk' : zMk} (hs : ∀ k' i', zsh Z.2.1 mk' st k' i' = zsh Z.2.1 mk st k' i') : zh Z mk' st = zh Z mk st := by
  funext a
  unfold zh
  rw [hs]
theorem t_mask {mk' : zMk} {k i : Nat} {stk : List Value} (h1 : ∀ k' i', ¬ (k' = k ∧ i' = i) → mk k' i' = mk' k' i') (h2 : zsh Z.2.1 mk st k i = zsh Z.2.1 mk' st k i) (kk : zG Z ad0 h0 p l e R s m args below meth c Q cells slots (zh Z mk' st) nL pc lc stk) : zG Z ad0 h0 p l e R s m args below meth c Q cells slots (zh Z mk st) nL pc lc stk := by
  rw [zh_mask (mk := mk') (mk' := mk) (fun k' i' => by
    by_cases g : k' = k ∧ i' = i
    · obtain ⟨rfl, rfl⟩ := g; exact h2
    · unfold zsh; rw [h1 k' i' g])]
  exact kk

theorem nw_9 {cA : Nat → ClassId} (g : cA 9 = 0) : zsh cA mk (zuV st 9 1) 9 (zgN st 9) = .inl (cA 3, 1, .inr (.inl fun _ => 0)) := by
  show (Sum.inl (cA 3, 1, .inr (.inl fun j => if j = 0 ∧ zgN st 9 = 0 then Int64.ofNat (cA 9) else 0)) : va_E) = _
  rw [g]
  exact congrArg (fun z : Nat → Int64 => (Sum.inl (cA 3, 1, .inr (.inl z)) : va_E)) (funext fun j => by
    by_cases h : j = 0 ∧ zgN st 9 = 0
    · rw [if_pos h]; rfl
    · rw [if_neg h])
theorem nw_10 {cA : Nat → ClassId} : zsh cA (zm0 mk 10 (zgN st 10)) (zuW st 10) 10 (zgN st 10) = .inr (10, [.null, .null, .null, .null, .null, .null, .null, .null, .null, .null, .null, .int 0, .int 0, .int 0, .int 0, .int 0, .null]) := by unfold zsh; rw [zs_WF, zs_WO, zs_Wm]; rfl
theorem nm_10 {cA : Nat → ClassId} {mk' : zMk} {i : Nat} (g0 : mk 10 i 0 = true) (g1 : mk 10 i 1 = true) (g2 : mk 10 i 2 = true) (g3 : mk 10 i 3 = true) (g4 : mk 10 i 4 = true) (g5 : mk 10 i 5 = true) (g6 : mk 10 i 6 = true) (g7 : mk 10 i 7 = true) (g8 : mk 10 i 8 = true) (g9 : mk 10 i 9 = true) (g10 : mk 10 i 10 = true) (g16 : mk 10 i 16 = true) (f0 : mk' 10 i 0 = true) (f1 : mk' 10 i 1 = true) (f2 : mk' 10 i 2 = true) (f3 : mk' 10 i 3 = true) (f4 : mk' 10 i 4 = true) (f5 : mk' 10 i 5 = true) (f6 : mk' 10 i 6 = true) (f7 : mk' 10 i 7 = true) (f8 : mk' 10 i 8 = true) (f9 : mk' 10 i 9 = true) (f10 : mk' 10 i 10 = true) (f16 : mk' 10 i 16 = true) : zsh cA mk st 10 i = zsh cA mk' st 10 i := by
  show zc_10 cA (mk 10 i) i (zgF st 10 i) (zgP st 10 i) (zgO st 10 i) (zgA st 10 i) (zgR st 10 i) (zgL st 10 i) (zgJ st 10 i) = zc_10 cA (mk' 10 i) i (zgF st 10 i) (zgP st 10 i) (zgO st 10 i) (zgA st 10 i) (zgR st 10 i) (zgL st 10 i) (zgJ st 10 i)
  unfold zc_10
  rw [g0, g1, g2, g3, g4, g5, g6, g7, g8, g9, g10, g16, f0, f1, f2, f3, f4, f5, f6, f7, f8, f9, f10, f16]
theorem fh_10_0 {cA : Nat → ClassId} {i : Nat} (g : mk 10 i 0 = true) : ∃ fs, zsh cA mk st 10 i = .inr (10, fs) ∧ fs[0]? = some (.ref 30) := ⟨_, rfl, congrArg some (if_pos g)⟩
theorem fh_10_1 {cA : Nat → ClassId} {i : Nat} (g : mk 10 i 1 = true) : ∃ fs, zsh cA mk st 10 i = .inr (10, fs) ∧ fs[1]? = some (.ref 31) := ⟨_, rfl, congrArg some (if_pos g)⟩
theorem fh_10_2 {cA : Nat → ClassId} {i : Nat} (g : mk 10 i 2 = true) : ∃ fs, zsh cA mk st 10 i = .inr (10, fs) ∧ fs[2]? = some (.ref 32) := ⟨_, rfl, congrArg some (if_pos g)⟩
theorem fh_10_3 {cA : Nat → ClassId} {i : Nat} (g : mk 10 i 3 = true) : ∃ fs, zsh cA mk st 10 i = .inr (10, fs) ∧ fs[3]? = some (.ref 33) := ⟨_, rfl, congrArg some (if_pos g)⟩
theorem fh_10_4 {cA : Nat → ClassId} {i : Nat} (g : mk 10 i 4 = true) : ∃ fs, zsh cA mk st 10 i = .inr (10, fs) ∧ fs[4]? = some (.ref 40) := ⟨_, rfl, congrArg some (if_pos g)⟩
theorem fh_10_5 {cA : Nat → ClassId} {i : Nat} (g : mk 10 i 5 = true) : ∃ fs, zsh cA mk st 10 i = .inr (10, fs) ∧ fs[5]? = some (.ref 41) := ⟨_, rfl, congrArg some (if_pos g)⟩
theorem fh_10_6 {cA : Nat → ClassId} {i : Nat} (g : mk 10 i 6 = true) : ∃ fs, zsh cA mk st 10 i = .inr (10, fs) ∧ fs[6]? = some (.ref 42) := ⟨_, rfl, congrArg some (if_pos g)⟩
theorem fh_10_7 {cA : Nat → ClassId} {i : Nat} (g : mk 10 i 7 = true) : ∃ fs, zsh cA mk st 10 i = .inr (10, fs) ∧ fs[7]? = some (.ref 11) := ⟨_, rfl, congrArg some (if_pos g)⟩
theorem fh_10_8 {cA : Nat → ClassId} {i : Nat} (g : mk 10 i 8 = true) : ∃ fs, zsh cA mk st 10 i = .inr (10, fs) ∧ fs[8]? = some (.ref 12) := ⟨_, rfl, congrArg some (if_pos g)⟩
theorem fh_10_9 {cA : Nat → ClassId} {i : Nat} (g : mk 10 i 9 = true) : ∃ fs, zsh cA mk st 10 i = .inr (10, fs) ∧ fs[9]? = some (.ref 43) := ⟨_, rfl, congrArg some (if_pos g)⟩
theorem fh_10_10 {cA : Nat → ClassId} {i : Nat} (g : mk 10 i 10 = true) : ∃ fs, zsh cA mk st 10 i = .inr (10, fs) ∧ fs[10]? = some (.ref 13) := ⟨_, rfl, congrArg some (if_pos g)⟩
theorem nw_11 {cA : Nat → ClassId} : zsh cA (zm0 mk 11 (zgN st 11)) (zuW st 11) 11 (zgN st 11) = .inr (1, [.null, .null, .null, .null, .int 0, .null, .null, .null, .int 0]) := by unfold zsh; rw [zs_WF, zs_WO, zs_Wm]; rfl
theorem nm_11 {cA : Nat → ClassId} {mk' : zMk} {i : Nat} (g0 : mk 11 i 0 = true) (g1 : mk 11 i 1 = true) (g2 : mk 11 i 2 = true) (g3 : mk 11 i 3 = true) (g5 : mk 11 i 5 = true) (g6 : mk 11 i 6 = true) (g7 : mk 11 i 7 = true) (f0 : mk' 11 i 0 = true) (f1 : mk' 11 i 1 = true) (f2 : mk' 11 i 2 = true) (f3 : mk' 11 i 3 = true) (f5 : mk' 11 i 5 = true) (f6 : mk' 11 i 6 = true) (f7 : mk' 11 i 7 = true) : zsh cA mk st 11 i = zsh cA mk' st 11 i := by
  show zc_11 cA (mk 11 i) i (zgF st 11 i) (zgP st 11 i) (zgO st 11 i) (zgA st 11 i) (zgR st 11 i) (zgL st 11 i) (zgJ st 11 i) = zc_11 cA (mk' 11 i) i (zgF st 11 i) (zgP st 11 i) (zgO st 11 i) (zgA st 11 i) (zgR st 11 i) (zgL st 11 i) (zgJ st 11 i)
  unfold zc_11
  rw [g0, g1, g2, g3, g5, g6, g7, f0, f1, f2, f3, f5, f6, f7]
theorem fh_11_0 {cA : Nat → ClassId} {i : Nat} (g : mk 11 i 0 = true) : ∃ fs, zsh cA mk st 11 i = .inr (1, fs) ∧ fs[0]? = some (.ref 44) := ⟨_, rfl, congrArg some (if_pos g)⟩
theorem fh_11_1 {cA : Nat → ClassId} {i : Nat} (g : mk 11 i 1 = true) : ∃ fs, zsh cA mk st 11 i = .inr (1, fs) ∧ fs[1]? = some (.ref 45) := ⟨_, rfl, congrArg some (if_pos g)⟩
theorem fh_11_2 {cA : Nat → ClassId} {i : Nat} (g : mk 11 i 2 = true) : ∃ fs, zsh cA mk st 11 i = .inr (1, fs) ∧ fs[2]? = some (.ref 46) := ⟨_, rfl, congrArg some (if_pos g)⟩
theorem fh_11_3 {cA : Nat → ClassId} {i : Nat} (g : mk 11 i 3 = true) : ∃ fs, zsh cA mk st 11 i = .inr (1, fs) ∧ fs[3]? = some (.ref 47) := ⟨_, rfl, congrArg some (if_pos g)⟩
theorem fh_11_5 {cA : Nat → ClassId} {i : Nat} (g : mk 11 i 5 = true) : ∃ fs, zsh cA mk st 11 i = .inr (1, fs) ∧ fs[5]? = some (.ref 48) := ⟨_, rfl, congrArg some (if_pos g)⟩
theorem fh_11_6 {cA : Nat → ClassId} {i : Nat} (g : mk 11 i 6 = true) : ∃ fs, zsh cA mk st 11 i = .inr (1, fs) ∧ fs[6]? = some (.ref 49) := ⟨_, rfl, congrArg some (if_pos g)⟩
theorem fh_11_7 {cA : Nat → ClassId} {i : Nat} (g : mk 11 i 7 = true) : ∃ fs, zsh cA mk st 11 i = .inr (1, fs) ∧ fs[7]? = some (.ref 50) := ⟨_, rfl, congrArg some (if_pos g)⟩
theorem nw_12 {cA : Nat → ClassId} : zsh cA (zm0 mk 12 (zgN st 12)) (zuW st 12) 12 (zgN st 12) = .inr (3, [.null, .null, .null, .int 0]) := by unfold zsh; rw [zs_WF, zs_WO, zs_Wm]; rfl
theorem nm_12 {cA : Nat → ClassId} {mk' : zMk} {i : Nat} (g0 : mk 12 i 0 = true) (g1 : mk 12 i 1 = true) (g2 : mk 12 i 2 = true) (f0 : mk' 12 i 0 = true) (f1 : mk' 12 i 1 = true) (f2 : mk' 12 i 2 = true) : zsh cA mk st 12 i = zsh cA mk' st 12 i := by
  show zc_12 cA (mk 12 i) i (zgF st 12 i) (zgP st 12 i) (zgO st 12 i) (zgA st 12 i) (zgR st 12 i) (zgL st 12 i) (zgJ st 12 i) = zc_12 cA (mk' 12 i) i (zgF st 12 i) (zgP st 12 i) (zgO st 12 i) (zgA st 12 i) (zgR st 12 i) (zgL st 12 i) (zgJ st 12 i)
  unfold zc_12
  rw [g0, g1, g2, f0, f1, f2]
theorem fh_12_0 {cA : Nat → ClassId} {i : Nat} (g : mk 12 i 0 = true) : ∃ fs, zsh cA mk st 12 i = .inr (3, fs) ∧ fs[0]? = some (.ref 51) := ⟨_, rfl, congrArg some (if_pos g)⟩
theorem fh_12_1 {cA : Nat → ClassId} {i : Nat} (g : mk 12 i 1 = true) : ∃ fs, zsh cA mk st 12 i = .inr (3, fs) ∧ fs[1]? = some (.ref 52) := ⟨_, rfl, congrArg some (if_pos g)⟩
theorem fh_12_2 {cA : Nat → ClassId} {i : Nat} (g : mk 12 i 2 = true) : ∃ fs, zsh cA mk st 12 i = .inr (3, fs) ∧ fs[2]? = some (.ref 53) := ⟨_, rfl, congrArg some (if_pos g)⟩
theorem nw_13 {cA : Nat → ClassId} : zsh cA (zm0 mk 13 (zgN st 13)) (zuW st 13) 13 (zgN st 13) = .inr (6, [.null, .null, .int 0, .int 0, .int 0, .int 0, .null, .int 0, .int 0, .int 0, .null, .int 0, .int 0]) := by unfold zsh; rw [zs_WF, zs_WO, zs_Wm]; rfl
theorem nm_13 {cA : Nat → ClassId} {mk' : zMk} {i : Nat} (g0 : mk 13 i 0 = true) (g1 : mk 13 i 1 = true) (g6 : mk 13 i 6 = true) (g10 : mk 13 i 10 = true) (f0 : mk' 13 i 0 = true) (f1 : mk' 13 i 1 = true) (f6 : mk' 13 i 6 = true) (f10 : mk' 13 i 10 = true) : zsh cA mk st 13 i = zsh cA mk' st 13 i := by
  show zc_13 cA (mk 13 i) i (zgF st 13 i) (zgP st 13 i) (zgO st 13 i) (zgA st 13 i) (zgR st 13 i) (zgL st 13 i) (zgJ st 13 i) = zc_13 cA (mk' 13 i) i (zgF st 13 i) (zgP st 13 i) (zgO st 13 i) (zgA st 13 i) (zgR st 13 i) (zgL st 13 i) (zgJ st 13 i)
  unfold zc_13
  rw [g0, g1, g6, g10, f0, f1, f6, f10]
theorem fh_13_0 {cA : Nat → ClassId} {i : Nat} (g : mk 13 i 0 = true) : ∃ fs, zsh cA mk st 13 i = .inr (6, fs) ∧ fs[0]? = some (.ref 43) := ⟨_, rfl, congrArg some (if_pos g)⟩
theorem fh_13_1 {cA : Nat → ClassId} {i : Nat} (g : mk 13 i 1 = true) : ∃ fs, zsh cA mk st 13 i = .inr (6, fs) ∧ fs[1]? = some (.ref 54) := ⟨_, rfl, congrArg some (if_pos g)⟩
theorem nw_20 {cA : Nat → ClassId} : zsh cA (zm0 mk 20 (zgN st 20)) (zuW st 20) 20 (zgN st 20) = .inr (8, [.null, .null, .null, .null, .null, .null]) := by unfold zsh; rw [zs_WF, zs_WO, zs_Wm]; rfl
theorem nm_20 {cA : Nat → ClassId} {mk' : zMk} {i : Nat} (g0 : mk 20 i 0 = true) (g1 : mk 20 i 1 = true) (g2 : mk 20 i 2 = true) (g3 : mk 20 i 3 = true) (g4 : mk 20 i 4 = true) (g5 : mk 20 i 5 = true) (f0 : mk' 20 i 0 = true) (f1 : mk' 20 i 1 = true) (f2 : mk' 20 i 2 = true) (f3 : mk' 20 i 3 = true) (f4 : mk' 20 i 4 = true) (f5 : mk' 20 i 5 = true) : zsh cA mk st 20 i = zsh cA mk' st 20 i := by
  show zc_20 cA (mk 20 i) i (zgF st 20 i) (zgP st 20 i) (zgO st 20 i) (zgA st 20 i) (zgR st 20 i) (zgL st 20 i) (zgJ st 20 i) = zc_20 cA (mk' 20 i) i (zgF st 20 i) (zgP st 20 i) (zgO st 20 i) (zgA st 20 i) (zgR st 20 i) (zgL st 20 i) (zgJ st 20 i)
  unfold zc_20
  rw [g0, g1, g2, g3, g4, g5, f0, f1, f2, f3, f4, f5]
theorem fh_20_0 {cA : Nat → ClassId} {i : Nat} (g : mk 20 i 0 = true) : ∃ fs, zsh cA mk st 20 i = .inr (8, fs) ∧ fs[0]? = some (.ref (55 + 256 * i)) := ⟨_, rfl, congrArg some (if_pos g)⟩
theorem fh_20_1 {cA : Nat → ClassId} {i : Nat} (g : mk 20 i 1 = true) : ∃ fs, zsh cA mk st 20 i = .inr (8, fs) ∧ fs[1]? = some (.ref (56 + 256 * i)) := ⟨_, rfl, congrArg some (if_pos g)⟩
theorem fh_20_2 {cA : Nat → ClassId} {i : Nat} (g : mk 20 i 2 = true) : ∃ fs, zsh cA mk st 20 i = .inr (8, fs) ∧ fs[2]? = some (.ref (57 + 256 * i)) := ⟨_, rfl, congrArg some (if_pos g)⟩
theorem fh_20_3 {cA : Nat → ClassId} {i : Nat} (g : mk 20 i 3 = true) : ∃ fs, zsh cA mk st 20 i = .inr (8, fs) ∧ fs[3]? = some (.ref (58 + 256 * i)) := ⟨_, rfl, congrArg some (if_pos g)⟩
theorem fh_20_4 {cA : Nat → ClassId} {i : Nat} (g : mk 20 i 4 = true) : ∃ fs, zsh cA mk st 20 i = .inr (8, fs) ∧ fs[4]? = some (.ref (59 + 256 * i)) := ⟨_, rfl, congrArg some (if_pos g)⟩
theorem fh_20_5 {cA : Nat → ClassId} {i : Nat} (g : mk 20 i 5 = true) : ∃ fs, zsh cA mk st 20 i = .inr (8, fs) ∧ fs[5]? = some (.ref (60 + 256 * i)) := ⟨_, rfl, congrArg some (if_pos g)⟩
theorem nw_21 {cA : Nat → ClassId} : zsh cA (zm0 mk 21 (zgN st 21)) (zuW st 21) 21 (zgN st 21) = .inr (9, [.null, .int 0, .int 0, .null, .int 0, .int 0, .int 0, .int 0, .int 0, .int 0, .null, .int 0, .null, .null, .int 0, .int 0, .int 0, .int 0]) := by unfold zsh; rw [zs_WF, zs_WO, zs_Wm]; rfl
theorem nm_21 {cA : Nat → ClassId} {mk' : zMk} {i : Nat} (g0 : mk 21 i 0 = true) (g3 : mk 21 i 3 = true) (g12 : mk 21 i 12 = true) (g13 : mk 21 i 13 = true) (f0 : mk' 21 i 0 = true) (f3 : mk' 21 i 3 = true) (f12 : mk' 21 i 12 = true) (f13 : mk' 21 i 13 = true) : zsh cA mk st 21 i = zsh cA mk' st 21 i := by
  show zc_21 cA (mk 21 i) i (zgF st 21 i) (zgP st 21 i) (zgO st 21 i) (zgA st 21 i) (zgR st 21 i) (zgL st 21 i) (zgJ st 21 i) = zc_21 cA (mk' 21 i) i (zgF st 21 i) (zgP st 21 i) (zgO st 21 i) (zgA st 21 i) (zgR st 21 i) (zgL st 21 i) (zgJ st 21 i)
  unfold zc_21
  rw [g0, g3, g12, g13, f0, f3, f12, f13]
theorem fh_21_12 {cA : Nat → ClassId} {i : Nat} (g : mk 21 i 12 = true) : ∃ fs, zsh cA mk st 21 i = .inr (9, fs) ∧ fs[12]? = some (.ref (67 + 256 * i)) := ⟨_, rfl, congrArg some (if_pos g)⟩
theorem fh_21_13 {cA : Nat → ClassId} {i : Nat} (g : mk 21 i 13 = true) : ∃ fs, zsh cA mk st 21 i = .inr (9, fs) ∧ fs[13]? = some (.ref (61 + 256 * i)) := ⟨_, rfl, congrArg some (if_pos g)⟩
theorem nw_22 {cA : Nat → ClassId} : zsh cA (zm0 mk 22 (zgN st 22)) (zuW st 22) 22 (zgN st 22) = .inr (7, [.int 0, .null, .null, .int 0]) := by unfold zsh; rw [zs_WF, zs_WO, zs_Wm]; rfl
theorem nm_22 {cA : Nat → ClassId} {mk' : zMk} {i : Nat} (g1 : mk 22 i 1 = true) (g2 : mk 22 i 2 = true) (f1 : mk' 22 i 1 = true) (f2 : mk' 22 i 2 = true) : zsh cA mk st 22 i = zsh cA mk' st 22 i := by
  show zc_22 cA (mk 22 i) i (zgF st 22 i) (zgP st 22 i) (zgO st 22 i) (zgA st 22 i) (zgR st 22 i) (zgL st 22 i) (zgJ st 22 i) = zc_22 cA (mk' 22 i) i (zgF st 22 i) (zgP st 22 i) (zgO st 22 i) (zgA st 22 i) (zgR st 22 i) (zgL st 22 i) (zgJ st 22 i)
  unfold zc_22
  rw [g1, g2, f1, f2]
theorem fh_22_1 {cA : Nat → ClassId} {i : Nat} (g : mk 22 i 1 = true) : ∃ fs, zsh cA mk st 22 i = .inr (7, fs) ∧ fs[1]? = some (.ref (62 + 256 * i)) := ⟨_, rfl, congrArg some (if_pos g)⟩
theorem fh_22_2 {cA : Nat → ClassId} {i : Nat} (g : mk 22 i 2 = true) : ∃ fs, zsh cA mk st 22 i = .inr (7, fs) ∧ fs[2]? = some (.ref (63 + 256 * i)) := ⟨_, rfl, congrArg some (if_pos g)⟩
theorem nw_23 {cA : Nat → ClassId} : zsh cA (zm0 mk 23 (zgN st 23)) (zuW st 23) 23 (zgN st 23) = .inr (2, [.null, .null, .int 0]) := by unfold zsh; rw [zs_WF, zs_WO, zs_Wm]; rfl
theorem nm_23 {cA : Nat → ClassId} {mk' : zMk} {i : Nat} (g0 : mk 23 i 0 = true) (g1 : mk 23 i 1 = true) (f0 : mk' 23 i 0 = true) (f1 : mk' 23 i 1 = true) : zsh cA mk st 23 i = zsh cA mk' st 23 i := by
  show zc_23 cA (mk 23 i) i (zgF st 23 i) (zgP st 23 i) (zgO st 23 i) (zgA st 23 i) (zgR st 23 i) (zgL st 23 i) (zgJ st 23 i) = zc_23 cA (mk' 23 i) i (zgF st 23 i) (zgP st 23 i) (zgO st 23 i) (zgA st 23 i) (zgR st 23 i) (zgL st 23 i) (zgJ st 23 i)
  unfold zc_23
  rw [g0, g1, f0, f1]
theorem fh_23_0 {cA : Nat → ClassId} {i : Nat} (g : mk 23 i 0 = true) : ∃ fs, zsh cA mk st 23 i = .inr (2, fs) ∧ fs[0]? = some (.ref (64 + 256 * i)) := ⟨_, rfl, congrArg some (if_pos g)⟩
theorem fh_23_1 {cA : Nat → ClassId} {i : Nat} (g : mk 23 i 1 = true) : ∃ fs, zsh cA mk st 23 i = .inr (2, fs) ∧ fs[1]? = some (.ref (65 + 256 * i)) := ⟨_, rfl, congrArg some (if_pos g)⟩
theorem nw_24 {cA : Nat → ClassId} : zsh cA (zm0 mk 24 (zgN st 24)) (zuW st 24) 24 (zgN st 24) = .inr (5, [.int 0, .null, .null, .int 0, .int 0, .int 0, .int 0, .int 0, .int 0, .int 0, .int 0, .int 0, .int 0, .int 0]) := by unfold zsh; rw [zs_WF, zs_WO, zs_Wm]; rfl
theorem nm_24 {cA : Nat → ClassId} {mk' : zMk} {i : Nat} (g1 : mk 24 i 1 = true) (g2 : mk 24 i 2 = true) (f1 : mk' 24 i 1 = true) (f2 : mk' 24 i 2 = true) : zsh cA mk st 24 i = zsh cA mk' st 24 i := by
  show zc_24 cA (mk 24 i) i (zgF st 24 i) (zgP st 24 i) (zgO st 24 i) (zgA st 24 i) (zgR st 24 i) (zgL st 24 i) (zgJ st 24 i) = zc_24 cA (mk' 24 i) i (zgF st 24 i) (zgP st 24 i) (zgO st 24 i) (zgA st 24 i) (zgR st 24 i) (zgL st 24 i) (zgJ st 24 i)
  unfold zc_24
  rw [g1, g2, f1, f2]
theorem fh_24_1 {cA : Nat → ClassId} {i : Nat} (g : mk 24 i 1 = true) : ∃ fs, zsh cA mk st 24 i = .inr (5, fs) ∧ fs[1]? = some (.ref (66 + 256 * i)) := ⟨_, rfl, congrArg some (if_pos g)⟩
theorem fh_24_2 {cA : Nat → ClassId} {i : Nat} (g : mk 24 i 2 = true) : ∃ fs, zsh cA mk st 24 i = .inr (5, fs) ∧ fs[2]? = some (.ref (68 + 256 * i)) := ⟨_, rfl, congrArg some (if_pos g)⟩
theorem nw_25 {cA : Nat → ClassId} : zsh cA (zm0 mk 25 (zgN st 25)) (zuW st 25) 25 (zgN st 25) = .inr (4, [.int 0, .int 0, .int 0]) := by unfold zsh; rw [zs_WF, zs_WO, zs_Wm]; rfl
theorem nm_25 {cA : Nat → ClassId} {mk' : zMk} {i : Nat}   : zsh cA mk st 25 i = zsh cA mk' st 25 i := by
  show zc_25 cA (mk 25 i) i (zgF st 25 i) (zgP st 25 i) (zgO st 25 i) (zgA st 25 i) (zgR st 25 i) (zgL st 25 i) (zgJ st 25 i) = zc_25 cA (mk' 25 i) i (zgF st 25 i) (zgP st 25 i) (zgO st 25 i) (zgA st 25 i) (zgR st 25 i) (zgL st 25 i) (zgJ st 25 i)
  unfold zc_25
  rfl
theorem nw_30 {cA : Nat → ClassId} : zsh cA (zm0 mk 30 (zgN st 30)) (zuW st 30) 30 (zgN st 30) = .inr (0, [.int 0, .null, .int 0]) := by unfold zsh; rw [zs_WF, zs_WO, zs_Wm]; rfl
theorem nm_30 {cA : Nat → ClassId} {mk' : zMk} {i : Nat} (g1 : mk 30 i 1 = true) (f1 : mk' 30 i 1 = true) : zsh cA mk st 30 i = zsh cA mk' st 30 i := by
  show zc_30 cA (mk 30 i) i (zgF st 30 i) (zgP st 30 i) (zgO st 30 i) (zgA st 30 i) (zgR st 30 i) (zgL st 30 i) (zgJ st 30 i) = zc_30 cA (mk' 30 i) i (zgF st 30 i) (zgP st 30 i) (zgO st 30 i) (zgA st 30 i) (zgR st 30 i) (zgL st 30 i) (zgJ st 30 i)
  unfold zc_30
  rw [g1, f1]
theorem nw_31 {cA : Nat → ClassId} : zsh cA (zm0 mk 31 (zgN st 31)) (zuW st 31) 31 (zgN st 31) = .inr (0, [.int 0, .null, .int 0]) := by unfold zsh; rw [zs_WF, zs_WO, zs_Wm]; rfl
theorem nm_31 {cA : Nat → ClassId} {mk' : zMk} {i : Nat} (g1 : mk 31 i 1 = true) (f1 : mk' 31 i 1 = true) : zsh cA mk st 31 i = zsh cA mk' st 31 i := by
  show zc_31 cA (mk 31 i) i (zgF st 31 i) (zgP st 31 i) (zgO st 31 i) (zgA st 31 i) (zgR st 31 i) (zgL st 31 i) (zgJ st 31 i) = zc_31 cA (mk' 31 i) i (zgF st 31 i) (zgP st 31 i) (zgO st 31 i) (zgA st 31 i) (zgR st 31 i) (zgL st 31 i) (zgJ st 31 i)
  unfold zc_31
  rw [g1, f1]
theorem nw_32 {cA : Nat → ClassId} : zsh cA (zm0 mk 32 (zgN st 32)) (zuW st 32) 32 (zgN st 32) = .inr (0, [.int 0, .null, .int 0]) := by unfold zsh; rw [zs_WF, zs_WO, zs_Wm]; rfl
theorem nm_32 {cA : Nat → ClassId} {mk' : zMk} {i : Nat} (g1 : mk 32 i 1 = true) (f1 : mk' 32 i 1 = true) : zsh cA mk st 32 i = zsh cA mk' st 32 i := by
  show zc_32 cA (mk 32 i) i (zgF st 32 i) (zgP st 32 i) (zgO st 32 i) (zgA st 32 i) (zgR st 32 i) (zgL st 32 i) (zgJ st 32 i) = zc_32 cA (mk' 32 i) i (zgF st 32 i) (zgP st 32 i) (zgO st 32 i) (zgA st 32 i) (zgR st 32 i) (zgL st 32 i) (zgJ st 32 i)
  unfold zc_32
  rw [g1, f1]
theorem nw_33 {cA : Nat → ClassId} : zsh cA (zm0 mk 33 (zgN st 33)) (zuW st 33) 33 (zgN st 33) = .inr (0, [.int 0, .null, .int 0]) := by unfold zsh; rw [zs_WF, zs_WO, zs_Wm]; rfl
theorem nm_33 {cA : Nat → ClassId} {mk' : zMk} {i : Nat} (g1 : mk 33 i 1 = true) (f1 : mk' 33 i 1 = true) : zsh cA mk st 33 i = zsh cA mk' st 33 i := by
  show zc_33 cA (mk 33 i) i (zgF st 33 i) (zgP st 33 i) (zgO st 33 i) (zgA st 33 i) (zgR st 33 i) (zgL st 33 i) (zgJ st 33 i) = zc_33 cA (mk' 33 i) i (zgF st 33 i) (zgP st 33 i) (zgO st 33 i) (zgA st 33 i) (zgR st 33 i) (zgL st 33 i) (zgJ st 33 i)
  unfold zc_33
  rw [g1, f1]
theorem nw_34 {cA : Nat → ClassId} {n : Nat} : zsh cA mk (zuX st 34 n) 34 (zgN st 34) = .inl (cA 4, n, .inr (.inr (.inr (.inr (fun _ => none))))) := by
  unfold zsh
  rw [zs_X.1, zs_X.2]
  show (Sum.inl (cA 4, n, _) : va_E) = _
  refine congrArg (fun z : Nat → Option Nat => (Sum.inl (cA 4, n, .inr (.inr (.inr (.inr z)))) : va_E)) (funext fun j => if_neg (Nat.not_lt_zero j))
theorem nw_35 {cA : Nat → ClassId} {n : Nat} : zsh cA mk (zuX st 35 n) 35 (zgN st 35) = .inl (cA 4, n, .inr (.inr (.inr (.inr (fun _ => none))))) := by
  unfold zsh
  rw [zs_X.1, zs_X.2]
  show (Sum.inl (cA 4, n, _) : va_E) = _
  refine congrArg (fun z : Nat → Option Nat => (Sum.inl (cA 4, n, .inr (.inr (.inr (.inr z)))) : va_E)) (funext fun j => if_neg (Nat.not_lt_zero j))
theorem nw_36 {cA : Nat → ClassId} {n : Nat} : zsh cA mk (zuX st 36 n) 36 (zgN st 36) = .inl (cA 4, n, .inr (.inr (.inr (.inr (fun _ => none))))) := by
  unfold zsh
  rw [zs_X.1, zs_X.2]
  show (Sum.inl (cA 4, n, _) : va_E) = _
  refine congrArg (fun z : Nat → Option Nat => (Sum.inl (cA 4, n, .inr (.inr (.inr (.inr z)))) : va_E)) (funext fun j => if_neg (Nat.not_lt_zero j))
theorem nw_37 {cA : Nat → ClassId} {n : Nat} : zsh cA mk (zuX st 37 n) 37 (zgN st 37) = .inl (cA 4, n, .inr (.inr (.inr (.inr (fun _ => none))))) := by
  unfold zsh
  rw [zs_X.1, zs_X.2]
  show (Sum.inl (cA 4, n, _) : va_E) = _
  refine congrArg (fun z : Nat → Option Nat => (Sum.inl (cA 4, n, .inr (.inr (.inr (.inr z)))) : va_E)) (funext fun j => if_neg (Nat.not_lt_zero j))
theorem nw_40 {cA : Nat → ClassId} : zsh cA mk (zuV st 40 12) 40 (zgN st 40) = .inl (cA 0, 12, .inl fun _ => 0) := by unfold zsh; rw [zs_V.1]; rfl
theorem nw_41 {cA : Nat → ClassId} : zsh cA mk (zuV st 41 12) 41 (zgN st 41) = .inl (cA 0, 12, .inl fun _ => 0) := by unfold zsh; rw [zs_V.1]; rfl
theorem nw_42 {cA : Nat → ClassId} : zsh cA mk (zuV st 42 5) 42 (zgN st 42) = .inl (cA 0, 5, .inl fun _ => 0) := by unfold zsh; rw [zs_V.1]; rfl
theorem nw_43 {cA : Nat → ClassId} : zsh cA mk (zuV st 43 400) 43 (zgN st 43) = .inl (cA 1, 400, .inl fun _ => 0) := by unfold zsh; rw [zs_V.1]; rfl
theorem nw_44 {cA : Nat → ClassId} : zsh cA mk (zuV st 44 300) 44 (zgN st 44) = .inl (cA 0, 300, .inl fun _ => 0) := by unfold zsh; rw [zs_V.1]; rfl
theorem nw_45 {cA : Nat → ClassId} : zsh cA mk (zuV st 45 300) 45 (zgN st 45) = .inl (cA 0, 300, .inl fun _ => 0) := by unfold zsh; rw [zs_V.1]; rfl
theorem nw_46 {cA : Nat → ClassId} : zsh cA mk (zuV st 46 300) 46 (zgN st 46) = .inl (cA 0, 300, .inl fun _ => 0) := by unfold zsh; rw [zs_V.1]; rfl
theorem nw_47 {cA : Nat → ClassId} : zsh cA mk (zuV st 47 300) 47 (zgN st 47) = .inl (cA 0, 300, .inl fun _ => 0) := by unfold zsh; rw [zs_V.1]; rfl
theorem nw_48 {cA : Nat → ClassId} : zsh cA mk (zuV st 48 60) 48 (zgN st 48) = .inl (cA 0, 60, .inl fun _ => 0) := by unfold zsh; rw [zs_V.1]; rfl
theorem nw_49 {cA : Nat → ClassId} : zsh cA mk (zuV st 49 60) 49 (zgN st 49) = .inl (cA 0, 60, .inl fun _ => 0) := by unfold zsh; rw [zs_V.1]; rfl
theorem nw_50 {cA : Nat → ClassId} : zsh cA mk (zuV st 50 60) 50 (zgN st 50) = .inl (cA 0, 60, .inl fun _ => 0) := by unfold zsh; rw [zs_V.1]; rfl
theorem nw_51 {cA : Nat → ClassId} : zsh cA mk (zuV st 51 441) 51 (zgN st 51) = .inl (cA 0, 441, .inl fun _ => 0) := by unfold zsh; rw [zs_V.1]; rfl
theorem nw_52 {cA : Nat → ClassId} : zsh cA mk (zuV st 52 441) 52 (zgN st 52) = .inl (cA 0, 441, .inl fun _ => 0) := by unfold zsh; rw [zs_V.1]; rfl
theorem nw_53 {cA : Nat → ClassId} : zsh cA mk (zuV st 53 20) 53 (zgN st 53) = .inl (cA 0, 20, .inl fun _ => 0) := by unfold zsh; rw [zs_V.1]; rfl
theorem nw_54 {cA : Nat → ClassId} : zsh cA mk (zuV st 54 400) 54 (zgN st 54) = .inl (cA 0, 400, .inl fun _ => 0) := by unfold zsh; rw [zs_V.1]; rfl
theorem nw_55 {cA : Nat → ClassId} : zsh cA mk (zuV st 55 2) 55 (zgN st 55) = .inl (cA 0, 2, .inl fun _ => 0) := by unfold zsh; rw [zs_V.1]; rfl
theorem nw_56 {cA : Nat → ClassId} : zsh cA mk (zuV st 56 12) 56 (zgN st 56) = .inl (cA 0, 12, .inl fun _ => 0) := by unfold zsh; rw [zs_V.1]; rfl
theorem nw_57 {cA : Nat → ClassId} : zsh cA mk (zuV st 57 240) 57 (zgN st 57) = .inl (cA 0, 240, .inl fun _ => 0) := by unfold zsh; rw [zs_V.1]; rfl
theorem nw_58 {cA : Nat → ClassId} : zsh cA mk (zuV st 58 240) 58 (zgN st 58) = .inl (cA 0, 240, .inl fun _ => 0) := by unfold zsh; rw [zs_V.1]; rfl
theorem nw_59 {cA : Nat → ClassId} : zsh cA mk (zuV st 59 240) 59 (zgN st 59) = .inl (cA 0, 240, .inl fun _ => 0) := by unfold zsh; rw [zs_V.1]; rfl
theorem nw_60 {cA : Nat → ClassId} : zsh cA mk (zuV st 60 240) 60 (zgN st 60) = .inl (cA 0, 240, .inl fun _ => 0) := by unfold zsh; rw [zs_V.1]; rfl
theorem nw_61 {cA : Nat → ClassId} : zsh cA mk (zuV st 61 3) 61 (zgN st 61) = .inl (cA 0, 3, .inl fun _ => 0) := by unfold zsh; rw [zs_V.1]; rfl
theorem nw_62 {cA : Nat → ClassId} : zsh cA mk (zuV st 62 20) 62 (zgN st 62) = .inl (cA 0, 20, .inl fun _ => 0) := by unfold zsh; rw [zs_V.1]; rfl
theorem nw_63 {cA : Nat → ClassId} : zsh cA mk (zuV st 63 20) 63 (zgN st 63) = .inl (cA 0, 20, .inl fun _ => 0) := by unfold zsh; rw [zs_V.1]; rfl
theorem nw_64 {cA : Nat → ClassId} : zsh cA mk (zuV st 64 40) 64 (zgN st 64) = .inl (cA 0, 40, .inl fun _ => 0) := by unfold zsh; rw [zs_V.1]; rfl
theorem nw_65 {cA : Nat → ClassId} : zsh cA mk (zuV st 65 40) 65 (zgN st 65) = .inl (cA 0, 40, .inl fun _ => 0) := by unfold zsh; rw [zs_V.1]; rfl
theorem nw_66 {cA : Nat → ClassId} : zsh cA mk (zuV st 66 4) 66 (zgN st 66) = .inl (cA 0, 4, .inl fun _ => 0) := by unfold zsh; rw [zs_V.1]; rfl
theorem nw_67 {cA : Nat → ClassId} : zsh cA mk (zuU st 67 3) 67 (zgN st 67) = .inl (cA 5, 3, .inr (.inr (.inr (.inr (fun _ => none))))) := by unfold zsh; rw [zs_U.1]; rfl
theorem nw_68 {cA : Nat → ClassId} : zsh cA mk (zuU st 68 4) 68 (zgN st 68) = .inl (cA 6, 4, .inr (.inr (.inr (.inr (fun _ => none))))) := by unfold zsh; rw [zs_U.1]; rfl
theorem nw_69 {cA : Nat → ClassId} {n : Nat} : zsh cA mk (zuV st 69 n) 69 (zgN st 69) = .inl (cA 0, n, .inl fun _ => 0) := by unfold zsh; rw [zs_V.1, zs_V.2]; rfl
theorem nw_100 {cA : Nat → ClassId} : zsh cA (zm0 mk 100 (zgN st 100)) (zuW st 100) 100 (zgN st 100) = .inr (11, [.int 0, .int 0, .int 0, .int 0, .null, .null, .int 0, .int 0, .int 0, .int 0, .int 0, .int 0, .int 0, .null, .null, .null, .null, .null, .null, .null, .null, .int 0, .null, .int 0, .null, .null, .null, .null, .null, .null, .null, .null, .null, .null, .null, .null, .null, .null, .null, .null, .null, .int 0, .null, .null, .null, .null, .null, .null, .int 0, .int 0, .null, .null, .null, .null, .null, .null, .null, .null, .null, .null, .null, .null, .null, .null, .null, .null, .int 0, .int 0, .null, .null, .null, .null, .null, .null, .null, .null, .int 0, .null, .null, .null]) := by unfold zsh; rw [zs_WF, zs_WO, zs_Wm]; rfl
theorem nm_100 {cA : Nat → ClassId} {mk' : zMk} {i : Nat} (g4 : mk 100 i 4 = true) (g5 : mk 100 i 5 = true) (g13 : mk 100 i 13 = true) (g14 : mk 100 i 14 = true) (g15 : mk 100 i 15 = true) (g16 : mk 100 i 16 = true) (g17 : mk 100 i 17 = true) (g18 : mk 100 i 18 = true) (g19 : mk 100 i 19 = true) (g20 : mk 100 i 20 = true) (g22 : mk 100 i 22 = true) (g24 : mk 100 i 24 = true) (g25 : mk 100 i 25 = true) (g26 : mk 100 i 26 = true) (g27 : mk 100 i 27 = true) (g28 : mk 100 i 28 = true) (g29 : mk 100 i 29 = true) (g30 : mk 100 i 30 = true) (g31 : mk 100 i 31 = true) (g32 : mk 100 i 32 = true) (g33 : mk 100 i 33 = true) (g34 : mk 100 i 34 = true) (g35 : mk 100 i 35 = true) (g36 : mk 100 i 36 = true) (g37 : mk 100 i 37 = true) (g38 : mk 100 i 38 = true) (g39 : mk 100 i 39 = true) (g40 : mk 100 i 40 = true) (g42 : mk 100 i 42 = true) (g43 : mk 100 i 43 = true) (g44 : mk 100 i 44 = true) (g45 : mk 100 i 45 = true) (g46 : mk 100 i 46 = true) (g47 : mk 100 i 47 = true) (g50 : mk 100 i 50 = true) (g51 : mk 100 i 51 = true) (g52 : mk 100 i 52 = true) (g53 : mk 100 i 53 = true) (g54 : mk 100 i 54 = true) (g55 : mk 100 i 55 = true) (g56 : mk 100 i 56 = true) (g57 : mk 100 i 57 = true) (g58 : mk 100 i 58 = true) (g59 : mk 100 i 59 = true) (g60 : mk 100 i 60 = true) (g61 : mk 100 i 61 = true) (g62 : mk 100 i 62 = true) (g63 : mk 100 i 63 = true) (g64 : mk 100 i 64 = true) (g65 : mk 100 i 65 = true) (g68 : mk 100 i 68 = true) (g69 : mk 100 i 69 = true) (g70 : mk 100 i 70 = true) (g71 : mk 100 i 71 = true) (g72 : mk 100 i 72 = true) (g73 : mk 100 i 73 = true) (g74 : mk 100 i 74 = true) (g75 : mk 100 i 75 = true) (g77 : mk 100 i 77 = true) (g78 : mk 100 i 78 = true) (g79 : mk 100 i 79 = true) (f4 : mk' 100 i 4 = true) (f5 : mk' 100 i 5 = true) (f13 : mk' 100 i 13 = true) (f14 : mk' 100 i 14 = true) (f15 : mk' 100 i 15 = true) (f16 : mk' 100 i 16 = true) (f17 : mk' 100 i 17 = true) (f18 : mk' 100 i 18 = true) (f19 : mk' 100 i 19 = true) (f20 : mk' 100 i 20 = true) (f22 : mk' 100 i 22 = true) (f24 : mk' 100 i 24 = true) (f25 : mk' 100 i 25 = true) (f26 : mk' 100 i 26 = true) (f27 : mk' 100 i 27 = true) (f28 : mk' 100 i 28 = true) (f29 : mk' 100 i 29 = true) (f30 : mk' 100 i 30 = true) (f31 : mk' 100 i 31 = true) (f32 : mk' 100 i 32 = true) (f33 : mk' 100 i 33 = true) (f34 : mk' 100 i 34 = true) (f35 : mk' 100 i 35 = true) (f36 : mk' 100 i 36 = true) (f37 : mk' 100 i 37 = true) (f38 : mk' 100 i 38 = true) (f39 : mk' 100 i 39 = true) (f40 : mk' 100 i 40 = true) (f42 : mk' 100 i 42 = true) (f43 : mk' 100 i 43 = true) (f44 : mk' 100 i 44 = true) (f45 : mk' 100 i 45 = true) (f46 : mk' 100 i 46 = true) (f47 : mk' 100 i 47 = true) (f50 : mk' 100 i 50 = true) (f51 : mk' 100 i 51 = true) (f52 : mk' 100 i 52 = true) (f53 : mk' 100 i 53 = true) (f54 : mk' 100 i 54 = true) (f55 : mk' 100 i 55 = true) (f56 : mk' 100 i 56 = true) (f57 : mk' 100 i 57 = true) (f58 : mk' 100 i 58 = true) (f59 : mk' 100 i 59 = true) (f60 : mk' 100 i 60 = true) (f61 : mk' 100 i 61 = true) (f62 : mk' 100 i 62 = true) (f63 : mk' 100 i 63 = true) (f64 : mk' 100 i 64 = true) (f65 : mk' 100 i 65 = true) (f68 : mk' 100 i 68 = true) (f69 : mk' 100 i 69 = true) (f70 : mk' 100 i 70 = true) (f71 : mk' 100 i 71 = true) (f72 : mk' 100 i 72 = true) (f73 : mk' 100 i 73 = true) (f74 : mk' 100 i 74 = true) (f75 : mk' 100 i 75 = true) (f77 : mk' 100 i 77 = true) (f78 : mk' 100 i 78 = true) (f79 : mk' 100 i 79 = true) : zsh cA mk st 100 i = zsh cA mk' st 100 i := by
  show zc_100 cA (mk 100 i) i (zgF st 100 i) (zgP st 100 i) (zgO st 100 i) (zgA st 100 i) (zgR st 100 i) (zgL st 100 i) (zgJ st 100 i) = zc_100 cA (mk' 100 i) i (zgF st 100 i) (zgP st 100 i) (zgO st 100 i) (zgA st 100 i) (zgR st 100 i) (zgL st 100 i) (zgJ st 100 i)
  unfold zc_100
  rw [g4, g5, g13, g14, g15, g16, g17, g18, g19, g20, g22, g24, g25, g26, g27, g28, g29, g30, g31, g32, g33, g34, g35, g36, g37, g38, g39, g40, g42, g43, g44, g45, g46, g47, g50, g51, g52, g53, g54, g55, g56, g57, g58, g59, g60, g61, g62, g63, g64, g65, g68, g69, g70, g71, g72, g73, g74, g75, g77, g78, g79, f4, f5, f13, f14, f15, f16, f17, f18, f19, f20, f22, f24, f25, f26, f27, f28, f29, f30, f31, f32, f33, f34, f35, f36, f37, f38, f39, f40, f42, f43, f44, f45, f46, f47, f50, f51, f52, f53, f54, f55, f56, f57, f58, f59, f60, f61, f62, f63, f64, f65, f68, f69, f70, f71, f72, f73, f74, f75, f77, f78, f79]
theorem fh_100_4 {cA : Nat → ClassId} {i : Nat} (g : mk 100 i 4 = true) : ∃ fs, zsh cA mk st 100 i = .inr (11, fs) ∧ fs[4]? = some (.ref 101) := ⟨_, rfl, congrArg some (if_pos g)⟩
theorem fh_100_5 {cA : Nat → ClassId} {i : Nat} (g : mk 100 i 5 = true) : ∃ fs, zsh cA mk st 100 i = .inr (11, fs) ∧ fs[5]? = some (.ref 102) := ⟨_, rfl, congrArg some (if_pos g)⟩
theorem fh_100_13 {cA : Nat → ClassId} {i : Nat} (g : mk 100 i 13 = true) : ∃ fs, zsh cA mk st 100 i = .inr (11, fs) ∧ fs[13]? = some (.ref 103) := ⟨_, rfl, congrArg some (if_pos g)⟩
theorem fh_100_14 {cA : Nat → ClassId} {i : Nat} (g : mk 100 i 14 = true) : ∃ fs, zsh cA mk st 100 i = .inr (11, fs) ∧ fs[14]? = some (.ref 104) := ⟨_, rfl, congrArg some (if_pos g)⟩
theorem fh_100_15 {cA : Nat → ClassId} {i : Nat} (g : mk 100 i 15 = true) : ∃ fs, zsh cA mk st 100 i = .inr (11, fs) ∧ fs[15]? = some (.ref 105) := ⟨_, rfl, congrArg some (if_pos g)⟩
theorem fh_100_16 {cA : Nat → ClassId} {i : Nat} (g : mk 100 i 16 = true) : ∃ fs, zsh cA mk st 100 i = .inr (11, fs) ∧ fs[16]? = some (.ref 106) := ⟨_, rfl, congrArg some (if_pos g)⟩
theorem fh_100_17 {cA : Nat → ClassId} {i : Nat} (g : mk 100 i 17 = true) : ∃ fs, zsh cA mk st 100 i = .inr (11, fs) ∧ fs[17]? = some (.ref 107) := ⟨_, rfl, congrArg some (if_pos g)⟩
theorem fh_100_18 {cA : Nat → ClassId} {i : Nat} (g : mk 100 i 18 = true) : ∃ fs, zsh cA mk st 100 i = .inr (11, fs) ∧ fs[18]? = some (.ref 108) := ⟨_, rfl, congrArg some (if_pos g)⟩
theorem fh_100_19 {cA : Nat → ClassId} {i : Nat} (g : mk 100 i 19 = true) : ∃ fs, zsh cA mk st 100 i = .inr (11, fs) ∧ fs[19]? = some (.ref 109) := ⟨_, rfl, congrArg some (if_pos g)⟩
theorem fh_100_20 {cA : Nat → ClassId} {i : Nat} (g : mk 100 i 20 = true) : ∃ fs, zsh cA mk st 100 i = .inr (11, fs) ∧ fs[20]? = some (.ref 110) := ⟨_, rfl, congrArg some (if_pos g)⟩
theorem fh_100_22 {cA : Nat → ClassId} {i : Nat} (g : mk 100 i 22 = true) : ∃ fs, zsh cA mk st 100 i = .inr (11, fs) ∧ fs[22]? = some (.ref 111) := ⟨_, rfl, congrArg some (if_pos g)⟩
theorem fh_100_24 {cA : Nat → ClassId} {i : Nat} (g : mk 100 i 24 = true) : ∃ fs, zsh cA mk st 100 i = .inr (11, fs) ∧ fs[24]? = some (.ref 112) := ⟨_, rfl, congrArg some (if_pos g)⟩
theorem fh_100_25 {cA : Nat → ClassId} {i : Nat} (g : mk 100 i 25 = true) : ∃ fs, zsh cA mk st 100 i = .inr (11, fs) ∧ fs[25]? = some (.ref 113) := ⟨_, rfl, congrArg some (if_pos g)⟩
theorem fh_100_26 {cA : Nat → ClassId} {i : Nat} (g : mk 100 i 26 = true) : ∃ fs, zsh cA mk st 100 i = .inr (11, fs) ∧ fs[26]? = some (.ref 114) := ⟨_, rfl, congrArg some (if_pos g)⟩
theorem fh_100_27 {cA : Nat → ClassId} {i : Nat} (g : mk 100 i 27 = true) : ∃ fs, zsh cA mk st 100 i = .inr (11, fs) ∧ fs[27]? = some (.ref 115) := ⟨_, rfl, congrArg some (if_pos g)⟩
theorem fh_100_28 {cA : Nat → ClassId} {i : Nat} (g : mk 100 i 28 = true) : ∃ fs, zsh cA mk st 100 i = .inr (11, fs) ∧ fs[28]? = some (.ref 116) := ⟨_, rfl, congrArg some (if_pos g)⟩
theorem fh_100_29 {cA : Nat → ClassId} {i : Nat} (g : mk 100 i 29 = true) : ∃ fs, zsh cA mk st 100 i = .inr (11, fs) ∧ fs[29]? = some (.ref 117) := ⟨_, rfl, congrArg some (if_pos g)⟩
theorem fh_100_30 {cA : Nat → ClassId} {i : Nat} (g : mk 100 i 30 = true) : ∃ fs, zsh cA mk st 100 i = .inr (11, fs) ∧ fs[30]? = some (.ref 118) := ⟨_, rfl, congrArg some (if_pos g)⟩
theorem fh_100_31 {cA : Nat → ClassId} {i : Nat} (g : mk 100 i 31 = true) : ∃ fs, zsh cA mk st 100 i = .inr (11, fs) ∧ fs[31]? = some (.ref 119) := ⟨_, rfl, congrArg some (if_pos g)⟩
theorem fh_100_32 {cA : Nat → ClassId} {i : Nat} (g : mk 100 i 32 = true) : ∃ fs, zsh cA mk st 100 i = .inr (11, fs) ∧ fs[32]? = some (.ref 120) := ⟨_, rfl, congrArg some (if_pos g)⟩
theorem fh_100_33 {cA : Nat → ClassId} {i : Nat} (g : mk 100 i 33 = true) : ∃ fs, zsh cA mk st 100 i = .inr (11, fs) ∧ fs[33]? = some (.ref 121) := ⟨_, rfl, congrArg some (if_pos g)⟩
theorem fh_100_34 {cA : Nat → ClassId} {i : Nat} (g : mk 100 i 34 = true) : ∃ fs, zsh cA mk st 100 i = .inr (11, fs) ∧ fs[34]? = some (.ref 122) := ⟨_, rfl, congrArg some (if_pos g)⟩
theorem fh_100_35 {cA : Nat → ClassId} {i : Nat} (g : mk 100 i 35 = true) : ∃ fs, zsh cA mk st 100 i = .inr (11, fs) ∧ fs[35]? = some (.ref 123) := ⟨_, rfl, congrArg some (if_pos g)⟩
theorem fh_100_36 {cA : Nat → ClassId} {i : Nat} (g : mk 100 i 36 = true) : ∃ fs, zsh cA mk st 100 i = .inr (11, fs) ∧ fs[36]? = some (.ref 124) := ⟨_, rfl, congrArg some (if_pos g)⟩
theorem fh_100_37 {cA : Nat → ClassId} {i : Nat} (g : mk 100 i 37 = true) : ∃ fs, zsh cA mk st 100 i = .inr (11, fs) ∧ fs[37]? = some (.ref 125) := ⟨_, rfl, congrArg some (if_pos g)⟩
theorem fh_100_38 {cA : Nat → ClassId} {i : Nat} (g : mk 100 i 38 = true) : ∃ fs, zsh cA mk st 100 i = .inr (11, fs) ∧ fs[38]? = some (.ref 126) := ⟨_, rfl, congrArg some (if_pos g)⟩
theorem fh_100_39 {cA : Nat → ClassId} {i : Nat} (g : mk 100 i 39 = true) : ∃ fs, zsh cA mk st 100 i = .inr (11, fs) ∧ fs[39]? = some (.ref 127) := ⟨_, rfl, congrArg some (if_pos g)⟩
theorem fh_100_40 {cA : Nat → ClassId} {i : Nat} (g : mk 100 i 40 = true) : ∃ fs, zsh cA mk st 100 i = .inr (11, fs) ∧ fs[40]? = some (.ref 128) := ⟨_, rfl, congrArg some (if_pos g)⟩
theorem fh_100_42 {cA : Nat → ClassId} {i : Nat} (g : mk 100 i 42 = true) : ∃ fs, zsh cA mk st 100 i = .inr (11, fs) ∧ fs[42]? = some (.ref 129) := ⟨_, rfl, congrArg some (if_pos g)⟩
theorem fh_100_43 {cA : Nat → ClassId} {i : Nat} (g : mk 100 i 43 = true) : ∃ fs, zsh cA mk st 100 i = .inr (11, fs) ∧ fs[43]? = some (.ref 130) := ⟨_, rfl, congrArg some (if_pos g)⟩
theorem fh_100_44 {cA : Nat → ClassId} {i : Nat} (g : mk 100 i 44 = true) : ∃ fs, zsh cA mk st 100 i = .inr (11, fs) ∧ fs[44]? = some (.ref 131) := ⟨_, rfl, congrArg some (if_pos g)⟩
theorem fh_100_45 {cA : Nat → ClassId} {i : Nat} (g : mk 100 i 45 = true) : ∃ fs, zsh cA mk st 100 i = .inr (11, fs) ∧ fs[45]? = some (.ref 132) := ⟨_, rfl, congrArg some (if_pos g)⟩
theorem fh_100_46 {cA : Nat → ClassId} {i : Nat} (g : mk 100 i 46 = true) : ∃ fs, zsh cA mk st 100 i = .inr (11, fs) ∧ fs[46]? = some (.ref 133) := ⟨_, rfl, congrArg some (if_pos g)⟩
theorem fh_100_47 {cA : Nat → ClassId} {i : Nat} (g : mk 100 i 47 = true) : ∃ fs, zsh cA mk st 100 i = .inr (11, fs) ∧ fs[47]? = some (.ref 134) := ⟨_, rfl, congrArg some (if_pos g)⟩
theorem fh_100_50 {cA : Nat → ClassId} {i : Nat} (g : mk 100 i 50 = true) : ∃ fs, zsh cA mk st 100 i = .inr (11, fs) ∧ fs[50]? = some (.ref 135) := ⟨_, rfl, congrArg some (if_pos g)⟩
theorem fh_100_51 {cA : Nat → ClassId} {i : Nat} (g : mk 100 i 51 = true) : ∃ fs, zsh cA mk st 100 i = .inr (11, fs) ∧ fs[51]? = some (.ref 136) := ⟨_, rfl, congrArg some (if_pos g)⟩
theorem fh_100_52 {cA : Nat → ClassId} {i : Nat} (g : mk 100 i 52 = true) : ∃ fs, zsh cA mk st 100 i = .inr (11, fs) ∧ fs[52]? = some (.ref 137) := ⟨_, rfl, congrArg some (if_pos g)⟩
theorem fh_100_53 {cA : Nat → ClassId} {i : Nat} (g : mk 100 i 53 = true) : ∃ fs, zsh cA mk st 100 i = .inr (11, fs) ∧ fs[53]? = some (.ref 138) := ⟨_, rfl, congrArg some (if_pos g)⟩
theorem fh_100_54 {cA : Nat → ClassId} {i : Nat} (g : mk 100 i 54 = true) : ∃ fs, zsh cA mk st 100 i = .inr (11, fs) ∧ fs[54]? = some (.ref 139) := ⟨_, rfl, congrArg some (if_pos g)⟩
theorem fh_100_55 {cA : Nat → ClassId} {i : Nat} (g : mk 100 i 55 = true) : ∃ fs, zsh cA mk st 100 i = .inr (11, fs) ∧ fs[55]? = some (.ref 140) := ⟨_, rfl, congrArg some (if_pos g)⟩
theorem fh_100_56 {cA : Nat → ClassId} {i : Nat} (g : mk 100 i 56 = true) : ∃ fs, zsh cA mk st 100 i = .inr (11, fs) ∧ fs[56]? = some (.ref 141) := ⟨_, rfl, congrArg some (if_pos g)⟩
theorem fh_100_57 {cA : Nat → ClassId} {i : Nat} (g : mk 100 i 57 = true) : ∃ fs, zsh cA mk st 100 i = .inr (11, fs) ∧ fs[57]? = some (.ref 142) := ⟨_, rfl, congrArg some (if_pos g)⟩
theorem fh_100_58 {cA : Nat → ClassId} {i : Nat} (g : mk 100 i 58 = true) : ∃ fs, zsh cA mk st 100 i = .inr (11, fs) ∧ fs[58]? = some (.ref 143) := ⟨_, rfl, congrArg some (if_pos g)⟩
theorem fh_100_59 {cA : Nat → ClassId} {i : Nat} (g : mk 100 i 59 = true) : ∃ fs, zsh cA mk st 100 i = .inr (11, fs) ∧ fs[59]? = some (.ref 144) := ⟨_, rfl, congrArg some (if_pos g)⟩
theorem fh_100_60 {cA : Nat → ClassId} {i : Nat} (g : mk 100 i 60 = true) : ∃ fs, zsh cA mk st 100 i = .inr (11, fs) ∧ fs[60]? = some (.ref 145) := ⟨_, rfl, congrArg some (if_pos g)⟩
theorem fh_100_61 {cA : Nat → ClassId} {i : Nat} (g : mk 100 i 61 = true) : ∃ fs, zsh cA mk st 100 i = .inr (11, fs) ∧ fs[61]? = some (.ref 146) := ⟨_, rfl, congrArg some (if_pos g)⟩
theorem fh_100_62 {cA : Nat → ClassId} {i : Nat} (g : mk 100 i 62 = true) : ∃ fs, zsh cA mk st 100 i = .inr (11, fs) ∧ fs[62]? = some (.ref 147) := ⟨_, rfl, congrArg some (if_pos g)⟩
theorem fh_100_63 {cA : Nat → ClassId} {i : Nat} (g : mk 100 i 63 = true) : ∃ fs, zsh cA mk st 100 i = .inr (11, fs) ∧ fs[63]? = some (.ref 148) := ⟨_, rfl, congrArg some (if_pos g)⟩
theorem fh_100_64 {cA : Nat → ClassId} {i : Nat} (g : mk 100 i 64 = true) : ∃ fs, zsh cA mk st 100 i = .inr (11, fs) ∧ fs[64]? = some (.ref 149) := ⟨_, rfl, congrArg some (if_pos g)⟩
theorem fh_100_65 {cA : Nat → ClassId} {i : Nat} (g : mk 100 i 65 = true) : ∃ fs, zsh cA mk st 100 i = .inr (11, fs) ∧ fs[65]? = some (.ref 150) := ⟨_, rfl, congrArg some (if_pos g)⟩
theorem fh_100_68 {cA : Nat → ClassId} {i : Nat} (g : mk 100 i 68 = true) : ∃ fs, zsh cA mk st 100 i = .inr (11, fs) ∧ fs[68]? = some (.ref 151) := ⟨_, rfl, congrArg some (if_pos g)⟩
theorem fh_100_69 {cA : Nat → ClassId} {i : Nat} (g : mk 100 i 69 = true) : ∃ fs, zsh cA mk st 100 i = .inr (11, fs) ∧ fs[69]? = some (.ref 152) := ⟨_, rfl, congrArg some (if_pos g)⟩
theorem fh_100_70 {cA : Nat → ClassId} {i : Nat} (g : mk 100 i 70 = true) : ∃ fs, zsh cA mk st 100 i = .inr (11, fs) ∧ fs[70]? = some (.ref 153) := ⟨_, rfl, congrArg some (if_pos g)⟩
theorem fh_100_71 {cA : Nat → ClassId} {i : Nat} (g : mk 100 i 71 = true) : ∃ fs, zsh cA mk st 100 i = .inr (11, fs) ∧ fs[71]? = some (.ref 154) := ⟨_, rfl, congrArg some (if_pos g)⟩
theorem fh_100_72 {cA : Nat → ClassId} {i : Nat} (g : mk 100 i 72 = true) : ∃ fs, zsh cA mk st 100 i = .inr (11, fs) ∧ fs[72]? = some (.ref 155) := ⟨_, rfl, congrArg some (if_pos g)⟩
theorem fh_100_73 {cA : Nat → ClassId} {i : Nat} (g : mk 100 i 73 = true) : ∃ fs, zsh cA mk st 100 i = .inr (11, fs) ∧ fs[73]? = some (.ref 156) := ⟨_, rfl, congrArg some (if_pos g)⟩
theorem fh_100_74 {cA : Nat → ClassId} {i : Nat} (g : mk 100 i 74 = true) : ∃ fs, zsh cA mk st 100 i = .inr (11, fs) ∧ fs[74]? = some (.ref 157) := ⟨_, rfl, congrArg some (if_pos g)⟩
theorem fh_100_75 {cA : Nat → ClassId} {i : Nat} (g : mk 100 i 75 = true) : ∃ fs, zsh cA mk st 100 i = .inr (11, fs) ∧ fs[75]? = some (.ref 158) := ⟨_, rfl, congrArg some (if_pos g)⟩
theorem fh_100_77 {cA : Nat → ClassId} {i : Nat} (g : mk 100 i 77 = true) : ∃ fs, zsh cA mk st 100 i = .inr (11, fs) ∧ fs[77]? = some (.ref 159) := ⟨_, rfl, congrArg some (if_pos g)⟩
theorem fh_100_78 {cA : Nat → ClassId} {i : Nat} (g : mk 100 i 78 = true) : ∃ fs, zsh cA mk st 100 i = .inr (11, fs) ∧ fs[78]? = some (.ref 160) := ⟨_, rfl, congrArg some (if_pos g)⟩
theorem fh_100_79 {cA : Nat → ClassId} {i : Nat} (g : mk 100 i 79 = true) : ∃ fs, zsh cA mk st 100 i = .inr (11, fs) ∧ fs[79]? = some (.ref 161) := ⟨_, rfl, congrArg some (if_pos g)⟩
theorem nw_101 {cA : Nat → ClassId} : zsh cA mk (zuV st 101 12) 101 (zgN st 101) = .inl (cA 0, 12, .inl fun _ => 0) := by unfold zsh; rw [zs_V.1]; rfl
theorem nw_102 {cA : Nat → ClassId} : zsh cA mk (zuV st 102 400) 102 (zgN st 102) = .inl (cA 1, 400, .inl fun _ => 0) := by unfold zsh; rw [zs_V.1]; rfl
theorem nw_103 {cA : Nat → ClassId} : zsh cA mk (zuV st 103 15) 103 (zgN st 103) = .inl (cA 0, 15, .inl fun _ => 0) := by unfold zsh; rw [zs_V.1]; rfl
theorem nw_104 {cA : Nat → ClassId} : zsh cA mk (zuV st 104 15) 104 (zgN st 104) = .inl (cA 0, 15, .inl fun _ => 0) := by unfold zsh; rw [zs_V.1]; rfl
theorem nw_105 {cA : Nat → ClassId} : zsh cA mk (zuV st 105 4) 105 (zgN st 105) = .inl (cA 0, 4, .inl fun _ => 0) := by unfold zsh; rw [zs_V.1]; rfl
theorem nw_106 {cA : Nat → ClassId} : zsh cA mk (zuV st 106 4) 106 (zgN st 106) = .inl (cA 0, 4, .inl fun _ => 0) := by unfold zsh; rw [zs_V.1]; rfl
theorem nw_107 {cA : Nat → ClassId} : zsh cA mk (zuV st 107 800) 107 (zgN st 107) = .inl (cA 0, 800, .inl fun _ => 0) := by unfold zsh; rw [zs_V.1]; rfl
theorem nw_108 {cA : Nat → ClassId} : zsh cA mk (zuV st 108 800) 108 (zgN st 108) = .inl (cA 0, 800, .inl fun _ => 0) := by unfold zsh; rw [zs_V.1]; rfl
theorem nw_109 {cA : Nat → ClassId} : zsh cA mk (zuV st 109 800) 109 (zgN st 109) = .inl (cA 0, 800, .inl fun _ => 0) := by unfold zsh; rw [zs_V.1]; rfl
theorem nw_110 {cA : Nat → ClassId} : zsh cA mk (zuV st 110 800) 110 (zgN st 110) = .inl (cA 0, 800, .inl fun _ => 0) := by unfold zsh; rw [zs_V.1]; rfl
theorem nw_111 {cA : Nat → ClassId} : zsh cA mk (zuV st 111 800) 111 (zgN st 111) = .inl (cA 2, 800, .inl fun _ => 0) := by unfold zsh; rw [zs_V.1]; rfl
theorem nw_112 {cA : Nat → ClassId} : zsh cA mk (zuV st 112 30) 112 (zgN st 112) = .inl (cA 0, 30, .inl fun _ => 0) := by unfold zsh; rw [zs_V.1]; rfl
theorem nw_113 {cA : Nat → ClassId} : zsh cA mk (zuV st 113 30) 113 (zgN st 113) = .inl (cA 0, 30, .inl fun _ => 0) := by unfold zsh; rw [zs_V.1]; rfl
theorem nw_114 {cA : Nat → ClassId} : zsh cA mk (zuV st 114 30) 114 (zgN st 114) = .inl (cA 0, 30, .inl fun _ => 0) := by unfold zsh; rw [zs_V.1]; rfl
theorem nw_115 {cA : Nat → ClassId} : zsh cA mk (zuV st 115 30) 115 (zgN st 115) = .inl (cA 2, 30, .inl fun _ => 0) := by unfold zsh; rw [zs_V.1]; rfl
theorem nw_116 {cA : Nat → ClassId} : zsh cA mk (zuV st 116 450) 116 (zgN st 116) = .inl (cA 0, 450, .inl fun _ => 0) := by unfold zsh; rw [zs_V.1]; rfl
theorem nw_117 {cA : Nat → ClassId} : zsh cA mk (zuV st 117 30) 117 (zgN st 117) = .inl (cA 0, 30, .inl fun _ => 0) := by unfold zsh; rw [zs_V.1]; rfl
theorem nw_118 {cA : Nat → ClassId} : zsh cA mk (zuV st 118 30) 118 (zgN st 118) = .inl (cA 0, 30, .inl fun _ => 0) := by unfold zsh; rw [zs_V.1]; rfl
theorem nw_119 {cA : Nat → ClassId} : zsh cA mk (zuV st 119 30) 119 (zgN st 119) = .inl (cA 0, 30, .inl fun _ => 0) := by unfold zsh; rw [zs_V.1]; rfl
theorem nw_120 {cA : Nat → ClassId} : zsh cA mk (zuV st 120 30) 120 (zgN st 120) = .inl (cA 2, 30, .inl fun _ => 0) := by unfold zsh; rw [zs_V.1]; rfl
theorem nw_121 {cA : Nat → ClassId} : zsh cA mk (zuV st 121 30) 121 (zgN st 121) = .inl (cA 0, 30, .inl fun _ => 0) := by unfold zsh; rw [zs_V.1]; rfl
theorem nw_122 {cA : Nat → ClassId} : zsh cA mk (zuV st 122 30) 122 (zgN st 122) = .inl (cA 0, 30, .inl fun _ => 0) := by unfold zsh; rw [zs_V.1]; rfl
theorem nw_123 {cA : Nat → ClassId} : zsh cA mk (zuV st 123 30) 123 (zgN st 123) = .inl (cA 0, 30, .inl fun _ => 0) := by unfold zsh; rw [zs_V.1]; rfl
theorem nw_124 {cA : Nat → ClassId} : zsh cA mk (zuV st 124 30) 124 (zgN st 124) = .inl (cA 0, 30, .inl fun _ => 0) := by unfold zsh; rw [zs_V.1]; rfl
theorem nw_125 {cA : Nat → ClassId} : zsh cA mk (zuV st 125 30) 125 (zgN st 125) = .inl (cA 0, 30, .inl fun _ => 0) := by unfold zsh; rw [zs_V.1]; rfl
theorem nw_126 {cA : Nat → ClassId} : zsh cA mk (zuV st 126 30) 126 (zgN st 126) = .inl (cA 0, 30, .inl fun _ => 0) := by unfold zsh; rw [zs_V.1]; rfl
theorem nw_127 {cA : Nat → ClassId} : zsh cA mk (zuV st 127 30) 127 (zgN st 127) = .inl (cA 0, 30, .inl fun _ => 0) := by unfold zsh; rw [zs_V.1]; rfl
theorem nw_128 {cA : Nat → ClassId} : zsh cA mk (zuV st 128 30) 128 (zgN st 128) = .inl (cA 0, 30, .inl fun _ => 0) := by unfold zsh; rw [zs_V.1]; rfl
theorem nw_129 {cA : Nat → ClassId} : zsh cA mk (zuV st 129 12) 129 (zgN st 129) = .inl (cA 0, 12, .inl fun _ => 0) := by unfold zsh; rw [zs_V.1]; rfl
theorem nw_130 {cA : Nat → ClassId} : zsh cA mk (zuV st 130 12) 130 (zgN st 130) = .inl (cA 0, 12, .inl fun _ => 0) := by unfold zsh; rw [zs_V.1]; rfl
theorem nw_131 {cA : Nat → ClassId} : zsh cA mk (zuV st 131 90) 131 (zgN st 131) = .inl (cA 0, 90, .inl fun _ => 0) := by unfold zsh; rw [zs_V.1]; rfl
theorem nw_132 {cA : Nat → ClassId} : zsh cA mk (zuV st 132 90) 132 (zgN st 132) = .inl (cA 0, 90, .inl fun _ => 0) := by unfold zsh; rw [zs_V.1]; rfl
theorem nw_133 {cA : Nat → ClassId} : zsh cA mk (zuV st 133 90) 133 (zgN st 133) = .inl (cA 0, 90, .inl fun _ => 0) := by unfold zsh; rw [zs_V.1]; rfl
theorem nw_134 {cA : Nat → ClassId} : zsh cA mk (zuV st 134 90) 134 (zgN st 134) = .inl (cA 0, 90, .inl fun _ => 0) := by unfold zsh; rw [zs_V.1]; rfl
theorem nw_135 {cA : Nat → ClassId} : zsh cA mk (zuV st 135 300) 135 (zgN st 135) = .inl (cA 0, 300, .inl fun _ => 0) := by unfold zsh; rw [zs_V.1]; rfl
theorem nw_136 {cA : Nat → ClassId} : zsh cA mk (zuV st 136 300) 136 (zgN st 136) = .inl (cA 0, 300, .inl fun _ => 0) := by unfold zsh; rw [zs_V.1]; rfl
theorem nw_137 {cA : Nat → ClassId} : zsh cA mk (zuV st 137 300) 137 (zgN st 137) = .inl (cA 0, 300, .inl fun _ => 0) := by unfold zsh; rw [zs_V.1]; rfl
theorem nw_138 {cA : Nat → ClassId} : zsh cA mk (zuV st 138 300) 138 (zgN st 138) = .inl (cA 0, 300, .inl fun _ => 0) := by unfold zsh; rw [zs_V.1]; rfl
theorem nw_139 {cA : Nat → ClassId} : zsh cA mk (zuV st 139 60) 139 (zgN st 139) = .inl (cA 0, 60, .inl fun _ => 0) := by unfold zsh; rw [zs_V.1]; rfl
theorem nw_140 {cA : Nat → ClassId} : zsh cA mk (zuV st 140 60) 140 (zgN st 140) = .inl (cA 0, 60, .inl fun _ => 0) := by unfold zsh; rw [zs_V.1]; rfl
theorem nw_141 {cA : Nat → ClassId} : zsh cA mk (zuV st 141 60) 141 (zgN st 141) = .inl (cA 0, 60, .inl fun _ => 0) := by unfold zsh; rw [zs_V.1]; rfl
theorem nw_142 {cA : Nat → ClassId} : zsh cA mk (zuV st 142 30) 142 (zgN st 142) = .inl (cA 0, 30, .inl fun _ => 0) := by unfold zsh; rw [zs_V.1]; rfl
theorem nw_143 {cA : Nat → ClassId} : zsh cA mk (zuV st 143 30) 143 (zgN st 143) = .inl (cA 0, 30, .inl fun _ => 0) := by unfold zsh; rw [zs_V.1]; rfl
theorem nw_144 {cA : Nat → ClassId} : zsh cA mk (zuV st 144 72) 144 (zgN st 144) = .inl (cA 0, 72, .inl fun _ => 0) := by unfold zsh; rw [zs_V.1]; rfl
theorem nw_145 {cA : Nat → ClassId} : zsh cA mk (zuV st 145 1440) 145 (zgN st 145) = .inl (cA 0, 1440, .inl fun _ => 0) := by unfold zsh; rw [zs_V.1]; rfl
theorem nw_146 {cA : Nat → ClassId} : zsh cA mk (zuV st 146 1440) 146 (zgN st 146) = .inl (cA 0, 1440, .inl fun _ => 0) := by unfold zsh; rw [zs_V.1]; rfl
theorem nw_147 {cA : Nat → ClassId} : zsh cA mk (zuV st 147 1440) 147 (zgN st 147) = .inl (cA 0, 1440, .inl fun _ => 0) := by unfold zsh; rw [zs_V.1]; rfl
theorem nw_148 {cA : Nat → ClassId} : zsh cA mk (zuV st 148 1440) 148 (zgN st 148) = .inl (cA 0, 1440, .inl fun _ => 0) := by unfold zsh; rw [zs_V.1]; rfl
theorem nw_149 {cA : Nat → ClassId} : zsh cA mk (zuV st 149 30) 149 (zgN st 149) = .inl (cA 0, 30, .inl fun _ => 0) := by unfold zsh; rw [zs_V.1]; rfl
theorem nw_150 {cA : Nat → ClassId} : zsh cA mk (zuV st 150 30) 150 (zgN st 150) = .inl (cA 2, 30, .inl fun _ => 0) := by unfold zsh; rw [zs_V.1]; rfl
theorem nw_151 {cA : Nat → ClassId} : zsh cA mk (zuV st 151 5) 151 (zgN st 151) = .inl (cA 0, 5, .inl fun _ => 0) := by unfold zsh; rw [zs_V.1]; rfl
theorem nw_152 {cA : Nat → ClassId} : zsh cA mk (zuV st 152 10) 152 (zgN st 152) = .inl (cA 0, 10, .inl fun _ => 0) := by unfold zsh; rw [zs_V.1]; rfl
theorem nw_153 {cA : Nat → ClassId} : zsh cA mk (zuV st 153 10) 153 (zgN st 153) = .inl (cA 0, 10, .inl fun _ => 0) := by unfold zsh; rw [zs_V.1]; rfl
theorem nw_154 {cA : Nat → ClassId} : zsh cA mk (zuV st 154 200) 154 (zgN st 154) = .inl (cA 0, 200, .inl fun _ => 0) := by unfold zsh; rw [zs_V.1]; rfl
theorem nw_155 {cA : Nat → ClassId} : zsh cA mk (zuV st 155 200) 155 (zgN st 155) = .inl (cA 0, 200, .inl fun _ => 0) := by unfold zsh; rw [zs_V.1]; rfl
theorem nw_156 {cA : Nat → ClassId} : zsh cA mk (zuV st 156 441) 156 (zgN st 156) = .inl (cA 0, 441, .inl fun _ => 0) := by unfold zsh; rw [zs_V.1]; rfl
theorem nw_157 {cA : Nat → ClassId} : zsh cA mk (zuV st 157 441) 157 (zgN st 157) = .inl (cA 0, 441, .inl fun _ => 0) := by unfold zsh; rw [zs_V.1]; rfl
theorem nw_158 {cA : Nat → ClassId} : zsh cA mk (zuV st 158 20) 158 (zgN st 158) = .inl (cA 0, 20, .inl fun _ => 0) := by unfold zsh; rw [zs_V.1]; rfl
theorem nw_159 {cA : Nat → ClassId} : zsh cA mk (zuV st 159 10) 159 (zgN st 159) = .inl (cA 0, 10, .inl fun _ => 0) := by unfold zsh; rw [zs_V.1]; rfl
theorem nw_160 {cA : Nat → ClassId} : zsh cA mk (zuV st 160 400) 160 (zgN st 160) = .inl (cA 0, 400, .inl fun _ => 0) := by unfold zsh; rw [zs_V.1]; rfl
theorem nw_161 {cA : Nat → ClassId} : zsh cA mk (zuV st 161 400) 161 (zgN st 161) = .inl (cA 0, 400, .inl fun _ => 0) := by unfold zsh; rw [zs_V.1]; rfl
end NEWS
