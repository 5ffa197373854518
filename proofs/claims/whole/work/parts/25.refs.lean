theorem kl_L_8 : Cond.classLink RL 8 "PartyWalls" ∈ zw := zw_1 33 (by decide +kernel) (by decide +kernel)
theorem kl_X11_7 : Cond.classLink RX11 7 "java/util/ArrayList" ∈ zw := zw_1 41 (by decide +kernel) (by decide +kernel)
theorem gl_Jx4a65c_39 : Cond.fieldLink RJx4a65c 39 "java/util/ArrayList" "DEFAULTCAPACITY_EMPTY_ELEMENTDATA" "[Ljava/lang/Object;" ∈ zw := zw_1 53 (by decide +kernel) (by decide +kernel)
theorem kl_X11_35 : Cond.classLink RX11 35 "PartyWalls$Book" ∈ zw := zw_1 67 (by decide +kernel) (by decide +kernel)
theorem kl_X11_42 : Cond.classLink RX11 42 "PartyWalls$Joining" ∈ zw := zw_1 102 (by decide +kernel) (by decide +kernel)
theorem kl_X11_53 : Cond.classLink RX11 53 "PartyWalls$RuleReader" ∈ zw := zw_1 121 (by decide +kernel) (by decide +kernel)
theorem gl_X6_15 : Cond.fieldLink RX6 15 "PartyWalls$Word" "NO_WORD" "LPartyWalls$Word;" ∈ zw := zw_1 127 (by decide +kernel) (by decide +kernel)
theorem kl_X6_32 : Cond.classLink RX6 32 "PartyWalls$Rule" ∈ zw := zw_1 129 (by decide +kernel) (by decide +kernel)
theorem kl_X5_15 : Cond.classLink RX5 15 "[[I" ∈ zw := zw_1 135 (by decide +kernel) (by decide +kernel)
theorem gl_X6_42 : Cond.fieldLink RX6 42 "PartyWalls$RuleReader" "text" "[B" ∈ zw := zw_1 203 (by decide +kernel) (by decide +kernel)
theorem kl_X11_62 : Cond.classLink RX11 62 "PartyWalls$Rule" ∈ zw := zw_2 3 (by decide +kernel) (by decide +kernel)
theorem kl_X11_84 : Cond.classLink RX11 84 "PartyWalls$Wall" ∈ zw := zw_2 194 (by decide +kernel) (by decide +kernel)
theorem kl_J7_110 : Cond.classLink RJ7 110 "[Ljava/lang/Object;" ∈ zw := zw_3 31 (by decide +kernel) (by decide +kernel)
theorem kl_J7_2 : Cond.classLink RJ7 2 "java/lang/Object" ∈ zw := zw_3 33 (by decide +kernel) (by decide +kernel)
theorem kl_Jx4a65c_7 : Cond.classLink RJx4a65c 7 "java/lang/Object" ∈ zw := zw_3 41 (by decide +kernel) (by decide +kernel)
theorem gl_X9_3 : Cond.fieldLink RX9 3 "PartyWalls$Word" "NO_WORD" "LPartyWalls$Word;" ∈ zw := zw_3 131 (by decide +kernel) (by decide +kernel)
theorem gl_X9_103 : Cond.fieldLink RX9 103 "PartyWalls$Word" "ALL" "[LPartyWalls$Word;" ∈ zw := zw_3 132 (by decide +kernel) (by decide +kernel)
theorem gl_J0_38 : Cond.fieldLink RJ0 38 "java/lang/String" "COMPACT_STRINGS" "Z" ∈ zw := zw_3 142 (by decide +kernel) (by decide +kernel)
theorem gl_X6_93 : Cond.fieldLink RX6 93 "PartyWalls$1" "$SwitchMap$PartyWalls$Word" "[I" ∈ zw := zw_3 188 (by decide +kernel) (by decide +kernel)
theorem gl_X6_174 : Cond.fieldLink RX6 174 "PartyWalls$Word" "IF" "LPartyWalls$Word;" ∈ zw := zw_3 204 (by decide +kernel) (by decide +kernel)
theorem gl_X6_205 : Cond.fieldLink RX6 205 "PartyWalls$Word" "NOT" "LPartyWalls$Word;" ∈ zw := zw_3 218 (by decide +kernel) (by decide +kernel)
theorem gl_X6_202 : Cond.fieldLink RX6 202 "PartyWalls$Word" "AND" "LPartyWalls$Word;" ∈ zw := zw_3 231 (by decide +kernel) (by decide +kernel)
theorem gl_X6_193 : Cond.fieldLink RX6 193 "PartyWalls$Word" "OR" "LPartyWalls$Word;" ∈ zw := zw_3 233 (by decide +kernel) (by decide +kernel)
theorem kl_J7_317 : Cond.classLink RJ7 317 "[I" ∈ zw := zw_4 4 (by decide +kernel) (by decide +kernel)
theorem gl_X6_153 : Cond.fieldLink RX6 153 "PartyWalls$Word" "CONSENT" "LPartyWalls$Word;" ∈ zw := zw_4 13 (by decide +kernel) (by decide +kernel)
theorem gl_X6_156 : Cond.fieldLink RX6 156 "PartyWalls$Word" "DISPUTED" "LPartyWalls$Word;" ∈ zw := zw_4 15 (by decide +kernel) (by decide +kernel)
theorem gl_X6_122 : Cond.fieldLink RX6 122 "PartyWalls$Word" "FADE" "LPartyWalls$Word;" ∈ zw := zw_4 25 (by decide +kernel) (by decide +kernel)
theorem kl_X11_155 : Cond.classLink RX11 155 "PartyWalls$Work" ∈ zw := zw_4 66 (by decide +kernel) (by decide +kernel)
theorem kl_X10_30 : Cond.classLink RX10 30 "PartyWalls$Proposal" ∈ zw := zw_4 72 (by decide +kernel) (by decide +kernel)
theorem kl_X11_229 : Cond.classLink RX11 229 "PartyWalls$Proposal" ∈ zw := zw_5 17 (by decide +kernel) (by decide +kernel)
theorem kl_X11_364 : Cond.classLink RX11 364 "PartyWalls$Survey" ∈ zw := zw_6 38 (by decide +kernel) (by decide +kernel)
theorem kl_X11_405 : Cond.classLink RX11 405 "PartyWalls$Gauge" ∈ zw := zw_6 146 (by decide +kernel) (by decide +kernel)
theorem kl_L_147 : Cond.classLink RL 147 "PartyWallsModel" ∈ zw := zw_6 238 (by decide +kernel) (by decide +kernel)
theorem gl_X9_95 : Cond.fieldLink RX9 95 "PartyWalls$Word" "text" "Ljava/lang/String;" ∈ zw := zw_10 7 (by decide +kernel) (by decide +kernel)
section ZV
variable {Z : zZ} {p : Program} {l : Launch} {e : Env} {R : Room} {s : State} {m : MethodId} {args : Array Value} {below : List Frame} {meth : Method} {c : Code} {Q : State → Prop} {cells slots : Nat} {ad0 : Nat → Nat} {h0 : zH}
variable {h : zH} {mk : zMk} {st : zTs} {pc nL : Nat} {lc : List (Option Value)} {rest : List Value} {cc : ByteArray} {own : String}
theorem zv_rf {ad : Nat → Nat} (o : Option Nat) : zv ad (va_rf o) = va_rf (o.map ad) := by cases o <;> rfl
theorem zok_rf {h : zH} {o : Option Nat} (q : ∀ a, o = some a → zok h (.ref a)) : zok h (va_rf o) := by
  cases o with
  | none => intro _ e; cases e
  | some a => exact q a rfl
theorem z_aldq (C : zC Z p s m args meth c cc nL own) {a n t : Nat} {E : String} {f : Nat → Option Nat} {i : Int32} (d : decode cc pc = .ok (.aaload, 1)) (ha : h a = some (.inl (Z.2.1 t, n, .inr (.inr (.inr (.inr f)))))) (ht : (zt Z)[t]? = some (Z.2.1 t, .object E)) (hi : vp_in i n) (k : zG Z ad0 h0 p l e R s m args below meth c Q cells slots h nL (pc + 1) lc (va_rf (f i.toNatClampNeg) :: rest)) : zG Z ad0 h0 p l e R s m args below meth c Q cells slots h nL pc lc (.int i :: .ref a :: rest) := by
  intro ad H locs ls hP hS hE hL hl hv
  obtain ⟨L, g, P1, P2, P3, P4, P5⟩ := id hP
  obtain ⟨m1, m2, m3⟩ := P3 a _ ha
  obtain ⟨k9, hk9⟩ := va_pl_get (X := []) (f := g) m1
  rw [m2] at hk9
  refine va_aldq (ws := va_pl L g) C.1 C.2.1 C.2.2.2.2.2.1 P1 k9 t hk9 ht hi d ?_
  have k1 := k ad H locs ls hP hS hE hL hl (hv.tl.tl.cn (zok_rf fun b hb => m3 _ b hb))
  rw [List.map_cons, zv_rf] at k1
  exact k1
theorem z_aldr (C : zC Z p s m args meth c cc nL own) {a n : Nat} {f : Nat → Option Nat} {i : Int32} (d : decode cc pc = .ok (.aaload, 1)) (ha : h a = some (.inl (Z.2.1 6, n, .inr (.inr (.inr (.inr f)))))) (hi : vp_in i n) (k : zG Z ad0 h0 p l e R s m args below meth c Q cells slots h nL (pc + 1) lc (va_rf (f i.toNatClampNeg) :: rest)) : zG Z ad0 h0 p l e R s m args below meth c Q cells slots h nL pc lc (.int i :: .ref a :: rest) := by
  intro ad H locs ls hP hS hE hL hl hv
  obtain ⟨L, g, P1, P2, P3, P4, P5⟩ := id hP
  obtain ⟨m1, m2, m3⟩ := P3 a _ ha
  obtain ⟨k9, hk9⟩ := va_pl_get (X := []) (f := g) m1
  rw [m2] at hk9
  have k1 := k ad H locs ls hP hS hE hL hl (hv.tl.tl.cn (zok_rf fun b hb => m3 _ b hb))
  rw [List.map_cons, zv_rf] at k1
  have hlt : i.toNatClampNeg < n := Nat.not_le.mp fun q => hi (Or.inr q)
  exact W.aald (v := va_rf ((f i.toNatClampNeg).map ad)) (ty := .array .int) C.1 C.2.1 (P1 k9 _ hk9) ((C.2.2.2.2.2.1.2 6 _ rfl).1 n (fun j => va_rf ((f j).map ad))) rfl (fun q => by cases q) (by show ¬ (i < 0 ∨ (arrV _ _ _).slots.size ≤ _); rw [arrV_size]; exact hi) (by show (arrV _ _ _).slots[_]? = _; rw [arrV_read _ _ hlt]) rfl rfl d k1
theorem z_cast (C : zC Z p s m args meth c cc nL own) {a ci idx N : Nat} {cn : String} {T : u_T} {fs : List Value} (d : decode cc pc = .ok (.checkcast idx, 3)) (hw : Cond.classLink own idx cn ∈ zw) (ha : h a = some (.inr (ci, fs))) (hc : vwCl[ci]? = some (cn, T, N)) (k : zG Z ad0 h0 p l e R s m args below meth c Q cells slots h nL (pc + 3) lc (.ref a :: rest)) : zG Z ad0 h0 p l e R s m args below meth c Q cells slots h nL pc lc (.ref a :: rest) := by
  intro ad H locs ls hP hS hE hL hl hv
  obtain ⟨L, g, P1, P2, P3, P4, P5⟩ := id hP
  obtain ⟨m1, m2, m3⟩ := P3 a _ ha
  obtain ⟨k9, hk9⟩ := va_pl_get (X := []) (f := g) m1
  rw [m2] at hk9
  exact va_castE (a := ad a) C.1 C.2.1 C.2.2.2.1 (C.2.2.2.2.1 _ hw) (va_recv (ws := va_pl L g) C.2.2.2.2.2.1 P1 hc hk9) d (k ad H locs ls hP hS hE hL hl hv)
theorem z_gets (C : zC Z p s m args meth c cc nL own) {idx q : Nat} {Cn nm de : String} (d : decode cc pc = .ok (.getstatic idx, 3)) (hq : 200 ≤ q % 256) (hw : Cond.fieldLink own idx Cn nm de ∈ zw) (hZ : zK Z s s.heap → va_Z Cn nm de (.ref (Z.2.2.2 q)) (zA Z) s s.heap) (k : zG Z ad0 h0 p l e R s m args below meth c Q cells slots h nL (pc + 3) lc (.ref q :: rest)) : zG Z ad0 h0 p l e R s m args below meth c Q cells slots h nL pc lc (rest) := by
  intro ad H locs ls hP hS hE hL hl hv
  obtain ⟨L, f, P1, P2, P3, P4, P5⟩ := id hP
  have e9 := (P5 q hq).1
  have k1 := k ad H locs ls hP hS hE hL hl (hv.cn fun a ha => Or.inr (by cases ha; exact hq))
  rw [List.map_cons, show zv ad (.ref q) = .ref (Z.2.2.2 q) from congrArg Value.ref e9] at k1
  exact va_gets C.1 C.2.1 (hZ C.2.2.2.2.2.2.2.2) hS C.2.2.2.1 (C.2.2.2.2.1 _ hw) (fun x h => h) d k1
theorem z_getsI (C : zC Z p s m args meth c cc nL own) {idx : Nat} {x : Int32} {Cn nm de : String} (d : decode cc pc = .ok (.getstatic idx, 3)) (hw : Cond.fieldLink own idx Cn nm de ∈ zw) (hZ : zK Z s s.heap → va_Z Cn nm de (.int x) (zA Z) s s.heap) (k : zG Z ad0 h0 p l e R s m args below meth c Q cells slots h nL (pc + 3) lc (.int x :: rest)) : zG Z ad0 h0 p l e R s m args below meth c Q cells slots h nL pc lc (rest) := by
  intro ad H locs ls hP hS hE hL hl hv
  exact va_gets C.1 C.2.1 (hZ C.2.2.2.2.2.2.2.2) hS C.2.2.2.1 (C.2.2.2.2.1 _ hw) (fun x h => h) d (k ad H locs ls hP hS hE hL hl (hv.cn zok_i))
theorem z_ldcS (C : zC Z p s m args meth c cc nL own) {idx i : Nat} {text : String} (d : decode cc pc = .ok (.ldc idx, 2)) (hm : (own, idx, text, i) ∈ zstrL) (k : zG Z ad0 h0 p l e R s m args below meth c Q cells slots h nL (pc + 2) lc (.ref (200 + 256 * i) :: rest)) : zG Z ad0 h0 p l e R s m args below meth c Q cells slots h nL pc lc (rest) := by
  intro ad H locs ls hP hS hE hL hl hv
  obtain ⟨L, f, P1, P2, P3, P4, P5⟩ := id hP
  have e9 := (P5 (200 + 256 * i) (by omega)).1
  have k1 := k ad H locs ls hP hS hE hL hl (hv.cn fun a ha => Or.inr (by cases ha; show 200 ≤ (200 + 256 * i) % 256; omega))
  rw [List.map_cons, show zv ad (.ref (200 + 256 * i)) = .ref (Z.2.2.2 (200 + 256 * i)) from congrArg Value.ref e9] at k1
  exact va_ldcS C.1 C.2.1 C.2.2.2.1 (C.2.2.2.2.2.2.2.2.2.1 _ hm) d k1
theorem t_cast (C : zC Z p s m args meth c cc nL own) {k0 i ci idx N b : Nat} {cn : String} {T : u_T} (d : decode cc pc = .ok (.checkcast idx, 3)) (hw : Cond.classLink own idx cn ∈ zw) (hk : k0 < 200) (hb : b = k0 + 256 * i) (hs : ∃ fs, zsh Z.2.1 mk st k0 i = .inr (ci, fs)) (hc : vwCl[ci]? = some (cn, T, N)) (k : zG Z ad0 h0 p l e R s m args below meth c Q cells slots (zh Z mk st) nL (pc + 3) lc (.ref b :: rest)) : zG Z ad0 h0 p l e R s m args below meth c Q cells slots (zh Z mk st) nL pc lc (.ref b :: rest) := by
  intro ad H locs ls hP hS hE hL hl hv
  obtain ⟨fs, e1⟩ := hs
  subst hb
  have e3 := zh_at hk hv.hd
  rw [e1] at e3
  exact z_cast C d hw e3 hc k ad H locs ls hP hS hE hL hl hv
theorem t_aldq (C : zC Z p s m args meth c cc nL own) {k0 i a n t : Nat} {E : String} {f : Nat → Option Nat} {x : Int32} (d : decode cc pc = .ok (.aaload, 1)) (hk : k0 < 200) (ha : a = k0 + 256 * i) (hs : zsh Z.2.1 mk st k0 i = .inl (Z.2.1 t, n, .inr (.inr (.inr (.inr f))))) (ht : (zt Z)[t]? = some (Z.2.1 t, .object E)) (hi : vp_in x n) (kk : zG Z ad0 h0 p l e R s m args below meth c Q cells slots (zh Z mk st) nL (pc + 1) lc (va_rf (f x.toNatClampNeg) :: rest)) : zG Z ad0 h0 p l e R s m args below meth c Q cells slots (zh Z mk st) nL pc lc (.int x :: .ref a :: rest) := by
  intro ad H locs ls hP hS hE hL hl hv
  subst ha
  have e3 := zh_at hk hv.tl.hd
  rw [hs] at e3
  exact z_aldq C d e3 ht hi kk ad H locs ls hP hS hE hL hl hv
theorem t_aldr (C : zC Z p s m args meth c cc nL own) {k0 i a n : Nat} {f : Nat → Option Nat} {x : Int32} (d : decode cc pc = .ok (.aaload, 1)) (hk : k0 < 200) (ha : a = k0 + 256 * i) (hs : zsh Z.2.1 mk st k0 i = .inl (Z.2.1 6, n, .inr (.inr (.inr (.inr f))))) (hi : vp_in x n) (kk : zG Z ad0 h0 p l e R s m args below meth c Q cells slots (zh Z mk st) nL (pc + 1) lc (va_rf (f x.toNatClampNeg) :: rest)) : zG Z ad0 h0 p l e R s m args below meth c Q cells slots (zh Z mk st) nL pc lc (.int x :: .ref a :: rest) := by
  intro ad H locs ls hP hS hE hL hl hv
  subst ha
  have e3 := zh_at hk hv.tl.hd
  rw [hs] at e3
  exact z_aldr C d e3 hi kk ad H locs ls hP hS hE hL hl hv
theorem t_aldd (C : zC Z p s m args meth c cc nL own) {k0 el a n ln : Nat} {x : Int32} (d : decode cc pc = .ok (.aaload, 1)) (hk : k0 < 200) (ha : a % 256 = k0) (hs : zsh Z.2.1 mk st k0 (a / 256) = .inl (Z.2.1 4, n, .inr (.inr (.inr (.inr (fun j => if j < ln then some (el + 256 * j) else none)))))) (hi : vp_in x n) (hx : x.toNatClampNeg < ln) (kk : zG Z ad0 h0 p l e R s m args below meth c Q cells slots (zh Z mk st) nL (pc + 1) lc (.ref (el + 256 * x.toNatClampNeg) :: rest)) : zG Z ad0 h0 p l e R s m args below meth c Q cells slots (zh Z mk st) nL pc lc (.int x :: .ref a :: rest) := by
  refine t_aldq C d hk (i := a / 256) (by omega) hs rfl hi ?_
  rw [if_pos hx]
  exact kk
theorem t_len4 (C : zC Z p s m args meth c cc nL own) {k0 a n : Nat} {f : Nat → Option Nat} {v : Int32} (d : decode cc pc = .ok (.arraylength, 1)) (hk : k0 < 200) (ha : a % 256 = k0) (hs : zsh Z.2.1 mk st k0 (a / 256) = .inl (Z.2.1 4, n, .inr (.inr (.inr (.inr f))))) (hv0 : Int32.ofNat n = v) (kk : zG Z ad0 h0 p l e R s m args below meth c Q cells slots (zh Z mk st) nL (pc + 1) lc (.int v :: rest)) : zG Z ad0 h0 p l e R s m args below meth c Q cells slots (zh Z mk st) nL pc lc (.ref a :: rest) := by
  intro ad H locs ls hP hS hE hL hl hv
  have ha' : a = k0 + 256 * (a / 256) := by omega
  rw [ha'] at hv ⊢
  have e3 := zh_at hk hv.hd
  rw [hs] at e3
  exact z_alen (n := 0) (t := 4) (x := (n, .inr (.inr (.inr (.inr f))))) C d e3 rfl hv0 kk ad H locs ls hP hS hE hL hl hv
theorem t_lenq (C : zC Z p s m args meth c cc nL own) {k0 i a t n : Nat} {ty : FieldType} {f : Nat → Option Nat} {v : Int32} (d : decode cc pc = .ok (.arraylength, 1)) (hk : k0 < 200) (ha : a = k0 + 256 * i) (hs : zsh Z.2.1 mk st k0 i = .inl (Z.2.1 t, n, .inr (.inr (.inr (.inr f))))) (ht : (zt Z)[t]? = some (Z.2.1 t, ty)) (hv0 : Int32.ofNat n = v) (kk : zG Z ad0 h0 p l e R s m args below meth c Q cells slots (zh Z mk st) nL (pc + 1) lc (.int v :: rest)) : zG Z ad0 h0 p l e R s m args below meth c Q cells slots (zh Z mk st) nL pc lc (.ref a :: rest) := by
  intro ad H locs ls hP hS hE hL hl hv
  subst ha
  have e3 := zh_at hk hv.hd
  rw [hs] at e3
  exact z_alen (n := 0) (x := (n, .inr (.inr (.inr (.inr f))))) C d e3 ht hv0 kk ad H locs ls hP hS hE hL hl hv
end ZV
theorem sh_34 {cA : Nat → ClassId} {mk : zMk} {st : zTs} {i : Nat} : zsh cA mk st 34 i = .inl (cA 4, zgP st 34 i 0, .inr (.inr (.inr (.inr fun j => if j < zgL st 34 i then some (20 + 256 * j) else none)))) := rfl
theorem sh_35 {cA : Nat → ClassId} {mk : zMk} {st : zTs} {i : Nat} : zsh cA mk st 35 i = .inl (cA 4, zgP st 35 i 0, .inr (.inr (.inr (.inr fun j => if j < zgL st 35 i then some (21 + 256 * j) else none)))) := rfl
theorem sh_36 {cA : Nat → ClassId} {mk : zMk} {st : zTs} {i : Nat} : zsh cA mk st 36 i = .inl (cA 4, zgP st 36 i 0, .inr (.inr (.inr (.inr fun j => if j < zgL st 36 i then some (22 + 256 * j) else none)))) := rfl
theorem sh_37 {cA : Nat → ClassId} {mk : zMk} {st : zTs} {i : Nat} : zsh cA mk st 37 i = .inl (cA 4, zgP st 37 i 0, .inr (.inr (.inr (.inr fun j => if j < zgL st 37 i then some (23 + 256 * j) else none)))) := rfl
theorem sh_67 {cA : Nat → ClassId} {mk : zMk} {st : zTs} {i : Nat} : zsh cA mk st 67 i = .inl (cA 5, 3, .inr (.inr (.inr (.inr fun j => (zgR st 67 i j).map fun y => 25 + 256 * y)))) := rfl
theorem sh_68 {cA : Nat → ClassId} {mk : zMk} {st : zTs} {i : Nat} : zsh cA mk st 68 i = .inl (cA 6, 4, .inr (.inr (.inr (.inr fun j => (zgR st 68 i j).map fun y => 69 + 256 * y)))) := rfl
