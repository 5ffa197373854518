theorem gl_J0_1053 : Cond.fieldLink RJ0 1053 "jdk/internal/util/Preconditions" "SIOOBE_FORMATTER" "Ljava/util/function/BiFunction;" ∈ zw := zw_3 158 (by decide +kernel) (by decide +kernel)
theorem gl_J0_9 : Cond.fieldLink RJ0 9 "java/lang/String" "value" "[B" ∈ zw := zw_10 8 (by decide +kernel) (by decide +kernel)
theorem gl_J0_15 : Cond.fieldLink RJ0 15 "java/lang/String" "coder" "B" ∈ zw := zw_10 9 (by decide +kernel) (by decide +kernel)
theorem gl_Jx29ce0_7 : Cond.fieldLink RJx29ce0 7 "java/lang/Enum" "ordinal" "I" ∈ zw := zw_10 11 (by decide +kernel) (by decide +kernel)
theorem zk_md200 (i : Nat) : 200 ≤ (200 + 256 * i) % 256 := by omega
theorem zk_md201 (i : Nat) : 200 ≤ (201 + 256 * i) % 256 := by omega
theorem zk_md205 (i : Nat) : 200 ≤ (205 + 256 * i) % 256 := by omega
def zwo : List Int32 := [0, 1, 2, 3, 4, 5, 6, 7, 8, 9, 10, 11, 12, 13, 14, 15, 16, 17, 18, 19, 20, 21, 22, 23]
theorem zwo_mem : (("java/lang/Enum", "ordinal", "I", zwo) : String × String × String × List Int32) ∈ zwf := List.mem_cons_self
def zwp : List Int32 := [0, 1, 1, 1, 1, 1, 1, 1, 1, 1, 1, 1, 1, 1, 1, 0, 0, 0, 0, 0, 0, 0, 0, 0]
theorem zwp_mem : (("PartyWalls$Word", "opensClause", "Z", zwp) : String × String × String × List Int32) ∈ zwf := List.mem_cons_of_mem _ List.mem_cons_self
theorem zsw_all {x : Int32} {lo hi : Int} (h : ∀ k : Int, lo ≤ k → k ≤ hi → x.toInt = k → False) : x.toInt < lo ∨ hi < x.toInt := by
  rcases Int.lt_or_le x.toInt lo with a | a
  · exact Or.inl a
  · rcases Int.lt_or_le hi x.toInt with b | b
    · exact Or.inr b
    · exact (h _ a b rfl).elim
theorem zn_char {x : Int32} (g : (x.toUInt32 % 65536).toInt32 = x) : narrow .char (.int x) = .int x := by
  have e := pk_nc x
  rw [g] at e
  exact e
section ZW
variable {Z : zZ} {p : Program} {l : Launch} {e : Env} {R : Room} {s : State} {m : MethodId} {args : Array Value} {below : List Frame} {meth : Method} {c : Code} {Q : State → Prop} {cells slots : Nat} {ad0 : Nat → Nat} {h0 : zH}
variable {h : zH} {mk : zMk} {st : zTs} {pc nL : Nat} {lc : List (Option Value)} {rest : List Value} {cc : ByteArray} {own : String}
theorem zk_recS {i : Nat} (hi : i < 34) (z : zK Z s s.heap) (H : Heap) (locs : List Loc) (hS : va_S (zA Z) s.heap H locs) : ∃ cell : Cell, H[Z.2.2.2 (200 + 256 * i)]? = some cell ∧ cell.vm.isStatics = false ∧ s.vm.findClass "java/lang/String" = some cell.cls := vk_recv (adK := fun i => Z.2.2.2 (200 + 256 * i)) (adV := fun i => Z.2.2.2 (205 + 256 * i)) z.2.2.1 hi hS
theorem zk_recW {i : Nat} (hi : i < 24) (z : zK Z s s.heap) (H : Heap) (locs : List Loc) (hS : va_S (zA Z) s.heap H locs) : ∃ cell : Cell, H[Z.2.2.2 (201 + 256 * i)]? = some cell ∧ cell.vm.isStatics = false ∧ s.vm.findClass "PartyWalls$Word" = some cell.cls := va_recvE (ad := fun i => Z.2.2.2 (201 + 256 * i)) z.2.2.2.1.1 hi hS
theorem z_ldc_wS (C : zC Z p s m args meth c cc nL own) {idx i : Nat} {text : String} (d : decode cc pc = .ok (.ldc_w idx, 3)) (hm : (own, idx, text, i) ∈ zstrL) (k : zG Z ad0 h0 p l e R s m args below meth c Q cells slots h nL (pc + 3) lc (.ref (200 + 256 * i) :: rest)) : zG Z ad0 h0 p l e R s m args below meth c Q cells slots h nL pc lc (rest) := by
  intro ad H locs ls hP hS hE hL hl hv
  obtain ⟨L, f, P1, P2, P3, P4, P5⟩ := id hP
  have e9 := (P5 (200 + 256 * i) (by omega)).1
  have k1 := k ad H locs ls hP hS hE hL hl (hv.cn fun a ha => Or.inr (by cases ha; show 200 ≤ (200 + 256 * i) % 256; omega))
  rw [List.map_cons, show zv ad (.ref (200 + 256 * i)) = .ref (Z.2.2.2 (200 + 256 * i)) from congrArg Value.ref e9] at k1
  have hR := C.2.2.2.2.2.2.2.2.2.1 _ hm
  obtain ⟨hexec, hb, -, hown, -⟩ := C
  intro T hT X
  obtain ⟨t, a1, b1⟩ := k1 T hT X
  refine ⟨t, ?_, b1⟩
  obtain ⟨k9, cf, i9, a', hk, hcf, hcp, -, hr, hev'⟩ := Cond.stringRef_spec hown hR.1
  cases hR.2.symm.trans hev'
  obtain ⟨k', hk', he⟩ := X.warmed.alike.2.2 _ _ hk
  have hr' : k'.resolved[idx]? = some (some (.string (Z.2.2.2 (200 + 256 * i)))) := by
    rcases X.warmed.entry hk hk' idx with h | ⟨h, -⟩
    · rw [h]; exact hr
    · rw [hr] at h; cases h
  have hdg : decode c.code pc = .ok (.ldc_w idx, 3) := by rw [hb]; exact d
  jvm_step X.here [hexec, hdg, ldc_w.wp_string (e := e) (s := T) (f := F0 m pc ls (rest.map (zv ad))) X.here.top hk' (by rw [he]; exact hcf) hcp hr']
  exact a1
theorem z_kgetI (C : zC Z p s m args meth c cc nL own) {idx q : Nat} {x : Int32} {o n de : String} (d : decode cc pc = .ok (.getfield idx, 3)) (hq : 200 ≤ q % 256) (hw : Cond.fieldLink own idx o n de ∈ zw) (hE : zK Z s s.heap → va_OF o n de (.int x) (Z.2.2.2 q) (zA Z) s s.heap) (k : zG Z ad0 h0 p l e R s m args below meth c Q cells slots h nL (pc + 3) lc (.int x :: rest)) : zG Z ad0 h0 p l e R s m args below meth c Q cells slots h nL pc lc (.ref q :: rest) := by
  intro ad H locs ls hP hS hE2 hL hl hv
  obtain ⟨L, f, P1, P2, P3, P4, P5⟩ := id hP
  have e9 := (P5 q hq).1
  have k1 := k ad H locs ls hP hS hE2 hL hl (hv.tl.cn zok_i)
  rw [List.map_cons, show zv ad (.ref q) = .ref (Z.2.2.2 q) from congrArg Value.ref e9]
  exact vk_getf C.1 C.2.1 (hE C.2.2.2.2.2.2.2.2) hS C.2.2.2.1 (C.2.2.2.2.1 _ hw) (fun x h => h) d k1
theorem z_kgetNI (C : zC Z p s m args meth c cc nL own) {idx q : Nat} {x : Int32} {o n de host : String} (d : decode cc pc = .ok (.getfield idx, 3)) (hq : 200 ≤ q % 256) (hw : zK Z s s.heap → va_Nw (.fieldLinkNest own idx o n de host) s) (hE : zK Z s s.heap → va_OF o n de (.int x) (Z.2.2.2 q) (zA Z) s s.heap) (k : zG Z ad0 h0 p l e R s m args below meth c Q cells slots h nL (pc + 3) lc (.int x :: rest)) : zG Z ad0 h0 p l e R s m args below meth c Q cells slots h nL pc lc (.ref q :: rest) := by
  intro ad H locs ls hP hS hE2 hL hl hv
  obtain ⟨L, f, P1, P2, P3, P4, P5⟩ := id hP
  have e9 := (P5 q hq).1
  have k1 := k ad H locs ls hP hS hE2 hL hl (hv.tl.cn zok_i)
  rw [List.map_cons, show zv ad (.ref q) = .ref (Z.2.2.2 q) from congrArg Value.ref e9]
  obtain ⟨cf, kc, fi, f9, cell, h1, h2, h3, h4, h5, h6⟩ := (hE C.2.2.2.2.2.2.2.2).kept hS.2.1
  exact va_Wgetf C.1 C.2.1 C.2.2.2.1 (va_Nw.use rfl (hw C.2.2.2.2.2.2.2.2)) h1 h2 h3 h4 (v := .int x) h5 rfl rfl d k1
theorem z_kgetR (C : zC Z p s m args meth c cc nL own) {idx q q2 : Nat} {o n de : String} (d : decode cc pc = .ok (.getfield idx, 3)) (hq : 200 ≤ q % 256) (hq2 : 200 ≤ q2 % 256) (hw : Cond.fieldLink own idx o n de ∈ zw) (hE : zK Z s s.heap → va_OF o n de (.ref (Z.2.2.2 q2)) (Z.2.2.2 q) (zA Z) s s.heap) (k : zG Z ad0 h0 p l e R s m args below meth c Q cells slots h nL (pc + 3) lc (.ref q2 :: rest)) : zG Z ad0 h0 p l e R s m args below meth c Q cells slots h nL pc lc (.ref q :: rest) := by
  intro ad H locs ls hP hS hE2 hL hl hv
  obtain ⟨L, f, P1, P2, P3, P4, P5⟩ := id hP
  have e9 := (P5 q hq).1
  have k1 := k ad H locs ls hP hS hE2 hL hl (hv.tl.cn fun a ha => Or.inr (by cases ha; exact hq2))
  rw [List.map_cons, show zv ad (.ref q) = .ref (Z.2.2.2 q) from congrArg Value.ref e9]
  rw [List.map_cons, show zv ad (.ref q2) = .ref (Z.2.2.2 q2) from congrArg Value.ref (P5 q2 hq2).1] at k1
  exact vk_getf C.1 C.2.1 (hE C.2.2.2.2.2.2.2.2) hS C.2.2.2.1 (C.2.2.2.2.1 _ hw) (fun x h => h) d k1
theorem z_ktq (C : zC Z p s m args meth c cc nL own) {q n : Nat} {E : String} {f0 : Nat → Nat} {i : Int32} (d : decode cc pc = .ok (.aaload, 1)) (hq : 200 ≤ q % 256) (hf : ∀ j, 200 ≤ f0 j % 256) (hE : zK Z s s.heap → va_T (.object E) (Z.2.2.2 q) n (fun j => .ref (Z.2.2.2 (f0 j))) (zA Z) s s.heap) (hi : vp_in i n) (k : zG Z ad0 h0 p l e R s m args below meth c Q cells slots h nL (pc + 1) lc (.ref (f0 i.toNatClampNeg) :: rest)) : zG Z ad0 h0 p l e R s m args below meth c Q cells slots h nL pc lc (.int i :: .ref q :: rest) := by
  intro ad H locs ls hP hS hE2 hL hl hv
  obtain ⟨L, f, P1, P2, P3, P4, P5⟩ := id hP
  have e9 := (P5 q hq).1
  have k1 := k ad H locs ls hP hS hE2 hL hl (hv.tl.tl.cn fun a ha => Or.inr (by cases ha; exact hf _))
  rw [List.map_cons, List.map_cons, show zv ad (.ref q) = .ref (Z.2.2.2 q) from congrArg Value.ref e9]
  rw [List.map_cons, show zv ad (.ref (f0 i.toNatClampNeg)) = .ref (Z.2.2.2 (f0 i.toNatClampNeg)) from congrArg Value.ref (P5 _ (hf _)).1] at k1
  exact vb_tq C.1 C.2.1 (hE C.2.2.2.2.2.2.2.2) hS hi rfl d k1
theorem z_kti (C : zC Z p s m args meth c cc nL own) {q n : Nat} {f0 : Nat → Int32} {i : Int32} (d : decode cc pc = .ok (.iaload, 1)) (hq : 200 ≤ q % 256) (hE : zK Z s s.heap → va_T .int (Z.2.2.2 q) n (fun j => .int (f0 j)) (zA Z) s s.heap) (hi : vp_in i n) (k : zG Z ad0 h0 p l e R s m args below meth c Q cells slots h nL (pc + 1) lc (.int (f0 i.toNatClampNeg) :: rest)) : zG Z ad0 h0 p l e R s m args below meth c Q cells slots h nL pc lc (.int i :: .ref q :: rest) := by
  intro ad H locs ls hP hS hE2 hL hl hv
  obtain ⟨L, f, P1, P2, P3, P4, P5⟩ := id hP
  have e9 := (P5 q hq).1
  have k1 := k ad H locs ls hP hS hE2 hL hl (hv.tl.tl.cn zok_i)
  rw [List.map_cons, List.map_cons, show zv ad (.ref q) = .ref (Z.2.2.2 q) from congrArg Value.ref e9]
  exact va_ti C.1 C.2.1 (hE C.2.2.2.2.2.2.2.2) hS hi rfl d k1
theorem z_ktb (C : zC Z p s m args meth c cc nL own) {q n : Nat} {f0 : Nat → Int32} {i : Int32} (d : decode cc pc = .ok (.baload, 1)) (hq : 200 ≤ q % 256) (hE : zK Z s s.heap → va_T .byte (Z.2.2.2 q) n (fun j => .int (f0 j)) (zA Z) s s.heap) (hi : vp_in i n) (k : zG Z ad0 h0 p l e R s m args below meth c Q cells slots h nL (pc + 1) lc (.int (f0 i.toNatClampNeg) :: rest)) : zG Z ad0 h0 p l e R s m args below meth c Q cells slots h nL pc lc (.int i :: .ref q :: rest) := by
  intro ad H locs ls hP hS hE2 hL hl hv
  obtain ⟨L, f, P1, P2, P3, P4, P5⟩ := id hP
  have e9 := (P5 q hq).1
  have k1 := k ad H locs ls hP hS hE2 hL hl (hv.tl.tl.cn zok_i)
  rw [List.map_cons, List.map_cons, show zv ad (.ref q) = .ref (Z.2.2.2 q) from congrArg Value.ref e9]
  exact va_tb C.1 C.2.1 (hE C.2.2.2.2.2.2.2.2) hS hi rfl d k1
theorem z_klen (C : zC Z p s m args meth c cc nL own) {q n : Nat} {ty : FieldType} {f0 : Nat → Value} {v : Int32} (d : decode cc pc = .ok (.arraylength, 1)) (hq : 200 ≤ q % 256) (hE : zK Z s s.heap → va_T ty (Z.2.2.2 q) n f0 (zA Z) s s.heap) (hv0 : Int32.ofNat n = v) (k : zG Z ad0 h0 p l e R s m args below meth c Q cells slots h nL (pc + 1) lc (.int v :: rest)) : zG Z ad0 h0 p l e R s m args below meth c Q cells slots h nL pc lc (.ref q :: rest) := by
  intro ad H locs ls hP hS hE2 hL hl hv
  obtain ⟨L, f, P1, P2, P3, P4, P5⟩ := id hP
  have e9 := (P5 q hq).1
  have k1 := k ad H locs ls hP hS hE2 hL hl (hv.tl.cn zok_i)
  rw [List.map_cons, show zv ad (.ref q) = .ref (Z.2.2.2 q) from congrArg Value.ref e9]
  exact va_tlen C.1 C.2.1 (hE C.2.2.2.2.2.2.2.2) hS hv0 d k1
theorem z_getsF (C : zC Z p s m args meth c cc nL own) {idx : Nat} {Cn nm de : String} (d : decode cc pc = .ok (.getstatic idx, 3)) (hw : Cond.fieldLink own idx Cn nm de ∈ zw) (hZ : zK Z s s.heap → va_Z Cn nm de .null (zA Z) s s.heap ∨ va_Z Cn nm de (.ref (Z.2.2.2 206)) (zA Z) s s.heap) (k : ∀ o9 : Option Nat, zG Z ad0 h0 p l e R s m args below meth c Q cells slots h nL (pc + 3) lc (va_rf (o9.map fun y => 206 + 256 * y) :: rest)) : zG Z ad0 h0 p l e R s m args below meth c Q cells slots h nL pc lc (rest) := by
  intro ad H locs ls hP hS hE hL hl hv
  obtain ⟨L, f, P1, P2, P3, P4, P5⟩ := id hP
  rcases hZ C.2.2.2.2.2.2.2.2 with g | g
  · exact va_gets C.1 C.2.1 g hS C.2.2.2.1 (C.2.2.2.2.1 _ hw) (fun x h => h) d (k none ad H locs ls hP hS hE hL hl (hv.cn fun a ha => nomatch ha))
  · have k1 := k (some 0) ad H locs ls hP hS hE hL hl (hv.cn fun a ha => Or.inr (by cases ha; decide))
    rw [List.map_cons, show zv ad (va_rf ((some 0).map fun y => 206 + 256 * y)) = .ref (Z.2.2.2 206) from congrArg Value.ref (P5 206 (by decide)).1] at k1
    exact va_gets C.1 C.2.1 g hS C.2.2.2.1 (C.2.2.2.2.1 _ hw) (fun x h => h) d k1
theorem z_lookup (C : zC Z p s m args meth c cc nL own) {dflt : Int} {ps : Array (Int × Int)} {len : Nat} {x : Int32} {off : Int} {tgt : Nat} (d : decode cc pc = .ok (.lookupswitch dflt ps, len)) (hp : (ps.toList.zip (ps.toList.drop 1)).all (fun (a, next) => a.1 < next.1) = true) (ho : Op.lookupswitch.offset ps.toList dflt x.toInt = off) (ht : (pc : Int) + off = (tgt : Int)) (k : zG Z ad0 h0 p l e R s m args below meth c Q cells slots h nL tgt lc (rest)) : zG Z ad0 h0 p l e R s m args below meth c Q cells slots h nL pc lc (.int x :: rest) :=
  fun ad H locs ls hP hS hE hL hl hv => lv_lookup C.1 C.2.1 d hp ho ht (k ad H locs ls hP hS hE hL hl hv.tl)
theorem z_acmpW_eq (C : zC Z p s m args meth c cc nL own) {i j : Nat} {off : Int} {tgt : Nat} (d : decode cc pc = .ok (.if_acmp .eq off, 3)) (ht : (pc : Int) + off = (tgt : Int)) (hi : i < 24) (hj : j < 24) (kt : i = j → zG Z ad0 h0 p l e R s m args below meth c Q cells slots h nL tgt lc (rest)) (kf : ¬ i = j → zG Z ad0 h0 p l e R s m args below meth c Q cells slots h nL (pc + 3) lc (rest)) : zG Z ad0 h0 p l e R s m args below meth c Q cells slots h nL pc lc (.ref (201 + 256 * j) :: .ref (201 + 256 * i) :: rest) := by
  intro ad H locs ls hP hS hE hL hl hv
  obtain ⟨L, f, P1, P2, P3, P4, P5⟩ := id hP
  have hinj : Z.2.2.2 (201 + 256 * i) = Z.2.2.2 (201 + 256 * j) → i = j := (C.2.2.2.2.2.2.2.2).2.2.2.1.1.2 i j hi hj
  rw [List.map_cons, List.map_cons, show zv ad (.ref (201 + 256 * i)) = .ref (Z.2.2.2 (201 + 256 * i)) from congrArg Value.ref (P5 _ (by omega)).1, show zv ad (.ref (201 + 256 * j)) = .ref (Z.2.2.2 (201 + 256 * j)) from congrArg Value.ref (P5 _ (by omega)).1]
  exact lv_acmp_eq (rx := some (Z.2.2.2 (201 + 256 * i))) (ry := some (Z.2.2.2 (201 + 256 * j))) C.1 C.2.1 d ht (fun z => kt (hinj (Option.some.inj z)) ad H locs ls hP hS hE hL hl hv.tl.tl) (fun z => kf (fun z2 => z (by rw [z2])) ad H locs ls hP hS hE hL hl hv.tl.tl)
theorem z_acmpW_ne (C : zC Z p s m args meth c cc nL own) {i j : Nat} {off : Int} {tgt : Nat} (d : decode cc pc = .ok (.if_acmp .ne off, 3)) (ht : (pc : Int) + off = (tgt : Int)) (hi : i < 24) (hj : j < 24) (kt : ¬ i = j → zG Z ad0 h0 p l e R s m args below meth c Q cells slots h nL tgt lc (rest)) (kf : i = j → zG Z ad0 h0 p l e R s m args below meth c Q cells slots h nL (pc + 3) lc (rest)) : zG Z ad0 h0 p l e R s m args below meth c Q cells slots h nL pc lc (.ref (201 + 256 * j) :: .ref (201 + 256 * i) :: rest) := by
  intro ad H locs ls hP hS hE hL hl hv
  obtain ⟨L, f, P1, P2, P3, P4, P5⟩ := id hP
  have hinj : Z.2.2.2 (201 + 256 * i) = Z.2.2.2 (201 + 256 * j) → i = j := (C.2.2.2.2.2.2.2.2).2.2.2.1.1.2 i j hi hj
  rw [List.map_cons, List.map_cons, show zv ad (.ref (201 + 256 * i)) = .ref (Z.2.2.2 (201 + 256 * i)) from congrArg Value.ref (P5 _ (by omega)).1, show zv ad (.ref (201 + 256 * j)) = .ref (Z.2.2.2 (201 + 256 * j)) from congrArg Value.ref (P5 _ (by omega)).1]
  exact lv_acmp_ne (rx := some (Z.2.2.2 (201 + 256 * i))) (ry := some (Z.2.2.2 (201 + 256 * j))) C.1 C.2.1 d ht (fun z => kt (fun z2 => z (by rw [z2])) ad H locs ls hP hS hE hL hl hv.tl.tl) (fun z => kf (hinj (Option.some.inj z)) ad H locs ls hP hS hE hL hl hv.tl.tl)
theorem z_kcallV (C : zC Z p s m args meth c cc nL own) {idx maxL n b : Nat} {y : MethodName} {bytes : ByteArray} {ret : Option FieldType} {rm : Room} {av st : List Value} {P1 : Option Value → zH → Prop} (d : decode cc pc = .ok (.invokevirtual idx, 3)) (k : zLk own idx y bytes maxL ret n) (hi : Cond.instanceMethod y ∈ zw) (hse : Cond.selects y.cls y y ∈ zw) (hM : zN Z l y bytes maxL ret rm h (.ref b :: av) P1) (he : st = av.reverse ++ .ref b :: rest) (hn : av.length = n) (hq : 200 ≤ b % 256) (hrc : zK Z s s.heap → ∀ (H : Heap) (locs : List Loc), va_S (zA Z) s.heap H locs → ∃ cell : Cell, H[Z.2.2.2 b]? = some cell ∧ cell.vm.isStatics = false ∧ s.vm.findClass y.cls = some cell.cls) (hR : rm.frames + 1 ≤ R.frames ∧ 8 + (maxL + 11) + rm.locals ≤ R.locals) (hw8 : (rest.map fun v => v.category).sum ≤ 8) (hf : cells + rm.cells ≤ R.cells ∧ slots + rm.slots ≤ R.slots)
    (kk : ∀ (v : Option Value) (h1 : zH), P1 v h1 → zG Z ad0 h0 p l e R s m args below meth c Q (cells + rm.cells) (slots + rm.slots) h1 nL (pc + 3) lc (v.toList ++ rest)) : zG Z ad0 h0 p l e R s m args below meth c Q cells slots h nL pc lc st :=
  z_after (a1 := fun ad => ((.ref b :: av).map (zv ad)).toArray) (fun ad H locs ls hP hS hL hv => va_runV (b := ad b) (As := av.map (zv ad)) (C := y.cls) ⟨C.1, C.2.1, C.2.2.1, C.2.2.2.1, C.2.2.2.2.1⟩ (hM ad) ⟨zcallB C k hR, C.2.2.2.2.1 _ hi, C.2.2.2.2.1 _ hse⟩ ⟨zPc_blind, by
    obtain ⟨L, f, P1, P2, P3, P4, P5⟩ := id hP
    rw [(P5 b hq).1]
    exact hrc C.2.2.2.2.2.2.2.2 H locs hS, fun U hU hW => zPc_at (av := .ref b :: av) C hP hS (fun x hx => hv x (by
      rw [he]
      rcases List.mem_cons.mp hx with g | g
      · rw [g]; exact List.mem_append_right _ List.mem_cons_self
      · exact List.mem_append_left _ (List.mem_reverse.mpr g))) hU hW⟩ rfl (by rw [List.length_map]; exact hn) hL.1 (zmap_args he) (by show 2 * 0 + _ ≤ 8; rw [zcats]; omega) d hf) (fun v hv => by rw [he]; exact List.mem_append_right _ (List.mem_cons_of_mem _ hv)) kk
theorem z_kcallVM (C : zC Z p s m args meth c cc nL own) {P0 : Option Value → zH → Prop} {X0 X1 : Nat → zH → Prop} {mc0 ms0 : Nat} (hex : ∀ x ∈ c.exceptionTable.toList, False) {idx maxL n b : Nat} {y : MethodName} {bytes : ByteArray} {ret : Option FieldType} {rm : Room} {av st : List Value} {P1 : Option Value → zH → Prop} (d : decode cc pc = .ok (.invokevirtual idx, 3)) (k : zLk own idx y bytes maxL ret n) (hi : Cond.instanceMethod y ∈ zw) (hse : Cond.selects y.cls y y ∈ zw) (hM : zM Z l y bytes maxL ret rm h (.ref b :: av) P1 X1) (he : st = av.reverse ++ .ref b :: rest) (hn : av.length = n) (hq : 200 ≤ b % 256) (hrc : zK Z s s.heap → ∀ (H : Heap) (locs : List Loc), va_S (zA Z) s.heap H locs → ∃ cell : Cell, H[Z.2.2.2 b]? = some cell ∧ cell.vm.isStatics = false ∧ s.vm.findClass y.cls = some cell.cls) (hR : rm.frames + 1 ≤ R.frames ∧ 8 + (maxL + 11) + rm.locals ≤ R.locals) (hw8 : (rest.map fun v => v.category).sum ≤ 8) (hf : cells + rm.cells ≤ R.cells ∧ slots + rm.slots ≤ R.slots) (hx : ∀ k h1, X1 k h1 → X0 k h1) (hc0 : cells + rm.cells ≤ mc0) (hs0 : slots + rm.slots ≤ ms0)
    (kk : ∀ (v : Option Value) (h1 : zH), P1 v h1 → zG Z ad0 h0 p l e R s m args below meth c (vx_MQ below (zQ Z ad0 h0 P0) (zX Z ad0 h0 X0) args s mc0 ms0 (zA Z)) (cells + rm.cells) (slots + rm.slots) h1 nL (pc + 3) lc (v.toList ++ rest)) : zG Z ad0 h0 p l e R s m args below meth c (vx_MQ below (zQ Z ad0 h0 P0) (zX Z ad0 h0 X0) args s mc0 ms0 (zA Z)) cells slots h nL pc lc st :=
  z_afterM C hex (a1 := fun ad => ((.ref b :: av).map (zv ad)).toArray) (fun ad H locs ls hP hS hL hv => vx_runV (b := ad b) (As := av.map (zv ad)) (C := y.cls) ⟨C.1, C.2.1, C.2.2.1, C.2.2.2.1, C.2.2.2.2.1⟩ (hM ad) ⟨zcallB C k hR, C.2.2.2.2.1 _ hi, C.2.2.2.2.1 _ hse⟩ ⟨zPc_blind, by
    obtain ⟨L, f, P1, P2, P3, P4, P5⟩ := id hP
    rw [(P5 b hq).1]
    exact hrc C.2.2.2.2.2.2.2.2 H locs hS, fun U hU hW => zPc_at (av := .ref b :: av) C hP hS (fun x hx => hv x (by
      rw [he]
      rcases List.mem_cons.mp hx with g | g
      · rw [g]; exact List.mem_append_right _ List.mem_cons_self
      · exact List.mem_append_left _ (List.mem_reverse.mpr g))) hU hW⟩ rfl (by rw [List.length_map]; exact hn) hL.1 (zmap_args he) (by show 2 * 0 + _ ≤ 8; rw [zcats]; omega) d hf) (fun v hv => by rw [he]; exact List.mem_append_right _ (List.mem_cons_of_mem _ hv)) hx hc0 hs0 kk
theorem z_kcallU (C : zC Z p s m args meth c cc nL own) {idx maxL n b : Nat} {Cw ow : String} {x0 : MethodName} {y : MethodName} {bytes : ByteArray} {ret : Option FieldType} {rm : Room} {av st : List Value} {P1 : Option Value → zH → Prop} (d : decode cc pc = .ok (.invokevirtual idx, 3)) (cu : rm.frames + 1 ≤ R.frames ∧ 8 + (maxL + 11) + rm.locals ≤ R.locals → va_CU R s args own Cw ow idx x0 y bytes maxL ret (Cond.code y bytes maxL ret :: zw) rm rm.cells rm.slots n) (hM : zN Z l y bytes maxL ret rm h (.ref b :: av) P1) (he : st = av.reverse ++ .ref b :: rest) (hn : av.length = n) (hq : 200 ≤ b % 256) (hrc : zK Z s s.heap → ∀ (H : Heap) (locs : List Loc), va_S (zA Z) s.heap H locs → ∃ cell : Cell, H[Z.2.2.2 b]? = some cell ∧ cell.vm.isStatics = false ∧ s.vm.findClass Cw = some cell.cls) (hR : rm.frames + 1 ≤ R.frames ∧ 8 + (maxL + 11) + rm.locals ≤ R.locals) (hw8 : (rest.map fun v => v.category).sum ≤ 8) (hf : cells + rm.cells ≤ R.cells ∧ slots + rm.slots ≤ R.slots)
    (kk : ∀ (v : Option Value) (h1 : zH), P1 v h1 → zG Z ad0 h0 p l e R s m args below meth c Q (cells + rm.cells) (slots + rm.slots) h1 nL (pc + 3) lc (v.toList ++ rest)) : zG Z ad0 h0 p l e R s m args below meth c Q cells slots h nL pc lc st :=
  z_after (a1 := fun ad => ((.ref b :: av).map (zv ad)).toArray) (fun ad H locs ls hP hS hL hv => va_runU (owner := ow) (x := x0) (b := ad b) (As := av.map (zv ad)) (C := Cw) ⟨C.1, C.2.1, C.2.2.1, C.2.2.2.1, C.2.2.2.2.1⟩ (hM ad) (cu hR) ⟨zPc_blind, by
    obtain ⟨L, f, P1, P2, P3, P4, P5⟩ := id hP
    rw [(P5 b hq).1]
    exact hrc C.2.2.2.2.2.2.2.2 H locs hS, fun U hU hW => zPc_at (av := .ref b :: av) C hP hS (fun x hx => hv x (by
      rw [he]
      rcases List.mem_cons.mp hx with g | g
      · rw [g]; exact List.mem_append_right _ List.mem_cons_self
      · exact List.mem_append_left _ (List.mem_reverse.mpr g))) hU hW⟩ rfl (by rw [List.length_map]; exact hn) hL.1 (zmap_args he) (by show 2 * 0 + _ ≤ 8; rw [zcats]; omega) d hf) (fun v hv => by rw [he]; exact List.mem_append_right _ (List.mem_cons_of_mem _ hv)) kk
theorem lc_Jx29ce0_ordinal_8abf5 : Cond.code yJx29ce0_ordinal_8abf5 cJx29ce0_ordinal_8abf5 1 (some .int) ∈ zw := zw_3 195 (by decide +kernel) (by decide +kernel)
theorem zk_ordCU (C : zC Z p s m args meth c cc nL RX6) {rm : Room} (hR : rm.frames + 1 ≤ R.frames ∧ 8 + (1 + 11) + rm.locals ≤ R.locals) : va_CU R s args RX6 "PartyWalls$Word" "java/lang/Enum" 98 ⟨"PartyWalls$Word","ordinal","()I"⟩ yJx29ce0_ordinal_8abf5 cJx29ce0_ordinal_8abf5 1 (some .int) (Cond.code yJx29ce0_ordinal_8abf5 cJx29ce0_ordinal_8abf5 1 (some .int) :: zw) rm rm.cells rm.slots 0 := by
  have li : Cond.instanceMethod yJx29ce0_ordinal_8abf5 ∈ zw := zw_3 194 (by decide +kernel) (by decide +kernel)
  have k1 : Cond.initialized yJx29ce0_ordinal_8abf5.cls ∈ zw := zw_1 8 (by decide +kernel) (by decide +kernel)
  have k2 : Cond.methodLink RX6 98 ⟨"PartyWalls$Word","ordinal","()I"⟩ ∈ zw := zw_3 190 (by decide +kernel) (by decide +kernel)
  have k3 : Cond.sameMethod "PartyWalls$Word" "java/lang/Enum" "ordinal" "()I" ∈ zw := zw_3 191 (by decide +kernel) (by decide +kernel)
  have k4 : Cond.selects "PartyWalls$Word" ⟨"PartyWalls$Word","ordinal","()I"⟩ yJx29ce0_ordinal_8abf5 ∈ zw := zw_3 193 (by decide +kernel) (by decide +kernel)
  have t := C.2.2.2.2.1
  have hG : GoodIn zw (Cond.code yJx29ce0_ordinal_8abf5 cJx29ce0_ordinal_8abf5 1 (some .int) :: zw) := fun w hw => by
    rcases List.mem_cons.mp hw with rfl | hw
    · exact zw_good _ lc_Jx29ce0_ordinal_8abf5
    · exact zw_good _ hw
  refine ⟨⟨rfl, rfl, hR.1, hR.2, pay_in t hG, List.mem_cons_self⟩, t _ lc_Jx29ce0_ordinal_8abf5, t _ k1, ⟨by decide, by decide⟩, fun sig h => ?_, t _ k2, t _ k3, va_Decl.of (t _ li) (t _ lc_Jx29ce0_ordinal_8abf5), t _ k4, t _ li⟩
  have h2 : (parseMethodDescriptor "()I").map (fun d => d.parameters.length) = some 0 := by decide +kernel
  rw [show parseMethodDescriptor "()I" = some sig from h] at h2
  exact (Option.some.inj h2).symm
set_option maxHeartbeats 100000 in
theorem z_astqN (C : zC Z p s m args meth c cc nL own) {a n t : Nat} {E : String} {f : Nat → Option Nat} {i : Int32} {h' : zH} (d : decode cc pc = .ok (.aastore, 1)) (ha : h a = some (.inl (Z.2.1 t, n, .inr (.inr (.inr (.inr f)))))) (ht : (zt Z)[t]? = some (Z.2.1 t, .object E)) (hi : vp_in i n) (hh : ∀ b, h' b = if b = a then some (.inl (Z.2.1 t, n, .inr (.inr (.inr (.inr (va_up f i.toNatClampNeg none)))))) else h b) (k : zG Z ad0 h0 p l e R s m args below meth c Q cells slots h' nL (pc + 1) lc (rest)) : zG Z ad0 h0 p l e R s m args below meth c Q cells slots h nL pc lc (.null :: .int i :: .ref a :: rest) := by
  intro ad H locs ls hP hS hE hL hl hv
  obtain ⟨L, g, P1, P2, P3, P4, P5⟩ := id hP
  obtain ⟨m1, m2, m3⟩ := P3 a _ ha
  obtain ⟨k9, hk9⟩ := va_pl_get (X := []) (f := g) m1
  have hk9a : (va_pl L g)[k9]? = some (ad a, g (ad a)) := hk9
  have hk9b := hk9a
  rw [m2] at hk9b
  have ez : (.inl (Z.2.1 t, n, .inr (.inr (.inr (.inr (va_up (fun i => (f i).map ad) i.toNatClampNeg none))))) : va_E) = ze ad (.inl (Z.2.1 t, n, .inr (.inr (.inr (.inr (va_up f i.toNatClampNeg none)))))) := by
    refine congrArg (fun g9 : Nat → Option Nat => (.inl (Z.2.1 t, n, .inr (.inr (.inr (.inr g9)))) : va_E)) (?_ : (va_up (fun i => (f i).map ad) i.toNatClampNeg none : Nat → Option Nat) = fun j => (va_up f i.toNatClampNeg none j).map ad)
    funext j
    unfold va_up
    by_cases q : j = i.toNatClampNeg
    · rw [if_pos q, if_pos q]; rfl
    · rw [if_neg q, if_neg q]
  have hc9 : zcl h (.inl (Z.2.1 t, n, .inr (.inr (.inr (.inr (va_up f i.toNatClampNeg none)))))) := fun j a hj => by
    unfold va_up at hj
    by_cases q : j = i.toNatClampNeg
    · rw [if_pos q] at hj
      cases hj
    · rw [if_neg q] at hj
      exact m3 j a hj
  refine va_astqN (ws := va_pl L g) C.1 C.2.1 C.2.2.2.2.2.1 P1 P2 hS k9 t hk9b ht hi d (fun H1 locs1 Q1 Q2 Q3 => ?_)
  have e8 := va_pl_set (X := []) (e := ze ad (.inl (Z.2.1 t, n, .inr (.inr (.inr (.inr (va_up f i.toNatClampNeg none))))))) P2 m1 hk9a
  have e9 : (va_pl L g).set k9 (ad a, ze ad (.inl (Z.2.1 t, n, .inr (.inr (.inr (.inr (va_up f i.toNatClampNeg none))))))) = va_pl L (va_up g (ad a) (ze ad (.inl (Z.2.1 t, n, .inr (.inr (.inr (.inr (va_up f i.toNatClampNeg none)))))))) := e8
  rw [ez, e9] at Q1 Q2
  exact k ad H1 locs1 ls (zP_set P3 P4 P5 ha hh hc9 Q1 Q2) Q3 (zE_set hE hh) hL (hl.mono (zd_set hh)) (hv.tl.tl.tl.mono (zd_set hh))
set_option maxHeartbeats 100000 in
theorem z_astq (C : zC Z p s m args meth c cc nL own) {a n t : Nat} {b9 ci : Nat} {r : vw_C} {fs : List Value} {f : Nat → Option Nat} {i : Int32} {h' : zH} (d : decode cc pc = .ok (.aastore, 1)) (ha : h a = some (.inl (Z.2.1 t, n, .inr (.inr (.inr (.inr f)))))) (ht : (zt Z)[t]? = some (Z.2.1 t, .object r.1)) (hi : vp_in i n) (hb : h b9 = some (.inr (ci, fs))) (hc : vwCl[ci]? = some r) (hh : ∀ b, h' b = if b = a then some (.inl (Z.2.1 t, n, .inr (.inr (.inr (.inr (va_up f i.toNatClampNeg (some b9))))))) else h b) (k : zG Z ad0 h0 p l e R s m args below meth c Q cells slots h' nL (pc + 1) lc (rest)) : zG Z ad0 h0 p l e R s m args below meth c Q cells slots h nL pc lc (.ref b9 :: .int i :: .ref a :: rest) := by
  intro ad H locs ls hP hS hE hL hl hv
  obtain ⟨L, g, P1, P2, P3, P4, P5⟩ := id hP
  obtain ⟨m1, m2, m3⟩ := P3 a _ ha
  obtain ⟨k9, hk9⟩ := va_pl_get (X := []) (f := g) m1
  obtain ⟨n1, n2, n3⟩ := P3 b9 _ hb
  obtain ⟨kb, hkb⟩ := va_pl_get (X := []) (f := g) n1
  rw [n2] at hkb
  have hk9a : (va_pl L g)[k9]? = some (ad a, g (ad a)) := hk9
  have hk9b := hk9a
  rw [m2] at hk9b
  have ez : (.inl (Z.2.1 t, n, .inr (.inr (.inr (.inr (va_up (fun i => (f i).map ad) i.toNatClampNeg (some (ad b9))))))) : va_E) = ze ad (.inl (Z.2.1 t, n, .inr (.inr (.inr (.inr (va_up f i.toNatClampNeg (some b9))))))) := by
    refine congrArg (fun g9 : Nat → Option Nat => (.inl (Z.2.1 t, n, .inr (.inr (.inr (.inr g9)))) : va_E)) (?_ : (va_up (fun i => (f i).map ad) i.toNatClampNeg (some (ad b9)) : Nat → Option Nat) = fun j => (va_up f i.toNatClampNeg (some b9) j).map ad)
    funext j
    unfold va_up
    by_cases q : j = i.toNatClampNeg
    · rw [if_pos q, if_pos q]; rfl
    · rw [if_neg q, if_neg q]
  have hc9 : zcl h (.inl (Z.2.1 t, n, .inr (.inr (.inr (.inr (va_up f i.toNatClampNeg (some b9))))))) := fun j a hj => by
    unfold va_up at hj
    by_cases q : j = i.toNatClampNeg
    · rw [if_pos q] at hj
      cases hj
      exact hv.hd
    · rw [if_neg q] at hj
      exact m3 j a hj
  refine va_astq (ws := va_pl L g) C.1 C.2.1 C.2.2.2.2.2.1 P1 P2 hS k9 t kb ci hk9b ht hkb hc hi d (fun H1 locs1 Q1 Q2 Q3 => ?_)
  have e8 := va_pl_set (X := []) (e := ze ad (.inl (Z.2.1 t, n, .inr (.inr (.inr (.inr (va_up f i.toNatClampNeg (some b9)))))))) P2 m1 hk9a
  have e9 : (va_pl L g).set k9 (ad a, ze ad (.inl (Z.2.1 t, n, .inr (.inr (.inr (.inr (va_up f i.toNatClampNeg (some b9)))))))) = va_pl L (va_up g (ad a) (ze ad (.inl (Z.2.1 t, n, .inr (.inr (.inr (.inr (va_up f i.toNatClampNeg (some b9))))))))) := e8
  rw [ez, e9] at Q1 Q2
  exact k ad H1 locs1 ls (zP_set P3 P4 P5 ha hh hc9 Q1 Q2) Q3 (zE_set hE hh) hL (hl.mono (zd_set hh)) (hv.tl.tl.tl.mono (zd_set hh))
set_option maxHeartbeats 100000 in
theorem z_astqO (C : zC Z p s m args meth c cc nL own) {a n t : Nat} {E : String} {b9 ci : Nat} {r : vw_C} {fs : List Value} {f : Nat → Option Nat} {i : Int32} {h' : zH} (d : decode cc pc = .ok (.aastore, 1)) (ha : h a = some (.inl (Z.2.1 t, n, .inr (.inr (.inr (.inr f)))))) (ht : (zt Z)[t]? = some (Z.2.1 t, .object E)) (hi : vp_in i n) (hb : h b9 = some (.inr (ci, fs))) (hc : vwCl[ci]? = some r) (hca : (r.1, E) ∈ zcast) (hh : ∀ b, h' b = if b = a then some (.inl (Z.2.1 t, n, .inr (.inr (.inr (.inr (va_up f i.toNatClampNeg (some b9))))))) else h b) (k : zG Z ad0 h0 p l e R s m args below meth c Q cells slots h' nL (pc + 1) lc (rest)) : zG Z ad0 h0 p l e R s m args below meth c Q cells slots h nL pc lc (.ref b9 :: .int i :: .ref a :: rest) := by
  intro ad H locs ls hP hS hE hL hl hv
  obtain ⟨L, g, P1, P2, P3, P4, P5⟩ := id hP
  obtain ⟨m1, m2, m3⟩ := P3 a _ ha
  obtain ⟨k9, hk9⟩ := va_pl_get (X := []) (f := g) m1
  obtain ⟨n1, n2, n3⟩ := P3 b9 _ hb
  obtain ⟨kb, hkb⟩ := va_pl_get (X := []) (f := g) n1
  rw [n2] at hkb
  have hk9a : (va_pl L g)[k9]? = some (ad a, g (ad a)) := hk9
  have hk9b := hk9a
  rw [m2] at hk9b
  have ez : (.inl (Z.2.1 t, n, .inr (.inr (.inr (.inr (va_up (fun i => (f i).map ad) i.toNatClampNeg (some (ad b9))))))) : va_E) = ze ad (.inl (Z.2.1 t, n, .inr (.inr (.inr (.inr (va_up f i.toNatClampNeg (some b9))))))) := by
    refine congrArg (fun g9 : Nat → Option Nat => (.inl (Z.2.1 t, n, .inr (.inr (.inr (.inr g9)))) : va_E)) (?_ : (va_up (fun i => (f i).map ad) i.toNatClampNeg (some (ad b9)) : Nat → Option Nat) = fun j => (va_up f i.toNatClampNeg (some b9) j).map ad)
    funext j
    unfold va_up
    by_cases q : j = i.toNatClampNeg
    · rw [if_pos q, if_pos q]; rfl
    · rw [if_neg q, if_neg q]
  have hc9 : zcl h (.inl (Z.2.1 t, n, .inr (.inr (.inr (.inr (va_up f i.toNatClampNeg (some b9))))))) := fun j a hj => by
    unfold va_up at hj
    by_cases q : j = i.toNatClampNeg
    · rw [if_pos q] at hj
      cases hj
      exact hv.hd
    · rw [if_neg q] at hj
      exact m3 j a hj
  refine va_astqO (ws := va_pl L g) C.1 C.2.1 C.2.2.2.2.2.1 P1 P2 hS k9 t kb ci hk9b ht ((C.2.2.2.2.2.2.2.2).2.2.2.2.2.2.2.2.1 _ hca) hkb hc hi d (fun H1 locs1 Q1 Q2 Q3 => ?_)
  have e8 := va_pl_set (X := []) (e := ze ad (.inl (Z.2.1 t, n, .inr (.inr (.inr (.inr (va_up f i.toNatClampNeg (some b9)))))))) P2 m1 hk9a
  have e9 : (va_pl L g).set k9 (ad a, ze ad (.inl (Z.2.1 t, n, .inr (.inr (.inr (.inr (va_up f i.toNatClampNeg (some b9)))))))) = va_pl L (va_up g (ad a) (ze ad (.inl (Z.2.1 t, n, .inr (.inr (.inr (.inr (va_up f i.toNatClampNeg (some b9))))))))) := e8
  rw [ez, e9] at Q1 Q2
  exact k ad H1 locs1 ls (zP_set P3 P4 P5 ha hh hc9 Q1 Q2) Q3 (zE_set hE hh) hL (hl.mono (zd_set hh)) (hv.tl.tl.tl.mono (zd_set hh))
end ZW
