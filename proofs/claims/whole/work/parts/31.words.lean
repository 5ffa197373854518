section
variable {Z : zZ} {p : Program} {l : Launch} {e : Env} {s : State} {m : MethodId} {args : Array Value} {below : List Frame} {meth : Method} {c : Code} {ad0 : Nat → Nat} {h0 : zH}
def w_J0_coder_7d493_s (st : zTs) (i : Nat) (P : Int32 → Prop) : Prop := (i < 34) ∧ (P 0)
set_option maxHeartbeats 4000000 in
set_option maxRecDepth 100000 in
theorem c_J0_coder_7d493_s {Z : zZ} {l : Launch} (hfl : l.stackTraces = false) {st : zTs} {i : Nat} {P : Int32 → Prop} (h : w_J0_coder_7d493_s st i P) : zN Z l yJ0_coder_7d493 cJ0_coder_7d493 1 (some .byte) ({ frames := 1, cells := 0, slots := 0, locals := 12 } : Room) (zh Z zm1 st) [.ref (200 + 256 * i)] (zRi Z st P) := by
  unfold w_J0_coder_7d493_s at h
  refine z_enterF (by decide +kernel) (Nat.le_of_ble_eq_true rfl) (lc0 := [some (.ref (200 + 256 * i))]) rfl ?_
  intro p e s m args below meth c ad0 C hr _
  have hn9 : True := trivial
  replace C : zC Z p s m args meth c cJ0_coder_7d493 1 RJ0 := C
  refine z_getsI C dJ0_coder_7d493_0 (x := 1) gl_J0_38 (fun z => z.2.2.2.2.2.2.2.1.1) ?_
  refine z_if_eq C dJ0_coder_7d493_3 (tgt := 13) (by decide) (fun z => absurd z (by decide)) (fun _ => ?_)
  refine z_aload_n C dJ0_coder_7d493_6 (i := 0) rfl rfl ?_
  obtain ⟨g7, h⟩ := h
  refine z_kgetI C dJ0_coder_7d493_7 (q := 200 + 256 * i) (zk_md200 i) (x := 0) gl_J0_15 (fun z => (z.2.2.1.1 i g7).2.1) ?_
  refine z_goto C dJ0_coder_7d493_10 (tgt := 14) (by decide) ?_
  exact z_iret C dJ0_coder_7d493_14 hr rfl ⟨rfl, _, rfl, h⟩ (Nat.le_of_ble_eq_true rfl) (Nat.le_of_ble_eq_true rfl)
def w_J0_length_8abf5_s (st : zTs) (i : Nat) (P : Int32 → Prop) : Prop := (i < 34) ∧ ((i < 34) ∧ ((i < 34) ∧ (w_J0_coder_7d493_s st i (fun (r6 : Int32) => (P ((Int32.ofNat (zlen.getD i 0)) >>> (r6 &&& 31)))))))
set_option maxHeartbeats 4000000 in
set_option maxRecDepth 100000 in
theorem c_J0_length_8abf5_s {Z : zZ} {l : Launch} (hfl : l.stackTraces = false) {st : zTs} {i : Nat} {P : Int32 → Prop} (h : w_J0_length_8abf5_s st i P) : zN Z l yJ0_length_8abf5 cJ0_length_8abf5 1 (some .int) ({ frames := 2, cells := 0, slots := 0, locals := 32 } : Room) (zh Z zm1 st) [.ref (200 + 256 * i)] (zRi Z st P) := by
  unfold w_J0_length_8abf5_s at h
  refine z_enterF (by decide +kernel) (Nat.le_of_ble_eq_true rfl) (lc0 := [some (.ref (200 + 256 * i))]) rfl ?_
  intro p e s m args below meth c ad0 C hr _
  have hn9 : True := trivial
  replace C : zC Z p s m args meth c cJ0_length_8abf5 1 RJ0 := C
  refine z_aload_n C dJ0_length_8abf5_0 (i := 0) rfl rfl ?_
  obtain ⟨g1, h⟩ := h
  refine z_kgetR C dJ0_length_8abf5_1 (q := 200 + 256 * i) (zk_md200 i) (q2 := 205 + 256 * i) (zk_md205 i) gl_J0_9 (fun z => (z.2.2.1.1 i g1).2.2.1) ?_
  obtain ⟨g4, h⟩ := h
  refine z_klen C dJ0_length_8abf5_4 (q := 205 + 256 * i) (n := zlen.getD i 0) (zk_md205 i) (fun z => (z.2.2.1.1 i g4).2.2.2) rfl ?_
  refine z_aload_n C dJ0_length_8abf5_5 (i := 0) rfl rfl ?_
  obtain ⟨g6, h⟩ := h
  refine z_kcallV C (rest := [.int (Int32.ofNat (zlen.getD i 0))]) (b := 200 + 256 * i) (av := []) dJ0_length_8abf5_6 lk_J0_335 li_J0_coder_7d493 le_J0_coder_7d493 (c_J0_coder_7d493_s hfl h) rfl rfl (zk_md200 i) (zk_recS g6) ⟨Nat.le_of_ble_eq_true rfl, Nat.le_of_ble_eq_true rfl⟩ (Nat.le_of_ble_eq_true rfl) ⟨Nat.le_of_ble_eq_true rfl, Nat.le_of_ble_eq_true rfl⟩ (k_Ri fun r6 h => ?_)
  refine z_ishr C dJ0_length_8abf5_9 ?_
  exact z_iret C dJ0_length_8abf5_10 hr rfl ⟨rfl, _, rfl, h⟩ (Nat.le_of_ble_eq_true rfl) (Nat.le_of_ble_eq_true rfl)
def w_J0_isLatin1_aae02_s (st : zTs) (i : Nat) (P : Int32 → Prop) : Prop := (i < 34) ∧ (P 1)
set_option maxHeartbeats 4000000 in
set_option maxRecDepth 100000 in
theorem c_J0_isLatin1_aae02_s {Z : zZ} {l : Launch} (hfl : l.stackTraces = false) {st : zTs} {i : Nat} {P : Int32 → Prop} (h : w_J0_isLatin1_aae02_s st i P) : zN Z l yJ0_isLatin1_aae02 cJ0_isLatin1_aae02 1 (some .boolean) ({ frames := 1, cells := 0, slots := 0, locals := 12 } : Room) (zh Z zm1 st) [.ref (200 + 256 * i)] (zRi Z st P) := by
  unfold w_J0_isLatin1_aae02_s at h
  refine z_enterF (by decide +kernel) (Nat.le_of_ble_eq_true rfl) (lc0 := [some (.ref (200 + 256 * i))]) rfl ?_
  intro p e s m args below meth c ad0 C hr _
  have hn9 : True := trivial
  replace C : zC Z p s m args meth c cJ0_isLatin1_aae02 1 RJ0 := C
  refine z_getsI C dJ0_isLatin1_aae02_0 (x := 1) gl_J0_38 (fun z => z.2.2.2.2.2.2.2.1.1) ?_
  refine z_if_eq C dJ0_isLatin1_aae02_3 (tgt := 17) (by decide) (fun z => absurd z (by decide)) (fun _ => ?_)
  refine z_aload_n C dJ0_isLatin1_aae02_6 (i := 0) rfl rfl ?_
  obtain ⟨g7, h⟩ := h
  refine z_kgetI C dJ0_isLatin1_aae02_7 (q := 200 + 256 * i) (zk_md200 i) (x := 0) gl_J0_15 (fun z => (z.2.2.1.1 i g7).2.1) ?_
  refine z_if_ne C dJ0_isLatin1_aae02_10 (tgt := 17) (by decide) (fun z => absurd (by decide) z) (fun _ => ?_)
  refine z_iconst C dJ0_isLatin1_aae02_13 (v := 1) (by decide) ?_
  refine z_goto C dJ0_isLatin1_aae02_14 (tgt := 18) (by decide) ?_
  exact z_iret C dJ0_isLatin1_aae02_18 hr rfl ⟨rfl, _, rfl, h⟩ (Nat.le_of_ble_eq_true rfl) (Nat.le_of_ble_eq_true rfl)
def w_J3_checkIndex_8e157_iio206_9 (P : Int32 → Prop) (st : zTs)  (a0 : Int32) (a1 : Int32) (a2 : Option Nat) : Prop := False
set_option maxHeartbeats 4000000 in
set_option maxRecDepth 100000 in
theorem j_J3_checkIndex_8e157_iio206_9 {P : Int32 → Prop} {st : zTs}  (hfl : l.stackTraces = false) (C : zC Z p s m args meth c cJ3_checkIndex_8e157 3 RJ3) (hr : meth.sig.returnType = (some .int)) (hn9 : True)  (a0 : Int32) (a1 : Int32) (a2 : Option Nat) (h : w_J3_checkIndex_8e157_iio206_9 P st a0 a1 a2) : zG Z ad0 h0 p l e ({ frames := 1, cells := 0, slots := 0, locals := 12 } : Room) s m args below meth c (MQ below (zQ Z ad0 h0 (zRi Z st P)) args s 0 0 (zA Z)) 0 0 (zh Z zm1 st) 3 9 [some (.int (a0)), some (.int (a1)), some (va_rf ((a2).map fun y => 206 + 256 * y))] [] := by
  unfold w_J3_checkIndex_8e157_iio206_9 at h
  refine z_aload_nq C dJ3_checkIndex_8e157_9 (i := 2) rfl rfl ?_
  refine z_iload_n C dJ3_checkIndex_8e157_10 (i := 0) rfl rfl ?_
  refine z_iload_n C dJ3_checkIndex_8e157_11 (i := 1) rfl rfl ?_
  exact h.elim
def w_J3_checkIndex_8e157_iio206 (st : zTs) (a0 : Int32) (a1 : Int32) (a2 : Option Nat) (P : Int32 → Prop) : Prop := (a0 < 0 → w_J3_checkIndex_8e157_iio206_9 P st a0 a1 a2) ∧ (¬ a0 < 0 → (a0 < a1 → P a0) ∧ (¬ a0 < a1 → w_J3_checkIndex_8e157_iio206_9 P st a0 a1 a2))
set_option maxHeartbeats 4000000 in
set_option maxRecDepth 100000 in
theorem c_J3_checkIndex_8e157_iio206 {Z : zZ} {l : Launch} (hfl : l.stackTraces = false) {st : zTs} {a0 : Int32} {a1 : Int32} {a2 : Option Nat} {P : Int32 → Prop} (h : w_J3_checkIndex_8e157_iio206 st a0 a1 a2 P) : zN Z l yJ3_checkIndex_8e157 cJ3_checkIndex_8e157 3 (some .int) ({ frames := 1, cells := 0, slots := 0, locals := 12 } : Room) (zh Z zm1 st) [.int (a0), .int (a1), va_rf ((a2).map fun y => 206 + 256 * y)] (zRi Z st P) := by
  unfold w_J3_checkIndex_8e157_iio206 at h
  refine z_enterF (by decide +kernel) (by cases a2 <;> exact Nat.le_of_ble_eq_true rfl) (lc0 := [some (.int (a0)), some (.int (a1)), some (va_rf ((a2).map fun y => 206 + 256 * y))]) (by cases a2 <;> rfl) ?_
  intro p e s m args below meth c ad0 C hr _
  have hn9 : True := trivial
  replace C : zC Z p s m args meth c cJ3_checkIndex_8e157 3 RJ3 := C
  refine z_iload_n C dJ3_checkIndex_8e157_0 (i := 0) rfl rfl ?_
  refine z_if_lt C dJ3_checkIndex_8e157_1 (tgt := 9) (by decide) (fun c1 => ?_) (fun c1 => ?_)
  · have h := h.1 c1
    exact t_drop [true, true, true] rfl (j_J3_checkIndex_8e157_iio206_9 hfl C hr hn9  a0 a1 a2 h)
  · have h := h.2 c1
    refine z_iload_n C dJ3_checkIndex_8e157_4 (i := 0) rfl rfl ?_
    refine z_iload_n C dJ3_checkIndex_8e157_5 (i := 1) rfl rfl ?_
    refine z_icmp_lt C dJ3_checkIndex_8e157_6 (tgt := 16) (by decide) (fun c6 => ?_) (fun c6 => ?_)
    · have h := h.1 c6
      refine z_iload_n C dJ3_checkIndex_8e157_16 (i := 0) rfl rfl ?_
      exact z_iret C dJ3_checkIndex_8e157_17 hr rfl ⟨rfl, _, rfl, h⟩ (Nat.le_of_ble_eq_true rfl) (Nat.le_of_ble_eq_true rfl)
    · have h := h.2 c6
      exact t_drop [true, true, true] rfl (j_J3_checkIndex_8e157_iio206_9 hfl C hr hn9  a0 a1 a2 h)
def w_J0_checkIndex_df160_ii (st : zTs) (a0 : Int32) (a1 : Int32) (P : Prop) : Prop := ∀ o2 : Option Nat, (w_J3_checkIndex_8e157_iio206 st a0 a1 o2 (fun (r5 : Int32) => (P)))
set_option maxHeartbeats 4000000 in
set_option maxRecDepth 100000 in
theorem c_J0_checkIndex_df160_ii {Z : zZ} {l : Launch} (hfl : l.stackTraces = false) {st : zTs} {a0 : Int32} {a1 : Int32} {P : Prop} (h : w_J0_checkIndex_df160_ii st a0 a1 P) : zN Z l yJ0_checkIndex_df160 cJ0_checkIndex_df160 2 none ({ frames := 2, cells := 0, slots := 0, locals := 34 } : Room) (zh Z zm1 st) [.int (a0), .int (a1)] (zRv Z st P) := by
  unfold w_J0_checkIndex_df160_ii at h
  refine z_enterF (by decide +kernel) (Nat.le_of_ble_eq_true rfl) (lc0 := [some (.int (a0)), some (.int (a1))]) rfl ?_
  intro p e s m args below meth c ad0 C hr _
  have hn9 : True := trivial
  replace C : zC Z p s m args meth c cJ0_checkIndex_df160 2 RJ0 := C
  refine z_iload_n C dJ0_checkIndex_df160_0 (i := 0) rfl rfl ?_
  refine z_iload_n C dJ0_checkIndex_df160_1 (i := 1) rfl rfl ?_
  refine z_getsF C dJ0_checkIndex_df160_2 gl_J0_1053 (fun z => z.2.2.2.2.2.2.2.1.2) (fun o2 => ?_)
  have h := h o2
  refine t_callS C (rest := []) (c2 := 0) (s2 := 0) [.int (a0), .int (a1), va_rf ((o2).map fun y => 206 + 256 * y)] dJ0_checkIndex_df160_5 lk_J0_1059 ls_J3_checkIndex_8e157 (c_J3_checkIndex_8e157_iio206 hfl h) rfl rfl ⟨Nat.le_of_ble_eq_true rfl, Nat.le_of_ble_eq_true rfl⟩ (Nat.le_of_ble_eq_true rfl) ⟨Nat.le_of_ble_eq_true rfl, Nat.le_of_ble_eq_true rfl, Nat.le_of_ble_eq_true rfl, Nat.le_of_ble_eq_true rfl⟩ (k_Ri fun r5 h => ?_)
  refine z_pop C dJ0_checkIndex_df160_8 rfl ?_
  exact z_vret C dJ0_checkIndex_df160_9 hr ⟨rfl, rfl, h⟩ (Nat.le_of_ble_eq_true rfl) (Nat.le_of_ble_eq_true rfl)
def w_J1_charAt_3b067_bi (st : zTs) (a0 : Nat) (a1 : Int32) (P : Int32 → Prop) : Prop := (a0 < 34) ∧ (w_J0_checkIndex_df160_ii st a1 (Int32.ofNat (zlen.getD a0 0)) (((a0 < 34) ∧ vp_in a1 (zlen.getD a0 0) ∧ ((((((((zbyt.getD a0 []).getD ((a1 : Int32).toNatClampNeg) 0) &&& 255 : Int32).toUInt32 % 65536).toInt32 : Int32).toUInt32 % 65536).toInt32 = ((((zbyt.getD a0 []).getD ((a1 : Int32).toNatClampNeg) 0) &&& 255 : Int32).toUInt32 % 65536).toInt32) ∧ (P (((((zbyt.getD a0 []).getD ((a1 : Int32).toNatClampNeg) 0) &&& 255 : Int32).toUInt32 % 65536).toInt32))))))
set_option maxHeartbeats 4000000 in
set_option maxRecDepth 100000 in
theorem c_J1_charAt_3b067_bi {Z : zZ} {l : Launch} (hfl : l.stackTraces = false) {st : zTs} {a0 : Nat} {a1 : Int32} {P : Int32 → Prop} (h : w_J1_charAt_3b067_bi st a0 a1 P) : zN Z l yJ1_charAt_3b067 cJ1_charAt_3b067 2 (some .char) ({ frames := 3, cells := 0, slots := 0, locals := 55 } : Room) (zh Z zm1 st) [.ref (205 + 256 * a0), .int (a1)] (zRi Z st P) := by
  unfold w_J1_charAt_3b067_bi at h
  refine z_enterF (by decide +kernel) (Nat.le_of_ble_eq_true rfl) (lc0 := [some (.ref (205 + 256 * a0)), some (.int (a1))]) rfl ?_
  intro p e s m args below meth c ad0 C hr _
  have hn9 : True := trivial
  replace C : zC Z p s m args meth c cJ1_charAt_3b067 2 RJ1 := C
  refine z_iload_n C dJ1_charAt_3b067_0 (i := 1) rfl rfl ?_
  refine z_aload_n C dJ1_charAt_3b067_1 (i := 0) rfl rfl ?_
  obtain ⟨g2, h⟩ := h
  refine z_klen C dJ1_charAt_3b067_2 (q := 205 + 256 * a0) (n := zlen.getD a0 0) (zk_md205 a0) (fun z => (z.2.2.1.1 a0 g2).2.2.2) rfl ?_
  refine t_callS C (rest := []) (c2 := 0) (s2 := 0) [.int (a1), .int (Int32.ofNat (zlen.getD a0 0))] dJ1_charAt_3b067_3 lk_J1_9 ls_J0_checkIndex_df160 (c_J0_checkIndex_df160_ii hfl h) rfl rfl ⟨Nat.le_of_ble_eq_true rfl, Nat.le_of_ble_eq_true rfl⟩ (Nat.le_of_ble_eq_true rfl) ⟨Nat.le_of_ble_eq_true rfl, Nat.le_of_ble_eq_true rfl, Nat.le_of_ble_eq_true rfl, Nat.le_of_ble_eq_true rfl⟩ (k_Rv fun h => ?_)
  refine z_aload_n C dJ1_charAt_3b067_6 (i := 0) rfl rfl ?_
  refine z_iload_n C dJ1_charAt_3b067_7 (i := 1) rfl rfl ?_
  obtain ⟨g8b, g8, h⟩ := h
  refine z_ktb C dJ1_charAt_3b067_8 (q := 205 + 256 * a0) (n := zlen.getD a0 0) (f0 := fun j => (zbyt.getD a0 []).getD j 0) (zk_md205 a0) (fun z => (z.2.2.1.1 a0 g8b).2.2.2) g8 ?_
  refine z_sipush C dJ1_charAt_3b067_9 (v := 255) (by decide) ?_
  refine z_iand C dJ1_charAt_3b067_12 ?_
  refine z_i2c C dJ1_charAt_3b067_13 ?_
  obtain ⟨g14, h⟩ := h
  exact z_iret C dJ1_charAt_3b067_14 hr (zn_char g14) ⟨rfl, _, rfl, h⟩ (Nat.le_of_ble_eq_true rfl) (Nat.le_of_ble_eq_true rfl)
def w_J0_charAt_5068e_si (st : zTs) (i : Nat) (a1 : Int32) (P : Int32 → zTs → Prop) : Prop := (i < 34) ∧ (w_J0_isLatin1_aae02_s st i (fun (r1 : Int32) => ((r1 = 0 → (i < 34) ∧ (False)) ∧ (¬ r1 = 0 → (i < 34) ∧ (w_J1_charAt_3b067_bi st i a1 (fun (r12 : Int32) => ((((r12 : Int32).toUInt32 % 65536).toInt32 = r12) ∧ (P r12 st))))))))
set_option maxHeartbeats 4000000 in
set_option maxRecDepth 100000 in
theorem c_J0_charAt_5068e_si {Z : zZ} {l : Launch} (hfl : l.stackTraces = false) {st : zTs} {i : Nat} {a1 : Int32} {P : Int32 → zTs → Prop} (h : w_J0_charAt_5068e_si st i a1 P) : zN Z l yJ0_charAt_5068e cJ0_charAt_5068e 2 (some .char) ({ frames := 4, cells := 0, slots := 0, locals := 76 } : Room) (zh Z zm1 st) [.ref (200 + 256 * i), .int (a1)] (zWi Z P) := by
  unfold w_J0_charAt_5068e_si at h
  refine z_enterF (by decide +kernel) (Nat.le_of_ble_eq_true rfl) (lc0 := [some (.ref (200 + 256 * i)), some (.int (a1))]) rfl ?_
  intro p e s m args below meth c ad0 C hr _
  have hn9 : True := trivial
  replace C : zC Z p s m args meth c cJ0_charAt_5068e 2 RJ0 := C
  refine z_aload_n C dJ0_charAt_5068e_0 (i := 0) rfl rfl ?_
  obtain ⟨g1, h⟩ := h
  refine z_kcallV C (rest := []) (b := 200 + 256 * i) (av := []) dJ0_charAt_5068e_1 lk_J0_492 li_J0_isLatin1_aae02 le_J0_isLatin1_aae02 (c_J0_isLatin1_aae02_s hfl h) rfl rfl (zk_md200 i) (zk_recS g1) ⟨Nat.le_of_ble_eq_true rfl, Nat.le_of_ble_eq_true rfl⟩ (Nat.le_of_ble_eq_true rfl) ⟨Nat.le_of_ble_eq_true rfl, Nat.le_of_ble_eq_true rfl⟩ (k_Ri fun r1 h => ?_)
  refine z_if_eq C dJ0_charAt_5068e_4 (tgt := 16) (by decide) (fun c4 => ?_) (fun c4 => ?_)
  · have h := h.1 c4
    refine z_aload_n C dJ0_charAt_5068e_16 (i := 0) rfl rfl ?_
    obtain ⟨g17, h⟩ := h
    refine z_kgetR C dJ0_charAt_5068e_17 (q := 200 + 256 * i) (zk_md200 i) (q2 := 205 + 256 * i) (zk_md205 i) gl_J0_9 (fun z => (z.2.2.1.1 i g17).2.2.1) ?_
    refine z_iload_n C dJ0_charAt_5068e_20 (i := 1) rfl rfl ?_
    exact h.elim
  · have h := h.2 c4
    refine z_aload_n C dJ0_charAt_5068e_7 (i := 0) rfl rfl ?_
    obtain ⟨g8, h⟩ := h
    refine z_kgetR C dJ0_charAt_5068e_8 (q := 200 + 256 * i) (zk_md200 i) (q2 := 205 + 256 * i) (zk_md205 i) gl_J0_9 (fun z => (z.2.2.1.1 i g8).2.2.1) ?_
    refine z_iload_n C dJ0_charAt_5068e_11 (i := 1) rfl rfl ?_
    refine t_callS C (rest := []) (c2 := 0) (s2 := 0) [.ref (205 + 256 * i), .int (a1)] dJ0_charAt_5068e_12 lk_J0_495 ls_J1_charAt_3b067 (c_J1_charAt_3b067_bi hfl h) rfl rfl ⟨Nat.le_of_ble_eq_true rfl, Nat.le_of_ble_eq_true rfl⟩ (Nat.le_of_ble_eq_true rfl) ⟨Nat.le_of_ble_eq_true rfl, Nat.le_of_ble_eq_true rfl, Nat.le_of_ble_eq_true rfl, Nat.le_of_ble_eq_true rfl⟩ (k_Ri fun r12 h => ?_)
    obtain ⟨g15, h⟩ := h
    exact z_iret C dJ0_charAt_5068e_15 hr (zn_char g15) ⟨_, _, rfl, rfl, h⟩ (Nat.le_of_ble_eq_true rfl) (Nat.le_of_ble_eq_true rfl)
def w_X9_of_101 (P : Nat → zTs → Prop) (K16 : zTs → Int32 → Int32 → Int32 → Prop) (st : zTs) (a1 : Int32) (a2 : Int32) (a3 : Int32) : Prop := ∀ x101 : Int32, x101 = a3 + 1 → (K16 st a1 a2 x101)
set_option maxHeartbeats 4000000 in
set_option maxRecDepth 100000 in
theorem j_X9_of_101 {P : Nat → zTs → Prop} {K16 : zTs → Int32 → Int32 → Int32 → Prop} (hfl : l.stackTraces = false) (C : zC Z p s m args meth c cX9_of 6 RX9) (hr : meth.sig.returnType = (some (.object "PartyWalls$Word"))) (hn9 : True) (hK16 : ∀ (st : zTs) (a1 : Int32) (a2 : Int32) (a3 : Int32), K16 st a1 a2 a3 → zG Z ad0 h0 p l e ({ frames := 5, cells := 0, slots := 0, locals := 97 } : Room) s m args below meth c (MQ below (zQ Z ad0 h0 (zWr Z 201 P)) args s 0 0 (zA Z)) 0 0 (zh Z zm1 st) 6 16 [some (.ref 43), some (.int (a1)), some (.int (a2)), some (.int (a3)), none, none] []) (st : zTs) (a1 : Int32) (a2 : Int32) (a3 : Int32) (h : w_X9_of_101 P K16 st a1 a2 a3) : zG Z ad0 h0 p l e ({ frames := 5, cells := 0, slots := 0, locals := 97 } : Room) s m args below meth c (MQ below (zQ Z ad0 h0 (zWr Z 201 P)) args s 0 0 (zA Z)) 0 0 (zh Z zm1 st) 6 101 [some (.ref 43), some (.int (a1)), some (.int (a2)), some (.int (a3)), none, none] [] := by
  unfold w_X9_of_101 at h
  obtain ⟨x101, ex101⟩ : ∃ z : Int32, z = a3 + 1 := ⟨_, rfl⟩
  have h := h x101 ex101
  refine z_iinc C dX9_of_101 (v := x101) (lc' := [some (.ref 43), some (.int (a1)), some (.int (a2)), some (.int (x101)), none, none]) rfl (by decide) (by rw [ex101]; rfl) rfl ?_
  refine z_goto C dX9_of_104 (tgt := 16) (by decide) ?_
  exact t_drop [true, true, true, true, false, false] rfl (hK16 st a1 a2 x101 h)
def w_X9_of_77 (P : Nat → zTs → Prop) (K16 : zTs → Int32 → Int32 → Int32 → Prop) (st : zTs) (a1 : Int32) (a2 : Int32) (a3 : Int32) (a4 : Nat) (a5 : Int32) : Prop := (a4 < 34) ∧ (w_J0_length_8abf5_s st a4 (fun (r81 : Int32) => ((a5 = r81 → ((a1 + a5) = a2 → vp_in a3 24 ∧ (P ((a3 : Int32).toNatClampNeg) st)) ∧ (¬ (a1 + a5) = a2 → w_X9_of_101 P K16 st a1 a2 a3)) ∧ (¬ a5 = r81 → w_X9_of_101 P K16 st a1 a2 a3))))
set_option maxHeartbeats 4000000 in
set_option maxRecDepth 100000 in
theorem j_X9_of_77 {P : Nat → zTs → Prop} {K16 : zTs → Int32 → Int32 → Int32 → Prop} (hfl : l.stackTraces = false) (C : zC Z p s m args meth c cX9_of 6 RX9) (hr : meth.sig.returnType = (some (.object "PartyWalls$Word"))) (hn9 : True) (hK16 : ∀ (st : zTs) (a1 : Int32) (a2 : Int32) (a3 : Int32), K16 st a1 a2 a3 → zG Z ad0 h0 p l e ({ frames := 5, cells := 0, slots := 0, locals := 97 } : Room) s m args below meth c (MQ below (zQ Z ad0 h0 (zWr Z 201 P)) args s 0 0 (zA Z)) 0 0 (zh Z zm1 st) 6 16 [some (.ref 43), some (.int (a1)), some (.int (a2)), some (.int (a3)), none, none] []) (st : zTs) (a1 : Int32) (a2 : Int32) (a3 : Int32) (a4 : Nat) (a5 : Int32) (h : w_X9_of_77 P K16 st a1 a2 a3 a4 a5) : zG Z ad0 h0 p l e ({ frames := 5, cells := 0, slots := 0, locals := 97 } : Room) s m args below meth c (MQ below (zQ Z ad0 h0 (zWr Z 201 P)) args s 0 0 (zA Z)) 0 0 (zh Z zm1 st) 6 77 [some (.ref 43), some (.int (a1)), some (.int (a2)), some (.int (a3)), some (.ref (200 + 256 * a4)), some (.int (a5))] [] := by
  unfold w_X9_of_77 at h
  refine z_iload C dX9_of_77 rfl ?_
  refine z_aload C dX9_of_79 rfl ?_
  obtain ⟨g81, h⟩ := h
  refine z_kcallV C (rest := [.int (a5)]) (b := 200 + 256 * a4) (av := []) dX9_of_81 lk_X9_106 li_J0_length_8abf5 le_J0_length_8abf5 (c_J0_length_8abf5_s hfl h) rfl rfl (zk_md200 a4) (zk_recS g81) ⟨Nat.le_of_ble_eq_true rfl, Nat.le_of_ble_eq_true rfl⟩ (Nat.le_of_ble_eq_true rfl) ⟨Nat.le_of_ble_eq_true rfl, Nat.le_of_ble_eq_true rfl⟩ (k_Ri fun r81 h => ?_)
  refine z_icmp_ne C dX9_of_84 (tgt := 101) (by decide) (fun c84 => ?_) (fun c84 => ?_)
  · have h := h.2 c84
    exact t_drop [true, true, true, true, false, false] rfl (j_X9_of_101 hfl C hr hn9 hK16 st a1 a2 a3 h)
  · have h := h.1 c84
    refine z_iload_n C dX9_of_87 (i := 1) rfl rfl ?_
    refine z_iload C dX9_of_88 rfl ?_
    refine z_iadd C dX9_of_90 ?_
    refine z_iload_n C dX9_of_91 (i := 2) rfl rfl ?_
    refine z_icmp_ne C dX9_of_92 (tgt := 101) (by decide) (fun c92 => ?_) (fun c92 => ?_)
    · have h := h.2 c92
      exact t_drop [true, true, true, true, false, false] rfl (j_X9_of_101 hfl C hr hn9 hK16 st a1 a2 a3 h)
    · have h := h.1 c92
      refine z_gets C dX9_of_95 (q := 202) (by decide) gl_X9_103 (fun z => z.2.2.2.2.1.1) ?_
      refine z_iload_n C dX9_of_98 (i := 3) rfl rfl ?_
      obtain ⟨g99, h⟩ := h
      refine z_ktq C dX9_of_99 (q := 202) (n := 24) (f0 := fun j => 201 + 256 * j) (by decide) zk_md201 (fun z => z.2.2.2.2.1.2) g99 ?_
      exact z_aret C dX9_of_100 hr (Or.inl ⟨_, rfl⟩) (Or.inr ⟨_, rfl⟩) ⟨_, _, rfl, rfl, h⟩ (Nat.le_of_ble_eq_true rfl) (Nat.le_of_ble_eq_true rfl)
def w_X9_of_37 (P : Nat → zTs → Prop) (K16 : zTs → Int32 → Int32 → Int32 → Prop) : Nat → zTs → Int32 → Int32 → Int32 → Nat → Int32 → Prop
  | 0, _, _, _, _, _, _ => False
  | n9 + 1, st, a1, a2, a3, a4, a5 => (a4 < 34) ∧ (w_J0_length_8abf5_s st a4 (fun (r41 : Int32) => ((r41 ≤ a5 → w_X9_of_77 P K16 st a1 a2 a3 a4 a5) ∧ (¬ r41 ≤ a5 → (a2 ≤ (a1 + a5) → w_X9_of_77 P K16 st a1 a2 a3 a4 a5) ∧ (¬ a2 ≤ (a1 + a5) → vp_in (a1 + a5) 400 ∧ ((a4 < 34) ∧ (w_J0_charAt_5068e_si st a4 a5 (fun (r65 : Int32) (s65 : zTs) => (((zgA st 43 0 (a1 + a5 : Int32).toNatClampNeg) = r65 → ∀ x71 : Int32, x71 = a5 + 1 → ((w_X9_of_37 P K16 n9) s65 a1 a2 a3 a4 x71)) ∧ (¬ (zgA st 43 0 (a1 + a5 : Int32).toNatClampNeg) = r65 → w_X9_of_77 P K16 s65 a1 a2 a3 a4 a5))))))))))
set_option maxHeartbeats 4000000 in
set_option maxRecDepth 100000 in
theorem j_X9_of_37 {P : Nat → zTs → Prop} {K16 : zTs → Int32 → Int32 → Int32 → Prop} (hfl : l.stackTraces = false) (C : zC Z p s m args meth c cX9_of 6 RX9) (hr : meth.sig.returnType = (some (.object "PartyWalls$Word"))) (hn9 : True) (hK16 : ∀ (st : zTs) (a1 : Int32) (a2 : Int32) (a3 : Int32), K16 st a1 a2 a3 → zG Z ad0 h0 p l e ({ frames := 5, cells := 0, slots := 0, locals := 97 } : Room) s m args below meth c (MQ below (zQ Z ad0 h0 (zWr Z 201 P)) args s 0 0 (zA Z)) 0 0 (zh Z zm1 st) 6 16 [some (.ref 43), some (.int (a1)), some (.int (a2)), some (.int (a3)), none, none] []) : ∀ (n9 : Nat) (st : zTs) (a1 : Int32) (a2 : Int32) (a3 : Int32) (a4 : Nat) (a5 : Int32), w_X9_of_37 P K16 n9 st a1 a2 a3 a4 a5 → zG Z ad0 h0 p l e ({ frames := 5, cells := 0, slots := 0, locals := 97 } : Room) s m args below meth c (MQ below (zQ Z ad0 h0 (zWr Z 201 P)) args s 0 0 (zA Z)) 0 0 (zh Z zm1 st) 6 37 [some (.ref 43), some (.int (a1)), some (.int (a2)), some (.int (a3)), some (.ref (200 + 256 * a4)), some (.int (a5))] [] := by
  intro n9
  induction n9 with
  | zero => intro st a1 a2 a3 a4 a5 h; exact h.elim
  | succ n9 hK37 =>
    intro st a1 a2 a3 a4 a5 h
    rw [w_X9_of_37] at h
    refine z_iload C dX9_of_37 rfl ?_
    refine z_aload C dX9_of_39 rfl ?_
    obtain ⟨g41, h⟩ := h
    refine z_kcallV C (rest := [.int (a5)]) (b := 200 + 256 * a4) (av := []) dX9_of_41 lk_X9_106 li_J0_length_8abf5 le_J0_length_8abf5 (c_J0_length_8abf5_s hfl h) rfl rfl (zk_md200 a4) (zk_recS g41) ⟨Nat.le_of_ble_eq_true rfl, Nat.le_of_ble_eq_true rfl⟩ (Nat.le_of_ble_eq_true rfl) ⟨Nat.le_of_ble_eq_true rfl, Nat.le_of_ble_eq_true rfl⟩ (k_Ri fun r41 h => ?_)
    refine z_icmp_ge C dX9_of_44 (tgt := 77) (by decide) (fun c44 => ?_) (fun c44 => ?_)
    · have h := h.1 c44
      exact t_drop [true, true, true, true, true, true] rfl (j_X9_of_77 hfl C hr hn9 hK16 st a1 a2 a3 a4 a5 h)
    · have h := h.2 c44
      refine z_iload_n C dX9_of_47 (i := 1) rfl rfl ?_
      refine z_iload C dX9_of_48 rfl ?_
      refine z_iadd C dX9_of_50 ?_
      refine z_iload_n C dX9_of_51 (i := 2) rfl rfl ?_
      refine z_icmp_ge C dX9_of_52 (tgt := 77) (by decide) (fun c52 => ?_) (fun c52 => ?_)
      · have h := h.1 c52
        exact t_drop [true, true, true, true, true, true] rfl (j_X9_of_77 hfl C hr hn9 hK16 st a1 a2 a3 a4 a5 h)
      · have h := h.2 c52
        refine z_aload_n C dX9_of_55 (i := 0) rfl rfl ?_
        refine z_iload_n C dX9_of_56 (i := 1) rfl rfl ?_
        refine z_iload C dX9_of_57 rfl ?_
        refine z_iadd C dX9_of_59 ?_
        obtain ⟨g60, h⟩ := h
        refine t_bald C dX9_of_60 (k := 43) (i := 0) (by decide) rfl (sh_43 _ _ _ _) g60 ?_
        refine z_aload C dX9_of_61 rfl ?_
        refine z_iload C dX9_of_63 rfl ?_
        obtain ⟨g65, h⟩ := h
        refine z_kcallV C (rest := [.int (zgA st 43 0 (a1 + a5 : Int32).toNatClampNeg)]) (b := 200 + 256 * a4) (av := [.int (a5)]) dX9_of_65 lk_X9_112 li_J0_charAt_5068e le_J0_charAt_5068e (c_J0_charAt_5068e_si hfl h) rfl rfl (zk_md200 a4) (zk_recS g65) ⟨Nat.le_of_ble_eq_true rfl, Nat.le_of_ble_eq_true rfl⟩ (Nat.le_of_ble_eq_true rfl) ⟨Nat.le_of_ble_eq_true rfl, Nat.le_of_ble_eq_true rfl⟩ (k_Wi fun r65 s65 h => ?_)
        refine z_icmp_ne C dX9_of_68 (tgt := 77) (by decide) (fun c68 => ?_) (fun c68 => ?_)
        · have h := h.2 c68
          exact t_drop [true, true, true, true, true, true] rfl (j_X9_of_77 hfl C hr hn9 hK16 s65 a1 a2 a3 a4 a5 h)
        · have h := h.1 c68
          obtain ⟨x71, ex71⟩ : ∃ z : Int32, z = a5 + 1 := ⟨_, rfl⟩
          have h := h x71 ex71
          refine z_iinc C dX9_of_71 (v := x71) (lc' := [some (.ref 43), some (.int (a1)), some (.int (a2)), some (.int (a3)), some (.ref (200 + 256 * a4)), some (.int (x71))]) rfl (by decide) (by rw [ex71]; rfl) rfl ?_
          refine z_goto C dX9_of_74 (tgt := 37) (by decide) ?_
          exact t_drop [true, true, true, true, true, true] rfl (hK37 s65 a1 a2 a3 a4 x71 h)
def w_X9_of_16 (P : Nat → zTs → Prop)  : Nat → zTs → Int32 → Int32 → Int32 → Prop
  | 0, _, _, _, _ => False
  | n9 + 1, st, a1, a2, a3 => (24 ≤ a3 → P 0 st) ∧ (¬ 24 ≤ a3 → vp_in a3 24 ∧ (((a3 : Int32).toNatClampNeg < 24) ∧ (w_X9_of_37 P (w_X9_of_16 P n9) zfu st a1 a2 a3 ((a3 : Int32).toNatClampNeg) (0))))
set_option maxHeartbeats 4000000 in
set_option maxRecDepth 100000 in
theorem j_X9_of_16 {P : Nat → zTs → Prop}  (hfl : l.stackTraces = false) (C : zC Z p s m args meth c cX9_of 6 RX9) (hr : meth.sig.returnType = (some (.object "PartyWalls$Word"))) (hn9 : True)  : ∀ (n9 : Nat) (st : zTs) (a1 : Int32) (a2 : Int32) (a3 : Int32), w_X9_of_16 P n9 st a1 a2 a3 → zG Z ad0 h0 p l e ({ frames := 5, cells := 0, slots := 0, locals := 97 } : Room) s m args below meth c (MQ below (zQ Z ad0 h0 (zWr Z 201 P)) args s 0 0 (zA Z)) 0 0 (zh Z zm1 st) 6 16 [some (.ref 43), some (.int (a1)), some (.int (a2)), some (.int (a3)), none, none] [] := by
  intro n9
  induction n9 with
  | zero => intro st a1 a2 a3 h; exact h.elim
  | succ n9 hK16 =>
    intro st a1 a2 a3 h
    rw [w_X9_of_16] at h
    refine z_iload_n C dX9_of_16 (i := 3) rfl rfl ?_
    refine z_gets C dX9_of_17 (q := 202) (by decide) gl_X9_103 (fun z => z.2.2.2.2.1.1) ?_
    refine z_klen C dX9_of_20 (q := 202) (n := 24) (v := 24) (by decide) (fun z => z.2.2.2.2.1.2) (by decide) ?_
    refine z_icmp_ge C dX9_of_21 (tgt := 107) (by decide) (fun c21 => ?_) (fun c21 => ?_)
    · have h := h.1 c21
      refine z_gets C dX9_of_107 (q := 201 + 256 * 0) (by decide) gl_X9_3 (fun z => (z.2.2.2.1.1.1 0 (by decide)).1) ?_
      exact z_aret C dX9_of_110 hr (Or.inl ⟨_, rfl⟩) (Or.inr ⟨_, rfl⟩) ⟨_, _, rfl, rfl, h⟩ (Nat.le_of_ble_eq_true rfl) (Nat.le_of_ble_eq_true rfl)
    · have h := h.2 c21
      refine z_gets C dX9_of_24 (q := 202) (by decide) gl_X9_103 (fun z => z.2.2.2.2.1.1) ?_
      refine z_iload_n C dX9_of_27 (i := 3) rfl rfl ?_
      obtain ⟨g28, h⟩ := h
      refine z_ktq C dX9_of_28 (q := 202) (n := 24) (f0 := fun j => 201 + 256 * j) (by decide) zk_md201 (fun z => z.2.2.2.2.1.2) g28 ?_
      obtain ⟨g29, h⟩ := h
      refine z_kgetR C dX9_of_29 (q := 201 + 256 * ((a3 : Int32).toNatClampNeg)) (zk_md201 ((a3 : Int32).toNatClampNeg)) (q2 := 200 + 256 * ((a3 : Int32).toNatClampNeg)) (zk_md200 ((a3 : Int32).toNatClampNeg)) gl_X9_95 (fun z => z.2.2.2.1.2 ((a3 : Int32).toNatClampNeg) g29) ?_
      refine z_astore C dX9_of_32 (lc' := [some (.ref 43), some (.int (a1)), some (.int (a2)), some (.int (a3)), some (.ref (200 + 256 * ((a3 : Int32).toNatClampNeg))), none]) (by decide) rfl ?_
      refine z_iconst C dX9_of_34 (v := 0) (by decide) ?_
      refine z_istore C dX9_of_35 (lc' := [some (.ref 43), some (.int (a1)), some (.int (a2)), some (.int (a3)), some (.ref (200 + 256 * ((a3 : Int32).toNatClampNeg))), some (.int (0))]) (by decide) rfl ?_
      exact t_drop [true, true, true, true, true, true] rfl (j_X9_of_37 hfl C hr hn9 hK16 zfu st a1 a2 a3 ((a3 : Int32).toNatClampNeg) (0) h)
def w_X9_of_10 (P : Nat → zTs → Prop)  (st : zTs) : Prop := P 0 st
set_option maxHeartbeats 4000000 in
set_option maxRecDepth 100000 in
theorem j_X9_of_10 {P : Nat → zTs → Prop}  (hfl : l.stackTraces = false) (C : zC Z p s m args meth c cX9_of 6 RX9) (hr : meth.sig.returnType = (some (.object "PartyWalls$Word"))) (hn9 : True)  (st : zTs) (h : w_X9_of_10 P st) : zG Z ad0 h0 p l e ({ frames := 5, cells := 0, slots := 0, locals := 97 } : Room) s m args below meth c (MQ below (zQ Z ad0 h0 (zWr Z 201 P)) args s 0 0 (zA Z)) 0 0 (zh Z zm1 st) 6 10 [none, none, none, none, none, none] [] := by
  unfold w_X9_of_10 at h
  refine z_gets C dX9_of_10 (q := 201 + 256 * 0) (by decide) gl_X9_3 (fun z => (z.2.2.2.1.1.1 0 (by decide)).1) ?_
  exact z_aret C dX9_of_13 hr (Or.inl ⟨_, rfl⟩) (Or.inr ⟨_, rfl⟩) ⟨_, _, rfl, rfl, h⟩ (Nat.le_of_ble_eq_true rfl) (Nat.le_of_ble_eq_true rfl)
def w_X9_of (st : zTs) (a1 : Int32) (a2 : Int32) (P : Nat → zTs → Prop) : Prop := (a1 < 0 → w_X9_of_10 P st) ∧ (¬ a1 < 0 → (a2 ≤ 400 → w_X9_of_16 P zfu st a1 a2 (0)) ∧ (¬ a2 ≤ 400 → w_X9_of_10 P st))
set_option maxHeartbeats 4000000 in
set_option maxRecDepth 100000 in
theorem c_X9_of {Z : zZ} {l : Launch} (hfl : l.stackTraces = false) {st : zTs} {a1 : Int32} {a2 : Int32} {P : Nat → zTs → Prop} (h : w_X9_of st a1 a2 P) : zN Z l yX9_of cX9_of 6 (some (.object "PartyWalls$Word")) ({ frames := 5, cells := 0, slots := 0, locals := 97 } : Room) (zh Z zm1 st) [.ref 43, .int (a1), .int (a2)] (zWr Z 201 P) := by
  unfold w_X9_of at h
  refine z_enterN (by decide) (Nat.le_of_ble_eq_true rfl) (lc0 := [some (.ref 43), some (.int (a1)), some (.int (a2)), none, none, none]) rfl ?_
  intro p e s m args below meth c ad0 C hr _
  have hn9 : True := trivial
  replace C : zC Z p s m args meth c cX9_of 6 RX9 := C
  refine z_iload_n C dX9_of_0 (i := 1) rfl rfl ?_
  refine z_if_lt C dX9_of_1 (tgt := 10) (by decide) (fun c1 => ?_) (fun c1 => ?_)
  · have h := h.1 c1
    exact t_drop [false, false, false, false, false, false] rfl (j_X9_of_10 hfl C hr hn9  st h)
  · have h := h.2 c1
    refine z_iload_n C dX9_of_4 (i := 2) rfl rfl ?_
    refine z_aload_n C dX9_of_5 (i := 0) rfl rfl ?_
    refine t_alen C dX9_of_6 (k := 43) (i := 0) (t := 1) (by decide) rfl (sh_43 _ _ _ _) rfl (v := 400) (by decide) ?_
    refine z_icmp_le C dX9_of_7 (tgt := 14) (by decide) (fun c7 => ?_) (fun c7 => ?_)
    · have h := h.1 c7
      refine z_iconst C dX9_of_14 (v := 0) (by decide) ?_
      refine z_istore_n C dX9_of_15 (i := 3) (lc' := [some (.ref 43), some (.int (a1)), some (.int (a2)), some (.int (0)), none, none]) rfl (by decide) rfl ?_
      exact t_drop [true, true, true, true, false, false] rfl (j_X9_of_16 hfl C hr hn9  zfu st a1 a2 (0) h)
    · have h := h.2 c7
      exact t_drop [false, false, false, false, false, false] rfl (j_X9_of_10 hfl C hr hn9  st h)
def w_X6_advance_136 (P : zTs → Prop)  : Nat → zTs → Prop
  | 0, _ => False
  | n9 + 1, st => w_X6_isWithin st 48 57 (fun (r141 : Int32) => ((r141 = 0 → P st) ∧ (¬ r141 = 0 → vp_in (zgF st 13 0 5) 400 ∧ (w_J9_min_7cf53 st (((10 * (zgF st 13 0 7)) + (zgA st 43 0 (zgF st 13 0 5 : Int32).toNatClampNeg)) - 48) 10000 (fun (r171 : Int32) => (∀ s174 : zTs, s174 = zuF st 13 0 7 r171 → (∀ s184 : zTs, s184 = zuF s174 13 0 5 ((zgF s174 13 0 5) + 1) → ((w_X6_advance_136 P n9) s184))))))))
set_option maxHeartbeats 4000000 in
set_option maxRecDepth 100000 in
theorem j_X6_advance_136 {P : zTs → Prop}  (hfl : l.stackTraces = false) (C : zC Z p s m args meth c cX6_advance 1 RX6) (hr : meth.sig.returnType = none) (hn9 : True)  : ∀ (n9 : Nat) (st : zTs), w_X6_advance_136 P n9 st → zG Z ad0 h0 p l e ({ frames := 6, cells := 0, slots := 0, locals := 122 } : Room) s m args below meth c (MQ below (zQ Z ad0 h0 (zWv Z zm1 P)) args s 0 0 (zA Z)) 0 0 (zh Z zm1 st) 1 136 [some (.ref 13)] [] := by
  intro n9
  induction n9 with
  | zero => intro st h; exact h.elim
  | succ n9 hK136 =>
    intro st h
    rw [w_X6_advance_136] at h
    refine z_aload_n C dX6_advance_136 (i := 0) rfl rfl ?_
    refine z_bipush C dX6_advance_137 (v := 48) (by decide) ?_
    refine z_bipush C dX6_advance_139 (v := 57) (by decide) ?_
    refine t_callV C (rest := []) (c2 := 0) (s2 := 0) (kd := 13) (i := 0) [.int (48), .int (57)] dX6_advance_141 lk_X6_71 li_X6_isWithin le_X6_isWithin (c_X6_isWithin hfl h) rfl rfl (by decide) rfl ⟨_, rfl⟩ rfl ⟨Nat.le_of_ble_eq_true rfl, Nat.le_of_ble_eq_true rfl⟩ (Nat.le_of_ble_eq_true rfl) ⟨Nat.le_of_ble_eq_true rfl, Nat.le_of_ble_eq_true rfl, Nat.le_of_ble_eq_true rfl, Nat.le_of_ble_eq_true rfl⟩ (k_Ri fun r141 h => ?_)
    refine z_if_eq C dX6_advance_144 (tgt := 229) (by decide) (fun c144 => ?_) (fun c144 => ?_)
    · have h := h.1 c144
      exact z_vret C dX6_advance_229 hr ⟨_, rfl, rfl, h⟩ (Nat.le_of_ble_eq_true rfl) (Nat.le_of_ble_eq_true rfl)
    · have h := h.2 c144
      refine z_aload_n C dX6_advance_147 (i := 0) rfl rfl ?_
      refine z_bipush C dX6_advance_148 (v := 10) (by decide) ?_
      refine z_aload_n C dX6_advance_150 (i := 0) rfl rfl ?_
      refine t_get C dX6_advance_151 fl_X6_24 (k := 13) (i := 0) (by decide) rfl (fg_13_7 _ _ _) ?_
      refine z_imul C dX6_advance_154 ?_
      refine z_aload_n C dX6_advance_155 (i := 0) rfl rfl ?_
      refine t_get C dX6_advance_156 fl_X6_42 (k := 13) (i := 0) (by decide) rfl (fg_13_0 _ _ _) ?_
      refine z_aload_n C dX6_advance_159 (i := 0) rfl rfl ?_
      refine t_get C dX6_advance_160 fl_X6_58 (k := 13) (i := 0) (by decide) rfl (fg_13_5 _ _ _) ?_
      obtain ⟨g163, h⟩ := h
      refine t_bald C dX6_advance_163 (k := 43) (i := 0) (by decide) rfl (sh_43 _ _ _ _) g163 ?_
      refine z_iadd C dX6_advance_164 ?_
      refine z_bipush C dX6_advance_165 (v := 48) (by decide) ?_
      refine z_isub C dX6_advance_167 ?_
      refine z_sipush C dX6_advance_168 (v := 10000) (by decide) ?_
      refine t_callS C (rest := [.ref 13]) (c2 := 0) (s2 := 0) [.int (((10 * (zgF st 13 0 7)) + (zgA st 43 0 (zgF st 13 0 5 : Int32).toNatClampNeg)) - 48), .int (10000)] dX6_advance_171 lk_X6_49 ls_J9_min_7cf53 (c_J9_min_7cf53 hfl h) rfl rfl ⟨Nat.le_of_ble_eq_true rfl, Nat.le_of_ble_eq_true rfl⟩ (Nat.le_of_ble_eq_true rfl) ⟨Nat.le_of_ble_eq_true rfl, Nat.le_of_ble_eq_true rfl, Nat.le_of_ble_eq_true rfl, Nat.le_of_ble_eq_true rfl⟩ (k_Ri fun r171 h => ?_)
      refine t_put C dX6_advance_174 fq_X6_24 (Or.inl rfl) (k := 13) (i := 0) (by decide) rfl ⟨rfl, rfl⟩ (fp_13_7 _ _ _ _ _) ?_
      refine t_tops (fun s174 es174 => ?_)
      have h := h s174 es174
      refine z_aload_n C dX6_advance_177 (i := 0) rfl rfl ?_
      refine z_dup C dX6_advance_178 rfl ?_
      refine t_get C dX6_advance_179 fl_X6_58 (k := 13) (i := 0) (by decide) rfl (fg_13_5 _ _ _) ?_
      refine z_iconst C dX6_advance_182 (v := 1) (by decide) ?_
      refine z_iadd C dX6_advance_183 ?_
      refine t_put C dX6_advance_184 fq_X6_58 (Or.inl rfl) (k := 13) (i := 0) (by decide) rfl ⟨rfl, rfl⟩ (fp_13_5 _ _ _ _ _) ?_
      refine t_tops (fun s184 es184 => ?_)
      have h := h s184 es184
      refine z_goto C dX6_advance_187 (tgt := 136) (by decide) ?_
      exact t_drop [true] rfl (hK136 s184 h)
def w_X6_advance_74 (P : zTs → Prop)  : Nat → zTs → Prop
  | 0, _ => False
  | n9 + 1, st => w_X6_isWithin st 97 122 (fun (r79 : Int32) => ((r79 = 0 → w_X9_of st (zgF st 13 0 4) (zgF st 13 0 5) (fun (r111 : Nat) (s111 : zTs) => (∀ s114 : zTs, s114 = zuP s111 13 0 6 r111 → (P s114)))) ∧ (¬ r79 = 0 → ∀ s92 : zTs, s92 = zuF st 13 0 5 ((zgF st 13 0 5) + 1) → ((w_X6_advance_74 P n9) s92))))
set_option maxHeartbeats 4000000 in
set_option maxRecDepth 100000 in
theorem j_X6_advance_74 {P : zTs → Prop}  (hfl : l.stackTraces = false) (C : zC Z p s m args meth c cX6_advance 1 RX6) (hr : meth.sig.returnType = none) (hn9 : True)  : ∀ (n9 : Nat) (st : zTs), w_X6_advance_74 P n9 st → zG Z ad0 h0 p l e ({ frames := 6, cells := 0, slots := 0, locals := 122 } : Room) s m args below meth c (MQ below (zQ Z ad0 h0 (zWv Z zm1 P)) args s 0 0 (zA Z)) 0 0 (zh Z zm1 st) 1 74 [some (.ref 13)] [] := by
  intro n9
  induction n9 with
  | zero => intro st h; exact h.elim
  | succ n9 hK74 =>
    intro st h
    rw [w_X6_advance_74] at h
    refine z_aload_n C dX6_advance_74 (i := 0) rfl rfl ?_
    refine z_bipush C dX6_advance_75 (v := 97) (by decide) ?_
    refine z_bipush C dX6_advance_77 (v := 122) (by decide) ?_
    refine t_callV C (rest := []) (c2 := 0) (s2 := 0) (kd := 13) (i := 0) [.int (97), .int (122)] dX6_advance_79 lk_X6_71 li_X6_isWithin le_X6_isWithin (c_X6_isWithin hfl h) rfl rfl (by decide) rfl ⟨_, rfl⟩ rfl ⟨Nat.le_of_ble_eq_true rfl, Nat.le_of_ble_eq_true rfl⟩ (Nat.le_of_ble_eq_true rfl) ⟨Nat.le_of_ble_eq_true rfl, Nat.le_of_ble_eq_true rfl, Nat.le_of_ble_eq_true rfl, Nat.le_of_ble_eq_true rfl⟩ (k_Ri fun r79 h => ?_)
    refine z_if_eq C dX6_advance_82 (tgt := 98) (by decide) (fun c82 => ?_) (fun c82 => ?_)
    · have h := h.1 c82
      refine z_aload_n C dX6_advance_98 (i := 0) rfl rfl ?_
      refine z_aload_n C dX6_advance_99 (i := 0) rfl rfl ?_
      refine t_get C dX6_advance_100 fl_X6_42 (k := 13) (i := 0) (by decide) rfl (fg_13_0 _ _ _) ?_
      refine z_aload_n C dX6_advance_103 (i := 0) rfl rfl ?_
      refine t_get C dX6_advance_104 fl_X6_64 (k := 13) (i := 0) (by decide) rfl (fg_13_4 _ _ _) ?_
      refine z_aload_n C dX6_advance_107 (i := 0) rfl rfl ?_
      refine t_get C dX6_advance_108 fl_X6_58 (k := 13) (i := 0) (by decide) rfl (fg_13_5 _ _ _) ?_
      refine t_callS C (rest := [.ref 13]) (c2 := 0) (s2 := 0) [.ref 43, .int (zgF st 13 0 4), .int (zgF st 13 0 5)] dX6_advance_111 lk_X6_75 ls_X9_of (c_X9_of hfl h) rfl rfl ⟨Nat.le_of_ble_eq_true rfl, Nat.le_of_ble_eq_true rfl⟩ (Nat.le_of_ble_eq_true rfl) ⟨Nat.le_of_ble_eq_true rfl, Nat.le_of_ble_eq_true rfl, Nat.le_of_ble_eq_true rfl, Nat.le_of_ble_eq_true rfl⟩ (k_Wr fun r111 s111 h => ?_)
      refine t_put C dX6_advance_114 fq_X6_21 (Or.inl rfl) (k := 13) (i := 0) (by decide) rfl ⟨rfl, rfl⟩ (fp_13_6 _ _ _ _) ?_
      refine t_tops (fun s114 es114 => ?_)
      have h := h s114 es114
      refine z_goto C dX6_advance_117 (tgt := 229) (by decide) ?_
      exact z_vret C dX6_advance_229 hr ⟨_, rfl, rfl, h⟩ (Nat.le_of_ble_eq_true rfl) (Nat.le_of_ble_eq_true rfl)
    · have h := h.2 c82
      refine z_aload_n C dX6_advance_85 (i := 0) rfl rfl ?_
      refine z_dup C dX6_advance_86 rfl ?_
      refine t_get C dX6_advance_87 fl_X6_58 (k := 13) (i := 0) (by decide) rfl (fg_13_5 _ _ _) ?_
      refine z_iconst C dX6_advance_90 (v := 1) (by decide) ?_
      refine z_iadd C dX6_advance_91 ?_
      refine t_put C dX6_advance_92 fq_X6_58 (Or.inl rfl) (k := 13) (i := 0) (by decide) rfl ⟨rfl, rfl⟩ (fp_13_5 _ _ _ _ _) ?_
      refine t_tops (fun s92 es92 => ?_)
      have h := h s92 es92
      refine z_goto C dX6_advance_95 (tgt := 74) (by decide) ?_
      exact t_drop [true] rfl (hK74 s92 h)
def w_X6_advance_55 (P : zTs → Prop)  (st : zTs) : Prop := ∀ s60 : zTs, s60 = zuF st 13 0 4 (zgF st 13 0 5) → (w_X6_isWithin s60 97 122 (fun (r68 : Int32) => ((r68 = 0 → w_X6_isWithin s60 48 57 (fun (r125 : Int32) => ((r125 = 0 → ((zgF s60 13 0 3) ≤ (zgF s60 13 0 5) → P s60) ∧ (¬ (zgF s60 13 0 3) ≤ (zgF s60 13 0 5) → vp_in (zgF s60 13 0 5) 400 ∧ (∀ s216 : zTs, s216 = zuF s60 13 0 8 ((((zgA s60 43 0 (zgF s60 13 0 5 : Int32).toNatClampNeg) &&& 255 : Int32).toUInt32 % 65536).toInt32) → (∀ s226 : zTs, s226 = zuF s216 13 0 5 ((zgF s216 13 0 5) + 1) → (P s226))))) ∧ (¬ r125 = 0 → ∀ s133 : zTs, s133 = zuF s60 13 0 7 0 → (w_X6_advance_136 P zfu s133))))) ∧ (¬ r68 = 0 → w_X6_advance_74 P zfu s60))))
set_option maxHeartbeats 4000000 in
set_option maxRecDepth 100000 in
theorem j_X6_advance_55 {P : zTs → Prop}  (hfl : l.stackTraces = false) (C : zC Z p s m args meth c cX6_advance 1 RX6) (hr : meth.sig.returnType = none) (hn9 : True)  (st : zTs) (h : w_X6_advance_55 P st) : zG Z ad0 h0 p l e ({ frames := 6, cells := 0, slots := 0, locals := 122 } : Room) s m args below meth c (MQ below (zQ Z ad0 h0 (zWv Z zm1 P)) args s 0 0 (zA Z)) 0 0 (zh Z zm1 st) 1 55 [some (.ref 13)] [] := by
  unfold w_X6_advance_55 at h
  refine z_aload_n C dX6_advance_55 (i := 0) rfl rfl ?_
  refine z_aload_n C dX6_advance_56 (i := 0) rfl rfl ?_
  refine t_get C dX6_advance_57 fl_X6_58 (k := 13) (i := 0) (by decide) rfl (fg_13_5 _ _ _) ?_
  refine t_put C dX6_advance_60 fq_X6_64 (Or.inl rfl) (k := 13) (i := 0) (by decide) rfl ⟨rfl, rfl⟩ (fp_13_4 _ _ _ _ _) ?_
  refine t_tops (fun s60 es60 => ?_)
  have h := h s60 es60
  refine z_aload_n C dX6_advance_63 (i := 0) rfl rfl ?_
  refine z_bipush C dX6_advance_64 (v := 97) (by decide) ?_
  refine z_bipush C dX6_advance_66 (v := 122) (by decide) ?_
  refine t_callV C (rest := []) (c2 := 0) (s2 := 0) (kd := 13) (i := 0) [.int (97), .int (122)] dX6_advance_68 lk_X6_71 li_X6_isWithin le_X6_isWithin (c_X6_isWithin hfl h) rfl rfl (by decide) rfl ⟨_, rfl⟩ rfl ⟨Nat.le_of_ble_eq_true rfl, Nat.le_of_ble_eq_true rfl⟩ (Nat.le_of_ble_eq_true rfl) ⟨Nat.le_of_ble_eq_true rfl, Nat.le_of_ble_eq_true rfl, Nat.le_of_ble_eq_true rfl, Nat.le_of_ble_eq_true rfl⟩ (k_Ri fun r68 h => ?_)
  refine z_if_eq C dX6_advance_71 (tgt := 120) (by decide) (fun c71 => ?_) (fun c71 => ?_)
  · have h := h.1 c71
    refine z_aload_n C dX6_advance_120 (i := 0) rfl rfl ?_
    refine z_bipush C dX6_advance_121 (v := 48) (by decide) ?_
    refine z_bipush C dX6_advance_123 (v := 57) (by decide) ?_
    refine t_callV C (rest := []) (c2 := 0) (s2 := 0) (kd := 13) (i := 0) [.int (48), .int (57)] dX6_advance_125 lk_X6_71 li_X6_isWithin le_X6_isWithin (c_X6_isWithin hfl h) rfl rfl (by decide) rfl ⟨_, rfl⟩ rfl ⟨Nat.le_of_ble_eq_true rfl, Nat.le_of_ble_eq_true rfl⟩ (Nat.le_of_ble_eq_true rfl) ⟨Nat.le_of_ble_eq_true rfl, Nat.le_of_ble_eq_true rfl, Nat.le_of_ble_eq_true rfl, Nat.le_of_ble_eq_true rfl⟩ (k_Ri fun r125 h => ?_)
    refine z_if_eq C dX6_advance_128 (tgt := 190) (by decide) (fun c128 => ?_) (fun c128 => ?_)
    · have h := h.1 c128
      refine z_aload_n C dX6_advance_190 (i := 0) rfl rfl ?_
      refine t_get C dX6_advance_191 fl_X6_58 (k := 13) (i := 0) (by decide) rfl (fg_13_5 _ _ _) ?_
      refine z_aload_n C dX6_advance_194 (i := 0) rfl rfl ?_
      refine t_get C dX6_advance_195 fl_X6_55 (k := 13) (i := 0) (by decide) rfl (fg_13_3 _ _ _) ?_
      refine z_icmp_ge C dX6_advance_198 (tgt := 229) (by decide) (fun c198 => ?_) (fun c198 => ?_)
      · have h := h.1 c198
        exact z_vret C dX6_advance_229 hr ⟨_, rfl, rfl, h⟩ (Nat.le_of_ble_eq_true rfl) (Nat.le_of_ble_eq_true rfl)
      · have h := h.2 c198
        refine z_aload_n C dX6_advance_201 (i := 0) rfl rfl ?_
        refine z_aload_n C dX6_advance_202 (i := 0) rfl rfl ?_
        refine t_get C dX6_advance_203 fl_X6_42 (k := 13) (i := 0) (by decide) rfl (fg_13_0 _ _ _) ?_
        refine z_aload_n C dX6_advance_206 (i := 0) rfl rfl ?_
        refine t_get C dX6_advance_207 fl_X6_58 (k := 13) (i := 0) (by decide) rfl (fg_13_5 _ _ _) ?_
        obtain ⟨g210, h⟩ := h
        refine t_bald C dX6_advance_210 (k := 43) (i := 0) (by decide) rfl (sh_43 _ _ _ _) g210 ?_
        refine z_sipush C dX6_advance_211 (v := 255) (by decide) ?_
        refine z_iand C dX6_advance_214 ?_
        refine z_i2c C dX6_advance_215 ?_
        refine t_put C dX6_advance_216 fq_X6_28 (Or.inl rfl) (k := 13) (i := 0) (by decide) rfl ⟨pk_nc _, pk_fc _⟩ (fp_13_8 _ _ _ _ _) ?_
        refine t_tops (fun s216 es216 => ?_)
        have h := h s216 es216
        refine z_aload_n C dX6_advance_219 (i := 0) rfl rfl ?_
        refine z_dup C dX6_advance_220 rfl ?_
        refine t_get C dX6_advance_221 fl_X6_58 (k := 13) (i := 0) (by decide) rfl (fg_13_5 _ _ _) ?_
        refine z_iconst C dX6_advance_224 (v := 1) (by decide) ?_
        refine z_iadd C dX6_advance_225 ?_
        refine t_put C dX6_advance_226 fq_X6_58 (Or.inl rfl) (k := 13) (i := 0) (by decide) rfl ⟨rfl, rfl⟩ (fp_13_5 _ _ _ _ _) ?_
        refine t_tops (fun s226 es226 => ?_)
        have h := h s226 es226
        exact z_vret C dX6_advance_229 hr ⟨_, rfl, rfl, h⟩ (Nat.le_of_ble_eq_true rfl) (Nat.le_of_ble_eq_true rfl)
    · have h := h.2 c128
      refine z_aload_n C dX6_advance_131 (i := 0) rfl rfl ?_
      refine z_iconst C dX6_advance_132 (v := 0) (by decide) ?_
      refine t_put C dX6_advance_133 fq_X6_24 (Or.inl rfl) (k := 13) (i := 0) (by decide) rfl ⟨rfl, rfl⟩ (fp_13_7 _ _ _ _ _) ?_
      refine t_tops (fun s133 es133 => ?_)
      have h := h s133 es133
      exact t_drop [true] rfl (j_X6_advance_136 hfl C hr hn9  zfu s133 h)
  · have h := h.2 c71
    exact t_drop [true] rfl (j_X6_advance_74 hfl C hr hn9  zfu s60 h)
def w_X6_advance_17 (P : zTs → Prop)  : Nat → zTs → Prop
  | 0, _ => False
  | n9 + 1, st => ((zgF st 13 0 3) ≤ (zgF st 13 0 5) → w_X6_advance_55 P st) ∧ (¬ (zgF st 13 0 3) ≤ (zgF st 13 0 5) → vp_in (zgF st 13 0 5) 400 ∧ (((zgA st 43 0 (zgF st 13 0 5 : Int32).toNatClampNeg) = 32 → ∀ s49 : zTs, s49 = zuF st 13 0 5 ((zgF st 13 0 5) + 1) → ((w_X6_advance_17 P n9) s49)) ∧ (¬ (zgA st 43 0 (zgF st 13 0 5 : Int32).toNatClampNeg) = 32 → w_X6_advance_55 P st)))
set_option maxHeartbeats 4000000 in
set_option maxRecDepth 100000 in
theorem j_X6_advance_17 {P : zTs → Prop}  (hfl : l.stackTraces = false) (C : zC Z p s m args meth c cX6_advance 1 RX6) (hr : meth.sig.returnType = none) (hn9 : True)  : ∀ (n9 : Nat) (st : zTs), w_X6_advance_17 P n9 st → zG Z ad0 h0 p l e ({ frames := 6, cells := 0, slots := 0, locals := 122 } : Room) s m args below meth c (MQ below (zQ Z ad0 h0 (zWv Z zm1 P)) args s 0 0 (zA Z)) 0 0 (zh Z zm1 st) 1 17 [some (.ref 13)] [] := by
  intro n9
  induction n9 with
  | zero => intro st h; exact h.elim
  | succ n9 hK17 =>
    intro st h
    rw [w_X6_advance_17] at h
    refine z_aload_n C dX6_advance_17 (i := 0) rfl rfl ?_
    refine t_get C dX6_advance_18 fl_X6_58 (k := 13) (i := 0) (by decide) rfl (fg_13_5 _ _ _) ?_
    refine z_aload_n C dX6_advance_21 (i := 0) rfl rfl ?_
    refine t_get C dX6_advance_22 fl_X6_55 (k := 13) (i := 0) (by decide) rfl (fg_13_3 _ _ _) ?_
    refine z_icmp_ge C dX6_advance_25 (tgt := 55) (by decide) (fun c25 => ?_) (fun c25 => ?_)
    · have h := h.1 c25
      exact t_drop [true] rfl (j_X6_advance_55 hfl C hr hn9  st h)
    · have h := h.2 c25
      refine z_aload_n C dX6_advance_28 (i := 0) rfl rfl ?_
      refine t_get C dX6_advance_29 fl_X6_42 (k := 13) (i := 0) (by decide) rfl (fg_13_0 _ _ _) ?_
      refine z_aload_n C dX6_advance_32 (i := 0) rfl rfl ?_
      refine t_get C dX6_advance_33 fl_X6_58 (k := 13) (i := 0) (by decide) rfl (fg_13_5 _ _ _) ?_
      obtain ⟨g36, h⟩ := h
      refine t_bald C dX6_advance_36 (k := 43) (i := 0) (by decide) rfl (sh_43 _ _ _ _) g36 ?_
      refine z_bipush C dX6_advance_37 (v := 32) (by decide) ?_
      refine z_icmp_ne C dX6_advance_39 (tgt := 55) (by decide) (fun c39 => ?_) (fun c39 => ?_)
      · have h := h.2 c39
        exact t_drop [true] rfl (j_X6_advance_55 hfl C hr hn9  st h)
      · have h := h.1 c39
        refine z_aload_n C dX6_advance_42 (i := 0) rfl rfl ?_
        refine z_dup C dX6_advance_43 rfl ?_
        refine t_get C dX6_advance_44 fl_X6_58 (k := 13) (i := 0) (by decide) rfl (fg_13_5 _ _ _) ?_
        refine z_iconst C dX6_advance_47 (v := 1) (by decide) ?_
        refine z_iadd C dX6_advance_48 ?_
        refine t_put C dX6_advance_49 fq_X6_58 (Or.inl rfl) (k := 13) (i := 0) (by decide) rfl ⟨rfl, rfl⟩ (fp_13_5 _ _ _ _ _) ?_
        refine t_tops (fun s49 es49 => ?_)
        have h := h s49 es49
        refine z_goto C dX6_advance_52 (tgt := 17) (by decide) ?_
        exact t_drop [true] rfl (hK17 s49 h)
def w_X6_advance (st : zTs)  (P : zTs → Prop) : Prop := ∀ s4 : zTs, s4 = zuP st 13 0 6 0 → (∀ s9 : zTs, s9 = zuF s4 13 0 7 (-1) → (∀ s14 : zTs, s14 = zuF s9 13 0 8 0 → (w_X6_advance_17 P zfu s14)))
set_option maxHeartbeats 4000000 in
set_option maxRecDepth 100000 in
theorem c_X6_advance {Z : zZ} {l : Launch} (hfl : l.stackTraces = false) {st : zTs}  {P : zTs → Prop} (h : w_X6_advance st  P) : zN Z l yX6_advance cX6_advance 1 none ({ frames := 6, cells := 0, slots := 0, locals := 122 } : Room) (zh Z zm1 st) [.ref 13] (zWv Z zm1 P) := by
  unfold w_X6_advance at h
  refine z_enterN (by decide) (Nat.le_of_ble_eq_true rfl) (lc0 := [some (.ref 13)]) rfl ?_
  intro p e s m args below meth c ad0 C hr _
  have hn9 : True := trivial
  replace C : zC Z p s m args meth c cX6_advance 1 RX6 := C
  refine z_aload_n C dX6_advance_0 (i := 0) rfl rfl ?_
  refine z_gets C dX6_advance_1 (q := 201 + 256 * 0) (by decide) gl_X6_15 (fun z => (z.2.2.2.1.1.1 0 (by decide)).1) ?_
  refine t_put C dX6_advance_4 fq_X6_21 (Or.inl rfl) (k := 13) (i := 0) (by decide) rfl ⟨rfl, rfl⟩ (fp_13_6 _ _ _ _) ?_
  refine t_tops (fun s4 es4 => ?_)
  have h := h s4 es4
  refine z_aload_n C dX6_advance_7 (i := 0) rfl rfl ?_
  refine z_iconst C dX6_advance_8 (v := (-1)) (by decide) ?_
  refine t_put C dX6_advance_9 fq_X6_24 (Or.inl rfl) (k := 13) (i := 0) (by decide) rfl ⟨rfl, rfl⟩ (fp_13_7 _ _ _ _ _) ?_
  refine t_tops (fun s9 es9 => ?_)
  have h := h s9 es9
  refine z_aload_n C dX6_advance_12 (i := 0) rfl rfl ?_
  refine z_iconst C dX6_advance_13 (v := 0) (by decide) ?_
  refine t_put C dX6_advance_14 fq_X6_28 (Or.inl rfl) (k := 13) (i := 0) (by decide) rfl ⟨rfl, rfl⟩ (fp_13_8 _ _ _ _ _) ?_
  refine t_tops (fun s14 es14 => ?_)
  have h := h s14 es14
  exact t_drop [true] rfl (j_X6_advance_17 hfl C hr hn9  zfu s14 h)
def w_X6_takeNumber_30 (P : Int32 → zTs → Prop)  (st : zTs) : Prop := w_X6_fail st 2 (fun (r32 : Int32) (s32 : zTs) => ((r32 = 0 ∨ r32 = 1) ∧ (P r32 s32)))
set_option maxHeartbeats 4000000 in
set_option maxRecDepth 100000 in
theorem j_X6_takeNumber_30 {P : Int32 → zTs → Prop}  (hfl : l.stackTraces = false) (C : zC Z p s m args meth c cX6_takeNumber 3 RX6) (hr : meth.sig.returnType = (some .boolean)) (hn9 : True)  (st : zTs) (h : w_X6_takeNumber_30 P st) : zG Z ad0 h0 p l e ({ frames := 7, cells := 0, slots := 0, locals := 142 } : Room) s m args below meth c (MQ below (zQ Z ad0 h0 (zWi Z P)) args s 0 0 (zA Z)) 0 0 (zh Z zm1 st) 3 30 [some (.ref 13), none, none] [] := by
  unfold w_X6_takeNumber_30 at h
  refine z_aload_n C dX6_takeNumber_30 (i := 0) rfl rfl ?_
  refine z_iconst C dX6_takeNumber_31 (v := 2) (by decide) ?_
  refine t_callV C (rest := []) (c2 := 0) (s2 := 0) (kd := 13) (i := 0) [.int (2)] dX6_takeNumber_32 lk_X6_79 li_X6_fail le_X6_fail (c_X6_fail hfl h) rfl rfl (by decide) rfl ⟨_, rfl⟩ rfl ⟨Nat.le_of_ble_eq_true rfl, Nat.le_of_ble_eq_true rfl⟩ (Nat.le_of_ble_eq_true rfl) ⟨Nat.le_of_ble_eq_true rfl, Nat.le_of_ble_eq_true rfl, Nat.le_of_ble_eq_true rfl, Nat.le_of_ble_eq_true rfl⟩ (k_Wi fun r32 s32 h => ?_)
  obtain ⟨g35, h⟩ := h
  exact z_iret C dX6_takeNumber_35 hr (zn_bool g35) ⟨_, _, rfl, rfl, h⟩ (Nat.le_of_ble_eq_true rfl) (Nat.le_of_ble_eq_true rfl)
def w_X6_takeNumber (st : zTs) (a1 : Int32) (a2 : Int32) (P : Int32 → zTs → Prop) : Prop := ((zgF st 13 0 7) = (-1) → w_X6_fail st 1 (fun (r10 : Int32) (s10 : zTs) => ((r10 = 0 ∨ r10 = 1) ∧ (P r10 s10)))) ∧ (¬ (zgF st 13 0 7) = (-1) → ((zgF st 13 0 7) < a1 → w_X6_takeNumber_30 P st) ∧ (¬ (zgF st 13 0 7) < a1 → ((zgF st 13 0 7) ≤ a2 → ∀ s41 : zTs, s41 = zuF st 13 0 9 (zgF st 13 0 7) → (w_X6_advance s41 (fun (s45 : zTs) => (P 1 s45)))) ∧ (¬ (zgF st 13 0 7) ≤ a2 → w_X6_takeNumber_30 P st)))
set_option maxHeartbeats 4000000 in
set_option maxRecDepth 100000 in
theorem c_X6_takeNumber {Z : zZ} {l : Launch} (hfl : l.stackTraces = false) {st : zTs} {a1 : Int32} {a2 : Int32} {P : Int32 → zTs → Prop} (h : w_X6_takeNumber st a1 a2 P) : zN Z l yX6_takeNumber cX6_takeNumber 3 (some .boolean) ({ frames := 7, cells := 0, slots := 0, locals := 142 } : Room) (zh Z zm1 st) [.ref 13, .int (a1), .int (a2)] (zWi Z P) := by
  unfold w_X6_takeNumber at h
  refine z_enterN (by decide) (Nat.le_of_ble_eq_true rfl) (lc0 := [some (.ref 13), some (.int (a1)), some (.int (a2))]) rfl ?_
  intro p e s m args below meth c ad0 C hr _
  have hn9 : True := trivial
  replace C : zC Z p s m args meth c cX6_takeNumber 3 RX6 := C
  refine z_aload_n C dX6_takeNumber_0 (i := 0) rfl rfl ?_
  refine t_get C dX6_takeNumber_1 fl_X6_24 (k := 13) (i := 0) (by decide) rfl (fg_13_7 _ _ _) ?_
  refine z_iconst C dX6_takeNumber_4 (v := (-1)) (by decide) ?_
  refine z_icmp_ne C dX6_takeNumber_5 (tgt := 14) (by decide) (fun c5 => ?_) (fun c5 => ?_)
  · have h := h.2 c5
    refine z_aload_n C dX6_takeNumber_14 (i := 0) rfl rfl ?_
    refine t_get C dX6_takeNumber_15 fl_X6_24 (k := 13) (i := 0) (by decide) rfl (fg_13_7 _ _ _) ?_
    refine z_iload_n C dX6_takeNumber_18 (i := 1) rfl rfl ?_
    refine z_icmp_lt C dX6_takeNumber_19 (tgt := 30) (by decide) (fun c19 => ?_) (fun c19 => ?_)
    · have h := h.1 c19
      exact t_drop [true, false, false] rfl (j_X6_takeNumber_30 hfl C hr hn9  st h)
    · have h := h.2 c19
      refine z_aload_n C dX6_takeNumber_22 (i := 0) rfl rfl ?_
      refine t_get C dX6_takeNumber_23 fl_X6_24 (k := 13) (i := 0) (by decide) rfl (fg_13_7 _ _ _) ?_
      refine z_iload_n C dX6_takeNumber_26 (i := 2) rfl rfl ?_
      refine z_icmp_le C dX6_takeNumber_27 (tgt := 36) (by decide) (fun c27 => ?_) (fun c27 => ?_)
      · have h := h.1 c27
        refine z_aload_n C dX6_takeNumber_36 (i := 0) rfl rfl ?_
        refine z_aload_n C dX6_takeNumber_37 (i := 0) rfl rfl ?_
        refine t_get C dX6_takeNumber_38 fl_X6_24 (k := 13) (i := 0) (by decide) rfl (fg_13_7 _ _ _) ?_
        refine t_put C dX6_takeNumber_41 fq_X6_83 (Or.inl rfl) (k := 13) (i := 0) (by decide) rfl ⟨rfl, rfl⟩ (fp_13_9 _ _ _ _ _) ?_
        refine t_tops (fun s41 es41 => ?_)
        have h := h s41 es41
        refine z_aload_n C dX6_takeNumber_44 (i := 0) rfl rfl ?_
        refine t_callV C (rest := []) (c2 := 0) (s2 := 0) (kd := 13) (i := 0) [] dX6_takeNumber_45 lk_X6_61 li_X6_advance le_X6_advance (c_X6_advance hfl h) rfl rfl (by decide) rfl ⟨_, rfl⟩ rfl ⟨Nat.le_of_ble_eq_true rfl, Nat.le_of_ble_eq_true rfl⟩ (Nat.le_of_ble_eq_true rfl) ⟨Nat.le_of_ble_eq_true rfl, Nat.le_of_ble_eq_true rfl, Nat.le_of_ble_eq_true rfl, Nat.le_of_ble_eq_true rfl⟩ (k_Wv fun s45 h => ?_)
        refine z_iconst C dX6_takeNumber_48 (v := 1) (by decide) ?_
        exact z_iret C dX6_takeNumber_49 hr rfl ⟨_, _, rfl, rfl, h⟩ (Nat.le_of_ble_eq_true rfl) (Nat.le_of_ble_eq_true rfl)
      · have h := h.2 c27
        exact t_drop [true, false, false] rfl (j_X6_takeNumber_30 hfl C hr hn9  st h)
  · have h := h.1 c5
    refine z_aload_n C dX6_takeNumber_8 (i := 0) rfl rfl ?_
    refine z_iconst C dX6_takeNumber_9 (v := 1) (by decide) ?_
    refine t_callV C (rest := []) (c2 := 0) (s2 := 0) (kd := 13) (i := 0) [.int (1)] dX6_takeNumber_10 lk_X6_79 li_X6_fail le_X6_fail (c_X6_fail hfl h) rfl rfl (by decide) rfl ⟨_, rfl⟩ rfl ⟨Nat.le_of_ble_eq_true rfl, Nat.le_of_ble_eq_true rfl⟩ (Nat.le_of_ble_eq_true rfl) ⟨Nat.le_of_ble_eq_true rfl, Nat.le_of_ble_eq_true rfl, Nat.le_of_ble_eq_true rfl, Nat.le_of_ble_eq_true rfl⟩ (k_Wi fun r10 s10 h => ?_)
    obtain ⟨g13, h⟩ := h
    exact z_iret C dX6_takeNumber_13 hr (zn_bool g13) ⟨_, _, rfl, rfl, h⟩ (Nat.le_of_ble_eq_true rfl) (Nat.le_of_ble_eq_true rfl)
def w_X6_takeSign (st : zTs) (a1 : Int32) (P : Int32 → zTs → Prop) : Prop := ((zgF st 13 0 8) = a1 → w_X6_advance st (fun (s15 : zTs) => (P 1 s15))) ∧ (¬ (zgF st 13 0 8) = a1 → w_X6_fail st 1 (fun (r10 : Int32) (s10 : zTs) => ((r10 = 0 ∨ r10 = 1) ∧ (P r10 s10))))
set_option maxHeartbeats 4000000 in
set_option maxRecDepth 100000 in
theorem c_X6_takeSign {Z : zZ} {l : Launch} (hfl : l.stackTraces = false) {st : zTs} {a1 : Int32} {P : Int32 → zTs → Prop} (h : w_X6_takeSign st a1 P) : zN Z l yX6_takeSign cX6_takeSign 2 (some .boolean) ({ frames := 7, cells := 0, slots := 0, locals := 142 } : Room) (zh Z zm1 st) [.ref 13, .int (a1)] (zWi Z P) := by
  unfold w_X6_takeSign at h
  refine z_enterN (by decide) (Nat.le_of_ble_eq_true rfl) (lc0 := [some (.ref 13), some (.int (a1))]) rfl ?_
  intro p e s m args below meth c ad0 C hr _
  have hn9 : True := trivial
  replace C : zC Z p s m args meth c cX6_takeSign 2 RX6 := C
  refine z_aload_n C dX6_takeSign_0 (i := 0) rfl rfl ?_
  refine t_get C dX6_takeSign_1 fl_X6_28 (k := 13) (i := 0) (by decide) rfl (fg_13_8 _ _ _) ?_
  refine z_iload_n C dX6_takeSign_4 (i := 1) rfl rfl ?_
  refine z_icmp_eq C dX6_takeSign_5 (tgt := 14) (by decide) (fun c5 => ?_) (fun c5 => ?_)
  · have h := h.1 c5
    refine z_aload_n C dX6_takeSign_14 (i := 0) rfl rfl ?_
    refine t_callV C (rest := []) (c2 := 0) (s2 := 0) (kd := 13) (i := 0) [] dX6_takeSign_15 lk_X6_61 li_X6_advance le_X6_advance (c_X6_advance hfl h) rfl rfl (by decide) rfl ⟨_, rfl⟩ rfl ⟨Nat.le_of_ble_eq_true rfl, Nat.le_of_ble_eq_true rfl⟩ (Nat.le_of_ble_eq_true rfl) ⟨Nat.le_of_ble_eq_true rfl, Nat.le_of_ble_eq_true rfl, Nat.le_of_ble_eq_true rfl, Nat.le_of_ble_eq_true rfl⟩ (k_Wv fun s15 h => ?_)
    refine z_iconst C dX6_takeSign_18 (v := 1) (by decide) ?_
    exact z_iret C dX6_takeSign_19 hr rfl ⟨_, _, rfl, rfl, h⟩ (Nat.le_of_ble_eq_true rfl) (Nat.le_of_ble_eq_true rfl)
  · have h := h.2 c5
    refine z_aload_n C dX6_takeSign_8 (i := 0) rfl rfl ?_
    refine z_iconst C dX6_takeSign_9 (v := 1) (by decide) ?_
    refine t_callV C (rest := []) (c2 := 0) (s2 := 0) (kd := 13) (i := 0) [.int (1)] dX6_takeSign_10 lk_X6_79 li_X6_fail le_X6_fail (c_X6_fail hfl h) rfl rfl (by decide) rfl ⟨_, rfl⟩ rfl ⟨Nat.le_of_ble_eq_true rfl, Nat.le_of_ble_eq_true rfl⟩ (Nat.le_of_ble_eq_true rfl) ⟨Nat.le_of_ble_eq_true rfl, Nat.le_of_ble_eq_true rfl, Nat.le_of_ble_eq_true rfl, Nat.le_of_ble_eq_true rfl⟩ (k_Wi fun r10 s10 h => ?_)
    obtain ⟨g13, h⟩ := h
    exact z_iret C dX6_takeSign_13 hr (zn_bool g13) ⟨_, _, rfl, rfl, h⟩ (Nat.le_of_ble_eq_true rfl) (Nat.le_of_ble_eq_true rfl)
def w_X6_readHours (st : zTs)  (P : Int32 → zTs → Prop) : Prop := w_X6_takeNumber st 0 24 (fun (r4 : Int32) (s4 : zTs) => ((r4 = 0 → P 0 s4) ∧ (¬ r4 = 0 → ∀ s20 : zTs, s20 = zuF s4 24 (zgP s4 13 0 10) 12 (zgF s4 13 0 9) → (w_X6_takeSign s20 45 (fun (r26 : Int32) (s26 : zTs) => ((r26 = 0 → P 0 s26) ∧ (¬ r26 = 0 → w_X6_takeNumber s26 ((zgF s26 24 (zgP s26 13 0 10) 12) + 1) 24 (fun (r44 : Int32) (s44 : zTs) => ((r44 = 0 → P 0 s44) ∧ (¬ r44 = 0 → ∀ s60 : zTs, s60 = zuF s44 24 (zgP s44 13 0 10) 13 (zgF s44 13 0 9) → (P 1 s60)))))))))))
set_option maxHeartbeats 4000000 in
set_option maxRecDepth 100000 in
theorem c_X6_readHours {Z : zZ} {l : Launch} (hfl : l.stackTraces = false) {st : zTs}  {P : Int32 → zTs → Prop} (h : w_X6_readHours st  P) : zN Z l yX6_readHours cX6_readHours 1 (some .boolean) ({ frames := 8, cells := 0, slots := 0, locals := 164 } : Room) (zh Z zm1 st) [.ref 13] (zWi Z P) := by
  unfold w_X6_readHours at h
  refine z_enterN (by decide) (Nat.le_of_ble_eq_true rfl) (lc0 := [some (.ref 13)]) rfl ?_
  intro p e s m args below meth c ad0 C hr _
  have hn9 : True := trivial
  replace C : zC Z p s m args meth c cX6_readHours 1 RX6 := C
  refine z_aload_n C dX6_readHours_0 (i := 0) rfl rfl ?_
  refine z_iconst C dX6_readHours_1 (v := 0) (by decide) ?_
  refine z_bipush C dX6_readHours_2 (v := 24) (by decide) ?_
  refine t_callV C (rest := []) (c2 := 0) (s2 := 0) (kd := 13) (i := 0) [.int (0), .int (24)] dX6_readHours_4 lk_X6_125 li_X6_takeNumber le_X6_takeNumber (c_X6_takeNumber hfl h) rfl rfl (by decide) rfl ⟨_, rfl⟩ rfl ⟨Nat.le_of_ble_eq_true rfl, Nat.le_of_ble_eq_true rfl⟩ (Nat.le_of_ble_eq_true rfl) ⟨Nat.le_of_ble_eq_true rfl, Nat.le_of_ble_eq_true rfl, Nat.le_of_ble_eq_true rfl, Nat.le_of_ble_eq_true rfl⟩ (k_Wi fun r4 s4 h => ?_)
  refine z_if_ne C dX6_readHours_7 (tgt := 12) (by decide) (fun c7 => ?_) (fun c7 => ?_)
  · have h := h.2 c7
    refine z_aload_n C dX6_readHours_12 (i := 0) rfl rfl ?_
    refine t_get C dX6_readHours_13 fl_X6_35 (k := 13) (i := 0) (by decide) rfl (fg_13_10 _ _ _) ?_
    refine z_aload_n C dX6_readHours_16 (i := 0) rfl rfl ?_
    refine t_get C dX6_readHours_17 fl_X6_83 (k := 13) (i := 0) (by decide) rfl (fg_13_9 _ _ _) ?_
    refine t_put C dX6_readHours_20 fq_X6_162 (Or.inl rfl) (k := 24) (i := zgP s4 13 0 10) (by decide) rfl ⟨rfl, rfl⟩ (fp_24_12 _ _ _ _ _) ?_
    refine t_tops (fun s20 es20 => ?_)
    have h := h s20 es20
    refine z_aload_n C dX6_readHours_23 (i := 0) rfl rfl ?_
    refine z_bipush C dX6_readHours_24 (v := 45) (by decide) ?_
    refine t_callV C (rest := []) (c2 := 0) (s2 := 0) (kd := 13) (i := 0) [.int (45)] dX6_readHours_26 lk_X6_118 li_X6_takeSign le_X6_takeSign (c_X6_takeSign hfl h) rfl rfl (by decide) rfl ⟨_, rfl⟩ rfl ⟨Nat.le_of_ble_eq_true rfl, Nat.le_of_ble_eq_true rfl⟩ (Nat.le_of_ble_eq_true rfl) ⟨Nat.le_of_ble_eq_true rfl, Nat.le_of_ble_eq_true rfl, Nat.le_of_ble_eq_true rfl, Nat.le_of_ble_eq_true rfl⟩ (k_Wi fun r26 s26 h => ?_)
    refine z_if_eq C dX6_readHours_29 (tgt := 50) (by decide) (fun c29 => ?_) (fun c29 => ?_)
    · have h := h.1 c29
      refine z_iconst C dX6_readHours_50 (v := 0) (by decide) ?_
      exact z_iret C dX6_readHours_51 hr rfl ⟨_, _, rfl, rfl, h⟩ (Nat.le_of_ble_eq_true rfl) (Nat.le_of_ble_eq_true rfl)
    · have h := h.2 c29
      refine z_aload_n C dX6_readHours_32 (i := 0) rfl rfl ?_
      refine z_aload_n C dX6_readHours_33 (i := 0) rfl rfl ?_
      refine t_get C dX6_readHours_34 fl_X6_35 (k := 13) (i := 0) (by decide) rfl (fg_13_10 _ _ _) ?_
      refine t_get C dX6_readHours_37 fl_X6_162 (k := 24) (i := zgP s26 13 0 10) (by decide) rfl (fg_24_12 _ _ _) ?_
      refine z_iconst C dX6_readHours_40 (v := 1) (by decide) ?_
      refine z_iadd C dX6_readHours_41 ?_
      refine z_bipush C dX6_readHours_42 (v := 24) (by decide) ?_
      refine t_callV C (rest := []) (c2 := 0) (s2 := 0) (kd := 13) (i := 0) [.int ((zgF s26 24 (zgP s26 13 0 10) 12) + 1), .int (24)] dX6_readHours_44 lk_X6_125 li_X6_takeNumber le_X6_takeNumber (c_X6_takeNumber hfl h) rfl rfl (by decide) rfl ⟨_, rfl⟩ rfl ⟨Nat.le_of_ble_eq_true rfl, Nat.le_of_ble_eq_true rfl⟩ (Nat.le_of_ble_eq_true rfl) ⟨Nat.le_of_ble_eq_true rfl, Nat.le_of_ble_eq_true rfl, Nat.le_of_ble_eq_true rfl, Nat.le_of_ble_eq_true rfl⟩ (k_Wi fun r44 s44 h => ?_)
      refine z_if_ne C dX6_readHours_47 (tgt := 52) (by decide) (fun c47 => ?_) (fun c47 => ?_)
      · have h := h.2 c47
        refine z_aload_n C dX6_readHours_52 (i := 0) rfl rfl ?_
        refine t_get C dX6_readHours_53 fl_X6_35 (k := 13) (i := 0) (by decide) rfl (fg_13_10 _ _ _) ?_
        refine z_aload_n C dX6_readHours_56 (i := 0) rfl rfl ?_
        refine t_get C dX6_readHours_57 fl_X6_83 (k := 13) (i := 0) (by decide) rfl (fg_13_9 _ _ _) ?_
        refine t_put C dX6_readHours_60 fq_X6_165 (Or.inl rfl) (k := 24) (i := zgP s44 13 0 10) (by decide) rfl ⟨rfl, rfl⟩ (fp_24_13 _ _ _ _ _) ?_
        refine t_tops (fun s60 es60 => ?_)
        have h := h s60 es60
        refine z_iconst C dX6_readHours_63 (v := 1) (by decide) ?_
        exact z_iret C dX6_readHours_64 hr rfl ⟨_, _, rfl, rfl, h⟩ (Nat.le_of_ble_eq_true rfl) (Nat.le_of_ble_eq_true rfl)
      · have h := h.1 c47
        refine z_iconst C dX6_readHours_50 (v := 0) (by decide) ?_
        exact z_iret C dX6_readHours_51 hr rfl ⟨_, _, rfl, rfl, h⟩ (Nat.le_of_ble_eq_true rfl) (Nat.le_of_ble_eq_true rfl)
  · have h := h.1 c7
    refine z_iconst C dX6_readHours_10 (v := 0) (by decide) ?_
    exact z_iret C dX6_readHours_11 hr rfl ⟨_, _, rfl, rfl, h⟩ (Nat.le_of_ble_eq_true rfl) (Nat.le_of_ble_eq_true rfl)
def w_X6_readSilence_45 (P : Int32 → zTs → Prop)  (st : zTs) (b0 : Int32) (b1 : Nat) : Prop := (b0 = 0 ∨ b0 = 1) ∧ (∀ s45 : zTs, s45 = zuF st 24 b1 6 b0 → (w_X6_advance s45 (fun (s49 : zTs) => (P 1 s49))))
set_option maxHeartbeats 4000000 in
set_option maxRecDepth 100000 in
theorem j_X6_readSilence_45 {P : Int32 → zTs → Prop}  (hfl : l.stackTraces = false) (C : zC Z p s m args meth c cX6_readSilence 1 RX6) (hr : meth.sig.returnType = (some .boolean)) (hn9 : True)  (st : zTs) (b0 : Int32) (b1 : Nat) (h : w_X6_readSilence_45 P st b0 b1) : zG Z ad0 h0 p l e ({ frames := 7, cells := 0, slots := 0, locals := 142 } : Room) s m args below meth c (MQ below (zQ Z ad0 h0 (zWi Z P)) args s 0 0 (zA Z)) 0 0 (zh Z zm1 st) 1 45 [some (.ref 13)] [.int (b0), .ref (24 + 256 * b1)] := by
  unfold w_X6_readSilence_45 at h
  obtain ⟨g45, h⟩ := h
  refine t_put C dX6_readSilence_45 fq_X6_159 (Or.inl rfl) (k := 24) (i := b1) (by decide) rfl (zn_boolf g45) (fp_24_6 _ _ _ _ _) ?_
  refine t_tops (fun s45 es45 => ?_)
  have h := h s45 es45
  refine z_aload_n C dX6_readSilence_48 (i := 0) rfl rfl ?_
  refine t_callV C (rest := []) (c2 := 0) (s2 := 0) (kd := 13) (i := 0) [] dX6_readSilence_49 lk_X6_61 li_X6_advance le_X6_advance (c_X6_advance hfl h) rfl rfl (by decide) rfl ⟨_, rfl⟩ rfl ⟨Nat.le_of_ble_eq_true rfl, Nat.le_of_ble_eq_true rfl⟩ (Nat.le_of_ble_eq_true rfl) ⟨Nat.le_of_ble_eq_true rfl, Nat.le_of_ble_eq_true rfl, Nat.le_of_ble_eq_true rfl, Nat.le_of_ble_eq_true rfl⟩ (k_Wv fun s49 h => ?_)
  refine z_iconst C dX6_readSilence_52 (v := 1) (by decide) ?_
  exact z_iret C dX6_readSilence_53 hr rfl ⟨_, _, rfl, rfl, h⟩ (Nat.le_of_ble_eq_true rfl) (Nat.le_of_ble_eq_true rfl)
def w_X6_readSilence_26 (P : Int32 → zTs → Prop)  (st : zTs) : Prop := (zgP st 13 0 6 < 24) ∧ ((((zgP st 13 0 6) : Nat) = 16 → w_X6_readSilence_45 P st (1) (zgP st 13 0 10)) ∧ (¬ ((zgP st 13 0 6) : Nat) = 16 → w_X6_readSilence_45 P st (0) (zgP st 13 0 10)))
set_option maxHeartbeats 4000000 in
set_option maxRecDepth 100000 in
theorem j_X6_readSilence_26 {P : Int32 → zTs → Prop}  (hfl : l.stackTraces = false) (C : zC Z p s m args meth c cX6_readSilence 1 RX6) (hr : meth.sig.returnType = (some .boolean)) (hn9 : True)  (st : zTs) (h : w_X6_readSilence_26 P st) : zG Z ad0 h0 p l e ({ frames := 7, cells := 0, slots := 0, locals := 142 } : Room) s m args below meth c (MQ below (zQ Z ad0 h0 (zWi Z P)) args s 0 0 (zA Z)) 0 0 (zh Z zm1 st) 1 26 [some (.ref 13)] [] := by
  unfold w_X6_readSilence_26 at h
  refine z_aload_n C dX6_readSilence_26 (i := 0) rfl rfl ?_
  refine t_get C dX6_readSilence_27 fl_X6_35 (k := 13) (i := 0) (by decide) rfl (fg_13_10 _ _ _) ?_
  refine z_aload_n C dX6_readSilence_30 (i := 0) rfl rfl ?_
  refine t_get C dX6_readSilence_31 fl_X6_21 (k := 13) (i := 0) (by decide) rfl (fg_13_6 _ _ _) ?_
  refine z_gets C dX6_readSilence_34 (q := 201 + 256 * 16) (by decide) gl_X6_153 (fun z => (z.2.2.2.1.1.1 16 (by decide)).1) ?_
  obtain ⟨g37a, h⟩ := h
  refine z_acmpW_ne C dX6_readSilence_37 (i := (zgP st 13 0 6)) (j := 16) (tgt := 44) (by decide) g37a (by decide) (fun c37 => ?_) (fun c37 => ?_)
  · have h := h.2 c37
    refine z_iconst C dX6_readSilence_44 (v := 0) (by decide) ?_
    exact t_drop [true] rfl (j_X6_readSilence_45 hfl C hr hn9  st (0) (zgP st 13 0 10) h)
  · have h := h.1 c37
    refine z_iconst C dX6_readSilence_40 (v := 1) (by decide) ?_
    refine z_goto C dX6_readSilence_41 (tgt := 45) (by decide) ?_
    exact t_drop [true] rfl (j_X6_readSilence_45 hfl C hr hn9  st (1) (zgP st 13 0 10) h)
def w_X6_readSilence (st : zTs)  (P : Int32 → zTs → Prop) : Prop := (zgP st 13 0 6 < 24) ∧ ((((zgP st 13 0 6) : Nat) = 16 → w_X6_readSilence_26 P st) ∧ (¬ ((zgP st 13 0 6) : Nat) = 16 → (zgP st 13 0 6 < 24) ∧ ((((zgP st 13 0 6) : Nat) = 17 → w_X6_readSilence_26 P st) ∧ (¬ ((zgP st 13 0 6) : Nat) = 17 → w_X6_fail st 1 (fun (r22 : Int32) (s22 : zTs) => ((r22 = 0 ∨ r22 = 1) ∧ (P r22 s22)))))))
set_option maxHeartbeats 4000000 in
set_option maxRecDepth 100000 in
theorem c_X6_readSilence {Z : zZ} {l : Launch} (hfl : l.stackTraces = false) {st : zTs}  {P : Int32 → zTs → Prop} (h : w_X6_readSilence st  P) : zN Z l yX6_readSilence cX6_readSilence 1 (some .boolean) ({ frames := 7, cells := 0, slots := 0, locals := 142 } : Room) (zh Z zm1 st) [.ref 13] (zWi Z P) := by
  unfold w_X6_readSilence at h
  refine z_enterN (by decide) (Nat.le_of_ble_eq_true rfl) (lc0 := [some (.ref 13)]) rfl ?_
  intro p e s m args below meth c ad0 C hr _
  have hn9 : True := trivial
  replace C : zC Z p s m args meth c cX6_readSilence 1 RX6 := C
  refine z_aload_n C dX6_readSilence_0 (i := 0) rfl rfl ?_
  refine t_get C dX6_readSilence_1 fl_X6_21 (k := 13) (i := 0) (by decide) rfl (fg_13_6 _ _ _) ?_
  refine z_gets C dX6_readSilence_4 (q := 201 + 256 * 16) (by decide) gl_X6_153 (fun z => (z.2.2.2.1.1.1 16 (by decide)).1) ?_
  obtain ⟨g7a, h⟩ := h
  refine z_acmpW_eq C dX6_readSilence_7 (i := (zgP st 13 0 6)) (j := 16) (tgt := 26) (by decide) g7a (by decide) (fun c7 => ?_) (fun c7 => ?_)
  · have h := h.1 c7
    exact t_drop [true] rfl (j_X6_readSilence_26 hfl C hr hn9  st h)
  · have h := h.2 c7
    refine z_aload_n C dX6_readSilence_10 (i := 0) rfl rfl ?_
    refine t_get C dX6_readSilence_11 fl_X6_21 (k := 13) (i := 0) (by decide) rfl (fg_13_6 _ _ _) ?_
    refine z_gets C dX6_readSilence_14 (q := 201 + 256 * 17) (by decide) gl_X6_156 (fun z => (z.2.2.2.1.1.1 17 (by decide)).1) ?_
    obtain ⟨g17a, h⟩ := h
    refine z_acmpW_eq C dX6_readSilence_17 (i := (zgP st 13 0 6)) (j := 17) (tgt := 26) (by decide) g17a (by decide) (fun c17 => ?_) (fun c17 => ?_)
    · have h := h.1 c17
      exact t_drop [true] rfl (j_X6_readSilence_26 hfl C hr hn9  st h)
    · have h := h.2 c17
      refine z_aload_n C dX6_readSilence_20 (i := 0) rfl rfl ?_
      refine z_iconst C dX6_readSilence_21 (v := 1) (by decide) ?_
      refine t_callV C (rest := []) (c2 := 0) (s2 := 0) (kd := 13) (i := 0) [.int (1)] dX6_readSilence_22 lk_X6_79 li_X6_fail le_X6_fail (c_X6_fail hfl h) rfl rfl (by decide) rfl ⟨_, rfl⟩ rfl ⟨Nat.le_of_ble_eq_true rfl, Nat.le_of_ble_eq_true rfl⟩ (Nat.le_of_ble_eq_true rfl) ⟨Nat.le_of_ble_eq_true rfl, Nat.le_of_ble_eq_true rfl, Nat.le_of_ble_eq_true rfl, Nat.le_of_ble_eq_true rfl⟩ (k_Wi fun r22 s22 h => ?_)
      obtain ⟨g25, h⟩ := h
      exact z_iret C dX6_readSilence_25 hr (zn_bool g25) ⟨_, _, rfl, rfl, h⟩ (Nat.le_of_ble_eq_true rfl) (Nat.le_of_ble_eq_true rfl)
def w_Jx29ce0_ordinal_8abf5_w (st : zTs) (i : Nat) (P : Int32 → Prop) : Prop := (i < 24) ∧ (P (zwo.getD i 0))
set_option maxHeartbeats 4000000 in
set_option maxRecDepth 100000 in
theorem c_Jx29ce0_ordinal_8abf5_w {Z : zZ} {l : Launch} (hfl : l.stackTraces = false) {st : zTs} {i : Nat} {P : Int32 → Prop} (h : w_Jx29ce0_ordinal_8abf5_w st i P) : zN Z l yJx29ce0_ordinal_8abf5 cJx29ce0_ordinal_8abf5 1 (some .int) ({ frames := 1, cells := 0, slots := 0, locals := 12 } : Room) (zh Z zm1 st) [.ref (201 + 256 * i)] (zRi Z st P) := by
  unfold w_Jx29ce0_ordinal_8abf5_w at h
  refine z_enterF (by decide +kernel) (Nat.le_of_ble_eq_true rfl) (lc0 := [some (.ref (201 + 256 * i))]) rfl ?_
  intro p e s m args below meth c ad0 C hr _
  have hn9 : True := trivial
  replace C : zC Z p s m args meth c cJx29ce0_ordinal_8abf5 1 RJx29ce0 := C
  refine z_aload_n C dJx29ce0_ordinal_8abf5_0 (i := 0) rfl rfl ?_
  obtain ⟨g1, h⟩ := h
  refine z_kgetI C dJx29ce0_ordinal_8abf5_1 (q := 201 + 256 * i) (zk_md201 i) (x := zwo.getD i 0) gl_Jx29ce0_7 (fun z => (z.2.2.2.1.1.1 i g1).2.2 _ zwo_mem) ?_
  exact z_iret C dJx29ce0_ordinal_8abf5_4 hr rfl ⟨rfl, _, rfl, h⟩ (Nat.le_of_ble_eq_true rfl) (Nat.le_of_ble_eq_true rfl)
def w_X6_measureOf (st : zTs) (a0 : Nat) (P : Int32 → Prop) : Prop := (a0 < 24) ∧ (w_Jx29ce0_ordinal_8abf5_w st a0 (fun (r4 : Int32) => (vp_in r4 24 ∧ (((zsm.getD ((r4 : Int32).toNatClampNeg) 0) = 14 → P 0) ∧ ((zsm.getD ((r4 : Int32).toNatClampNeg) 0) = 15 → P 1) ∧ ((zsm.getD ((r4 : Int32).toNatClampNeg) 0) = 16 → P 2) ∧ (¬ (zsm.getD ((r4 : Int32).toNatClampNeg) 0) = 14 ∧ ¬ (zsm.getD ((r4 : Int32).toNatClampNeg) 0) = 15 ∧ ¬ (zsm.getD ((r4 : Int32).toNatClampNeg) 0) = 16 → P (-1))))))
set_option maxHeartbeats 4000000 in
set_option maxRecDepth 100000 in
theorem c_X6_measureOf {Z : zZ} {l : Launch} (hfl : l.stackTraces = false) {st : zTs} {a0 : Nat} {P : Int32 → Prop} (h : w_X6_measureOf st a0 P) : zN Z l yX6_measureOf cX6_measureOf 1 (some .int) ({ frames := 2, cells := 0, slots := 0, locals := 32 } : Room) (zh Z zm1 st) [.ref (201 + 256 * a0)] (zRi Z st P) := by
  unfold w_X6_measureOf at h
  refine z_enterN (by decide) (Nat.le_of_ble_eq_true rfl) (lc0 := [some (.ref (201 + 256 * a0))]) rfl ?_
  intro p e s m args below meth c ad0 C hr _
  have hn9 : True := trivial
  replace C : zC Z p s m args meth c cX6_measureOf 1 RX6 := C
  refine z_gets C dX6_measureOf_0 (q := 203) (by decide) gl_X6_93 (fun z => z.2.2.2.2.2.1.1) ?_
  refine z_aload_n C dX6_measureOf_3 (i := 0) rfl rfl ?_
  obtain ⟨g4, h⟩ := h
  refine z_kcallU C (rest := [.ref 203]) (b := 201 + 256 * a0) (av := []) dX6_measureOf_4 (zk_ordCU C) (c_Jx29ce0_ordinal_8abf5_w hfl h) rfl rfl (zk_md201 a0) (zk_recW g4) ⟨Nat.le_of_ble_eq_true rfl, Nat.le_of_ble_eq_true rfl⟩ (Nat.le_of_ble_eq_true rfl) ⟨Nat.le_of_ble_eq_true rfl, Nat.le_of_ble_eq_true rfl⟩ (k_Ri fun r4 h => ?_)
  obtain ⟨g7, h⟩ := h
  refine z_kti C dX6_measureOf_7 (q := 203) (n := 24) (f0 := fun j => zsm.getD j 0) (by decide) (fun z => z.2.2.2.2.2.1.2) g7 ?_
  by_cases c8_14 : (zsm.getD ((r4 : Int32).toNatClampNeg) 0) = 14
  · have h := h.1 c8_14
    refine z_tableIn C dX6_measureOf_8 (off := 28) (tgt := 36) (by rw [c8_14]; decide) (by rw [c8_14]; decide) (by rw [c8_14]; rfl) (by decide) ?_
    refine z_iconst C dX6_measureOf_36 (v := 0) (by decide) ?_
    exact z_iret C dX6_measureOf_37 hr rfl ⟨rfl, _, rfl, h⟩ (Nat.le_of_ble_eq_true rfl) (Nat.le_of_ble_eq_true rfl)
  · by_cases c8_15 : (zsm.getD ((r4 : Int32).toNatClampNeg) 0) = 15
    · have h := h.2.1 c8_15
      refine z_tableIn C dX6_measureOf_8 (off := 30) (tgt := 38) (by rw [c8_15]; decide) (by rw [c8_15]; decide) (by rw [c8_15]; rfl) (by decide) ?_
      refine z_iconst C dX6_measureOf_38 (v := 1) (by decide) ?_
      exact z_iret C dX6_measureOf_39 hr rfl ⟨rfl, _, rfl, h⟩ (Nat.le_of_ble_eq_true rfl) (Nat.le_of_ble_eq_true rfl)
    · by_cases c8_16 : (zsm.getD ((r4 : Int32).toNatClampNeg) 0) = 16
      · have h := h.2.2.1 c8_16
        refine z_tableIn C dX6_measureOf_8 (off := 32) (tgt := 40) (by rw [c8_16]; decide) (by rw [c8_16]; decide) (by rw [c8_16]; rfl) (by decide) ?_
        refine z_iconst C dX6_measureOf_40 (v := 2) (by decide) ?_
        exact z_iret C dX6_measureOf_41 hr rfl ⟨rfl, _, rfl, h⟩ (Nat.le_of_ble_eq_true rfl) (Nat.le_of_ble_eq_true rfl)
      · have h := h.2.2.2 ⟨c8_14, c8_15, c8_16⟩
        refine z_tableOut C dX6_measureOf_8 (tgt := 42) (zsw_all (fun k9 h9 h8 q9 => by rcases (by omega : k9 = 14 ∨ k9 = 15 ∨ k9 = 16) with rfl | rfl | rfl <;> first | exact c8_14 (Int32.toInt_inj.mp (q9.trans (by decide))) | exact c8_15 (Int32.toInt_inj.mp (q9.trans (by decide))) | exact c8_16 (Int32.toInt_inj.mp (q9.trans (by decide))))) (by decide) ?_
        refine z_iconst C dX6_measureOf_42 (v := (-1)) (by decide) ?_
        exact z_iret C dX6_measureOf_43 hr rfl ⟨rfl, _, rfl, h⟩ (Nat.le_of_ble_eq_true rfl) (Nat.le_of_ble_eq_true rfl)
def w_X6_readSetting_17 (P : Int32 → zTs → Prop)  (st : zTs) (a1 : Nat) (b0 : Int32) (b1 : Int32) : Prop := w_X6_takeNumber st b1 b0 (fun (r17 : Int32) (s17 : zTs) => ((r17 = 0 → P 0 s17) ∧ (¬ r17 = 0 → (a1 < 24) ∧ (w_Jx29ce0_ordinal_8abf5_w s17 a1 (fun (r29 : Int32) => (vp_in r29 24 ∧ (((zsm.getD ((r29 : Int32).toNatClampNeg) 0) = 8 → ∀ s80 : zTs, s80 = zuF s17 24 (zgP s17 13 0 10) 3 (zgF s17 13 0 9) → (P 1 s80)) ∧ ((zsm.getD ((r29 : Int32).toNatClampNeg) 0) = 9 → ∀ s93 : zTs, s93 = zuF s17 24 (zgP s17 13 0 10) 5 (zgF s17 13 0 9) → (P 1 s93)) ∧ ((zsm.getD ((r29 : Int32).toNatClampNeg) 0) = 10 → ∀ s106 : zTs, s106 = zuF s17 24 (zgP s17 13 0 10) 7 (zgF s17 13 0 9) → (P 1 s106)) ∧ ((zsm.getD ((r29 : Int32).toNatClampNeg) 0) = 11 → ∀ s119 : zTs, s119 = zuF s17 24 (zgP s17 13 0 10) 8 (zgF s17 13 0 9) → (P 1 s119)) ∧ ((zsm.getD ((r29 : Int32).toNatClampNeg) 0) = 12 → ∀ s132 : zTs, s132 = zuF s17 24 (zgP s17 13 0 10) 9 (zgF s17 13 0 9) → (P 1 s132)) ∧ ((zsm.getD ((r29 : Int32).toNatClampNeg) 0) = 13 → ∀ s145 : zTs, s145 = zuF s17 24 (zgP s17 13 0 10) 10 (zgF s17 13 0 9) → (P 1 s145)) ∧ (¬ (zsm.getD ((r29 : Int32).toNatClampNeg) 0) = 8 ∧ ¬ (zsm.getD ((r29 : Int32).toNatClampNeg) 0) = 9 ∧ ¬ (zsm.getD ((r29 : Int32).toNatClampNeg) 0) = 10 ∧ ¬ (zsm.getD ((r29 : Int32).toNatClampNeg) 0) = 11 ∧ ¬ (zsm.getD ((r29 : Int32).toNatClampNeg) 0) = 12 ∧ ¬ (zsm.getD ((r29 : Int32).toNatClampNeg) 0) = 13 → ∀ s158 : zTs, s158 = zuF s17 24 (zgP s17 13 0 10) 11 (zgF s17 13 0 9) → (P 1 s158)))))))))
set_option maxHeartbeats 4000000 in
set_option maxRecDepth 100000 in
theorem j_X6_readSetting_17 {P : Int32 → zTs → Prop}  (hfl : l.stackTraces = false) (C : zC Z p s m args meth c cX6_readSetting 2 RX6) (hr : meth.sig.returnType = (some .boolean)) (hn9 : True)  (st : zTs) (a1 : Nat) (b0 : Int32) (b1 : Int32) (h : w_X6_readSetting_17 P st a1 b0 b1) : zG Z ad0 h0 p l e ({ frames := 8, cells := 0, slots := 0, locals := 164 } : Room) s m args below meth c (MQ below (zQ Z ad0 h0 (zWi Z P)) args s 0 0 (zA Z)) 0 0 (zh Z zm1 st) 2 17 [some (.ref 13), some (.ref (201 + 256 * a1))] [.int (b0), .int (b1), .ref 13] := by
  unfold w_X6_readSetting_17 at h
  refine t_callV C (rest := []) (c2 := 0) (s2 := 0) (kd := 13) (i := 0) [.int (b1), .int (b0)] dX6_readSetting_17 lk_X6_125 li_X6_takeNumber le_X6_takeNumber (c_X6_takeNumber hfl h) rfl rfl (by decide) rfl ⟨_, rfl⟩ rfl ⟨Nat.le_of_ble_eq_true rfl, Nat.le_of_ble_eq_true rfl⟩ (Nat.le_of_ble_eq_true rfl) ⟨Nat.le_of_ble_eq_true rfl, Nat.le_of_ble_eq_true rfl, Nat.le_of_ble_eq_true rfl, Nat.le_of_ble_eq_true rfl⟩ (k_Wi fun r17 s17 h => ?_)
  refine z_if_ne C dX6_readSetting_20 (tgt := 25) (by decide) (fun c20 => ?_) (fun c20 => ?_)
  · have h := h.2 c20
    refine z_gets C dX6_readSetting_25 (q := 203) (by decide) gl_X6_93 (fun z => z.2.2.2.2.2.1.1) ?_
    refine z_aload_n C dX6_readSetting_28 (i := 1) rfl rfl ?_
    obtain ⟨g29, h⟩ := h
    refine z_kcallU C (rest := [.ref 203]) (b := 201 + 256 * a1) (av := []) dX6_readSetting_29 (zk_ordCU C) (c_Jx29ce0_ordinal_8abf5_w hfl h) rfl rfl (zk_md201 a1) (zk_recW g29) ⟨Nat.le_of_ble_eq_true rfl, Nat.le_of_ble_eq_true rfl⟩ (Nat.le_of_ble_eq_true rfl) ⟨Nat.le_of_ble_eq_true rfl, Nat.le_of_ble_eq_true rfl⟩ (k_Ri fun r29 h => ?_)
    obtain ⟨g32, h⟩ := h
    refine z_kti C dX6_readSetting_32 (q := 203) (n := 24) (f0 := fun j => zsm.getD j 0) (by decide) (fun z => z.2.2.2.2.2.1.2) g32 ?_
    by_cases c33_8 : (zsm.getD ((r29 : Int32).toNatClampNeg) 0) = 8
    · have h := h.1 c33_8
      refine z_tableIn C dX6_readSetting_33 (off := 39) (tgt := 72) (by rw [c33_8]; decide) (by rw [c33_8]; decide) (by rw [c33_8]; rfl) (by decide) ?_
      refine z_aload_n C dX6_readSetting_72 (i := 0) rfl rfl ?_
      refine t_get C dX6_readSetting_73 fl_X6_35 (k := 13) (i := 0) (by decide) rfl (fg_13_10 _ _ _) ?_
      refine z_aload_n C dX6_readSetting_76 (i := 0) rfl rfl ?_
      refine t_get C dX6_readSetting_77 fl_X6_83 (k := 13) (i := 0) (by decide) rfl (fg_13_9 _ _ _) ?_
      refine t_put C dX6_readSetting_80 fq_X6_129 (Or.inl rfl) (k := 24) (i := zgP s17 13 0 10) (by decide) rfl ⟨rfl, rfl⟩ (fp_24_3 _ _ _ _ _) ?_
      refine t_tops (fun s80 es80 => ?_)
      have h := h s80 es80
      refine z_iconst C dX6_readSetting_83 (v := 1) (by decide) ?_
      exact z_iret C dX6_readSetting_84 hr rfl ⟨_, _, rfl, rfl, h⟩ (Nat.le_of_ble_eq_true rfl) (Nat.le_of_ble_eq_true rfl)
    · by_cases c33_9 : (zsm.getD ((r29 : Int32).toNatClampNeg) 0) = 9
      · have h := h.2.1 c33_9
        refine z_tableIn C dX6_readSetting_33 (off := 52) (tgt := 85) (by rw [c33_9]; decide) (by rw [c33_9]; decide) (by rw [c33_9]; rfl) (by decide) ?_
        refine z_aload_n C dX6_readSetting_85 (i := 0) rfl rfl ?_
        refine t_get C dX6_readSetting_86 fl_X6_35 (k := 13) (i := 0) (by decide) rfl (fg_13_10 _ _ _) ?_
        refine z_aload_n C dX6_readSetting_89 (i := 0) rfl rfl ?_
        refine t_get C dX6_readSetting_90 fl_X6_83 (k := 13) (i := 0) (by decide) rfl (fg_13_9 _ _ _) ?_
        refine t_put C dX6_readSetting_93 fq_X6_132 (Or.inl rfl) (k := 24) (i := zgP s17 13 0 10) (by decide) rfl ⟨rfl, rfl⟩ (fp_24_5 _ _ _ _ _) ?_
        refine t_tops (fun s93 es93 => ?_)
        have h := h s93 es93
        refine z_iconst C dX6_readSetting_96 (v := 1) (by decide) ?_
        exact z_iret C dX6_readSetting_97 hr rfl ⟨_, _, rfl, rfl, h⟩ (Nat.le_of_ble_eq_true rfl) (Nat.le_of_ble_eq_true rfl)
      · by_cases c33_10 : (zsm.getD ((r29 : Int32).toNatClampNeg) 0) = 10
        · have h := h.2.2.1 c33_10
          refine z_tableIn C dX6_readSetting_33 (off := 65) (tgt := 98) (by rw [c33_10]; decide) (by rw [c33_10]; decide) (by rw [c33_10]; rfl) (by decide) ?_
          refine z_aload_n C dX6_readSetting_98 (i := 0) rfl rfl ?_
          refine t_get C dX6_readSetting_99 fl_X6_35 (k := 13) (i := 0) (by decide) rfl (fg_13_10 _ _ _) ?_
          refine z_aload_n C dX6_readSetting_102 (i := 0) rfl rfl ?_
          refine t_get C dX6_readSetting_103 fl_X6_83 (k := 13) (i := 0) (by decide) rfl (fg_13_9 _ _ _) ?_
          refine t_put C dX6_readSetting_106 fq_X6_135 (Or.inl rfl) (k := 24) (i := zgP s17 13 0 10) (by decide) rfl ⟨rfl, rfl⟩ (fp_24_7 _ _ _ _ _) ?_
          refine t_tops (fun s106 es106 => ?_)
          have h := h s106 es106
          refine z_iconst C dX6_readSetting_109 (v := 1) (by decide) ?_
          exact z_iret C dX6_readSetting_110 hr rfl ⟨_, _, rfl, rfl, h⟩ (Nat.le_of_ble_eq_true rfl) (Nat.le_of_ble_eq_true rfl)
        · by_cases c33_11 : (zsm.getD ((r29 : Int32).toNatClampNeg) 0) = 11
          · have h := h.2.2.2.1 c33_11
            refine z_tableIn C dX6_readSetting_33 (off := 78) (tgt := 111) (by rw [c33_11]; decide) (by rw [c33_11]; decide) (by rw [c33_11]; rfl) (by decide) ?_
            refine z_aload_n C dX6_readSetting_111 (i := 0) rfl rfl ?_
            refine t_get C dX6_readSetting_112 fl_X6_35 (k := 13) (i := 0) (by decide) rfl (fg_13_10 _ _ _) ?_
            refine z_aload_n C dX6_readSetting_115 (i := 0) rfl rfl ?_
            refine t_get C dX6_readSetting_116 fl_X6_83 (k := 13) (i := 0) (by decide) rfl (fg_13_9 _ _ _) ?_
            refine t_put C dX6_readSetting_119 fq_X6_138 (Or.inl rfl) (k := 24) (i := zgP s17 13 0 10) (by decide) rfl ⟨rfl, rfl⟩ (fp_24_8 _ _ _ _ _) ?_
            refine t_tops (fun s119 es119 => ?_)
            have h := h s119 es119
            refine z_iconst C dX6_readSetting_122 (v := 1) (by decide) ?_
            exact z_iret C dX6_readSetting_123 hr rfl ⟨_, _, rfl, rfl, h⟩ (Nat.le_of_ble_eq_true rfl) (Nat.le_of_ble_eq_true rfl)
          · by_cases c33_12 : (zsm.getD ((r29 : Int32).toNatClampNeg) 0) = 12
            · have h := h.2.2.2.2.1 c33_12
              refine z_tableIn C dX6_readSetting_33 (off := 91) (tgt := 124) (by rw [c33_12]; decide) (by rw [c33_12]; decide) (by rw [c33_12]; rfl) (by decide) ?_
              refine z_aload_n C dX6_readSetting_124 (i := 0) rfl rfl ?_
              refine t_get C dX6_readSetting_125 fl_X6_35 (k := 13) (i := 0) (by decide) rfl (fg_13_10 _ _ _) ?_
              refine z_aload_n C dX6_readSetting_128 (i := 0) rfl rfl ?_
              refine t_get C dX6_readSetting_129 fl_X6_83 (k := 13) (i := 0) (by decide) rfl (fg_13_9 _ _ _) ?_
              refine t_put C dX6_readSetting_132 fq_X6_141 (Or.inl rfl) (k := 24) (i := zgP s17 13 0 10) (by decide) rfl ⟨rfl, rfl⟩ (fp_24_9 _ _ _ _ _) ?_
              refine t_tops (fun s132 es132 => ?_)
              have h := h s132 es132
              refine z_iconst C dX6_readSetting_135 (v := 1) (by decide) ?_
              exact z_iret C dX6_readSetting_136 hr rfl ⟨_, _, rfl, rfl, h⟩ (Nat.le_of_ble_eq_true rfl) (Nat.le_of_ble_eq_true rfl)
            · by_cases c33_13 : (zsm.getD ((r29 : Int32).toNatClampNeg) 0) = 13
              · have h := h.2.2.2.2.2.1 c33_13
                refine z_tableIn C dX6_readSetting_33 (off := 104) (tgt := 137) (by rw [c33_13]; decide) (by rw [c33_13]; decide) (by rw [c33_13]; rfl) (by decide) ?_
                refine z_aload_n C dX6_readSetting_137 (i := 0) rfl rfl ?_
                refine t_get C dX6_readSetting_138 fl_X6_35 (k := 13) (i := 0) (by decide) rfl (fg_13_10 _ _ _) ?_
                refine z_aload_n C dX6_readSetting_141 (i := 0) rfl rfl ?_
                refine t_get C dX6_readSetting_142 fl_X6_83 (k := 13) (i := 0) (by decide) rfl (fg_13_9 _ _ _) ?_
                refine t_put C dX6_readSetting_145 fq_X6_144 (Or.inl rfl) (k := 24) (i := zgP s17 13 0 10) (by decide) rfl ⟨rfl, rfl⟩ (fp_24_10 _ _ _ _ _) ?_
                refine t_tops (fun s145 es145 => ?_)
                have h := h s145 es145
                refine z_iconst C dX6_readSetting_148 (v := 1) (by decide) ?_
                exact z_iret C dX6_readSetting_149 hr rfl ⟨_, _, rfl, rfl, h⟩ (Nat.le_of_ble_eq_true rfl) (Nat.le_of_ble_eq_true rfl)
              · have h := h.2.2.2.2.2.2 ⟨c33_8, c33_9, c33_10, c33_11, c33_12, c33_13⟩
                refine z_tableOut C dX6_readSetting_33 (tgt := 150) (zsw_all (fun k9 h9 h8 q9 => by rcases (by omega : k9 = 8 ∨ k9 = 9 ∨ k9 = 10 ∨ k9 = 11 ∨ k9 = 12 ∨ k9 = 13) with rfl | rfl | rfl | rfl | rfl | rfl <;> first | exact c33_8 (Int32.toInt_inj.mp (q9.trans (by decide))) | exact c33_9 (Int32.toInt_inj.mp (q9.trans (by decide))) | exact c33_10 (Int32.toInt_inj.mp (q9.trans (by decide))) | exact c33_11 (Int32.toInt_inj.mp (q9.trans (by decide))) | exact c33_12 (Int32.toInt_inj.mp (q9.trans (by decide))) | exact c33_13 (Int32.toInt_inj.mp (q9.trans (by decide))))) (by decide) ?_
                refine z_aload_n C dX6_readSetting_150 (i := 0) rfl rfl ?_
                refine t_get C dX6_readSetting_151 fl_X6_35 (k := 13) (i := 0) (by decide) rfl (fg_13_10 _ _ _) ?_
                refine z_aload_n C dX6_readSetting_154 (i := 0) rfl rfl ?_
                refine t_get C dX6_readSetting_155 fl_X6_83 (k := 13) (i := 0) (by decide) rfl (fg_13_9 _ _ _) ?_
                refine t_put C dX6_readSetting_158 fq_X6_147 (Or.inl rfl) (k := 24) (i := zgP s17 13 0 10) (by decide) rfl ⟨rfl, rfl⟩ (fp_24_11 _ _ _ _ _) ?_
                refine t_tops (fun s158 es158 => ?_)
                have h := h s158 es158
                refine z_iconst C dX6_readSetting_161 (v := 1) (by decide) ?_
                exact z_iret C dX6_readSetting_162 hr rfl ⟨_, _, rfl, rfl, h⟩ (Nat.le_of_ble_eq_true rfl) (Nat.le_of_ble_eq_true rfl)
  · have h := h.1 c20
    refine z_iconst C dX6_readSetting_23 (v := 0) (by decide) ?_
    exact z_iret C dX6_readSetting_24 hr rfl ⟨_, _, rfl, rfl, h⟩ (Nat.le_of_ble_eq_true rfl) (Nat.le_of_ble_eq_true rfl)
def w_X6_readSetting (st : zTs) (a1 : Nat) (P : Int32 → zTs → Prop) : Prop := (a1 < 24) ∧ (((a1 : Nat) = 11 → w_X6_readSetting_17 P st a1 (100) (0)) ∧ (¬ (a1 : Nat) = 11 → w_X6_readSetting_17 P st a1 (400) (0)))
set_option maxHeartbeats 4000000 in
set_option maxRecDepth 100000 in
theorem c_X6_readSetting {Z : zZ} {l : Launch} (hfl : l.stackTraces = false) {st : zTs} {a1 : Nat} {P : Int32 → zTs → Prop} (h : w_X6_readSetting st a1 P) : zN Z l yX6_readSetting cX6_readSetting 2 (some .boolean) ({ frames := 8, cells := 0, slots := 0, locals := 164 } : Room) (zh Z zm1 st) [.ref 13, .ref (201 + 256 * a1)] (zWi Z P) := by
  unfold w_X6_readSetting at h
  refine z_enterN (by decide) (Nat.le_of_ble_eq_true rfl) (lc0 := [some (.ref 13), some (.ref (201 + 256 * a1))]) rfl ?_
  intro p e s m args below meth c ad0 C hr _
  have hn9 : True := trivial
  replace C : zC Z p s m args meth c cX6_readSetting 2 RX6 := C
  refine z_aload_n C dX6_readSetting_0 (i := 0) rfl rfl ?_
  refine z_iconst C dX6_readSetting_1 (v := 0) (by decide) ?_
  refine z_aload_n C dX6_readSetting_2 (i := 1) rfl rfl ?_
  refine z_gets C dX6_readSetting_3 (q := 201 + 256 * 11) (by decide) gl_X6_122 (fun z => (z.2.2.2.1.1.1 11 (by decide)).1) ?_
  obtain ⟨g6a, h⟩ := h
  refine z_acmpW_ne C dX6_readSetting_6 (i := a1) (j := 11) (tgt := 14) (by decide) g6a (by decide) (fun c6 => ?_) (fun c6 => ?_)
  · have h := h.2 c6
    refine z_sipush C dX6_readSetting_14 (v := 400) (by decide) ?_
    exact t_drop [true, true] rfl (j_X6_readSetting_17 hfl C hr hn9  st a1 (400) (0) h)
  · have h := h.1 c6
    refine z_bipush C dX6_readSetting_9 (v := 100) (by decide) ?_
    refine z_goto C dX6_readSetting_11 (tgt := 17) (by decide) ?_
    exact t_drop [true, true] rfl (j_X6_readSetting_17 hfl C hr hn9  st a1 (100) (0) h)
def w_X6_readRestDays_69 (P : Int32 → zTs → Prop) (K14 : zTs → Int32 → Int32 → Int32 → Prop) (st : zTs) (a1 : Int32) (a3 : Int32) (b0 : Int32) : Prop := ∀ x70 : Int32, x70 = a3 + 1 → (K14 st a1 b0 x70)
set_option maxHeartbeats 4000000 in
set_option maxRecDepth 100000 in
theorem j_X6_readRestDays_69 {P : Int32 → zTs → Prop} {K14 : zTs → Int32 → Int32 → Int32 → Prop} (hfl : l.stackTraces = false) (C : zC Z p s m args meth c cX6_readRestDays 4 RX6) (hr : meth.sig.returnType = (some .boolean)) (hn9 : True) (hK14 : ∀ (st : zTs) (a1 : Int32) (a2 : Int32) (a3 : Int32), K14 st a1 a2 a3 → zG Z ad0 h0 p l e ({ frames := 8, cells := 0, slots := 0, locals := 164 } : Room) s m args below meth c (MQ below (zQ Z ad0 h0 (zWi Z P)) args s 0 0 (zA Z)) 0 0 (zh Z zm1 st) 4 14 [some (.ref 13), some (.int (a1)), some (.int (a2)), some (.int (a3))] []) (st : zTs) (a1 : Int32) (a3 : Int32) (b0 : Int32) (h : w_X6_readRestDays_69 P K14 st a1 a3 b0) : zG Z ad0 h0 p l e ({ frames := 8, cells := 0, slots := 0, locals := 164 } : Room) s m args below meth c (MQ below (zQ Z ad0 h0 (zWi Z P)) args s 0 0 (zA Z)) 0 0 (zh Z zm1 st) 4 69 [some (.ref 13), some (.int (a1)), none, some (.int (a3))] [.int (b0)] := by
  unfold w_X6_readRestDays_69 at h
  refine z_istore_n C dX6_readRestDays_69 (i := 2) (lc' := [some (.ref 13), some (.int (a1)), some (.int (b0)), some (.int (a3))]) rfl (by decide) rfl ?_
  obtain ⟨x70, ex70⟩ : ∃ z : Int32, z = a3 + 1 := ⟨_, rfl⟩
  have h := h x70 ex70
  refine z_iinc C dX6_readRestDays_70 (v := x70) (lc' := [some (.ref 13), some (.int (a1)), some (.int (b0)), some (.int (x70))]) rfl (by decide) (by rw [ex70]; rfl) rfl ?_
  refine z_goto C dX6_readRestDays_73 (tgt := 14) (by decide) ?_
  exact t_drop [true, true, true, true] rfl (hK14 st a1 b0 x70 h)
def w_X6_readRestDays_14 (P : Int32 → zTs → Prop)  : Nat → zTs → Int32 → Int32 → Int32 → Prop
  | 0, _, _, _, _ => False
  | n9 + 1, st, a1, a2, a3 => ((zgF st 13 0 3) ≤ a3 → (a1 = 0 ∨ a1 = 1) ∧ (P a1 st)) ∧ (¬ (zgF st 13 0 3) ≤ a3 → (a1 = 0 → (a1 = 0 ∨ a1 = 1) ∧ (P a1 st)) ∧ (¬ a1 = 0 → (a2 = 0 → (a1 = 0 ∨ a1 = 1) ∧ (P a1 st)) ∧ (¬ a2 = 0 → w_X6_takeNumber st 0 6 (fun (r34 : Int32) (s34 : zTs) => (∀ s53 : zTs, s53 = zuF s34 24 (zgP s34 13 0 10) 4 ((zgF s34 24 (zgP s34 13 0 10) 4) ||| (1 <<< ((zgF s34 13 0 9) &&& 31))) → (((zgF s53 13 0 7) = (-1) → w_X6_readRestDays_69 P (w_X6_readRestDays_14 P n9) s53 r34 a3 (0)) ∧ (¬ (zgF s53 13 0 7) = (-1) → w_X6_readRestDays_69 P (w_X6_readRestDays_14 P n9) s53 r34 a3 (1))))))))
set_option maxHeartbeats 4000000 in
set_option maxRecDepth 100000 in
theorem j_X6_readRestDays_14 {P : Int32 → zTs → Prop}  (hfl : l.stackTraces = false) (C : zC Z p s m args meth c cX6_readRestDays 4 RX6) (hr : meth.sig.returnType = (some .boolean)) (hn9 : True)  : ∀ (n9 : Nat) (st : zTs) (a1 : Int32) (a2 : Int32) (a3 : Int32), w_X6_readRestDays_14 P n9 st a1 a2 a3 → zG Z ad0 h0 p l e ({ frames := 8, cells := 0, slots := 0, locals := 164 } : Room) s m args below meth c (MQ below (zQ Z ad0 h0 (zWi Z P)) args s 0 0 (zA Z)) 0 0 (zh Z zm1 st) 4 14 [some (.ref 13), some (.int (a1)), some (.int (a2)), some (.int (a3))] [] := by
  intro n9
  induction n9 with
  | zero => intro st a1 a2 a3 h; exact h.elim
  | succ n9 hK14 =>
    intro st a1 a2 a3 h
    rw [w_X6_readRestDays_14] at h
    refine z_iload_n C dX6_readRestDays_14 (i := 3) rfl rfl ?_
    refine z_aload_n C dX6_readRestDays_15 (i := 0) rfl rfl ?_
    refine t_get C dX6_readRestDays_16 fl_X6_55 (k := 13) (i := 0) (by decide) rfl (fg_13_3 _ _ _) ?_
    refine z_icmp_ge C dX6_readRestDays_19 (tgt := 76) (by decide) (fun c19 => ?_) (fun c19 => ?_)
    · have h := h.1 c19
      refine z_iload_n C dX6_readRestDays_76 (i := 1) rfl rfl ?_
      obtain ⟨g77, h⟩ := h
      exact z_iret C dX6_readRestDays_77 hr (zn_bool g77) ⟨_, _, rfl, rfl, h⟩ (Nat.le_of_ble_eq_true rfl) (Nat.le_of_ble_eq_true rfl)
    · have h := h.2 c19
      refine z_iload_n C dX6_readRestDays_22 (i := 1) rfl rfl ?_
      refine z_if_eq C dX6_readRestDays_23 (tgt := 76) (by decide) (fun c23 => ?_) (fun c23 => ?_)
      · have h := h.1 c23
        refine z_iload_n C dX6_readRestDays_76 (i := 1) rfl rfl ?_
        obtain ⟨g77, h⟩ := h
        exact z_iret C dX6_readRestDays_77 hr (zn_bool g77) ⟨_, _, rfl, rfl, h⟩ (Nat.le_of_ble_eq_true rfl) (Nat.le_of_ble_eq_true rfl)
      · have h := h.2 c23
        refine z_iload_n C dX6_readRestDays_26 (i := 2) rfl rfl ?_
        refine z_if_eq C dX6_readRestDays_27 (tgt := 76) (by decide) (fun c27 => ?_) (fun c27 => ?_)
        · have h := h.1 c27
          refine z_iload_n C dX6_readRestDays_76 (i := 1) rfl rfl ?_
          obtain ⟨g77, h⟩ := h
          exact z_iret C dX6_readRestDays_77 hr (zn_bool g77) ⟨_, _, rfl, rfl, h⟩ (Nat.le_of_ble_eq_true rfl) (Nat.le_of_ble_eq_true rfl)
        · have h := h.2 c27
          refine z_aload_n C dX6_readRestDays_30 (i := 0) rfl rfl ?_
          refine z_iconst C dX6_readRestDays_31 (v := 0) (by decide) ?_
          refine z_bipush C dX6_readRestDays_32 (v := 6) (by decide) ?_
          refine t_callV C (rest := []) (c2 := 0) (s2 := 0) (kd := 13) (i := 0) [.int (0), .int (6)] dX6_readRestDays_34 lk_X6_125 li_X6_takeNumber le_X6_takeNumber (c_X6_takeNumber hfl h) rfl rfl (by decide) rfl ⟨_, rfl⟩ rfl ⟨Nat.le_of_ble_eq_true rfl, Nat.le_of_ble_eq_true rfl⟩ (Nat.le_of_ble_eq_true rfl) ⟨Nat.le_of_ble_eq_true rfl, Nat.le_of_ble_eq_true rfl, Nat.le_of_ble_eq_true rfl, Nat.le_of_ble_eq_true rfl⟩ (k_Wi fun r34 s34 h => ?_)
          refine z_istore_n C dX6_readRestDays_37 (i := 1) (lc' := [some (.ref 13), some (.int (r34)), some (.int (a2)), some (.int (a3))]) rfl (by decide) rfl ?_
          refine z_aload_n C dX6_readRestDays_38 (i := 0) rfl rfl ?_
          refine t_get C dX6_readRestDays_39 fl_X6_35 (k := 13) (i := 0) (by decide) rfl (fg_13_10 _ _ _) ?_
          refine z_dup C dX6_readRestDays_42 rfl ?_
          refine t_get C dX6_readRestDays_43 fl_X6_150 (k := 24) (i := zgP s34 13 0 10) (by decide) rfl (fg_24_4 _ _ _) ?_
          refine z_iconst C dX6_readRestDays_46 (v := 1) (by decide) ?_
          refine z_aload_n C dX6_readRestDays_47 (i := 0) rfl rfl ?_
          refine t_get C dX6_readRestDays_48 fl_X6_83 (k := 13) (i := 0) (by decide) rfl (fg_13_9 _ _ _) ?_
          refine z_ishl C dX6_readRestDays_51 ?_
          refine z_ior C dX6_readRestDays_52 ?_
          refine t_put C dX6_readRestDays_53 fq_X6_150 (Or.inl rfl) (k := 24) (i := zgP s34 13 0 10) (by decide) rfl ⟨rfl, rfl⟩ (fp_24_4 _ _ _ _ _) ?_
          refine t_tops (fun s53 es53 => ?_)
          have h := h s53 es53
          refine z_aload_n C dX6_readRestDays_56 (i := 0) rfl rfl ?_
          refine t_get C dX6_readRestDays_57 fl_X6_24 (k := 13) (i := 0) (by decide) rfl (fg_13_7 _ _ _) ?_
          refine z_iconst C dX6_readRestDays_60 (v := (-1)) (by decide) ?_
          refine z_icmp_eq C dX6_readRestDays_61 (tgt := 68) (by decide) (fun c61 => ?_) (fun c61 => ?_)
          · have h := h.1 c61
            refine z_iconst C dX6_readRestDays_68 (v := 0) (by decide) ?_
            exact t_drop [true, true, false, true] rfl (j_X6_readRestDays_69 hfl C hr hn9 hK14 s53 r34 a3 (0) h)
          · have h := h.2 c61
            refine z_iconst C dX6_readRestDays_64 (v := 1) (by decide) ?_
            refine z_goto C dX6_readRestDays_65 (tgt := 69) (by decide) ?_
            exact t_drop [true, true, false, true] rfl (j_X6_readRestDays_69 hfl C hr hn9 hK14 s53 r34 a3 (1) h)
def w_X6_readRestDays (st : zTs)  (P : Int32 → zTs → Prop) : Prop := ∀ s5 : zTs, s5 = zuF st 24 (zgP st 13 0 10) 4 0 → (w_X6_readRestDays_14 P zfu s5 (1) (1) (0))
set_option maxHeartbeats 4000000 in
set_option maxRecDepth 100000 in
theorem c_X6_readRestDays {Z : zZ} {l : Launch} (hfl : l.stackTraces = false) {st : zTs}  {P : Int32 → zTs → Prop} (h : w_X6_readRestDays st  P) : zN Z l yX6_readRestDays cX6_readRestDays 4 (some .boolean) ({ frames := 8, cells := 0, slots := 0, locals := 164 } : Room) (zh Z zm1 st) [.ref 13] (zWi Z P) := by
  unfold w_X6_readRestDays at h
  refine z_enterN (by decide) (Nat.le_of_ble_eq_true rfl) (lc0 := [some (.ref 13), none, none, none]) rfl ?_
  intro p e s m args below meth c ad0 C hr _
  have hn9 : True := trivial
  replace C : zC Z p s m args meth c cX6_readRestDays 4 RX6 := C
  refine z_aload_n C dX6_readRestDays_0 (i := 0) rfl rfl ?_
  refine t_get C dX6_readRestDays_1 fl_X6_35 (k := 13) (i := 0) (by decide) rfl (fg_13_10 _ _ _) ?_
  refine z_iconst C dX6_readRestDays_4 (v := 0) (by decide) ?_
  refine t_put C dX6_readRestDays_5 fq_X6_150 (Or.inl rfl) (k := 24) (i := zgP st 13 0 10) (by decide) rfl ⟨rfl, rfl⟩ (fp_24_4 _ _ _ _ _) ?_
  refine t_tops (fun s5 es5 => ?_)
  have h := h s5 es5
  refine z_iconst C dX6_readRestDays_8 (v := 1) (by decide) ?_
  refine z_istore_n C dX6_readRestDays_9 (i := 1) (lc' := [some (.ref 13), some (.int (1)), none, none]) rfl (by decide) rfl ?_
  refine z_iconst C dX6_readRestDays_10 (v := 1) (by decide) ?_
  refine z_istore_n C dX6_readRestDays_11 (i := 2) (lc' := [some (.ref 13), some (.int (1)), some (.int (1)), none]) rfl (by decide) rfl ?_
  refine z_iconst C dX6_readRestDays_12 (v := 0) (by decide) ?_
  refine z_istore_n C dX6_readRestDays_13 (i := 3) (lc' := [some (.ref 13), some (.int (1)), some (.int (1)), some (.int (0))]) rfl (by decide) rfl ?_
  exact t_drop [true, true, true, true] rfl (j_X6_readRestDays_14 hfl C hr hn9  zfu s5 (1) (1) (0) h)
def w_X11_cell (st : zTs) (a1 : Int32) (a2 : Int32) (a3 : Int32) (a4 : Int32) (X : Nat → Prop) (P : Int32 → Prop) : Prop := w_X11_wallAt st a1 X (fun (r2 : Nat) => (w_X11_checkRange st a2 0 11 X ((w_X11_checkRange st a4 0 2 X ((w_X8_hasCell st r2 a2 a3 (fun (r25 : Int32) => ((r25 = 0 → P (-1)) ∧ (¬ r25 = 0 → (a4 = 0 → w_X8_builderOf st r2 a2 a3 (fun (r64 : Int32) => (P r64))) ∧ (a4 = 1 → w_X8_valueOf st r2 a2 a3 (zgF st 10 0 15) (zgF st 24 (zgP st 10 0 16) 9) (fun (r83 : Int32) => (P r83))) ∧ (¬ a4 = 0 ∧ ¬ a4 = 1 → w_X8_usersOf st r2 a2 a3 (fun (r91 : Int32) => (P r91))))))))))))
set_option maxHeartbeats 4000000 in
set_option maxRecDepth 100000 in
theorem c_X11_cell {Z : zZ} {l : Launch} (hfl : l.stackTraces = false) {st : zTs} {a1 : Int32} {a2 : Int32} {a3 : Int32} {a4 : Int32} {X : Nat → Prop} {P : Int32 → Prop} (h : w_X11_cell st a1 a2 a3 a4 X P) : zM Z l yX11_cell cX11_cell 6 (some .int) ({ frames := 9, cells := 3, slots := 18, locals := 122 } : Room) (zh Z zm1 st) [.ref 10, .int (a1), .int (a2), .int (a3), .int (a4)] (zRi Z st P) (zXr Z st X) := by
  unfold w_X11_cell at h
  refine z_enterM (by decide) (Nat.le_of_ble_eq_true rfl) (lc0 := [some (.ref 10), some (.int (a1)), some (.int (a2)), some (.int (a3)), some (.int (a4)), none]) rfl ?_
  intro p e s m args below meth c ad0 C hr hex
  replace C : zC Z p s m args meth c cX11_cell 6 RX11 := C
  refine z_aload_n C dX11_cell_0 (i := 0) rfl rfl ?_
  refine z_iload_n C dX11_cell_1 (i := 1) rfl rfl ?_
  refine t_callVM C hex (rest := []) (c2 := 1) (s2 := 6) (kd := 10) (i := 0) [.int (a1)] dX11_cell_2 lk_X11_92 li_X11_wallAt le_X11_wallAt (c_X11_wallAt hfl h) rfl rfl (by decide) rfl ⟨_, rfl⟩ rfl ⟨Nat.le_of_ble_eq_true rfl, Nat.le_of_ble_eq_true rfl⟩ (Nat.le_of_ble_eq_true rfl) ⟨Nat.le_of_ble_eq_true rfl, Nat.le_of_ble_eq_true rfl, Nat.le_of_ble_eq_true rfl, Nat.le_of_ble_eq_true rfl⟩ (fun _ _ q => q) ⟨Nat.le_of_ble_eq_true rfl, Nat.le_of_ble_eq_true rfl⟩ (k_Rr fun r2 h => ?_)
  refine z_astore C dX11_cell_5 (lc' := [some (.ref 10), some (.int (a1)), some (.int (a2)), some (.int (a3)), some (.int (a4)), some (.ref (20 + 256 * r2))]) (by decide) rfl ?_
  refine z_iload_n C dX11_cell_7 (i := 2) rfl rfl ?_
  refine z_iconst C dX11_cell_8 (v := 0) (by decide) ?_
  refine z_bipush C dX11_cell_9 (v := 11) (by decide) ?_
  refine t_callSM C hex (rest := []) (c2 := 2) (s2 := 12) [.int (a2), .int (0), .int (11)] dX11_cell_11 lk_X11_107 ls_X11_checkRange (c_X11_checkRange hfl h) rfl rfl ⟨Nat.le_of_ble_eq_true rfl, Nat.le_of_ble_eq_true rfl⟩ (Nat.le_of_ble_eq_true rfl) ⟨Nat.le_of_ble_eq_true rfl, Nat.le_of_ble_eq_true rfl, Nat.le_of_ble_eq_true rfl, Nat.le_of_ble_eq_true rfl⟩ (fun _ _ q => q) ⟨Nat.le_of_ble_eq_true rfl, Nat.le_of_ble_eq_true rfl⟩ (k_Rv fun h => ?_)
  refine z_iload C dX11_cell_14 rfl ?_
  refine z_iconst C dX11_cell_16 (v := 0) (by decide) ?_
  refine z_iconst C dX11_cell_17 (v := 2) (by decide) ?_
  refine t_callSM C hex (rest := []) (c2 := 3) (s2 := 18) [.int (a4), .int (0), .int (2)] dX11_cell_18 lk_X11_107 ls_X11_checkRange (c_X11_checkRange hfl h) rfl rfl ⟨Nat.le_of_ble_eq_true rfl, Nat.le_of_ble_eq_true rfl⟩ (Nat.le_of_ble_eq_true rfl) ⟨Nat.le_of_ble_eq_true rfl, Nat.le_of_ble_eq_true rfl, Nat.le_of_ble_eq_true rfl, Nat.le_of_ble_eq_true rfl⟩ (fun _ _ q => q) ⟨Nat.le_of_ble_eq_true rfl, Nat.le_of_ble_eq_true rfl⟩ (k_Rv fun h => ?_)
  refine z_aload C dX11_cell_21 rfl ?_
  refine z_iload_n C dX11_cell_23 (i := 2) rfl rfl ?_
  refine z_iload_n C dX11_cell_24 (i := 3) rfl rfl ?_
  refine t_callV C (rest := []) (c2 := 3) (s2 := 18) (kd := 20) (i := r2) [.int (a2), .int (a3)] dX11_cell_25 lk_X11_310 li_X8_hasCell le_X8_hasCell (c_X8_hasCell hfl h) rfl rfl (by decide) rfl ⟨_, rfl⟩ rfl ⟨Nat.le_of_ble_eq_true rfl, Nat.le_of_ble_eq_true rfl⟩ (Nat.le_of_ble_eq_true rfl) ⟨Nat.le_of_ble_eq_true rfl, Nat.le_of_ble_eq_true rfl, Nat.le_of_ble_eq_true rfl, Nat.le_of_ble_eq_true rfl⟩ (k_Ri fun r25 h => ?_)
  refine z_if_ne C dX11_cell_28 (tgt := 33) (by decide) (fun c28 => ?_) (fun c28 => ?_)
  · have h := h.2 c28
    refine z_iload C dX11_cell_33 rfl ?_
    by_cases c35_0 : a4 = 0
    · have h := h.1 c35_0
      refine z_lookup C dX11_cell_35 (off := 25) (tgt := 60) (by decide) (by rw [c35_0]; decide +kernel) (by decide) ?_
      refine z_aload C dX11_cell_60 rfl ?_
      refine z_iload_n C dX11_cell_62 (i := 2) rfl rfl ?_
      refine z_iload_n C dX11_cell_63 (i := 3) rfl rfl ?_
      refine t_callV C (rest := []) (c2 := 3) (s2 := 18) (kd := 20) (i := r2) [.int (a2), .int (a3)] dX11_cell_64 lk_X11_313 li_X8_builderOf le_X8_builderOf (c_X8_builderOf hfl h) rfl rfl (by decide) rfl ⟨_, rfl⟩ rfl ⟨Nat.le_of_ble_eq_true rfl, Nat.le_of_ble_eq_true rfl⟩ (Nat.le_of_ble_eq_true rfl) ⟨Nat.le_of_ble_eq_true rfl, Nat.le_of_ble_eq_true rfl, Nat.le_of_ble_eq_true rfl, Nat.le_of_ble_eq_true rfl⟩ (k_Ri fun r64 h => ?_)
      exact zG.up (z_iret C dX11_cell_67 hr rfl ⟨rfl, _, rfl, h⟩ (Nat.le_of_ble_eq_true rfl) (Nat.le_of_ble_eq_true rfl))
    · by_cases c35_1 : a4 = 1
      · have h := h.2.1 c35_1
        refine z_lookup C dX11_cell_35 (off := 33) (tgt := 68) (by decide) (by rw [c35_1]; decide +kernel) (by decide) ?_
        refine z_aload C dX11_cell_68 rfl ?_
        refine z_iload_n C dX11_cell_70 (i := 2) rfl rfl ?_
        refine z_iload_n C dX11_cell_71 (i := 3) rfl rfl ?_
        refine z_aload_n C dX11_cell_72 (i := 0) rfl rfl ?_
        refine t_get C dX11_cell_73 fl_X11_111 (k := 10) (i := 0) (by decide) rfl (fg_10_15 _ _ _) ?_
        refine z_aload_n C dX11_cell_76 (i := 0) rfl rfl ?_
        refine t_get C dX11_cell_77 fl_X11_65 (k := 10) (i := 0) (by decide) rfl (fg_10_16 _ _ _) ?_
        refine t_get C dX11_cell_80 fl_X11_296 (k := 24) (i := zgP st 10 0 16) (by decide) rfl (fg_24_9 _ _ _) ?_
        refine t_callV C (rest := []) (c2 := 3) (s2 := 18) (kd := 20) (i := r2) [.int (a2), .int (a3), .int (zgF st 10 0 15), .int (zgF st 24 (zgP st 10 0 16) 9)] dX11_cell_83 lk_X11_316 li_X8_valueOf le_X8_valueOf (c_X8_valueOf hfl h) rfl rfl (by decide) rfl ⟨_, rfl⟩ rfl ⟨Nat.le_of_ble_eq_true rfl, Nat.le_of_ble_eq_true rfl⟩ (Nat.le_of_ble_eq_true rfl) ⟨Nat.le_of_ble_eq_true rfl, Nat.le_of_ble_eq_true rfl, Nat.le_of_ble_eq_true rfl, Nat.le_of_ble_eq_true rfl⟩ (k_Ri fun r83 h => ?_)
        exact zG.up (z_iret C dX11_cell_86 hr rfl ⟨rfl, _, rfl, h⟩ (Nat.le_of_ble_eq_true rfl) (Nat.le_of_ble_eq_true rfl))
      · have h := h.2.2 ⟨c35_0, c35_1⟩
        refine z_lookup C dX11_cell_35 (off := 52) (tgt := 87) (by decide) ((lv_osw c35_0 (by decide)).trans ((lv_osw c35_1 (by decide)).trans rfl)) (by decide) ?_
        refine z_aload C dX11_cell_87 rfl ?_
        refine z_iload_n C dX11_cell_89 (i := 2) rfl rfl ?_
        refine z_iload_n C dX11_cell_90 (i := 3) rfl rfl ?_
        refine t_callV C (rest := []) (c2 := 3) (s2 := 18) (kd := 20) (i := r2) [.int (a2), .int (a3)] dX11_cell_91 lk_X11_320 li_X8_usersOf le_X8_usersOf (c_X8_usersOf hfl h) rfl rfl (by decide) rfl ⟨_, rfl⟩ rfl ⟨Nat.le_of_ble_eq_true rfl, Nat.le_of_ble_eq_true rfl⟩ (Nat.le_of_ble_eq_true rfl) ⟨Nat.le_of_ble_eq_true rfl, Nat.le_of_ble_eq_true rfl, Nat.le_of_ble_eq_true rfl, Nat.le_of_ble_eq_true rfl⟩ (k_Ri fun r91 h => ?_)
        exact zG.up (z_iret C dX11_cell_94 hr rfl ⟨rfl, _, rfl, h⟩ (Nat.le_of_ble_eq_true rfl) (Nat.le_of_ble_eq_true rfl))
  · have h := h.1 c28
    refine z_iconst C dX11_cell_31 (v := (-1)) (by decide) ?_
    exact zG.up (z_iret C dX11_cell_32 hr rfl ⟨rfl, _, rfl, h⟩ (Nat.le_of_ble_eq_true rfl) (Nat.le_of_ble_eq_true rfl))
def w_X12_isWord_6 (P : Int32 → zTs → Prop)  : Nat → zTs → Nat → Int32 → Prop
  | 0, _, _, _ => False
  | n9 + 1, st, a1, a2 => (a1 < 34) ∧ (w_J0_length_8abf5_s st a1 (fun (r8 : Int32) => ((r8 ≤ a2 → (a1 < 34) ∧ (w_J0_length_8abf5_s st a1 (fun (r46 : Int32) => (w_X12_byteAt st ((zgF st 100 0 8) + r46) (fun (r50 : Int32) => ((r50 < 97 → P 1 st) ∧ (¬ r50 < 97 → (r50 ≤ 122 → P 0 st) ∧ (¬ r50 ≤ 122 → P 1 st)))))))) ∧ (¬ r8 ≤ a2 → w_X12_byteAt st ((zgF st 100 0 8) + a2) (fun (r21 : Int32) => ((a1 < 34) ∧ (w_J0_charAt_5068e_si st a1 a2 (fun (r26 : Int32) (s26 : zTs) => ((r21 = r26 → ∀ x34 : Int32, x34 = a2 + 1 → ((w_X12_isWord_6 P n9) s26 a1 x34)) ∧ (¬ r21 = r26 → P 0 s26))))))))))
set_option maxHeartbeats 4000000 in
set_option maxRecDepth 100000 in
theorem j_X12_isWord_6 {P : Int32 → zTs → Prop}  (hfl : l.stackTraces = false) (C : zC Z p s m args meth c cX12_isWord 3 RX12) (hr : meth.sig.returnType = (some .boolean)) (hn9 : True)  : ∀ (n9 : Nat) (st : zTs) (a1 : Nat) (a2 : Int32), w_X12_isWord_6 P n9 st a1 a2 → zG Z ad0 h0 p l e ({ frames := 5, cells := 0, slots := 0, locals := 97 } : Room) s m args below meth c (MQ below (zQ Z ad0 h0 (zWi Z P)) args s 0 0 (zA Z)) 0 0 (zh Z zm1 st) 3 6 [some (.ref 100), some (.ref (200 + 256 * a1)), some (.int (a2))] [] := by
  intro n9
  induction n9 with
  | zero => intro st a1 a2 h; exact h.elim
  | succ n9 hK6 =>
    intro st a1 a2 h
    rw [w_X12_isWord_6] at h
    refine z_iload_n C dX12_isWord_6 (i := 2) rfl rfl ?_
    refine z_aload_n C dX12_isWord_7 (i := 1) rfl rfl ?_
    obtain ⟨g8, h⟩ := h
    refine z_kcallV C (rest := [.int (a2)]) (b := 200 + 256 * a1) (av := []) dX12_isWord_8 lk_X12_245 li_J0_length_8abf5 le_J0_length_8abf5 (c_J0_length_8abf5_s hfl h) rfl rfl (zk_md200 a1) (zk_recS g8) ⟨Nat.le_of_ble_eq_true rfl, Nat.le_of_ble_eq_true rfl⟩ (Nat.le_of_ble_eq_true rfl) ⟨Nat.le_of_ble_eq_true rfl, Nat.le_of_ble_eq_true rfl⟩ (k_Ri fun r8 h => ?_)
    refine z_icmp_ge C dX12_isWord_11 (tgt := 40) (by decide) (fun c11 => ?_) (fun c11 => ?_)
    · have h := h.1 c11
      refine z_aload_n C dX12_isWord_40 (i := 0) rfl rfl ?_
      refine z_aload_n C dX12_isWord_41 (i := 0) rfl rfl ?_
      refine t_get C dX12_isWord_42 fl_X12_232 (k := 100) (i := 0) (by decide) rfl (fg_100_8 _ _ _) ?_
      refine z_aload_n C dX12_isWord_45 (i := 1) rfl rfl ?_
      obtain ⟨g46, h⟩ := h
      refine z_kcallV C (rest := [.int (zgF st 100 0 8), .ref 100]) (b := 200 + 256 * a1) (av := []) dX12_isWord_46 lk_X12_245 li_J0_length_8abf5 le_J0_length_8abf5 (c_J0_length_8abf5_s hfl h) rfl rfl (zk_md200 a1) (zk_recS g46) ⟨Nat.le_of_ble_eq_true rfl, Nat.le_of_ble_eq_true rfl⟩ (Nat.le_of_ble_eq_true rfl) ⟨Nat.le_of_ble_eq_true rfl, Nat.le_of_ble_eq_true rfl⟩ (k_Ri fun r46 h => ?_)
      refine z_iadd C dX12_isWord_49 ?_
      refine t_callV C (rest := []) (c2 := 0) (s2 := 0) (kd := 100) (i := 0) [.int ((zgF st 100 0 8) + r46)] dX12_isWord_50 lk_X12_235 li_X12_byteAt le_X12_byteAt (c_X12_byteAt hfl h) rfl rfl (by decide) rfl ⟨_, rfl⟩ rfl ⟨Nat.le_of_ble_eq_true rfl, Nat.le_of_ble_eq_true rfl⟩ (Nat.le_of_ble_eq_true rfl) ⟨Nat.le_of_ble_eq_true rfl, Nat.le_of_ble_eq_true rfl, Nat.le_of_ble_eq_true rfl, Nat.le_of_ble_eq_true rfl⟩ (k_Ri fun r50 h => ?_)
      refine z_istore_n C dX12_isWord_53 (i := 2) (lc' := [some (.ref 100), some (.ref (200 + 256 * a1)), some (.int (r50))]) rfl (by decide) rfl ?_
      refine z_iload_n C dX12_isWord_54 (i := 2) rfl rfl ?_
      refine z_bipush C dX12_isWord_55 (v := 97) (by decide) ?_
      refine z_icmp_lt C dX12_isWord_57 (tgt := 66) (by decide) (fun c57 => ?_) (fun c57 => ?_)
      · have h := h.1 c57
        refine z_iconst C dX12_isWord_66 (v := 1) (by decide) ?_
        refine z_goto C dX12_isWord_67 (tgt := 71) (by decide) ?_
        exact z_iret C dX12_isWord_71 hr rfl ⟨_, _, rfl, rfl, h⟩ (Nat.le_of_ble_eq_true rfl) (Nat.le_of_ble_eq_true rfl)
      · have h := h.2 c57
        refine z_iload_n C dX12_isWord_60 (i := 2) rfl rfl ?_
        refine z_bipush C dX12_isWord_61 (v := 122) (by decide) ?_
        refine z_icmp_le C dX12_isWord_63 (tgt := 70) (by decide) (fun c63 => ?_) (fun c63 => ?_)
        · have h := h.1 c63
          refine z_iconst C dX12_isWord_70 (v := 0) (by decide) ?_
          exact z_iret C dX12_isWord_71 hr rfl ⟨_, _, rfl, rfl, h⟩ (Nat.le_of_ble_eq_true rfl) (Nat.le_of_ble_eq_true rfl)
        · have h := h.2 c63
          refine z_iconst C dX12_isWord_66 (v := 1) (by decide) ?_
          refine z_goto C dX12_isWord_67 (tgt := 71) (by decide) ?_
          exact z_iret C dX12_isWord_71 hr rfl ⟨_, _, rfl, rfl, h⟩ (Nat.le_of_ble_eq_true rfl) (Nat.le_of_ble_eq_true rfl)
    · have h := h.2 c11
      refine z_aload_n C dX12_isWord_14 (i := 0) rfl rfl ?_
      refine z_aload_n C dX12_isWord_15 (i := 0) rfl rfl ?_
      refine t_get C dX12_isWord_16 fl_X12_232 (k := 100) (i := 0) (by decide) rfl (fg_100_8 _ _ _) ?_
      refine z_iload_n C dX12_isWord_19 (i := 2) rfl rfl ?_
      refine z_iadd C dX12_isWord_20 ?_
      refine t_callV C (rest := []) (c2 := 0) (s2 := 0) (kd := 100) (i := 0) [.int ((zgF st 100 0 8) + a2)] dX12_isWord_21 lk_X12_235 li_X12_byteAt le_X12_byteAt (c_X12_byteAt hfl h) rfl rfl (by decide) rfl ⟨_, rfl⟩ rfl ⟨Nat.le_of_ble_eq_true rfl, Nat.le_of_ble_eq_true rfl⟩ (Nat.le_of_ble_eq_true rfl) ⟨Nat.le_of_ble_eq_true rfl, Nat.le_of_ble_eq_true rfl, Nat.le_of_ble_eq_true rfl, Nat.le_of_ble_eq_true rfl⟩ (k_Ri fun r21 h => ?_)
      refine z_aload_n C dX12_isWord_24 (i := 1) rfl rfl ?_
      refine z_iload_n C dX12_isWord_25 (i := 2) rfl rfl ?_
      obtain ⟨g26, h⟩ := h
      refine z_kcallV C (rest := [.int (r21)]) (b := 200 + 256 * a1) (av := [.int (a2)]) dX12_isWord_26 lk_X12_251 li_J0_charAt_5068e le_J0_charAt_5068e (c_J0_charAt_5068e_si hfl h) rfl rfl (zk_md200 a1) (zk_recS g26) ⟨Nat.le_of_ble_eq_true rfl, Nat.le_of_ble_eq_true rfl⟩ (Nat.le_of_ble_eq_true rfl) ⟨Nat.le_of_ble_eq_true rfl, Nat.le_of_ble_eq_true rfl⟩ (k_Wi fun r26 s26 h => ?_)
      refine z_icmp_eq C dX12_isWord_29 (tgt := 34) (by decide) (fun c29 => ?_) (fun c29 => ?_)
      · have h := h.1 c29
        obtain ⟨x34, ex34⟩ : ∃ z : Int32, z = a2 + 1 := ⟨_, rfl⟩
        have h := h x34 ex34
        refine z_iinc C dX12_isWord_34 (v := x34) (lc' := [some (.ref 100), some (.ref (200 + 256 * a1)), some (.int (x34))]) rfl (by decide) (by rw [ex34]; rfl) rfl ?_
        refine z_goto C dX12_isWord_37 (tgt := 6) (by decide) ?_
        exact t_drop [true, true, true] rfl (hK6 s26 a1 x34 h)
      · have h := h.2 c29
        refine z_iconst C dX12_isWord_32 (v := 0) (by decide) ?_
        exact z_iret C dX12_isWord_33 hr rfl ⟨_, _, rfl, rfl, h⟩ (Nat.le_of_ble_eq_true rfl) (Nat.le_of_ble_eq_true rfl)
def w_X12_isWord (st : zTs) (a1 : Nat) (P : Int32 → zTs → Prop) : Prop := w_X12_blanks st (fun (s1 : zTs) => (w_X12_isWord_6 P zfu s1 a1 (0)))
set_option maxHeartbeats 4000000 in
set_option maxRecDepth 100000 in
theorem c_X12_isWord {Z : zZ} {l : Launch} (hfl : l.stackTraces = false) {st : zTs} {a1 : Nat} {P : Int32 → zTs → Prop} (h : w_X12_isWord st a1 P) : zN Z l yX12_isWord cX12_isWord 3 (some .boolean) ({ frames := 5, cells := 0, slots := 0, locals := 97 } : Room) (zh Z zm1 st) [.ref 100, .ref (200 + 256 * a1)] (zWi Z P) := by
  unfold w_X12_isWord at h
  refine z_enterN (by decide) (Nat.le_of_ble_eq_true rfl) (lc0 := [some (.ref 100), some (.ref (200 + 256 * a1)), none]) rfl ?_
  intro p e s m args below meth c ad0 C hr _
  have hn9 : True := trivial
  replace C : zC Z p s m args meth c cX12_isWord 3 RX12 := C
  refine z_aload_n C dX12_isWord_0 (i := 0) rfl rfl ?_
  refine t_callV C (rest := []) (c2 := 0) (s2 := 0) (kd := 100) (i := 0) [] dX12_isWord_1 lk_X12_242 li_X12_blanks le_X12_blanks (c_X12_blanks hfl h) rfl rfl (by decide) rfl ⟨_, rfl⟩ rfl ⟨Nat.le_of_ble_eq_true rfl, Nat.le_of_ble_eq_true rfl⟩ (Nat.le_of_ble_eq_true rfl) ⟨Nat.le_of_ble_eq_true rfl, Nat.le_of_ble_eq_true rfl, Nat.le_of_ble_eq_true rfl, Nat.le_of_ble_eq_true rfl⟩ (k_Wv fun s1 h => ?_)
  refine z_iconst C dX12_isWord_4 (v := 0) (by decide) ?_
  refine z_istore_n C dX12_isWord_5 (i := 2) (lc' := [some (.ref 100), some (.ref (200 + 256 * a1)), some (.int (0))]) rfl (by decide) rfl ?_
  exact t_drop [true, true, true] rfl (j_X12_isWord_6 hfl C hr hn9  zfu s1 a1 (0) h)
def w_X12_eat_20 (P : Int32 → zTs → Prop)  (st : zTs) (a1 : Nat) (b0 : Int32) : Prop := (b0 = 0 → (b0 = 0 ∨ b0 = 1) ∧ (P b0 st)) ∧ (¬ b0 = 0 → (a1 < 34) ∧ (w_J0_length_8abf5_s st a1 (fun (r31 : Int32) => (∀ s35 : zTs, s35 = zuF st 100 0 8 ((zgF st 100 0 8) + r31) → ((b0 = 0 ∨ b0 = 1) ∧ (P b0 s35))))))
set_option maxHeartbeats 4000000 in
set_option maxRecDepth 100000 in
theorem j_X12_eat_20 {P : Int32 → zTs → Prop}  (hfl : l.stackTraces = false) (C : zC Z p s m args meth c cX12_eat 3 RX12) (hr : meth.sig.returnType = (some .boolean)) (hn9 : True)  (st : zTs) (a1 : Nat) (b0 : Int32) (h : w_X12_eat_20 P st a1 b0) : zG Z ad0 h0 p l e ({ frames := 6, cells := 0, slots := 0, locals := 119 } : Room) s m args below meth c (MQ below (zQ Z ad0 h0 (zWi Z P)) args s 0 0 (zA Z)) 0 0 (zh Z zm1 st) 3 20 [some (.ref 100), some (.ref (200 + 256 * a1)), none] [.int (b0)] := by
  unfold w_X12_eat_20 at h
  refine z_istore_n C dX12_eat_20 (i := 2) (lc' := [some (.ref 100), some (.ref (200 + 256 * a1)), some (.int (b0))]) rfl (by decide) rfl ?_
  refine z_iload_n C dX12_eat_21 (i := 2) rfl rfl ?_
  refine z_if_eq C dX12_eat_22 (tgt := 38) (by decide) (fun c22 => ?_) (fun c22 => ?_)
  · have h := h.1 c22
    refine z_iload_n C dX12_eat_38 (i := 2) rfl rfl ?_
    obtain ⟨g39, h⟩ := h
    exact z_iret C dX12_eat_39 hr (zn_bool g39) ⟨_, _, rfl, rfl, h⟩ (Nat.le_of_ble_eq_true rfl) (Nat.le_of_ble_eq_true rfl)
  · have h := h.2 c22
    refine z_aload_n C dX12_eat_25 (i := 0) rfl rfl ?_
    refine z_dup C dX12_eat_26 rfl ?_
    refine t_get C dX12_eat_27 fl_X12_232 (k := 100) (i := 0) (by decide) rfl (fg_100_8 _ _ _) ?_
    refine z_aload_n C dX12_eat_30 (i := 1) rfl rfl ?_
    obtain ⟨g31, h⟩ := h
    refine z_kcallV C (rest := [.int (zgF st 100 0 8), .ref 100]) (b := 200 + 256 * a1) (av := []) dX12_eat_31 lk_X12_245 li_J0_length_8abf5 le_J0_length_8abf5 (c_J0_length_8abf5_s hfl h) rfl rfl (zk_md200 a1) (zk_recS g31) ⟨Nat.le_of_ble_eq_true rfl, Nat.le_of_ble_eq_true rfl⟩ (Nat.le_of_ble_eq_true rfl) ⟨Nat.le_of_ble_eq_true rfl, Nat.le_of_ble_eq_true rfl⟩ (k_Ri fun r31 h => ?_)
    refine z_iadd C dX12_eat_34 ?_
    refine t_put C dX12_eat_35 fq_X12_232 (Or.inl rfl) (k := 100) (i := 0) (by decide) rfl ⟨rfl, rfl⟩ (fp_100_8 _ _ _ _ _) ?_
    refine t_tops (fun s35 es35 => ?_)
    have h := h s35 es35
    refine z_iload_n C dX12_eat_38 (i := 2) rfl rfl ?_
    obtain ⟨g39, h⟩ := h
    exact z_iret C dX12_eat_39 hr (zn_bool g39) ⟨_, _, rfl, rfl, h⟩ (Nat.le_of_ble_eq_true rfl) (Nat.le_of_ble_eq_true rfl)
def w_X12_eat_19 (P : Int32 → zTs → Prop)  (st : zTs) (a1 : Nat) : Prop := w_X12_eat_20 P st a1 (0)
set_option maxHeartbeats 4000000 in
set_option maxRecDepth 100000 in
theorem j_X12_eat_19 {P : Int32 → zTs → Prop}  (hfl : l.stackTraces = false) (C : zC Z p s m args meth c cX12_eat 3 RX12) (hr : meth.sig.returnType = (some .boolean)) (hn9 : True)  (st : zTs) (a1 : Nat) (h : w_X12_eat_19 P st a1) : zG Z ad0 h0 p l e ({ frames := 6, cells := 0, slots := 0, locals := 119 } : Room) s m args below meth c (MQ below (zQ Z ad0 h0 (zWi Z P)) args s 0 0 (zA Z)) 0 0 (zh Z zm1 st) 3 19 [some (.ref 100), some (.ref (200 + 256 * a1)), none] [] := by
  unfold w_X12_eat_19 at h
  refine z_iconst C dX12_eat_19 (v := 0) (by decide) ?_
  exact t_drop [true, true, false] rfl (j_X12_eat_20 hfl C hr hn9  st a1 (0) h)
def w_X12_eat (st : zTs) (a1 : Nat) (P : Int32 → zTs → Prop) : Prop := ((zgF st 100 0 9) = 0 → w_X12_isWord st a1 (fun (r9 : Int32) (s9 : zTs) => ((r9 = 0 → w_X12_eat_19 P s9 a1) ∧ (¬ r9 = 0 → w_X12_eat_20 P s9 a1 (1))))) ∧ (¬ (zgF st 100 0 9) = 0 → w_X12_eat_19 P st a1)
set_option maxHeartbeats 4000000 in
set_option maxRecDepth 100000 in
theorem c_X12_eat {Z : zZ} {l : Launch} (hfl : l.stackTraces = false) {st : zTs} {a1 : Nat} {P : Int32 → zTs → Prop} (h : w_X12_eat st a1 P) : zN Z l yX12_eat cX12_eat 3 (some .boolean) ({ frames := 6, cells := 0, slots := 0, locals := 119 } : Room) (zh Z zm1 st) [.ref 100, .ref (200 + 256 * a1)] (zWi Z P) := by
  unfold w_X12_eat at h
  refine z_enterN (by decide) (Nat.le_of_ble_eq_true rfl) (lc0 := [some (.ref 100), some (.ref (200 + 256 * a1)), none]) rfl ?_
  intro p e s m args below meth c ad0 C hr _
  have hn9 : True := trivial
  replace C : zC Z p s m args meth c cX12_eat 3 RX12 := C
  refine z_aload_n C dX12_eat_0 (i := 0) rfl rfl ?_
  refine t_get C dX12_eat_1 fl_X12_239 (k := 100) (i := 0) (by decide) rfl (fg_100_9 _ _ _) ?_
  refine z_if_ne C dX12_eat_4 (tgt := 19) (by decide) (fun c4 => ?_) (fun c4 => ?_)
  · have h := h.2 c4
    exact t_drop [true, true, false] rfl (j_X12_eat_19 hfl C hr hn9  st a1 h)
  · have h := h.1 c4
    refine z_aload_n C dX12_eat_7 (i := 0) rfl rfl ?_
    refine z_aload_n C dX12_eat_8 (i := 1) rfl rfl ?_
    refine t_callV C (rest := []) (c2 := 0) (s2 := 0) (kd := 100) (i := 0) [.ref (200 + 256 * a1)] dX12_eat_9 lk_X12_255 li_X12_isWord le_X12_isWord (c_X12_isWord hfl h) rfl rfl (by decide) rfl ⟨_, rfl⟩ rfl ⟨Nat.le_of_ble_eq_true rfl, Nat.le_of_ble_eq_true rfl⟩ (Nat.le_of_ble_eq_true rfl) ⟨Nat.le_of_ble_eq_true rfl, Nat.le_of_ble_eq_true rfl, Nat.le_of_ble_eq_true rfl, Nat.le_of_ble_eq_true rfl⟩ (k_Wi fun r9 s9 h => ?_)
    refine z_if_eq C dX12_eat_12 (tgt := 19) (by decide) (fun c12 => ?_) (fun c12 => ?_)
    · have h := h.1 c12
      exact t_drop [true, true, false] rfl (j_X12_eat_19 hfl C hr hn9  s9 a1 h)
    · have h := h.2 c12
      refine z_iconst C dX12_eat_15 (v := 1) (by decide) ?_
      refine z_goto C dX12_eat_16 (tgt := 20) (by decide) ?_
      exact t_drop [true, true, false] rfl (j_X12_eat_20 hfl C hr hn9  s9 a1 (1) h)
def w_X12_wordOf (st : zTs) (a0 : Int32) (P : Nat → Prop) : Prop := (a0 = 0 → P 1) ∧ (a0 = 1 → P 2) ∧ (a0 = 2 → P 3) ∧ (a0 = 3 → P 4) ∧ (a0 = 4 → P 5) ∧ (a0 = 5 → P 6) ∧ (a0 = 6 → P 7) ∧ (a0 = 7 → P 8) ∧ (a0 = 8 → P 9) ∧ (a0 = 9 → P 10) ∧ (a0 = 10 → P 11) ∧ (a0 = 11 → P 12) ∧ (a0 = 12 → P 13) ∧ (¬ a0 = 0 ∧ ¬ a0 = 1 ∧ ¬ a0 = 2 ∧ ¬ a0 = 3 ∧ ¬ a0 = 4 ∧ ¬ a0 = 5 ∧ ¬ a0 = 6 ∧ ¬ a0 = 7 ∧ ¬ a0 = 8 ∧ ¬ a0 = 9 ∧ ¬ a0 = 10 ∧ ¬ a0 = 11 ∧ ¬ a0 = 12 → P 14)
set_option maxHeartbeats 4000000 in
set_option maxRecDepth 100000 in
theorem c_X12_wordOf {Z : zZ} {l : Launch} (hfl : l.stackTraces = false) {st : zTs} {a0 : Int32} {P : Nat → Prop} (h : w_X12_wordOf st a0 P) : zN Z l yX12_wordOf cX12_wordOf 1 (some (.object "java/lang/String")) ({ frames := 1, cells := 0, slots := 0, locals := 12 } : Room) (zh Z zm1 st) [.int (a0)] (zRr Z st 200 P) := by
  unfold w_X12_wordOf at h
  refine z_enterN (by decide) (Nat.le_of_ble_eq_true rfl) (lc0 := [some (.int (a0))]) rfl ?_
  intro p e s m args below meth c ad0 C hr _
  have hn9 : True := trivial
  replace C : zC Z p s m args meth c cX12_wordOf 1 RX12 := C
  refine z_iload_n C dX12_wordOf_0 (i := 0) rfl rfl ?_
  by_cases c1_0 : a0 = 0
  · have h := h.1 c1_0
    refine z_tableIn C dX12_wordOf_1 (off := 67) (tgt := 68) (by rw [c1_0]; decide) (by rw [c1_0]; decide) (by rw [c1_0]; rfl) (by decide) ?_
    refine z_ldc_wS C dX12_wordOf_68 (i := 1) (text := "raise") (by decide) ?_
    exact z_aret C dX12_wordOf_71 hr (Or.inl ⟨_, rfl⟩) (Or.inr ⟨_, rfl⟩) ⟨rfl, _, rfl, h⟩ (Nat.le_of_ble_eq_true rfl) (Nat.le_of_ble_eq_true rfl)
  · by_cases c1_1 : a0 = 1
    · have h := h.2.1 c1_1
      refine z_tableIn C dX12_wordOf_1 (off := 71) (tgt := 72) (by rw [c1_1]; decide) (by rw [c1_1]; decide) (by rw [c1_1]; rfl) (by decide) ?_
      refine z_ldc_wS C dX12_wordOf_72 (i := 2) (text := "cut") (by decide) ?_
      exact z_aret C dX12_wordOf_75 hr (Or.inl ⟨_, rfl⟩) (Or.inr ⟨_, rfl⟩) ⟨rfl, _, rfl, h⟩ (Nat.le_of_ble_eq_true rfl) (Nat.le_of_ble_eq_true rfl)
    · by_cases c1_2 : a0 = 2
      · have h := h.2.2.1 c1_2
        refine z_tableIn C dX12_wordOf_1 (off := 75) (tgt := 76) (by rw [c1_2]; decide) (by rw [c1_2]; decide) (by rw [c1_2]; rfl) (by decide) ?_
        refine z_ldc_wS C dX12_wordOf_76 (i := 3) (text := "dig") (by decide) ?_
        exact z_aret C dX12_wordOf_79 hr (Or.inl ⟨_, rfl⟩) (Or.inr ⟨_, rfl⟩) ⟨rfl, _, rfl, h⟩ (Nat.le_of_ble_eq_true rfl) (Nat.le_of_ble_eq_true rfl)
      · by_cases c1_3 : a0 = 3
        · have h := h.2.2.2.1 c1_3
          refine z_tableIn C dX12_wordOf_1 (off := 79) (tgt := 80) (by rw [c1_3]; decide) (by rw [c1_3]; decide) (by rw [c1_3]; rfl) (by decide) ?_
          refine z_ldc_wS C dX12_wordOf_80 (i := 4) (text := "cover") (by decide) ?_
          exact z_aret C dX12_wordOf_83 hr (Or.inl ⟨_, rfl⟩) (Or.inr ⟨_, rfl⟩) ⟨rfl, _, rfl, h⟩ (Nat.le_of_ble_eq_true rfl) (Nat.le_of_ble_eq_true rfl)
        · by_cases c1_4 : a0 = 4
          · have h := h.2.2.2.2.1 c1_4
            refine z_tableIn C dX12_wordOf_1 (off := 83) (tgt := 84) (by rw [c1_4]; decide) (by rw [c1_4]; decide) (by rw [c1_4]; rfl) (by decide) ?_
            refine z_ldc_wS C dX12_wordOf_84 (i := 5) (text := "post") (by decide) ?_
            exact z_aret C dX12_wordOf_87 hr (Or.inl ⟨_, rfl⟩) (Or.inr ⟨_, rfl⟩) ⟨rfl, _, rfl, h⟩ (Nat.le_of_ble_eq_true rfl) (Nat.le_of_ble_eq_true rfl)
          · by_cases c1_5 : a0 = 5
            · have h := h.2.2.2.2.2.1 c1_5
              refine z_tableIn C dX12_wordOf_1 (off := 87) (tgt := 88) (by rw [c1_5]; decide) (by rw [c1_5]; decide) (by rw [c1_5]; rfl) (by decide) ?_
              refine z_ldc_wS C dX12_wordOf_88 (i := 6) (text := "rest") (by decide) ?_
              exact z_aret C dX12_wordOf_91 hr (Or.inl ⟨_, rfl⟩) (Or.inr ⟨_, rfl⟩) ⟨rfl, _, rfl, h⟩ (Nat.le_of_ble_eq_true rfl) (Nat.le_of_ble_eq_true rfl)
            · by_cases c1_6 : a0 = 6
              · have h := h.2.2.2.2.2.2.1 c1_6
                refine z_tableIn C dX12_wordOf_1 (off := 91) (tgt := 92) (by rw [c1_6]; decide) (by rw [c1_6]; decide) (by rw [c1_6]; rfl) (by decide) ?_
                refine z_ldc_wS C dX12_wordOf_92 (i := 7) (text := "reply") (by decide) ?_
                exact z_aret C dX12_wordOf_95 hr (Or.inl ⟨_, rfl⟩) (Or.inr ⟨_, rfl⟩) ⟨rfl, _, rfl, h⟩ (Nat.le_of_ble_eq_true rfl) (Nat.le_of_ble_eq_true rfl)
              · by_cases c1_7 : a0 = 7
                · have h := h.2.2.2.2.2.2.2.1 c1_7
                  refine z_tableIn C dX12_wordOf_1 (off := 95) (tgt := 96) (by rw [c1_7]; decide) (by rw [c1_7]; decide) (by rw [c1_7]; rfl) (by decide) ?_
                  refine z_ldc_wS C dX12_wordOf_96 (i := 8) (text := "silence") (by decide) ?_
                  exact z_aret C dX12_wordOf_99 hr (Or.inl ⟨_, rfl⟩) (Or.inr ⟨_, rfl⟩) ⟨rfl, _, rfl, h⟩ (Nat.le_of_ble_eq_true rfl) (Nat.le_of_ble_eq_true rfl)
                · by_cases c1_8 : a0 = 8
                  · have h := h.2.2.2.2.2.2.2.2.1 c1_8
                    refine z_tableIn C dX12_wordOf_1 (off := 99) (tgt := 100) (by rw [c1_8]; decide) (by rw [c1_8]; decide) (by rw [c1_8]; rfl) (by decide) ?_
                    refine z_ldc_wS C dX12_wordOf_100 (i := 9) (text := "appoint") (by decide) ?_
                    exact z_aret C dX12_wordOf_103 hr (Or.inl ⟨_, rfl⟩) (Or.inr ⟨_, rfl⟩) ⟨rfl, _, rfl, h⟩ (Nat.le_of_ble_eq_true rfl) (Nat.le_of_ble_eq_true rfl)
                  · by_cases c1_9 : a0 = 9
                    · have h := h.2.2.2.2.2.2.2.2.2.1 c1_9
                      refine z_tableIn C dX12_wordOf_1 (off := 103) (tgt := 104) (by rw [c1_9]; decide) (by rw [c1_9]; decide) (by rw [c1_9]; rfl) (by decide) ?_
                      refine z_ldc_wS C dX12_wordOf_104 (i := 10) (text := "appeal") (by decide) ?_
                      exact z_aret C dX12_wordOf_107 hr (Or.inl ⟨_, rfl⟩) (Or.inr ⟨_, rfl⟩) ⟨rfl, _, rfl, h⟩ (Nat.le_of_ble_eq_true rfl) (Nat.le_of_ble_eq_true rfl)
                    · by_cases c1_10 : a0 = 10
                      · have h := h.2.2.2.2.2.2.2.2.2.2.1 c1_10
                        refine z_tableIn C dX12_wordOf_1 (off := 107) (tgt := 108) (by rw [c1_10]; decide) (by rw [c1_10]; decide) (by rw [c1_10]; rfl) (by decide) ?_
                        refine z_ldc_wS C dX12_wordOf_108 (i := 11) (text := "fade") (by decide) ?_
                        exact z_aret C dX12_wordOf_111 hr (Or.inl ⟨_, rfl⟩) (Or.inr ⟨_, rfl⟩) ⟨rfl, _, rfl, h⟩ (Nat.le_of_ble_eq_true rfl) (Nat.le_of_ble_eq_true rfl)
                      · by_cases c1_11 : a0 = 11
                        · have h := h.2.2.2.2.2.2.2.2.2.2.2.1 c1_11
                          refine z_tableIn C dX12_wordOf_1 (off := 111) (tgt := 112) (by rw [c1_11]; decide) (by rw [c1_11]; decide) (by rw [c1_11]; rfl) (by decide) ?_
                          refine z_ldc_wS C dX12_wordOf_112 (i := 12) (text := "season") (by decide) ?_
                          exact z_aret C dX12_wordOf_115 hr (Or.inl ⟨_, rfl⟩) (Or.inr ⟨_, rfl⟩) ⟨rfl, _, rfl, h⟩ (Nat.le_of_ble_eq_true rfl) (Nat.le_of_ble_eq_true rfl)
                        · by_cases c1_12 : a0 = 12
                          · have h := h.2.2.2.2.2.2.2.2.2.2.2.2.1 c1_12
                            refine z_tableIn C dX12_wordOf_1 (off := 115) (tgt := 116) (by rw [c1_12]; decide) (by rw [c1_12]; decide) (by rw [c1_12]; rfl) (by decide) ?_
                            refine z_ldc_wS C dX12_wordOf_116 (i := 13) (text := "near") (by decide) ?_
                            exact z_aret C dX12_wordOf_119 hr (Or.inl ⟨_, rfl⟩) (Or.inr ⟨_, rfl⟩) ⟨rfl, _, rfl, h⟩ (Nat.le_of_ble_eq_true rfl) (Nat.le_of_ble_eq_true rfl)
                          · have h := h.2.2.2.2.2.2.2.2.2.2.2.2.2 ⟨c1_0, c1_1, c1_2, c1_3, c1_4, c1_5, c1_6, c1_7, c1_8, c1_9, c1_10, c1_11, c1_12⟩
                            refine z_tableOut C dX12_wordOf_1 (tgt := 120) (zsw_out (lt_s (p := fun a => ¬ a0 = nI a) (lt_s (p := fun a => ¬ a0 = nI a) (lt_s (p := fun a => ¬ a0 = nI a) (lt_s (p := fun a => ¬ a0 = nI a) (lt_s (p := fun a => ¬ a0 = nI a) (lt_s (p := fun a => ¬ a0 = nI a) (lt_s (p := fun a => ¬ a0 = nI a) (lt_s (p := fun a => ¬ a0 = nI a) (lt_s (p := fun a => ¬ a0 = nI a) (lt_s (p := fun a => ¬ a0 = nI a) (lt_s (p := fun a => ¬ a0 = nI a) (lt_s (p := fun a => ¬ a0 = nI a) (lt_s (p := fun a => ¬ a0 = nI a) lt_0 c1_0) c1_1) c1_2) c1_3) c1_4) c1_5) c1_6) c1_7) c1_8) c1_9) c1_10) c1_11) c1_12)) (by decide) ?_
                            refine z_ldc_wS C dX12_wordOf_120 (i := 14) (text := "hours") (by decide) ?_
                            exact z_aret C dX12_wordOf_123 hr (Or.inl ⟨_, rfl⟩) (Or.inr ⟨_, rfl⟩) ⟨rfl, _, rfl, h⟩ (Nat.le_of_ble_eq_true rfl) (Nat.le_of_ble_eq_true rfl)
def w_X12_wordHere_2 (P : Int32 → zTs → Prop)  : Nat → zTs → Int32 → Prop
  | 0, _, _ => False
  | n9 + 1, st, a1 => (13 < a1 → P (-1) st) ∧ (¬ 13 < a1 → w_X12_wordOf st a1 (fun (r10 : Nat) => (w_X12_isWord st r10 (fun (r13 : Int32) (s13 : zTs) => ((r13 = 0 → ∀ x21 : Int32, x21 = a1 + 1 → ((w_X12_wordHere_2 P n9) s13 x21)) ∧ (¬ r13 = 0 → P a1 s13))))))
set_option maxHeartbeats 4000000 in
set_option maxRecDepth 100000 in
theorem j_X12_wordHere_2 {P : Int32 → zTs → Prop}  (hfl : l.stackTraces = false) (C : zC Z p s m args meth c cX12_wordHere 2 RX12) (hr : meth.sig.returnType = (some .int)) (hn9 : True)  : ∀ (n9 : Nat) (st : zTs) (a1 : Int32), w_X12_wordHere_2 P n9 st a1 → zG Z ad0 h0 p l e ({ frames := 6, cells := 0, slots := 0, locals := 119 } : Room) s m args below meth c (MQ below (zQ Z ad0 h0 (zWi Z P)) args s 0 0 (zA Z)) 0 0 (zh Z zm1 st) 2 2 [some (.ref 100), some (.int (a1))] [] := by
  intro n9
  induction n9 with
  | zero => intro st a1 h; exact h.elim
  | succ n9 hK2 =>
    intro st a1 h
    rw [w_X12_wordHere_2] at h
    refine z_iload_n C dX12_wordHere_2 (i := 1) rfl rfl ?_
    refine z_bipush C dX12_wordHere_3 (v := 13) (by decide) ?_
    refine z_icmp_gt C dX12_wordHere_5 (tgt := 27) (by decide) (fun c5 => ?_) (fun c5 => ?_)
    · have h := h.1 c5
      refine z_iconst C dX12_wordHere_27 (v := (-1)) (by decide) ?_
      exact z_iret C dX12_wordHere_28 hr rfl ⟨_, _, rfl, rfl, h⟩ (Nat.le_of_ble_eq_true rfl) (Nat.le_of_ble_eq_true rfl)
    · have h := h.2 c5
      refine z_aload_n C dX12_wordHere_8 (i := 0) rfl rfl ?_
      refine z_iload_n C dX12_wordHere_9 (i := 1) rfl rfl ?_
      refine t_callS C (rest := [.ref 100]) (c2 := 0) (s2 := 0) [.int (a1)] dX12_wordHere_10 lk_X12_287 ls_X12_wordOf (c_X12_wordOf hfl h) rfl rfl ⟨Nat.le_of_ble_eq_true rfl, Nat.le_of_ble_eq_true rfl⟩ (Nat.le_of_ble_eq_true rfl) ⟨Nat.le_of_ble_eq_true rfl, Nat.le_of_ble_eq_true rfl, Nat.le_of_ble_eq_true rfl, Nat.le_of_ble_eq_true rfl⟩ (k_Rr fun r10 h => ?_)
      refine t_callV C (rest := []) (c2 := 0) (s2 := 0) (kd := 100) (i := 0) [.ref (200 + 256 * r10)] dX12_wordHere_13 lk_X12_255 li_X12_isWord le_X12_isWord (c_X12_isWord hfl h) rfl rfl (by decide) rfl ⟨_, rfl⟩ rfl ⟨Nat.le_of_ble_eq_true rfl, Nat.le_of_ble_eq_true rfl⟩ (Nat.le_of_ble_eq_true rfl) ⟨Nat.le_of_ble_eq_true rfl, Nat.le_of_ble_eq_true rfl, Nat.le_of_ble_eq_true rfl, Nat.le_of_ble_eq_true rfl⟩ (k_Wi fun r13 s13 h => ?_)
      refine z_if_eq C dX12_wordHere_16 (tgt := 21) (by decide) (fun c16 => ?_) (fun c16 => ?_)
      · have h := h.1 c16
        obtain ⟨x21, ex21⟩ : ∃ z : Int32, z = a1 + 1 := ⟨_, rfl⟩
        have h := h x21 ex21
        refine z_iinc C dX12_wordHere_21 (v := x21) (lc' := [some (.ref 100), some (.int (x21))]) rfl (by decide) (by rw [ex21]; rfl) rfl ?_
        refine z_goto C dX12_wordHere_24 (tgt := 2) (by decide) ?_
        exact t_drop [true, true] rfl (hK2 s13 x21 h)
      · have h := h.2 c16
        refine z_iload_n C dX12_wordHere_19 (i := 1) rfl rfl ?_
        exact z_iret C dX12_wordHere_20 hr rfl ⟨_, _, rfl, rfl, h⟩ (Nat.le_of_ble_eq_true rfl) (Nat.le_of_ble_eq_true rfl)
def w_X12_wordHere (st : zTs)  (P : Int32 → zTs → Prop) : Prop := w_X12_wordHere_2 P zfu st (0)
set_option maxHeartbeats 4000000 in
set_option maxRecDepth 100000 in
theorem c_X12_wordHere {Z : zZ} {l : Launch} (hfl : l.stackTraces = false) {st : zTs}  {P : Int32 → zTs → Prop} (h : w_X12_wordHere st  P) : zN Z l yX12_wordHere cX12_wordHere 2 (some .int) ({ frames := 6, cells := 0, slots := 0, locals := 119 } : Room) (zh Z zm1 st) [.ref 100] (zWi Z P) := by
  unfold w_X12_wordHere at h
  refine z_enterN (by decide) (Nat.le_of_ble_eq_true rfl) (lc0 := [some (.ref 100), none]) rfl ?_
  intro p e s m args below meth c ad0 C hr _
  have hn9 : True := trivial
  replace C : zC Z p s m args meth c cX12_wordHere 2 RX12 := C
  refine z_iconst C dX12_wordHere_0 (v := 0) (by decide) ?_
  refine z_istore_n C dX12_wordHere_1 (i := 1) (lc' := [some (.ref 100), some (.int (0))]) rfl (by decide) rfl ?_
  exact t_drop [true, true] rfl (j_X12_wordHere_2 hfl C hr hn9  zfu st (0) h)
def w_X12_measureOf (st : zTs) (a0 : Int32) (P : Nat → Prop) : Prop := (a0 = 0 → P 21) ∧ (¬ a0 = 0 → (a0 = 1 → P 22) ∧ (¬ a0 = 1 → P 23))
set_option maxHeartbeats 4000000 in
set_option maxRecDepth 100000 in
theorem c_X12_measureOf {Z : zZ} {l : Launch} (hfl : l.stackTraces = false) {st : zTs} {a0 : Int32} {P : Nat → Prop} (h : w_X12_measureOf st a0 P) : zN Z l yX12_measureOf cX12_measureOf 1 (some (.object "java/lang/String")) ({ frames := 1, cells := 0, slots := 0, locals := 12 } : Room) (zh Z zm1 st) [.int (a0)] (zRr Z st 200 P) := by
  unfold w_X12_measureOf at h
  refine z_enterN (by decide) (Nat.le_of_ble_eq_true rfl) (lc0 := [some (.int (a0))]) rfl ?_
  intro p e s m args below meth c ad0 C hr _
  have hn9 : True := trivial
  replace C : zC Z p s m args meth c cX12_measureOf 1 RX12 := C
  refine z_iload_n C dX12_measureOf_0 (i := 0) rfl rfl ?_
  refine z_if_ne C dX12_measureOf_1 (tgt := 10) (by decide) (fun c1 => ?_) (fun c1 => ?_)
  · have h := h.2 c1
    refine z_iload_n C dX12_measureOf_10 (i := 0) rfl rfl ?_
    refine z_iconst C dX12_measureOf_11 (v := 1) (by decide) ?_
    refine z_icmp_ne C dX12_measureOf_12 (tgt := 21) (by decide) (fun c12 => ?_) (fun c12 => ?_)
    · have h := h.2 c12
      refine z_ldc_wS C dX12_measureOf_21 (i := 23) (text := "height") (by decide) ?_
      exact z_aret C dX12_measureOf_24 hr (Or.inl ⟨_, rfl⟩) (Or.inr ⟨_, rfl⟩) ⟨rfl, _, rfl, h⟩ (Nat.le_of_ble_eq_true rfl) (Nat.le_of_ble_eq_true rfl)
    · have h := h.1 c12
      refine z_ldc_wS C dX12_measureOf_15 (i := 22) (text := "close") (by decide) ?_
      refine z_goto C dX12_measureOf_18 (tgt := 24) (by decide) ?_
      exact z_aret C dX12_measureOf_24 hr (Or.inl ⟨_, rfl⟩) (Or.inr ⟨_, rfl⟩) ⟨rfl, _, rfl, h⟩ (Nat.le_of_ble_eq_true rfl) (Nat.le_of_ble_eq_true rfl)
  · have h := h.1 c1
    refine z_ldc_wS C dX12_measureOf_4 (i := 21) (text := "depth") (by decide) ?_
    refine z_goto C dX12_measureOf_7 (tgt := 24) (by decide) ?_
    exact z_aret C dX12_measureOf_24 hr (Or.inl ⟨_, rfl⟩) (Or.inr ⟨_, rfl⟩) ⟨rfl, _, rfl, h⟩ (Nat.le_of_ble_eq_true rfl) (Nat.le_of_ble_eq_true rfl)
end
