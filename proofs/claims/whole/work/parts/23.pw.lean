section
variable {Z : zZ} {p : Program} {l : Launch} {e : Env} {s : State} {m : MethodId} {args : Array Value} {below : List Frame} {meth : Method} {c : Code} {ad0 : Nat → Nat} {h0 : zH}
def w_X11_checkRoom (st : zTs) (a0 : Int32) (a1 : Int32) (X : Nat → Prop) (P : Prop) : Prop := (a0 < a1 → P) ∧ (¬ a0 < a1 → X 2)
set_option maxHeartbeats 4000000 in
set_option maxRecDepth 100000 in
theorem c_X11_checkRoom {Z : zZ} {l : Launch} (hfl : l.stackTraces = false) {st : zTs} {a0 : Int32} {a1 : Int32} {X : Nat → Prop} {P : Prop} (h : w_X11_checkRoom st a0 a1 X P) : zM Z l yX11_checkRoom cX11_checkRoom 2 none ({ frames := 8, cells := 1, slots := 6, locals := 100 } : Room) (zh Z zm1 st) [.int (a0), .int (a1)] (zRv Z st P) (zXr Z st X) := by
  unfold w_X11_checkRoom at h
  refine z_enterM (by decide) (Nat.le_of_ble_eq_true rfl) (lc0 := [some (.int (a0)), some (.int (a1))]) rfl ?_
  intro p e s m args below meth c ad0 C hr hex
  replace C : zC Z p s m args meth c cX11_checkRoom 2 RX11 := C
  refine z_iload_n C dX11_checkRoom_0 (i := 0) rfl rfl ?_
  refine z_iload_n C dX11_checkRoom_1 (i := 1) rfl rfl ?_
  refine z_icmp_lt C dX11_checkRoom_2 (tgt := 16) (by decide) (fun c2 => ?_) (fun c2 => ?_)
  · have h := h.1 c2
    exact zG.up (z_vret C dX11_checkRoom_16 hr ⟨rfl, rfl, h⟩ (Nat.le_of_ble_eq_true rfl) (Nat.le_of_ble_eq_true rfl))
  · have h := h.2 c2
    exact z_throwW C hfl hex (six := 31) (text := "there are as many as there may be") 2 (by decide) tw_2 (by decide +kernel) dX11_checkRoom_5 dX11_checkRoom_8 dX11_checkRoom_9 dX11_checkRoom_12 dX11_checkRoom_15 ⟨Nat.le_of_ble_eq_true rfl, Nat.le_of_ble_eq_true rfl, Nat.le_of_ble_eq_true rfl, Nat.le_of_ble_eq_true rfl⟩ ⟨Nat.le_of_ble_eq_true rfl, Nat.le_of_ble_eq_true rfl⟩ ⟨rfl, h⟩
def w_X11_owner (st : zTs)  (X : Nat → zTs → Prop) (P : Int32 → zTs → Prop) : Prop := w_X11_checkRoom st (zgF st 10 0 12) 20 (fun k9 => X k9 st) ((∀ s16 : zTs, s16 = zuF st 10 0 12 ((zgF st 10 0 12) + 1) → (P ((zgF s16 10 0 12) - 1) s16)))
set_option maxHeartbeats 4000000 in
set_option maxRecDepth 100000 in
theorem c_X11_owner {Z : zZ} {l : Launch} (hfl : l.stackTraces = false) {st : zTs}  {X : Nat → zTs → Prop} {P : Int32 → zTs → Prop} (h : w_X11_owner st  X P) : zM Z l yX11_owner cX11_owner 1 (some .int) ({ frames := 9, cells := 1, slots := 6, locals := 121 } : Room) (zh Z zm1 st) [.ref 10] (zWi Z P) (zXs Z X) := by
  unfold w_X11_owner at h
  refine z_enterM (by decide) (Nat.le_of_ble_eq_true rfl) (lc0 := [some (.ref 10)]) rfl ?_
  intro p e s m args below meth c ad0 C hr hex
  replace C : zC Z p s m args meth c cX11_owner 1 RX11 := C
  refine z_aload_n C dX11_owner_0 (i := 0) rfl rfl ?_
  refine t_get C dX11_owner_1 fl_X11_69 (k := 10) (i := 0) (by decide) rfl (fg_10_12 _ _ _) ?_
  refine z_bipush C dX11_owner_4 (v := 20) (by decide) ?_
  refine t_callSM C hex (rest := []) (c2 := 1) (s2 := 6) [.int (zgF st 10 0 12), .int (20)] dX11_owner_6 lk_X11_73 ls_X11_checkRoom (c_X11_checkRoom hfl h) rfl rfl ⟨Nat.le_of_ble_eq_true rfl, Nat.le_of_ble_eq_true rfl⟩ (Nat.le_of_ble_eq_true rfl) ⟨Nat.le_of_ble_eq_true rfl, Nat.le_of_ble_eq_true rfl, Nat.le_of_ble_eq_true rfl, Nat.le_of_ble_eq_true rfl⟩ (fun _ _ q => ⟨_, q.1, q.2⟩) ⟨Nat.le_of_ble_eq_true rfl, Nat.le_of_ble_eq_true rfl⟩ (k_Rv fun h => ?_)
  refine z_aload_n C dX11_owner_9 (i := 0) rfl rfl ?_
  refine z_dup C dX11_owner_10 rfl ?_
  refine t_get C dX11_owner_11 fl_X11_69 (k := 10) (i := 0) (by decide) rfl (fg_10_12 _ _ _) ?_
  refine z_iconst C dX11_owner_14 (v := 1) (by decide) ?_
  refine z_iadd C dX11_owner_15 ?_
  refine t_put C dX11_owner_16 fq_X11_69 (Or.inl rfl) (k := 10) (i := 0) (by decide) rfl ⟨rfl, rfl⟩ (fp_10_12 _ _ _ _ _) ?_
  refine t_tops (fun s16 es16 => ?_)
  have h := h s16 es16
  refine z_aload_n C dX11_owner_19 (i := 0) rfl rfl ?_
  refine t_get C dX11_owner_20 fl_X11_69 (k := 10) (i := 0) (by decide) rfl (fg_10_12 _ _ _) ?_
  refine z_iconst C dX11_owner_23 (v := 1) (by decide) ?_
  refine z_isub C dX11_owner_24 ?_
  exact zG.up (z_iret C dX11_owner_25 hr rfl ⟨_, _, rfl, rfl, h⟩ (Nat.le_of_ble_eq_true rfl) (Nat.le_of_ble_eq_true rfl))
def w_X11_checkIndex_9 (P : Prop) (X : Nat → Prop) (st : zTs)   : Prop := X 0
set_option maxHeartbeats 4000000 in
set_option maxRecDepth 100000 in
theorem j_X11_checkIndex_9 {P : Prop} {X : Nat → Prop} {st : zTs}  (hfl : l.stackTraces = false) (C : zC Z p s m args meth c cX11_checkIndex 2 RX11) (hr : meth.sig.returnType = none) (hex : ∀ x ∈ c.exceptionTable.toList, False)   (h : w_X11_checkIndex_9 P X st ) : zG Z ad0 h0 p l e ({ frames := 8, cells := 1, slots := 6, locals := 100 } : Room) s m args below meth c (vx_MQ below (zQ Z ad0 h0 (zRv Z st P)) (zX Z ad0 h0 (zXr Z st X)) args s 1 6 (zA Z)) 0 0 (zh Z zm1 st) 2 9 [none, none] [] := by
  unfold w_X11_checkIndex_9 at h
  exact z_throwW C hfl hex (six := 30) (text := "no such number") 0 (by decide) tw_0 (by decide +kernel) dX11_checkIndex_9 dX11_checkIndex_12 dX11_checkIndex_13 dX11_checkIndex_16 dX11_checkIndex_19 ⟨Nat.le_of_ble_eq_true rfl, Nat.le_of_ble_eq_true rfl, Nat.le_of_ble_eq_true rfl, Nat.le_of_ble_eq_true rfl⟩ ⟨Nat.le_of_ble_eq_true rfl, Nat.le_of_ble_eq_true rfl⟩ ⟨rfl, h⟩
def w_X11_checkIndex (st : zTs) (a0 : Int32) (a1 : Int32) (X : Nat → Prop) (P : Prop) : Prop := (a0 < 0 → w_X11_checkIndex_9 P X st ) ∧ (¬ a0 < 0 → (a0 < a1 → P) ∧ (¬ a0 < a1 → w_X11_checkIndex_9 P X st ))
set_option maxHeartbeats 4000000 in
set_option maxRecDepth 100000 in
theorem c_X11_checkIndex {Z : zZ} {l : Launch} (hfl : l.stackTraces = false) {st : zTs} {a0 : Int32} {a1 : Int32} {X : Nat → Prop} {P : Prop} (h : w_X11_checkIndex st a0 a1 X P) : zM Z l yX11_checkIndex cX11_checkIndex 2 none ({ frames := 8, cells := 1, slots := 6, locals := 100 } : Room) (zh Z zm1 st) [.int (a0), .int (a1)] (zRv Z st P) (zXr Z st X) := by
  unfold w_X11_checkIndex at h
  refine z_enterM (by decide) (Nat.le_of_ble_eq_true rfl) (lc0 := [some (.int (a0)), some (.int (a1))]) rfl ?_
  intro p e s m args below meth c ad0 C hr hex
  replace C : zC Z p s m args meth c cX11_checkIndex 2 RX11 := C
  refine z_iload_n C dX11_checkIndex_0 (i := 0) rfl rfl ?_
  refine z_if_lt C dX11_checkIndex_1 (tgt := 9) (by decide) (fun c1 => ?_) (fun c1 => ?_)
  · have h := h.1 c1
    exact t_drop [false, false] rfl (j_X11_checkIndex_9 hfl C hr hex   h)
  · have h := h.2 c1
    refine z_iload_n C dX11_checkIndex_4 (i := 0) rfl rfl ?_
    refine z_iload_n C dX11_checkIndex_5 (i := 1) rfl rfl ?_
    refine z_icmp_lt C dX11_checkIndex_6 (tgt := 20) (by decide) (fun c6 => ?_) (fun c6 => ?_)
    · have h := h.1 c6
      exact zG.up (z_vret C dX11_checkIndex_20 hr ⟨rfl, rfl, h⟩ (Nat.le_of_ble_eq_true rfl) (Nat.le_of_ble_eq_true rfl))
    · have h := h.2 c6
      exact t_drop [false, false] rfl (j_X11_checkIndex_9 hfl C hr hex   h)
def w_X11_checkRange_10 (P : Prop) (X : Nat → Prop) (st : zTs)   : Prop := X 1
set_option maxHeartbeats 4000000 in
set_option maxRecDepth 100000 in
theorem j_X11_checkRange_10 {P : Prop} {X : Nat → Prop} {st : zTs}  (hfl : l.stackTraces = false) (C : zC Z p s m args meth c cX11_checkRange 3 RX11) (hr : meth.sig.returnType = none) (hex : ∀ x ∈ c.exceptionTable.toList, False)   (h : w_X11_checkRange_10 P X st ) : zG Z ad0 h0 p l e ({ frames := 8, cells := 1, slots := 6, locals := 100 } : Room) s m args below meth c (vx_MQ below (zQ Z ad0 h0 (zRv Z st P)) (zX Z ad0 h0 (zXr Z st X)) args s 1 6 (zA Z)) 0 0 (zh Z zm1 st) 3 10 [none, none, none] [] := by
  unfold w_X11_checkRange_10 at h
  exact z_throwW C hfl hex (six := 33) (text := "not in its range") 1 (by decide) tw_1 (by decide +kernel) dX11_checkRange_10 dX11_checkRange_13 dX11_checkRange_14 dX11_checkRange_17 dX11_checkRange_20 ⟨Nat.le_of_ble_eq_true rfl, Nat.le_of_ble_eq_true rfl, Nat.le_of_ble_eq_true rfl, Nat.le_of_ble_eq_true rfl⟩ ⟨Nat.le_of_ble_eq_true rfl, Nat.le_of_ble_eq_true rfl⟩ ⟨rfl, h⟩
def w_X11_checkRange (st : zTs) (a0 : Int32) (a1 : Int32) (a2 : Int32) (X : Nat → Prop) (P : Prop) : Prop := (a0 < a1 → w_X11_checkRange_10 P X st ) ∧ (¬ a0 < a1 → (a0 ≤ a2 → P) ∧ (¬ a0 ≤ a2 → w_X11_checkRange_10 P X st ))
set_option maxHeartbeats 4000000 in
set_option maxRecDepth 100000 in
theorem c_X11_checkRange {Z : zZ} {l : Launch} (hfl : l.stackTraces = false) {st : zTs} {a0 : Int32} {a1 : Int32} {a2 : Int32} {X : Nat → Prop} {P : Prop} (h : w_X11_checkRange st a0 a1 a2 X P) : zM Z l yX11_checkRange cX11_checkRange 3 none ({ frames := 8, cells := 1, slots := 6, locals := 100 } : Room) (zh Z zm1 st) [.int (a0), .int (a1), .int (a2)] (zRv Z st P) (zXr Z st X) := by
  unfold w_X11_checkRange at h
  refine z_enterM (by decide) (Nat.le_of_ble_eq_true rfl) (lc0 := [some (.int (a0)), some (.int (a1)), some (.int (a2))]) rfl ?_
  intro p e s m args below meth c ad0 C hr hex
  replace C : zC Z p s m args meth c cX11_checkRange 3 RX11 := C
  refine z_iload_n C dX11_checkRange_0 (i := 0) rfl rfl ?_
  refine z_iload_n C dX11_checkRange_1 (i := 1) rfl rfl ?_
  refine z_icmp_lt C dX11_checkRange_2 (tgt := 10) (by decide) (fun c2 => ?_) (fun c2 => ?_)
  · have h := h.1 c2
    exact t_drop [false, false, false] rfl (j_X11_checkRange_10 hfl C hr hex   h)
  · have h := h.2 c2
    refine z_iload_n C dX11_checkRange_5 (i := 0) rfl rfl ?_
    refine z_iload_n C dX11_checkRange_6 (i := 2) rfl rfl ?_
    refine z_icmp_le C dX11_checkRange_7 (tgt := 21) (by decide) (fun c7 => ?_) (fun c7 => ?_)
    · have h := h.1 c7
      exact zG.up (z_vret C dX11_checkRange_21 hr ⟨rfl, rfl, h⟩ (Nat.le_of_ble_eq_true rfl) (Nat.le_of_ble_eq_true rfl))
    · have h := h.2 c7
      exact t_drop [false, false, false] rfl (j_X11_checkRange_10 hfl C hr hex   h)
def w_X11_checkSide (st : zTs) (a0 : Int32) (X : Nat → Prop) (P : Prop) : Prop := w_X11_checkRange st a0 0 1 X ((P))
set_option maxHeartbeats 4000000 in
set_option maxRecDepth 100000 in
theorem c_X11_checkSide {Z : zZ} {l : Launch} (hfl : l.stackTraces = false) {st : zTs} {a0 : Int32} {X : Nat → Prop} {P : Prop} (h : w_X11_checkSide st a0 X P) : zM Z l yX11_checkSide cX11_checkSide 1 none ({ frames := 9, cells := 1, slots := 6, locals := 122 } : Room) (zh Z zm1 st) [.int (a0)] (zRv Z st P) (zXr Z st X) := by
  unfold w_X11_checkSide at h
  refine z_enterM (by decide) (Nat.le_of_ble_eq_true rfl) (lc0 := [some (.int (a0))]) rfl ?_
  intro p e s m args below meth c ad0 C hr hex
  replace C : zC Z p s m args meth c cX11_checkSide 1 RX11 := C
  refine z_iload_n C dX11_checkSide_0 (i := 0) rfl rfl ?_
  refine z_iconst C dX11_checkSide_1 (v := 0) (by decide) ?_
  refine z_iconst C dX11_checkSide_2 (v := 1) (by decide) ?_
  refine t_callSM C hex (rest := []) (c2 := 1) (s2 := 6) [.int (a0), .int (0), .int (1)] dX11_checkSide_3 lk_X11_107 ls_X11_checkRange (c_X11_checkRange hfl h) rfl rfl ⟨Nat.le_of_ble_eq_true rfl, Nat.le_of_ble_eq_true rfl⟩ (Nat.le_of_ble_eq_true rfl) ⟨Nat.le_of_ble_eq_true rfl, Nat.le_of_ble_eq_true rfl, Nat.le_of_ble_eq_true rfl, Nat.le_of_ble_eq_true rfl⟩ (fun _ _ q => q) ⟨Nat.le_of_ble_eq_true rfl, Nat.le_of_ble_eq_true rfl⟩ (k_Rv fun h => ?_)
  exact zG.up (z_vret C dX11_checkSide_6 hr ⟨rfl, rfl, h⟩ (Nat.le_of_ble_eq_true rfl) (Nat.le_of_ble_eq_true rfl))
def w_X11_wait (st : zTs) (a1 : Int32) (X : Nat → zTs → Prop) (P : Int32 → zTs → Prop) : Prop := w_X11_checkRange st a1 0 10000 (fun k9 => X k9 st) (((((zgF st 10 0 15) + a1) ≤ 1000000 → ∀ s36 : zTs, s36 = zuF st 10 0 15 ((zgF st 10 0 15) + a1) → (P (zgF s36 10 0 15) s36)) ∧ (¬ ((zgF st 10 0 15) + a1) ≤ 1000000 → X 2 st)))
set_option maxHeartbeats 4000000 in
set_option maxRecDepth 100000 in
theorem c_X11_wait {Z : zZ} {l : Launch} (hfl : l.stackTraces = false) {st : zTs} {a1 : Int32} {X : Nat → zTs → Prop} {P : Int32 → zTs → Prop} (h : w_X11_wait st a1 X P) : zM Z l yX11_wait cX11_wait 2 (some .int) ({ frames := 9, cells := 2, slots := 12, locals := 122 } : Room) (zh Z zm1 st) [.ref 10, .int (a1)] (zWi Z P) (zXs Z X) := by
  unfold w_X11_wait at h
  refine z_enterM (by decide) (Nat.le_of_ble_eq_true rfl) (lc0 := [some (.ref 10), some (.int (a1))]) rfl ?_
  intro p e s m args below meth c ad0 C hr hex
  replace C : zC Z p s m args meth c cX11_wait 2 RX11 := C
  refine z_iload_n C dX11_wait_0 (i := 1) rfl rfl ?_
  refine z_iconst C dX11_wait_1 (v := 0) (by decide) ?_
  refine z_sipush C dX11_wait_2 (v := 10000) (by decide) ?_
  refine t_callSM C hex (rest := []) (c2 := 1) (s2 := 6) [.int (a1), .int (0), .int (10000)] dX11_wait_5 lk_X11_107 ls_X11_checkRange (c_X11_checkRange hfl h) rfl rfl ⟨Nat.le_of_ble_eq_true rfl, Nat.le_of_ble_eq_true rfl⟩ (Nat.le_of_ble_eq_true rfl) ⟨Nat.le_of_ble_eq_true rfl, Nat.le_of_ble_eq_true rfl, Nat.le_of_ble_eq_true rfl, Nat.le_of_ble_eq_true rfl⟩ (fun _ _ q => ⟨_, q.1, q.2⟩) ⟨Nat.le_of_ble_eq_true rfl, Nat.le_of_ble_eq_true rfl⟩ (k_Rv fun h => ?_)
  refine z_aload_n C dX11_wait_8 (i := 0) rfl rfl ?_
  refine t_get C dX11_wait_9 fl_X11_111 (k := 10) (i := 0) (by decide) rfl (fg_10_15 _ _ _) ?_
  refine z_iload_n C dX11_wait_12 (i := 1) rfl rfl ?_
  refine z_iadd C dX11_wait_13 ?_
  refine z_ldc C dX11_wait_14 kc_X11_114 ?_
  refine z_icmp_le C dX11_wait_16 (tgt := 29) (by decide) (fun c16 => ?_) (fun c16 => ?_)
  · have h := h.1 c16
    refine z_aload_n C dX11_wait_29 (i := 0) rfl rfl ?_
    refine z_dup C dX11_wait_30 rfl ?_
    refine t_get C dX11_wait_31 fl_X11_111 (k := 10) (i := 0) (by decide) rfl (fg_10_15 _ _ _) ?_
    refine z_iload_n C dX11_wait_34 (i := 1) rfl rfl ?_
    refine z_iadd C dX11_wait_35 ?_
    refine t_put C dX11_wait_36 fq_X11_111 (Or.inl rfl) (k := 10) (i := 0) (by decide) rfl ⟨rfl, rfl⟩ (fp_10_15 _ _ _ _ _) ?_
    refine t_tops (fun s36 es36 => ?_)
    have h := h s36 es36
    refine z_aload_n C dX11_wait_39 (i := 0) rfl rfl ?_
    refine t_get C dX11_wait_40 fl_X11_111 (k := 10) (i := 0) (by decide) rfl (fg_10_15 _ _ _) ?_
    exact zG.up (z_iret C dX11_wait_43 hr rfl ⟨_, _, rfl, rfl, h⟩ (Nat.le_of_ble_eq_true rfl) (Nat.le_of_ble_eq_true rfl))
  · have h := h.2 c16
    exact z_throw C hfl hex (six := 24) (text := "today would be above 1,000,000") 2 (by decide) tw_2 (by decide +kernel) dX11_wait_19 dX11_wait_22 dX11_wait_23 dX11_wait_25 dX11_wait_28 ⟨Nat.le_of_ble_eq_true rfl, Nat.le_of_ble_eq_true rfl, Nat.le_of_ble_eq_true rfl, Nat.le_of_ble_eq_true rfl⟩ ⟨Nat.le_of_ble_eq_true rfl, Nat.le_of_ble_eq_true rfl⟩ ⟨_, rfl, h⟩
def w_X11_putOnTape_3 (P : zTs → Prop)  : Nat → zTs → Int32 → Int32 → Prop
  | 0, _, _, _ => False
  | n9 + 1, st, a1, a2 => (a2 < 0 → P st) ∧ (¬ a2 < 0 → (400 ≤ (zgF st 10 0 11) → P st) ∧ (¬ 400 ≤ (zgF st 10 0 11) → vp_in (zgF st 10 0 11) 400 ∧ (∀ s29 : zTs, s29 = zuA st 43 0 (zgF st 10 0 11 : Int32).toNatClampNeg (vp_nar .byte ((a1 >>> (a2 &&& 31) : Int32).toInt8.toInt32)) → (∀ s37 : zTs, s37 = zuF s29 10 0 11 ((zgF s29 10 0 11) + 1) → (∀ x40 : Int32, x40 = a2 + (-8) → ((w_X11_putOnTape_3 P n9) s37 a1 x40))))))
set_option maxHeartbeats 4000000 in
set_option maxRecDepth 100000 in
theorem j_X11_putOnTape_3 {P : zTs → Prop}  (hfl : l.stackTraces = false) (C : zC Z p s m args meth c cX11_putOnTape 3 RX11) (hr : meth.sig.returnType = none) (hn9 : True)  : ∀ (n9 : Nat) (st : zTs) (a1 : Int32) (a2 : Int32), w_X11_putOnTape_3 P n9 st a1 a2 → zG Z ad0 h0 p l e ({ frames := 1, cells := 0, slots := 0, locals := 12 } : Room) s m args below meth c (MQ below (zQ Z ad0 h0 (zWv Z zm1 P)) args s 0 0 (zA Z)) 0 0 (zh Z zm1 st) 3 3 [some (.ref 10), some (.int (a1)), some (.int (a2))] [] := by
  intro n9
  induction n9 with
  | zero => intro st a1 a2 h; exact h.elim
  | succ n9 hK3 =>
    intro st a1 a2 h
    rw [w_X11_putOnTape_3] at h
    refine z_iload_n C dX11_putOnTape_3 (i := 2) rfl rfl ?_
    refine z_if_lt C dX11_putOnTape_4 (tgt := 46) (by decide) (fun c4 => ?_) (fun c4 => ?_)
    · have h := h.1 c4
      exact z_vret C dX11_putOnTape_46 hr ⟨_, rfl, rfl, h⟩ (Nat.le_of_ble_eq_true rfl) (Nat.le_of_ble_eq_true rfl)
    · have h := h.2 c4
      refine z_aload_n C dX11_putOnTape_7 (i := 0) rfl rfl ?_
      refine t_get C dX11_putOnTape_8 fl_X11_122 (k := 10) (i := 0) (by decide) rfl (fg_10_11 _ _ _) ?_
      refine z_sipush C dX11_putOnTape_11 (v := 400) (by decide) ?_
      refine z_icmp_ge C dX11_putOnTape_14 (tgt := 46) (by decide) (fun c14 => ?_) (fun c14 => ?_)
      · have h := h.1 c14
        exact z_vret C dX11_putOnTape_46 hr ⟨_, rfl, rfl, h⟩ (Nat.le_of_ble_eq_true rfl) (Nat.le_of_ble_eq_true rfl)
      · have h := h.2 c14
        refine z_aload_n C dX11_putOnTape_17 (i := 0) rfl rfl ?_
        refine t_get C dX11_putOnTape_18 fl_X11_49 (k := 10) (i := 0) (by decide) rfl (fg_10_9 _ _ _) ?_
        refine z_aload_n C dX11_putOnTape_21 (i := 0) rfl rfl ?_
        refine t_get C dX11_putOnTape_22 fl_X11_122 (k := 10) (i := 0) (by decide) rfl (fg_10_11 _ _ _) ?_
        refine z_iload_n C dX11_putOnTape_25 (i := 1) rfl rfl ?_
        refine z_iload_n C dX11_putOnTape_26 (i := 2) rfl rfl ?_
        refine z_ishr C dX11_putOnTape_27 ?_
        refine z_i2b C dX11_putOnTape_28 ?_
        obtain ⟨g29, h⟩ := h
        refine t_bast C dX11_putOnTape_29 (k := 43) (i := 0) (by decide) rfl (fun s9 => sh_43 _ _ s9 _) g29 ?_
        refine t_tops (fun s29 es29 => ?_)
        have h := h s29 es29
        refine z_aload_n C dX11_putOnTape_30 (i := 0) rfl rfl ?_
        refine z_dup C dX11_putOnTape_31 rfl ?_
        refine t_get C dX11_putOnTape_32 fl_X11_122 (k := 10) (i := 0) (by decide) rfl (fg_10_11 _ _ _) ?_
        refine z_iconst C dX11_putOnTape_35 (v := 1) (by decide) ?_
        refine z_iadd C dX11_putOnTape_36 ?_
        refine t_put C dX11_putOnTape_37 fq_X11_122 (Or.inl rfl) (k := 10) (i := 0) (by decide) rfl ⟨rfl, rfl⟩ (fp_10_11 _ _ _ _ _) ?_
        refine t_tops (fun s37 es37 => ?_)
        have h := h s37 es37
        obtain ⟨x40, ex40⟩ : ∃ z : Int32, z = a2 + (-8) := ⟨_, rfl⟩
        have h := h x40 ex40
        refine z_iinc C dX11_putOnTape_40 (v := x40) (lc' := [some (.ref 10), some (.int (a1)), some (.int (x40))]) rfl (by decide) (by rw [ex40]; rfl) rfl ?_
        refine z_goto C dX11_putOnTape_43 (tgt := 3) (by decide) ?_
        exact t_drop [true, true, true] rfl (hK3 s37 a1 x40 h)
def w_X11_putOnTape (st : zTs) (a1 : Int32) (P : zTs → Prop) : Prop := w_X11_putOnTape_3 P zfu st a1 (24)
set_option maxHeartbeats 4000000 in
set_option maxRecDepth 100000 in
theorem c_X11_putOnTape {Z : zZ} {l : Launch} (hfl : l.stackTraces = false) {st : zTs} {a1 : Int32} {P : zTs → Prop} (h : w_X11_putOnTape st a1 P) : zN Z l yX11_putOnTape cX11_putOnTape 3 none ({ frames := 1, cells := 0, slots := 0, locals := 12 } : Room) (zh Z zm1 st) [.ref 10, .int (a1)] (zWv Z zm1 P) := by
  unfold w_X11_putOnTape at h
  refine z_enterN (by decide) (Nat.le_of_ble_eq_true rfl) (lc0 := [some (.ref 10), some (.int (a1)), none]) rfl ?_
  intro p e s m args below meth c ad0 C hr _
  have hn9 : True := trivial
  replace C : zC Z p s m args meth c cX11_putOnTape 3 RX11 := C
  refine z_bipush C dX11_putOnTape_0 (v := 24) (by decide) ?_
  refine z_istore_n C dX11_putOnTape_2 (i := 2) (lc' := [some (.ref 10), some (.int (a1)), some (.int (24))]) rfl (by decide) rfl ?_
  exact t_drop [true, true, true] rfl (j_X11_putOnTape_3 hfl C hr hn9  zfu st a1 (24) h)
def w_X11_feed (st : zTs) (a1 : Int32) (a2 : Int32) (a3 : Int32) (a4 : Int32) (a5 : Int32) (P : Int32 → zTs → Prop) : Prop := (((zgF st 10 0 11) + 20) ≤ 400 → w_X11_putOnTape st a1 (fun (s17 : zTs) => (w_X11_putOnTape s17 a2 (fun (s22 : zTs) => (w_X11_putOnTape s22 a3 (fun (s27 : zTs) => (w_X11_putOnTape s27 a4 (fun (s33 : zTs) => (w_X11_putOnTape s33 a5 (fun (s39 : zTs) => (P (zgF s39 10 0 11) s39))))))))))) ∧ (¬ ((zgF st 10 0 11) + 20) ≤ 400 → P (-1) st)
set_option maxHeartbeats 4000000 in
set_option maxRecDepth 100000 in
theorem c_X11_feed {Z : zZ} {l : Launch} (hfl : l.stackTraces = false) {st : zTs} {a1 : Int32} {a2 : Int32} {a3 : Int32} {a4 : Int32} {a5 : Int32} {P : Int32 → zTs → Prop} (h : w_X11_feed st a1 a2 a3 a4 a5 P) : zN Z l yX11_feed cX11_feed 6 (some .int) ({ frames := 2, cells := 0, slots := 0, locals := 34 } : Room) (zh Z zm1 st) [.ref 10, .int (a1), .int (a2), .int (a3), .int (a4), .int (a5)] (zWi Z P) := by
  unfold w_X11_feed at h
  refine z_enterN (by decide) (Nat.le_of_ble_eq_true rfl) (lc0 := [some (.ref 10), some (.int (a1)), some (.int (a2)), some (.int (a3)), some (.int (a4)), some (.int (a5))]) rfl ?_
  intro p e s m args below meth c ad0 C hr _
  have hn9 : True := trivial
  replace C : zC Z p s m args meth c cX11_feed 6 RX11 := C
  refine z_aload_n C dX11_feed_0 (i := 0) rfl rfl ?_
  refine t_get C dX11_feed_1 fl_X11_122 (k := 10) (i := 0) (by decide) rfl (fg_10_11 _ _ _) ?_
  refine z_bipush C dX11_feed_4 (v := 20) (by decide) ?_
  refine z_iadd C dX11_feed_6 ?_
  refine z_sipush C dX11_feed_7 (v := 400) (by decide) ?_
  refine z_icmp_le C dX11_feed_10 (tgt := 15) (by decide) (fun c10 => ?_) (fun c10 => ?_)
  · have h := h.1 c10
    refine z_aload_n C dX11_feed_15 (i := 0) rfl rfl ?_
    refine z_iload_n C dX11_feed_16 (i := 1) rfl rfl ?_
    refine t_callV C (rest := []) (c2 := 0) (s2 := 0) (kd := 10) (i := 0) [.int (a1)] dX11_feed_17 lk_X11_125 li_X11_putOnTape le_X11_putOnTape (c_X11_putOnTape hfl h) rfl rfl (by decide) rfl ⟨_, rfl⟩ rfl ⟨Nat.le_of_ble_eq_true rfl, Nat.le_of_ble_eq_true rfl⟩ (Nat.le_of_ble_eq_true rfl) ⟨Nat.le_of_ble_eq_true rfl, Nat.le_of_ble_eq_true rfl, Nat.le_of_ble_eq_true rfl, Nat.le_of_ble_eq_true rfl⟩ (k_Wv fun s17 h => ?_)
    refine z_aload_n C dX11_feed_20 (i := 0) rfl rfl ?_
    refine z_iload_n C dX11_feed_21 (i := 2) rfl rfl ?_
    refine t_callV C (rest := []) (c2 := 0) (s2 := 0) (kd := 10) (i := 0) [.int (a2)] dX11_feed_22 lk_X11_125 li_X11_putOnTape le_X11_putOnTape (c_X11_putOnTape hfl h) rfl rfl (by decide) rfl ⟨_, rfl⟩ rfl ⟨Nat.le_of_ble_eq_true rfl, Nat.le_of_ble_eq_true rfl⟩ (Nat.le_of_ble_eq_true rfl) ⟨Nat.le_of_ble_eq_true rfl, Nat.le_of_ble_eq_true rfl, Nat.le_of_ble_eq_true rfl, Nat.le_of_ble_eq_true rfl⟩ (k_Wv fun s22 h => ?_)
    refine z_aload_n C dX11_feed_25 (i := 0) rfl rfl ?_
    refine z_iload_n C dX11_feed_26 (i := 3) rfl rfl ?_
    refine t_callV C (rest := []) (c2 := 0) (s2 := 0) (kd := 10) (i := 0) [.int (a3)] dX11_feed_27 lk_X11_125 li_X11_putOnTape le_X11_putOnTape (c_X11_putOnTape hfl h) rfl rfl (by decide) rfl ⟨_, rfl⟩ rfl ⟨Nat.le_of_ble_eq_true rfl, Nat.le_of_ble_eq_true rfl⟩ (Nat.le_of_ble_eq_true rfl) ⟨Nat.le_of_ble_eq_true rfl, Nat.le_of_ble_eq_true rfl, Nat.le_of_ble_eq_true rfl, Nat.le_of_ble_eq_true rfl⟩ (k_Wv fun s27 h => ?_)
    refine z_aload_n C dX11_feed_30 (i := 0) rfl rfl ?_
    refine z_iload C dX11_feed_31 rfl ?_
    refine t_callV C (rest := []) (c2 := 0) (s2 := 0) (kd := 10) (i := 0) [.int (a4)] dX11_feed_33 lk_X11_125 li_X11_putOnTape le_X11_putOnTape (c_X11_putOnTape hfl h) rfl rfl (by decide) rfl ⟨_, rfl⟩ rfl ⟨Nat.le_of_ble_eq_true rfl, Nat.le_of_ble_eq_true rfl⟩ (Nat.le_of_ble_eq_true rfl) ⟨Nat.le_of_ble_eq_true rfl, Nat.le_of_ble_eq_true rfl, Nat.le_of_ble_eq_true rfl, Nat.le_of_ble_eq_true rfl⟩ (k_Wv fun s33 h => ?_)
    refine z_aload_n C dX11_feed_36 (i := 0) rfl rfl ?_
    refine z_iload C dX11_feed_37 rfl ?_
    refine t_callV C (rest := []) (c2 := 0) (s2 := 0) (kd := 10) (i := 0) [.int (a5)] dX11_feed_39 lk_X11_125 li_X11_putOnTape le_X11_putOnTape (c_X11_putOnTape hfl h) rfl rfl (by decide) rfl ⟨_, rfl⟩ rfl ⟨Nat.le_of_ble_eq_true rfl, Nat.le_of_ble_eq_true rfl⟩ (Nat.le_of_ble_eq_true rfl) ⟨Nat.le_of_ble_eq_true rfl, Nat.le_of_ble_eq_true rfl, Nat.le_of_ble_eq_true rfl, Nat.le_of_ble_eq_true rfl⟩ (k_Wv fun s39 h => ?_)
    refine z_aload_n C dX11_feed_42 (i := 0) rfl rfl ?_
    refine t_get C dX11_feed_43 fl_X11_122 (k := 10) (i := 0) (by decide) rfl (fg_10_11 _ _ _) ?_
    exact z_iret C dX11_feed_46 hr rfl ⟨_, _, rfl, rfl, h⟩ (Nat.le_of_ble_eq_true rfl) (Nat.le_of_ble_eq_true rfl)
  · have h := h.2 c10
    refine z_iconst C dX11_feed_13 (v := (-1)) (by decide) ?_
    exact z_iret C dX11_feed_14 hr rfl ⟨_, _, rfl, rfl, h⟩ (Nat.le_of_ble_eq_true rfl) (Nat.le_of_ble_eq_true rfl)
def w_X11_counted_39 (P : Int32 → Prop) (X : Nat → Prop) (st : zTs)  (a1 : Int32) (a2 : Int32) : Prop := w_X5_countFrom st (zgP st 10 0 16) a1 a2 (fun (r45 : Int32) => (P r45))
set_option maxHeartbeats 4000000 in
set_option maxRecDepth 100000 in
theorem j_X11_counted_39 {P : Int32 → Prop} {X : Nat → Prop} {st : zTs}  (hfl : l.stackTraces = false) (C : zC Z p s m args meth c cX11_counted 3 RX11) (hr : meth.sig.returnType = (some .int)) (hex : ∀ x ∈ c.exceptionTable.toList, False)  (a1 : Int32) (a2 : Int32) (h : w_X11_counted_39 P X st a1 a2) : zG Z ad0 h0 p l e ({ frames := 9, cells := 3, slots := 18, locals := 122 } : Room) s m args below meth c (vx_MQ below (zQ Z ad0 h0 (zRi Z st P)) (zX Z ad0 h0 (zXr Z st X)) args s 3 18 (zA Z)) 2 12 (zh Z zm1 st) 3 39 [some (.ref 10), some (.int (a1)), some (.int (a2))] [] := by
  unfold w_X11_counted_39 at h
  refine z_aload_n C dX11_counted_39 (i := 0) rfl rfl ?_
  refine t_get C dX11_counted_40 fl_X11_65 (k := 10) (i := 0) (by decide) rfl (fg_10_16 _ _ _) ?_
  refine z_iload_n C dX11_counted_43 (i := 1) rfl rfl ?_
  refine z_iload_n C dX11_counted_44 (i := 2) rfl rfl ?_
  refine t_callV C (rest := []) (c2 := 2) (s2 := 12) (kd := 24) (i := zgP st 10 0 16) [.int (a1), .int (a2)] dX11_counted_45 lk_X11_147 li_X5_countFrom le_X5_countFrom (c_X5_countFrom hfl h) rfl rfl (by decide) rfl ⟨_, rfl⟩ rfl ⟨Nat.le_of_ble_eq_true rfl, Nat.le_of_ble_eq_true rfl⟩ (Nat.le_of_ble_eq_true rfl) ⟨Nat.le_of_ble_eq_true rfl, Nat.le_of_ble_eq_true rfl, Nat.le_of_ble_eq_true rfl, Nat.le_of_ble_eq_true rfl⟩ (k_Ri fun r45 h => ?_)
  exact zG.up (z_iret C dX11_counted_48 hr rfl ⟨rfl, _, rfl, h⟩ (Nat.le_of_ble_eq_true rfl) (Nat.le_of_ble_eq_true rfl))
def w_X11_counted (st : zTs) (a1 : Int32) (a2 : Int32) (X : Nat → Prop) (P : Int32 → Prop) : Prop := w_X11_checkRange st a1 0 1000000 X ((w_X11_checkRange st a2 0 400 X (((a2 ≤ 0 → w_X11_counted_39 P X st a1 a2) ∧ (¬ a2 ≤ 0 → w_X5_restsAlways st (zgP st 10 0 16) (fun (r23 : Int32) => ((r23 = 0 → w_X11_counted_39 P X st a1 a2) ∧ (¬ r23 = 0 → X 2))))))))
set_option maxHeartbeats 4000000 in
set_option maxRecDepth 100000 in
theorem c_X11_counted {Z : zZ} {l : Launch} (hfl : l.stackTraces = false) {st : zTs} {a1 : Int32} {a2 : Int32} {X : Nat → Prop} {P : Int32 → Prop} (h : w_X11_counted st a1 a2 X P) : zM Z l yX11_counted cX11_counted 3 (some .int) ({ frames := 9, cells := 3, slots := 18, locals := 122 } : Room) (zh Z zm1 st) [.ref 10, .int (a1), .int (a2)] (zRi Z st P) (zXr Z st X) := by
  unfold w_X11_counted at h
  refine z_enterM (by decide) (Nat.le_of_ble_eq_true rfl) (lc0 := [some (.ref 10), some (.int (a1)), some (.int (a2))]) rfl ?_
  intro p e s m args below meth c ad0 C hr hex
  replace C : zC Z p s m args meth c cX11_counted 3 RX11 := C
  refine z_iload_n C dX11_counted_0 (i := 1) rfl rfl ?_
  refine z_iconst C dX11_counted_1 (v := 0) (by decide) ?_
  refine z_ldc C dX11_counted_2 kc_X11_114 ?_
  refine t_callSM C hex (rest := []) (c2 := 1) (s2 := 6) [.int (a1), .int (0), .int (1000000)] dX11_counted_4 lk_X11_107 ls_X11_checkRange (c_X11_checkRange hfl h) rfl rfl ⟨Nat.le_of_ble_eq_true rfl, Nat.le_of_ble_eq_true rfl⟩ (Nat.le_of_ble_eq_true rfl) ⟨Nat.le_of_ble_eq_true rfl, Nat.le_of_ble_eq_true rfl, Nat.le_of_ble_eq_true rfl, Nat.le_of_ble_eq_true rfl⟩ (fun _ _ q => q) ⟨Nat.le_of_ble_eq_true rfl, Nat.le_of_ble_eq_true rfl⟩ (k_Rv fun h => ?_)
  refine z_iload_n C dX11_counted_7 (i := 2) rfl rfl ?_
  refine z_iconst C dX11_counted_8 (v := 0) (by decide) ?_
  refine z_sipush C dX11_counted_9 (v := 400) (by decide) ?_
  refine t_callSM C hex (rest := []) (c2 := 2) (s2 := 12) [.int (a2), .int (0), .int (400)] dX11_counted_12 lk_X11_107 ls_X11_checkRange (c_X11_checkRange hfl h) rfl rfl ⟨Nat.le_of_ble_eq_true rfl, Nat.le_of_ble_eq_true rfl⟩ (Nat.le_of_ble_eq_true rfl) ⟨Nat.le_of_ble_eq_true rfl, Nat.le_of_ble_eq_true rfl, Nat.le_of_ble_eq_true rfl, Nat.le_of_ble_eq_true rfl⟩ (fun _ _ q => q) ⟨Nat.le_of_ble_eq_true rfl, Nat.le_of_ble_eq_true rfl⟩ (k_Rv fun h => ?_)
  refine z_iload_n C dX11_counted_15 (i := 2) rfl rfl ?_
  refine z_if_le C dX11_counted_16 (tgt := 39) (by decide) (fun c16 => ?_) (fun c16 => ?_)
  · have h := h.1 c16
    exact t_drop [true, true, true] rfl (j_X11_counted_39 hfl C hr hex  a1 a2 h)
  · have h := h.2 c16
    refine z_aload_n C dX11_counted_19 (i := 0) rfl rfl ?_
    refine t_get C dX11_counted_20 fl_X11_65 (k := 10) (i := 0) (by decide) rfl (fg_10_16 _ _ _) ?_
    refine t_callV C (rest := []) (c2 := 2) (s2 := 12) (kd := 24) (i := zgP st 10 0 16) [] dX11_counted_23 lk_X11_141 li_X5_restsAlways le_X5_restsAlways (c_X5_restsAlways hfl h) rfl rfl (by decide) rfl ⟨_, rfl⟩ rfl ⟨Nat.le_of_ble_eq_true rfl, Nat.le_of_ble_eq_true rfl⟩ (Nat.le_of_ble_eq_true rfl) ⟨Nat.le_of_ble_eq_true rfl, Nat.le_of_ble_eq_true rfl, Nat.le_of_ble_eq_true rfl, Nat.le_of_ble_eq_true rfl⟩ (k_Ri fun r23 h => ?_)
    refine z_if_eq C dX11_counted_26 (tgt := 39) (by decide) (fun c26 => ?_) (fun c26 => ?_)
    · have h := h.1 c26
      exact t_drop [true, true, true] rfl (j_X11_counted_39 hfl C hr hex  a1 a2 h)
    · have h := h.2 c26
      exact z_throw C hfl hex (six := 25) (text := "all DAYS of the week are of rest") 2 (by decide) tw_2 (by decide +kernel) dX11_counted_29 dX11_counted_32 dX11_counted_33 dX11_counted_35 dX11_counted_38 ⟨Nat.le_of_ble_eq_true rfl, Nat.le_of_ble_eq_true rfl, Nat.le_of_ble_eq_true rfl, Nat.le_of_ble_eq_true rfl⟩ ⟨Nat.le_of_ble_eq_true rfl, Nat.le_of_ble_eq_true rfl⟩ ⟨rfl, h⟩
def w_X11_surveyor (st : zTs) (a1 : Int32) (X : Nat → zTs → Prop) (P : Int32 → zTs → Prop) : Prop := w_X11_checkRange st a1 0 ((1 <<< ((zgF st 10 0 12) &&& 31)) - 1) (fun k9 => X k9 st) ((w_X11_checkRoom st (zgF st 10 0 13) 12 (fun k9 => X k9 st) ((vp_in (zgF st 10 0 13) 12 ∧ (∀ s31 : zTs, s31 = zuA st 40 0 (zgF st 10 0 13 : Int32).toNatClampNeg a1 → (∀ s39 : zTs, s39 = zuF s31 10 0 13 ((zgF s31 10 0 13) + 1) → (P ((zgF s39 10 0 13) - 1) s39)))))))
set_option maxHeartbeats 4000000 in
set_option maxRecDepth 100000 in
theorem c_X11_surveyor {Z : zZ} {l : Launch} (hfl : l.stackTraces = false) {st : zTs} {a1 : Int32} {X : Nat → zTs → Prop} {P : Int32 → zTs → Prop} (h : w_X11_surveyor st a1 X P) : zM Z l yX11_surveyor cX11_surveyor 2 (some .int) ({ frames := 9, cells := 2, slots := 12, locals := 122 } : Room) (zh Z zm1 st) [.ref 10, .int (a1)] (zWi Z P) (zXs Z X) := by
  unfold w_X11_surveyor at h
  refine z_enterM (by decide) (Nat.le_of_ble_eq_true rfl) (lc0 := [some (.ref 10), some (.int (a1))]) rfl ?_
  intro p e s m args below meth c ad0 C hr hex
  replace C : zC Z p s m args meth c cX11_surveyor 2 RX11 := C
  refine z_iload_n C dX11_surveyor_0 (i := 1) rfl rfl ?_
  refine z_iconst C dX11_surveyor_1 (v := 0) (by decide) ?_
  refine z_iconst C dX11_surveyor_2 (v := 1) (by decide) ?_
  refine z_aload_n C dX11_surveyor_3 (i := 0) rfl rfl ?_
  refine t_get C dX11_surveyor_4 fl_X11_69 (k := 10) (i := 0) (by decide) rfl (fg_10_12 _ _ _) ?_
  refine z_ishl C dX11_surveyor_7 ?_
  refine z_iconst C dX11_surveyor_8 (v := 1) (by decide) ?_
  refine z_isub C dX11_surveyor_9 ?_
  refine t_callSM C hex (rest := []) (c2 := 1) (s2 := 6) [.int (a1), .int (0), .int ((1 <<< ((zgF st 10 0 12) &&& 31)) - 1)] dX11_surveyor_10 lk_X11_107 ls_X11_checkRange (c_X11_checkRange hfl h) rfl rfl ⟨Nat.le_of_ble_eq_true rfl, Nat.le_of_ble_eq_true rfl⟩ (Nat.le_of_ble_eq_true rfl) ⟨Nat.le_of_ble_eq_true rfl, Nat.le_of_ble_eq_true rfl, Nat.le_of_ble_eq_true rfl, Nat.le_of_ble_eq_true rfl⟩ (fun _ _ q => ⟨_, q.1, q.2⟩) ⟨Nat.le_of_ble_eq_true rfl, Nat.le_of_ble_eq_true rfl⟩ (k_Rv fun h => ?_)
  refine z_aload_n C dX11_surveyor_13 (i := 0) rfl rfl ?_
  refine t_get C dX11_surveyor_14 fl_X11_206 (k := 10) (i := 0) (by decide) rfl (fg_10_13 _ _ _) ?_
  refine z_bipush C dX11_surveyor_17 (v := 12) (by decide) ?_
  refine t_callSM C hex (rest := []) (c2 := 2) (s2 := 12) [.int (zgF st 10 0 13), .int (12)] dX11_surveyor_19 lk_X11_73 ls_X11_checkRoom (c_X11_checkRoom hfl h) rfl rfl ⟨Nat.le_of_ble_eq_true rfl, Nat.le_of_ble_eq_true rfl⟩ (Nat.le_of_ble_eq_true rfl) ⟨Nat.le_of_ble_eq_true rfl, Nat.le_of_ble_eq_true rfl, Nat.le_of_ble_eq_true rfl, Nat.le_of_ble_eq_true rfl⟩ (fun _ _ q => ⟨_, q.1, q.2⟩) ⟨Nat.le_of_ble_eq_true rfl, Nat.le_of_ble_eq_true rfl⟩ (k_Rv fun h => ?_)
  refine z_aload_n C dX11_surveyor_22 (i := 0) rfl rfl ?_
  refine t_get C dX11_surveyor_23 fl_X11_25 (k := 10) (i := 0) (by decide) rfl (fg_10_4 _ _ _) ?_
  refine z_aload_n C dX11_surveyor_26 (i := 0) rfl rfl ?_
  refine t_get C dX11_surveyor_27 fl_X11_206 (k := 10) (i := 0) (by decide) rfl (fg_10_13 _ _ _) ?_
  refine z_iload_n C dX11_surveyor_30 (i := 1) rfl rfl ?_
  obtain ⟨g31, h⟩ := h
  refine t_iast C dX11_surveyor_31 (k := 40) (i := 0) (by decide) rfl (fun s9 => sh_40 _ _ s9 _) g31 ?_
  refine t_tops (fun s31 es31 => ?_)
  have h := h s31 es31
  refine z_aload_n C dX11_surveyor_32 (i := 0) rfl rfl ?_
  refine z_dup C dX11_surveyor_33 rfl ?_
  refine t_get C dX11_surveyor_34 fl_X11_206 (k := 10) (i := 0) (by decide) rfl (fg_10_13 _ _ _) ?_
  refine z_iconst C dX11_surveyor_37 (v := 1) (by decide) ?_
  refine z_iadd C dX11_surveyor_38 ?_
  refine t_put C dX11_surveyor_39 fq_X11_206 (Or.inl rfl) (k := 10) (i := 0) (by decide) rfl ⟨rfl, rfl⟩ (fp_10_13 _ _ _ _ _) ?_
  refine t_tops (fun s39 es39 => ?_)
  have h := h s39 es39
  refine z_aload_n C dX11_surveyor_42 (i := 0) rfl rfl ?_
  refine t_get C dX11_surveyor_43 fl_X11_206 (k := 10) (i := 0) (by decide) rfl (fg_10_13 _ _ _) ?_
  refine z_iconst C dX11_surveyor_46 (v := 1) (by decide) ?_
  refine z_isub C dX11_surveyor_47 ?_
  exact zG.up (z_iret C dX11_surveyor_48 hr rfl ⟨_, _, rfl, rfl, h⟩ (Nat.le_of_ble_eq_true rfl) (Nat.le_of_ble_eq_true rfl))
def w_X11_isBarred (st : zTs) (a1 : Int32) (a2 : Nat) (P : Int32 → Prop) : Prop := vp_in a1 12 ∧ (w_X8_ownerOf st a2 0 (fun (r8 : Int32) => (((((zgA st 40 0 (a1 : Int32).toNatClampNeg) >>> (r8 &&& 31)) &&& 1) = 1 → P 1) ∧ (¬ (((zgA st 40 0 (a1 : Int32).toNatClampNeg) >>> (r8 &&& 31)) &&& 1) = 1 → vp_in a1 12 ∧ (w_X8_ownerOf st a2 1 (fun (r26 : Int32) => (((((zgA st 40 0 (a1 : Int32).toNatClampNeg) >>> (r26 &&& 31)) &&& 1) = 1 → P 1) ∧ (¬ (((zgA st 40 0 (a1 : Int32).toNatClampNeg) >>> (r26 &&& 31)) &&& 1) = 1 → P 0))))))))
set_option maxHeartbeats 4000000 in
set_option maxRecDepth 100000 in
theorem c_X11_isBarred {Z : zZ} {l : Launch} (hfl : l.stackTraces = false) {st : zTs} {a1 : Int32} {a2 : Nat} {P : Int32 → Prop} (h : w_X11_isBarred st a1 a2 P) : zN Z l yX11_isBarred cX11_isBarred 3 (some .boolean) ({ frames := 2, cells := 0, slots := 0, locals := 33 } : Room) (zh Z zm1 st) [.ref 10, .int (a1), .ref (20 + 256 * a2)] (zRi Z st P) := by
  unfold w_X11_isBarred at h
  refine z_enterN (by decide) (Nat.le_of_ble_eq_true rfl) (lc0 := [some (.ref 10), some (.int (a1)), some (.ref (20 + 256 * a2))]) rfl ?_
  intro p e s m args below meth c ad0 C hr _
  have hn9 : True := trivial
  replace C : zC Z p s m args meth c cX11_isBarred 3 RX11 := C
  refine z_aload_n C dX11_isBarred_0 (i := 0) rfl rfl ?_
  refine t_get C dX11_isBarred_1 fl_X11_25 (k := 10) (i := 0) (by decide) rfl (fg_10_4 _ _ _) ?_
  refine z_iload_n C dX11_isBarred_4 (i := 1) rfl rfl ?_
  obtain ⟨g5, h⟩ := h
  refine t_iald C dX11_isBarred_5 (k := 40) (i := 0) (by decide) rfl (sh_40 _ _ _ _) g5 ?_
  refine z_aload_n C dX11_isBarred_6 (i := 2) rfl rfl ?_
  refine z_iconst C dX11_isBarred_7 (v := 0) (by decide) ?_
  refine t_callV C (rest := [.int (zgA st 40 0 (a1 : Int32).toNatClampNeg)]) (c2 := 0) (s2 := 0) (kd := 20) (i := a2) [.int (0)] dX11_isBarred_8 lk_X11_100 li_X8_ownerOf le_X8_ownerOf (c_X8_ownerOf hfl h) rfl rfl (by decide) rfl ⟨_, rfl⟩ rfl ⟨Nat.le_of_ble_eq_true rfl, Nat.le_of_ble_eq_true rfl⟩ (Nat.le_of_ble_eq_true rfl) ⟨Nat.le_of_ble_eq_true rfl, Nat.le_of_ble_eq_true rfl, Nat.le_of_ble_eq_true rfl, Nat.le_of_ble_eq_true rfl⟩ (k_Ri fun r8 h => ?_)
  refine z_ishr C dX11_isBarred_11 ?_
  refine z_iconst C dX11_isBarred_12 (v := 1) (by decide) ?_
  refine z_iand C dX11_isBarred_13 ?_
  refine z_iconst C dX11_isBarred_14 (v := 1) (by decide) ?_
  refine z_icmp_eq C dX11_isBarred_15 (tgt := 36) (by decide) (fun c15 => ?_) (fun c15 => ?_)
  · have h := h.1 c15
    refine z_iconst C dX11_isBarred_36 (v := 1) (by decide) ?_
    refine z_goto C dX11_isBarred_37 (tgt := 41) (by decide) ?_
    exact z_iret C dX11_isBarred_41 hr rfl ⟨rfl, _, rfl, h⟩ (Nat.le_of_ble_eq_true rfl) (Nat.le_of_ble_eq_true rfl)
  · have h := h.2 c15
    refine z_aload_n C dX11_isBarred_18 (i := 0) rfl rfl ?_
    refine t_get C dX11_isBarred_19 fl_X11_25 (k := 10) (i := 0) (by decide) rfl (fg_10_4 _ _ _) ?_
    refine z_iload_n C dX11_isBarred_22 (i := 1) rfl rfl ?_
    obtain ⟨g23, h⟩ := h
    refine t_iald C dX11_isBarred_23 (k := 40) (i := 0) (by decide) rfl (sh_40 _ _ _ _) g23 ?_
    refine z_aload_n C dX11_isBarred_24 (i := 2) rfl rfl ?_
    refine z_iconst C dX11_isBarred_25 (v := 1) (by decide) ?_
    refine t_callV C (rest := [.int (zgA st 40 0 (a1 : Int32).toNatClampNeg)]) (c2 := 0) (s2 := 0) (kd := 20) (i := a2) [.int (1)] dX11_isBarred_26 lk_X11_100 li_X8_ownerOf le_X8_ownerOf (c_X8_ownerOf hfl h) rfl rfl (by decide) rfl ⟨_, rfl⟩ rfl ⟨Nat.le_of_ble_eq_true rfl, Nat.le_of_ble_eq_true rfl⟩ (Nat.le_of_ble_eq_true rfl) ⟨Nat.le_of_ble_eq_true rfl, Nat.le_of_ble_eq_true rfl, Nat.le_of_ble_eq_true rfl, Nat.le_of_ble_eq_true rfl⟩ (k_Ri fun r26 h => ?_)
    refine z_ishr C dX11_isBarred_29 ?_
    refine z_iconst C dX11_isBarred_30 (v := 1) (by decide) ?_
    refine z_iand C dX11_isBarred_31 ?_
    refine z_iconst C dX11_isBarred_32 (v := 1) (by decide) ?_
    refine z_icmp_ne C dX11_isBarred_33 (tgt := 40) (by decide) (fun c33 => ?_) (fun c33 => ?_)
    · have h := h.2 c33
      refine z_iconst C dX11_isBarred_40 (v := 0) (by decide) ?_
      exact z_iret C dX11_isBarred_41 hr rfl ⟨rfl, _, rfl, h⟩ (Nat.le_of_ble_eq_true rfl) (Nat.le_of_ble_eq_true rfl)
    · have h := h.1 c33
      refine z_iconst C dX11_isBarred_36 (v := 1) (by decide) ?_
      refine z_goto C dX11_isBarred_37 (tgt := 41) (by decide) ?_
      exact z_iret C dX11_isBarred_41 hr rfl ⟨rfl, _, rfl, h⟩ (Nat.le_of_ble_eq_true rfl) (Nat.le_of_ble_eq_true rfl)
def w_X11_chooseThird_99 (P : zTs → Prop)  (st : zTs) (a1 : Nat) (a2 : Int32) : Prop := vp_in 2 3 ∧ (∀ s105 : zTs, s105 = zuA st 61 a1 (2 : Int32).toNatClampNeg a2 → (P s105))
set_option maxHeartbeats 4000000 in
set_option maxRecDepth 100000 in
theorem j_X11_chooseThird_99 {P : zTs → Prop}  (hfl : l.stackTraces = false) (C : zC Z p s m args meth c cX11_chooseThird 5 RX11) (hr : meth.sig.returnType = none) (hn9 : True)  (st : zTs) (a1 : Nat) (a2 : Int32) (h : w_X11_chooseThird_99 P st a1 a2) : zG Z ad0 h0 p l e ({ frames := 3, cells := 0, slots := 0, locals := 55 } : Room) s m args below meth c (MQ below (zQ Z ad0 h0 (zWv Z zm1 P)) args s 0 0 (zA Z)) 0 0 (zh Z zm1 st) 5 99 [none, some (.ref (21 + 256 * a1)), some (.int (a2)), none, none] [] := by
  unfold w_X11_chooseThird_99 at h
  refine z_aload_n C dX11_chooseThird_99 (i := 1) rfl rfl ?_
  refine t_get C dX11_chooseThird_100 fl_X11_209 (k := 21) (i := a1) (by decide) rfl (fg_21_13 _ _ _) ?_
  refine z_iconst C dX11_chooseThird_103 (v := 2) (by decide) ?_
  refine z_iload_n C dX11_chooseThird_104 (i := 2) rfl rfl ?_
  obtain ⟨g105, h⟩ := h
  refine t_iast C dX11_chooseThird_105 (k := 61) (i := a1) (by decide) rfl (fun s9 => sh_61 _ _ s9 _) g105 ?_
  refine t_tops (fun s105 es105 => ?_)
  have h := h s105 es105
  exact z_vret C dX11_chooseThird_106 hr ⟨_, rfl, rfl, h⟩ (Nat.le_of_ble_eq_true rfl) (Nat.le_of_ble_eq_true rfl)
def w_X11_chooseThird_78 (P : zTs → Prop) (K4 : zTs → Nat → Int32 → Int32 → Prop) (st : zTs) (a1 : Nat) (a2 : Int32) (a3 : Int32) : Prop := ∀ x78 : Int32, x78 = a3 + 1 → (K4 st a1 a2 x78)
set_option maxHeartbeats 4000000 in
set_option maxRecDepth 100000 in
theorem j_X11_chooseThird_78 {P : zTs → Prop} {K4 : zTs → Nat → Int32 → Int32 → Prop} (hfl : l.stackTraces = false) (C : zC Z p s m args meth c cX11_chooseThird 5 RX11) (hr : meth.sig.returnType = none) (hn9 : True) (hK4 : ∀ (st : zTs) (a1 : Nat) (a2 : Int32) (a3 : Int32), K4 st a1 a2 a3 → zG Z ad0 h0 p l e ({ frames := 3, cells := 0, slots := 0, locals := 55 } : Room) s m args below meth c (MQ below (zQ Z ad0 h0 (zWv Z zm1 P)) args s 0 0 (zA Z)) 0 0 (zh Z zm1 st) 5 4 [some (.ref 10), some (.ref (21 + 256 * a1)), some (.int (a2)), some (.int (a3)), none] []) (st : zTs) (a1 : Nat) (a2 : Int32) (a3 : Int32) (h : w_X11_chooseThird_78 P K4 st a1 a2 a3) : zG Z ad0 h0 p l e ({ frames := 3, cells := 0, slots := 0, locals := 55 } : Room) s m args below meth c (MQ below (zQ Z ad0 h0 (zWv Z zm1 P)) args s 0 0 (zA Z)) 0 0 (zh Z zm1 st) 5 78 [some (.ref 10), some (.ref (21 + 256 * a1)), some (.int (a2)), some (.int (a3)), none] [] := by
  unfold w_X11_chooseThird_78 at h
  obtain ⟨x78, ex78⟩ : ∃ z : Int32, z = a3 + 1 := ⟨_, rfl⟩
  have h := h x78 ex78
  refine z_iinc C dX11_chooseThird_78 (v := x78) (lc' := [some (.ref 10), some (.ref (21 + 256 * a1)), some (.int (a2)), some (.int (x78)), none]) rfl (by decide) (by rw [ex78]; rfl) rfl ?_
  refine z_goto C dX11_chooseThird_81 (tgt := 4) (by decide) ?_
  exact t_drop [true, true, true, true, false] rfl (hK4 st a1 a2 x78 h)
def w_X11_chooseThird_76 (P : zTs → Prop) (K4 : zTs → Nat → Int32 → Int32 → Prop) (st : zTs) (a1 : Nat) (a3 : Int32) : Prop := w_X11_chooseThird_78 P K4 st a1 a3 a3
set_option maxHeartbeats 4000000 in
set_option maxRecDepth 100000 in
theorem j_X11_chooseThird_76 {P : zTs → Prop} {K4 : zTs → Nat → Int32 → Int32 → Prop} (hfl : l.stackTraces = false) (C : zC Z p s m args meth c cX11_chooseThird 5 RX11) (hr : meth.sig.returnType = none) (hn9 : True) (hK4 : ∀ (st : zTs) (a1 : Nat) (a2 : Int32) (a3 : Int32), K4 st a1 a2 a3 → zG Z ad0 h0 p l e ({ frames := 3, cells := 0, slots := 0, locals := 55 } : Room) s m args below meth c (MQ below (zQ Z ad0 h0 (zWv Z zm1 P)) args s 0 0 (zA Z)) 0 0 (zh Z zm1 st) 5 4 [some (.ref 10), some (.ref (21 + 256 * a1)), some (.int (a2)), some (.int (a3)), none] []) (st : zTs) (a1 : Nat) (a3 : Int32) (h : w_X11_chooseThird_76 P K4 st a1 a3) : zG Z ad0 h0 p l e ({ frames := 3, cells := 0, slots := 0, locals := 55 } : Room) s m args below meth c (MQ below (zQ Z ad0 h0 (zWv Z zm1 P)) args s 0 0 (zA Z)) 0 0 (zh Z zm1 st) 5 76 [some (.ref 10), some (.ref (21 + 256 * a1)), none, some (.int (a3)), none] [] := by
  unfold w_X11_chooseThird_76 at h
  refine z_iload_n C dX11_chooseThird_76 (i := 3) rfl rfl ?_
  refine z_istore_n C dX11_chooseThird_77 (i := 2) (lc' := [some (.ref 10), some (.ref (21 + 256 * a1)), some (.int (a3)), some (.int (a3)), none]) rfl (by decide) rfl ?_
  exact t_drop [true, true, true, true, false] rfl (j_X11_chooseThird_78 hfl C hr hn9 hK4 st a1 a3 a3 h)
def w_X11_chooseThird_49 (P : zTs → Prop) (K4 : zTs → Nat → Int32 → Int32 → Prop) (st : zTs) (a1 : Nat) (a2 : Int32) (a3 : Int32) (b0 : Int32) : Prop := (b0 = 0 → w_X11_chooseThird_78 P K4 st a1 a2 a3) ∧ (¬ b0 = 0 → (a2 = (-1) → w_X11_chooseThird_76 P K4 st a1 a3) ∧ (¬ a2 = (-1) → vp_in a3 12 ∧ (vp_in a2 12 ∧ (((zgA st 41 0 (a2 : Int32).toNatClampNeg) ≤ (zgA st 41 0 (a3 : Int32).toNatClampNeg) → w_X11_chooseThird_78 P K4 st a1 a2 a3) ∧ (¬ (zgA st 41 0 (a2 : Int32).toNatClampNeg) ≤ (zgA st 41 0 (a3 : Int32).toNatClampNeg) → w_X11_chooseThird_76 P K4 st a1 a3)))))
set_option maxHeartbeats 4000000 in
set_option maxRecDepth 100000 in
theorem j_X11_chooseThird_49 {P : zTs → Prop} {K4 : zTs → Nat → Int32 → Int32 → Prop} (hfl : l.stackTraces = false) (C : zC Z p s m args meth c cX11_chooseThird 5 RX11) (hr : meth.sig.returnType = none) (hn9 : True) (hK4 : ∀ (st : zTs) (a1 : Nat) (a2 : Int32) (a3 : Int32), K4 st a1 a2 a3 → zG Z ad0 h0 p l e ({ frames := 3, cells := 0, slots := 0, locals := 55 } : Room) s m args below meth c (MQ below (zQ Z ad0 h0 (zWv Z zm1 P)) args s 0 0 (zA Z)) 0 0 (zh Z zm1 st) 5 4 [some (.ref 10), some (.ref (21 + 256 * a1)), some (.int (a2)), some (.int (a3)), none] []) (st : zTs) (a1 : Nat) (a2 : Int32) (a3 : Int32) (b0 : Int32) (h : w_X11_chooseThird_49 P K4 st a1 a2 a3 b0) : zG Z ad0 h0 p l e ({ frames := 3, cells := 0, slots := 0, locals := 55 } : Room) s m args below meth c (MQ below (zQ Z ad0 h0 (zWv Z zm1 P)) args s 0 0 (zA Z)) 0 0 (zh Z zm1 st) 5 49 [some (.ref 10), some (.ref (21 + 256 * a1)), some (.int (a2)), some (.int (a3)), none] [.int (b0)] := by
  unfold w_X11_chooseThird_49 at h
  refine z_istore C dX11_chooseThird_49 (lc' := [some (.ref 10), some (.ref (21 + 256 * a1)), some (.int (a2)), some (.int (a3)), some (.int (b0))]) (by decide) rfl ?_
  refine z_iload C dX11_chooseThird_51 rfl ?_
  refine z_if_eq C dX11_chooseThird_53 (tgt := 78) (by decide) (fun c53 => ?_) (fun c53 => ?_)
  · have h := h.1 c53
    exact t_drop [true, true, true, true, false] rfl (j_X11_chooseThird_78 hfl C hr hn9 hK4 st a1 a2 a3 h)
  · have h := h.2 c53
    refine z_iload_n C dX11_chooseThird_56 (i := 2) rfl rfl ?_
    refine z_iconst C dX11_chooseThird_57 (v := (-1)) (by decide) ?_
    refine z_icmp_eq C dX11_chooseThird_58 (tgt := 76) (by decide) (fun c58 => ?_) (fun c58 => ?_)
    · have h := h.1 c58
      exact t_drop [true, true, false, true, false] rfl (j_X11_chooseThird_76 hfl C hr hn9 hK4 st a1 a3 h)
    · have h := h.2 c58
      refine z_aload_n C dX11_chooseThird_61 (i := 0) rfl rfl ?_
      refine t_get C dX11_chooseThird_62 fl_X11_29 (k := 10) (i := 0) (by decide) rfl (fg_10_5 _ _ _) ?_
      refine z_iload_n C dX11_chooseThird_65 (i := 3) rfl rfl ?_
      obtain ⟨g66, h⟩ := h
      refine t_iald C dX11_chooseThird_66 (k := 41) (i := 0) (by decide) rfl (sh_41 _ _ _ _) g66 ?_
      refine z_aload_n C dX11_chooseThird_67 (i := 0) rfl rfl ?_
      refine t_get C dX11_chooseThird_68 fl_X11_29 (k := 10) (i := 0) (by decide) rfl (fg_10_5 _ _ _) ?_
      refine z_iload_n C dX11_chooseThird_71 (i := 2) rfl rfl ?_
      obtain ⟨g72, h⟩ := h
      refine t_iald C dX11_chooseThird_72 (k := 41) (i := 0) (by decide) rfl (sh_41 _ _ _ _) g72 ?_
      refine z_icmp_ge C dX11_chooseThird_73 (tgt := 78) (by decide) (fun c73 => ?_) (fun c73 => ?_)
      · have h := h.1 c73
        exact t_drop [true, true, true, true, false] rfl (j_X11_chooseThird_78 hfl C hr hn9 hK4 st a1 a2 a3 h)
      · have h := h.2 c73
        exact t_drop [true, true, false, true, false] rfl (j_X11_chooseThird_76 hfl C hr hn9 hK4 st a1 a3 h)
def w_X11_chooseThird_48 (P : zTs → Prop) (K4 : zTs → Nat → Int32 → Int32 → Prop) (st : zTs) (a1 : Nat) (a2 : Int32) (a3 : Int32) : Prop := w_X11_chooseThird_49 P K4 st a1 a2 a3 (0)
set_option maxHeartbeats 4000000 in
set_option maxRecDepth 100000 in
theorem j_X11_chooseThird_48 {P : zTs → Prop} {K4 : zTs → Nat → Int32 → Int32 → Prop} (hfl : l.stackTraces = false) (C : zC Z p s m args meth c cX11_chooseThird 5 RX11) (hr : meth.sig.returnType = none) (hn9 : True) (hK4 : ∀ (st : zTs) (a1 : Nat) (a2 : Int32) (a3 : Int32), K4 st a1 a2 a3 → zG Z ad0 h0 p l e ({ frames := 3, cells := 0, slots := 0, locals := 55 } : Room) s m args below meth c (MQ below (zQ Z ad0 h0 (zWv Z zm1 P)) args s 0 0 (zA Z)) 0 0 (zh Z zm1 st) 5 4 [some (.ref 10), some (.ref (21 + 256 * a1)), some (.int (a2)), some (.int (a3)), none] []) (st : zTs) (a1 : Nat) (a2 : Int32) (a3 : Int32) (h : w_X11_chooseThird_48 P K4 st a1 a2 a3) : zG Z ad0 h0 p l e ({ frames := 3, cells := 0, slots := 0, locals := 55 } : Room) s m args below meth c (MQ below (zQ Z ad0 h0 (zWv Z zm1 P)) args s 0 0 (zA Z)) 0 0 (zh Z zm1 st) 5 48 [some (.ref 10), some (.ref (21 + 256 * a1)), some (.int (a2)), some (.int (a3)), none] [] := by
  unfold w_X11_chooseThird_48 at h
  refine z_iconst C dX11_chooseThird_48 (v := 0) (by decide) ?_
  exact t_drop [true, true, true, true, false] rfl (j_X11_chooseThird_49 hfl C hr hn9 hK4 st a1 a2 a3 (0) h)
def w_X11_chooseThird_4 (P : zTs → Prop)  : Nat → zTs → Nat → Int32 → Int32 → Prop
  | 0, _, _, _, _ => False
  | n9 + 1, st, a1, a2, a3 => ((zgF st 10 0 13) ≤ a3 → (a2 = (-1) → w_X11_chooseThird_99 P st a1 a2) ∧ (¬ a2 = (-1) → vp_in a2 12 ∧ (vp_in a2 12 ∧ (∀ s98 : zTs, s98 = zuA st 41 0 (a2 : Int32).toNatClampNeg ((zgA st 41 0 (a2 : Int32).toNatClampNeg) + 1) → (w_X11_chooseThird_99 P s98 a1 a2))))) ∧ (¬ (zgF st 10 0 13) ≤ a3 → vp_in 0 3 ∧ ((a3 = (zgA st 61 a1 (0 : Int32).toNatClampNeg) → w_X11_chooseThird_48 P (w_X11_chooseThird_4 P n9) st a1 a2 a3) ∧ (¬ a3 = (zgA st 61 a1 (0 : Int32).toNatClampNeg) → vp_in 1 3 ∧ ((a3 = (zgA st 61 a1 (1 : Int32).toNatClampNeg) → w_X11_chooseThird_48 P (w_X11_chooseThird_4 P n9) st a1 a2 a3) ∧ (¬ a3 = (zgA st 61 a1 (1 : Int32).toNatClampNeg) → w_X11_isBarred st a3 (zgP st 21 a1 0) (fun (r38 : Int32) => ((r38 = 0 → w_X11_chooseThird_49 P (w_X11_chooseThird_4 P n9) st a1 a2 a3 (1)) ∧ (¬ r38 = 0 → w_X11_chooseThird_48 P (w_X11_chooseThird_4 P n9) st a1 a2 a3))))))))
set_option maxHeartbeats 4000000 in
set_option maxRecDepth 100000 in
theorem j_X11_chooseThird_4 {P : zTs → Prop}  (hfl : l.stackTraces = false) (C : zC Z p s m args meth c cX11_chooseThird 5 RX11) (hr : meth.sig.returnType = none) (hn9 : True)  : ∀ (n9 : Nat) (st : zTs) (a1 : Nat) (a2 : Int32) (a3 : Int32), w_X11_chooseThird_4 P n9 st a1 a2 a3 → zG Z ad0 h0 p l e ({ frames := 3, cells := 0, slots := 0, locals := 55 } : Room) s m args below meth c (MQ below (zQ Z ad0 h0 (zWv Z zm1 P)) args s 0 0 (zA Z)) 0 0 (zh Z zm1 st) 5 4 [some (.ref 10), some (.ref (21 + 256 * a1)), some (.int (a2)), some (.int (a3)), none] [] := by
  intro n9
  induction n9 with
  | zero => intro st a1 a2 a3 h; exact h.elim
  | succ n9 hK4 =>
    intro st a1 a2 a3 h
    rw [w_X11_chooseThird_4] at h
    refine z_iload_n C dX11_chooseThird_4 (i := 3) rfl rfl ?_
    refine z_aload_n C dX11_chooseThird_5 (i := 0) rfl rfl ?_
    refine t_get C dX11_chooseThird_6 fl_X11_206 (k := 10) (i := 0) (by decide) rfl (fg_10_13 _ _ _) ?_
    refine z_icmp_ge C dX11_chooseThird_9 (tgt := 84) (by decide) (fun c9 => ?_) (fun c9 => ?_)
    · have h := h.1 c9
      refine z_iload_n C dX11_chooseThird_84 (i := 2) rfl rfl ?_
      refine z_iconst C dX11_chooseThird_85 (v := (-1)) (by decide) ?_
      refine z_icmp_eq C dX11_chooseThird_86 (tgt := 99) (by decide) (fun c86 => ?_) (fun c86 => ?_)
      · have h := h.1 c86
        exact t_drop [false, true, true, false, false] rfl (j_X11_chooseThird_99 hfl C hr hn9  st a1 a2 h)
      · have h := h.2 c86
        refine z_aload_n C dX11_chooseThird_89 (i := 0) rfl rfl ?_
        refine t_get C dX11_chooseThird_90 fl_X11_29 (k := 10) (i := 0) (by decide) rfl (fg_10_5 _ _ _) ?_
        refine z_iload_n C dX11_chooseThird_93 (i := 2) rfl rfl ?_
        refine z_dup2 C dX11_chooseThird_94 rfl rfl ?_
        obtain ⟨g95, h⟩ := h
        refine t_iald C dX11_chooseThird_95 (k := 41) (i := 0) (by decide) rfl (sh_41 _ _ _ _) g95 ?_
        refine z_iconst C dX11_chooseThird_96 (v := 1) (by decide) ?_
        refine z_iadd C dX11_chooseThird_97 ?_
        obtain ⟨g98, h⟩ := h
        refine t_iast C dX11_chooseThird_98 (k := 41) (i := 0) (by decide) rfl (fun s9 => sh_41 _ _ s9 _) g98 ?_
        refine t_tops (fun s98 es98 => ?_)
        have h := h s98 es98
        exact t_drop [false, true, true, false, false] rfl (j_X11_chooseThird_99 hfl C hr hn9  s98 a1 a2 h)
    · have h := h.2 c9
      refine z_iload_n C dX11_chooseThird_12 (i := 3) rfl rfl ?_
      refine z_aload_n C dX11_chooseThird_13 (i := 1) rfl rfl ?_
      refine t_get C dX11_chooseThird_14 fl_X11_209 (k := 21) (i := a1) (by decide) rfl (fg_21_13 _ _ _) ?_
      refine z_iconst C dX11_chooseThird_17 (v := 0) (by decide) ?_
      obtain ⟨g18, h⟩ := h
      refine t_iald C dX11_chooseThird_18 (k := 61) (i := a1) (by decide) rfl (sh_61 _ _ _ _) g18 ?_
      refine z_icmp_eq C dX11_chooseThird_19 (tgt := 48) (by decide) (fun c19 => ?_) (fun c19 => ?_)
      · have h := h.1 c19
        exact t_drop [true, true, true, true, false] rfl (j_X11_chooseThird_48 hfl C hr hn9 hK4 st a1 a2 a3 h)
      · have h := h.2 c19
        refine z_iload_n C dX11_chooseThird_22 (i := 3) rfl rfl ?_
        refine z_aload_n C dX11_chooseThird_23 (i := 1) rfl rfl ?_
        refine t_get C dX11_chooseThird_24 fl_X11_209 (k := 21) (i := a1) (by decide) rfl (fg_21_13 _ _ _) ?_
        refine z_iconst C dX11_chooseThird_27 (v := 1) (by decide) ?_
        obtain ⟨g28, h⟩ := h
        refine t_iald C dX11_chooseThird_28 (k := 61) (i := a1) (by decide) rfl (sh_61 _ _ _ _) g28 ?_
        refine z_icmp_eq C dX11_chooseThird_29 (tgt := 48) (by decide) (fun c29 => ?_) (fun c29 => ?_)
        · have h := h.1 c29
          exact t_drop [true, true, true, true, false] rfl (j_X11_chooseThird_48 hfl C hr hn9 hK4 st a1 a2 a3 h)
        · have h := h.2 c29
          refine z_aload_n C dX11_chooseThird_32 (i := 0) rfl rfl ?_
          refine z_iload_n C dX11_chooseThird_33 (i := 3) rfl rfl ?_
          refine z_aload_n C dX11_chooseThird_34 (i := 1) rfl rfl ?_
          refine t_get C dX11_chooseThird_35 fl_X11_214 (k := 21) (i := a1) (by decide) rfl (fg_21_0 _ _ _) ?_
          refine t_callV C (rest := []) (c2 := 0) (s2 := 0) (kd := 10) (i := 0) [.int (a3), .ref (20 + 256 * (zgP st 21 a1 0))] dX11_chooseThird_38 lk_X11_218 li_X11_isBarred le_X11_isBarred (c_X11_isBarred hfl h) rfl rfl (by decide) rfl ⟨_, rfl⟩ rfl ⟨Nat.le_of_ble_eq_true rfl, Nat.le_of_ble_eq_true rfl⟩ (Nat.le_of_ble_eq_true rfl) ⟨Nat.le_of_ble_eq_true rfl, Nat.le_of_ble_eq_true rfl, Nat.le_of_ble_eq_true rfl, Nat.le_of_ble_eq_true rfl⟩ (k_Ri fun r38 h => ?_)
          refine z_if_ne C dX11_chooseThird_41 (tgt := 48) (by decide) (fun c41 => ?_) (fun c41 => ?_)
          · have h := h.2 c41
            exact t_drop [true, true, true, true, false] rfl (j_X11_chooseThird_48 hfl C hr hn9 hK4 st a1 a2 a3 h)
          · have h := h.1 c41
            refine z_iconst C dX11_chooseThird_44 (v := 1) (by decide) ?_
            refine z_goto C dX11_chooseThird_45 (tgt := 49) (by decide) ?_
            exact t_drop [true, true, true, true, false] rfl (j_X11_chooseThird_49 hfl C hr hn9 hK4 st a1 a2 a3 (1) h)
def w_X11_chooseThird (st : zTs) (a1 : Nat) (P : zTs → Prop) : Prop := w_X11_chooseThird_4 P zfu st a1 (-1) (0)
set_option maxHeartbeats 4000000 in
set_option maxRecDepth 100000 in
theorem c_X11_chooseThird {Z : zZ} {l : Launch} (hfl : l.stackTraces = false) {st : zTs} {a1 : Nat} {P : zTs → Prop} (h : w_X11_chooseThird st a1 P) : zN Z l yX11_chooseThird cX11_chooseThird 5 none ({ frames := 3, cells := 0, slots := 0, locals := 55 } : Room) (zh Z zm1 st) [.ref 10, .ref (21 + 256 * a1)] (zWv Z zm1 P) := by
  unfold w_X11_chooseThird at h
  refine z_enterN (by decide) (Nat.le_of_ble_eq_true rfl) (lc0 := [some (.ref 10), some (.ref (21 + 256 * a1)), none, none, none]) rfl ?_
  intro p e s m args below meth c ad0 C hr _
  have hn9 : True := trivial
  replace C : zC Z p s m args meth c cX11_chooseThird 5 RX11 := C
  refine z_iconst C dX11_chooseThird_0 (v := (-1)) (by decide) ?_
  refine z_istore_n C dX11_chooseThird_1 (i := 2) (lc' := [some (.ref 10), some (.ref (21 + 256 * a1)), some (.int (-1)), none, none]) rfl (by decide) rfl ?_
  refine z_iconst C dX11_chooseThird_2 (v := 0) (by decide) ?_
  refine z_istore_n C dX11_chooseThird_3 (i := 3) (lc' := [some (.ref 10), some (.ref (21 + 256 * a1)), some (.int (-1)), some (.int (0)), none]) rfl (by decide) rfl ?_
  exact t_drop [true, true, true, true, false] rfl (j_X11_chooseThird_4 hfl C hr hn9  zfu st a1 (-1) (0) h)
def w_X11_checkLeast (st : zTs) (a0 : Int32) (a1 : Int32) (X : Nat → Prop) (P : Prop) : Prop := (a1 ≤ a0 → P) ∧ (¬ a1 ≤ a0 → X 1)
set_option maxHeartbeats 4000000 in
set_option maxRecDepth 100000 in
theorem c_X11_checkLeast {Z : zZ} {l : Launch} (hfl : l.stackTraces = false) {st : zTs} {a0 : Int32} {a1 : Int32} {X : Nat → Prop} {P : Prop} (h : w_X11_checkLeast st a0 a1 X P) : zM Z l yX11_checkLeast cX11_checkLeast 2 none ({ frames := 8, cells := 1, slots := 6, locals := 100 } : Room) (zh Z zm1 st) [.int (a0), .int (a1)] (zRv Z st P) (zXr Z st X) := by
  unfold w_X11_checkLeast at h
  refine z_enterM (by decide) (Nat.le_of_ble_eq_true rfl) (lc0 := [some (.int (a0)), some (.int (a1))]) rfl ?_
  intro p e s m args below meth c ad0 C hr hex
  replace C : zC Z p s m args meth c cX11_checkLeast 2 RX11 := C
  refine z_iload_n C dX11_checkLeast_0 (i := 0) rfl rfl ?_
  refine z_iload_n C dX11_checkLeast_1 (i := 1) rfl rfl ?_
  refine z_icmp_ge C dX11_checkLeast_2 (tgt := 16) (by decide) (fun c2 => ?_) (fun c2 => ?_)
  · have h := h.1 c2
    exact zG.up (z_vret C dX11_checkLeast_16 hr ⟨rfl, rfl, h⟩ (Nat.le_of_ble_eq_true rfl) (Nat.le_of_ble_eq_true rfl))
  · have h := h.2 c2
    exact z_throwW C hfl hex (six := 32) (text := "below its least") 1 (by decide) tw_1 (by decide +kernel) dX11_checkLeast_5 dX11_checkLeast_8 dX11_checkLeast_9 dX11_checkLeast_12 dX11_checkLeast_15 ⟨Nat.le_of_ble_eq_true rfl, Nat.le_of_ble_eq_true rfl, Nat.le_of_ble_eq_true rfl, Nat.le_of_ble_eq_true rfl⟩ ⟨Nat.le_of_ble_eq_true rfl, Nat.le_of_ble_eq_true rfl⟩ ⟨rfl, h⟩
def w_X11_checkSegments (st : zTs) (a0 : Int32) (a1 : Int32) (X : Nat → Prop) (P : Prop) : Prop := w_X11_checkRange st a0 0 11 X ((w_X11_checkRange st a1 a0 11 X ((P))))
set_option maxHeartbeats 4000000 in
set_option maxRecDepth 100000 in
theorem c_X11_checkSegments {Z : zZ} {l : Launch} (hfl : l.stackTraces = false) {st : zTs} {a0 : Int32} {a1 : Int32} {X : Nat → Prop} {P : Prop} (h : w_X11_checkSegments st a0 a1 X P) : zM Z l yX11_checkSegments cX11_checkSegments 2 none ({ frames := 9, cells := 2, slots := 12, locals := 122 } : Room) (zh Z zm1 st) [.int (a0), .int (a1)] (zRv Z st P) (zXr Z st X) := by
  unfold w_X11_checkSegments at h
  refine z_enterM (by decide) (Nat.le_of_ble_eq_true rfl) (lc0 := [some (.int (a0)), some (.int (a1))]) rfl ?_
  intro p e s m args below meth c ad0 C hr hex
  replace C : zC Z p s m args meth c cX11_checkSegments 2 RX11 := C
  refine z_iload_n C dX11_checkSegments_0 (i := 0) rfl rfl ?_
  refine z_iconst C dX11_checkSegments_1 (v := 0) (by decide) ?_
  refine z_bipush C dX11_checkSegments_2 (v := 11) (by decide) ?_
  refine t_callSM C hex (rest := []) (c2 := 1) (s2 := 6) [.int (a0), .int (0), .int (11)] dX11_checkSegments_4 lk_X11_107 ls_X11_checkRange (c_X11_checkRange hfl h) rfl rfl ⟨Nat.le_of_ble_eq_true rfl, Nat.le_of_ble_eq_true rfl⟩ (Nat.le_of_ble_eq_true rfl) ⟨Nat.le_of_ble_eq_true rfl, Nat.le_of_ble_eq_true rfl, Nat.le_of_ble_eq_true rfl, Nat.le_of_ble_eq_true rfl⟩ (fun _ _ q => q) ⟨Nat.le_of_ble_eq_true rfl, Nat.le_of_ble_eq_true rfl⟩ (k_Rv fun h => ?_)
  refine z_iload_n C dX11_checkSegments_7 (i := 1) rfl rfl ?_
  refine z_iload_n C dX11_checkSegments_8 (i := 0) rfl rfl ?_
  refine z_bipush C dX11_checkSegments_9 (v := 11) (by decide) ?_
  refine t_callSM C hex (rest := []) (c2 := 2) (s2 := 12) [.int (a1), .int (a0), .int (11)] dX11_checkSegments_11 lk_X11_107 ls_X11_checkRange (c_X11_checkRange hfl h) rfl rfl ⟨Nat.le_of_ble_eq_true rfl, Nat.le_of_ble_eq_true rfl⟩ (Nat.le_of_ble_eq_true rfl) ⟨Nat.le_of_ble_eq_true rfl, Nat.le_of_ble_eq_true rfl, Nat.le_of_ble_eq_true rfl, Nat.le_of_ble_eq_true rfl⟩ (fun _ _ q => q) ⟨Nat.le_of_ble_eq_true rfl, Nat.le_of_ble_eq_true rfl⟩ (k_Rv fun h => ?_)
  exact zG.up (z_vret C dX11_checkSegments_14 hr ⟨rfl, rfl, h⟩ (Nat.le_of_ble_eq_true rfl) (Nat.le_of_ble_eq_true rfl))
def w_X11_payUnlessFull (st : zTs) (a1 : Int32) (a2 : Int32) (a3 : Int32) (P : Int32 → zTs → Prop) : Prop := (a3 = 0 → P 1 st) ∧ (¬ a3 = 0 → w_X1_isFull st (fun (r10 : Int32) => ((r10 = 0 → w_X1_write st a1 a2 a3 (zgF st 10 0 15) (fun (s29 : zTs) => (P 1 s29))) ∧ (¬ r10 = 0 → P 0 st))))
set_option maxHeartbeats 4000000 in
set_option maxRecDepth 100000 in
theorem c_X11_payUnlessFull {Z : zZ} {l : Launch} (hfl : l.stackTraces = false) {st : zTs} {a1 : Int32} {a2 : Int32} {a3 : Int32} {P : Int32 → zTs → Prop} (h : w_X11_payUnlessFull st a1 a2 a3 P) : zN Z l yX11_payUnlessFull cX11_payUnlessFull 4 (some .boolean) ({ frames := 2, cells := 0, slots := 0, locals := 36 } : Room) (zh Z zm1 st) [.ref 10, .int (a1), .int (a2), .int (a3)] (zWi Z P) := by
  unfold w_X11_payUnlessFull at h
  refine z_enterN (by decide) (Nat.le_of_ble_eq_true rfl) (lc0 := [some (.ref 10), some (.int (a1)), some (.int (a2)), some (.int (a3))]) rfl ?_
  intro p e s m args below meth c ad0 C hr _
  have hn9 : True := trivial
  replace C : zC Z p s m args meth c cX11_payUnlessFull 4 RX11 := C
  refine z_iload_n C dX11_payUnlessFull_0 (i := 3) rfl rfl ?_
  refine z_if_ne C dX11_payUnlessFull_1 (tgt := 6) (by decide) (fun c1 => ?_) (fun c1 => ?_)
  · have h := h.2 c1
    refine z_aload_n C dX11_payUnlessFull_6 (i := 0) rfl rfl ?_
    refine t_get C dX11_payUnlessFull_7 fl_X11_38 (k := 10) (i := 0) (by decide) rfl (fg_10_7 _ _ _) ?_
    refine t_callV C (rest := []) (c2 := 0) (s2 := 0) (kd := 11) (i := 0) [] dX11_payUnlessFull_10 lk_X11_258 li_X1_isFull le_X1_isFull (c_X1_isFull hfl h) rfl rfl (by decide) rfl ⟨_, rfl⟩ rfl ⟨Nat.le_of_ble_eq_true rfl, Nat.le_of_ble_eq_true rfl⟩ (Nat.le_of_ble_eq_true rfl) ⟨Nat.le_of_ble_eq_true rfl, Nat.le_of_ble_eq_true rfl, Nat.le_of_ble_eq_true rfl, Nat.le_of_ble_eq_true rfl⟩ (k_Ri fun r10 h => ?_)
    refine z_if_eq C dX11_payUnlessFull_13 (tgt := 18) (by decide) (fun c13 => ?_) (fun c13 => ?_)
    · have h := h.1 c13
      refine z_aload_n C dX11_payUnlessFull_18 (i := 0) rfl rfl ?_
      refine t_get C dX11_payUnlessFull_19 fl_X11_38 (k := 10) (i := 0) (by decide) rfl (fg_10_7 _ _ _) ?_
      refine z_iload_n C dX11_payUnlessFull_22 (i := 1) rfl rfl ?_
      refine z_iload_n C dX11_payUnlessFull_23 (i := 2) rfl rfl ?_
      refine z_iload_n C dX11_payUnlessFull_24 (i := 3) rfl rfl ?_
      refine z_aload_n C dX11_payUnlessFull_25 (i := 0) rfl rfl ?_
      refine t_get C dX11_payUnlessFull_26 fl_X11_111 (k := 10) (i := 0) (by decide) rfl (fg_10_15 _ _ _) ?_
      refine t_callV C (rest := []) (c2 := 0) (s2 := 0) (kd := 11) (i := 0) [.int (a1), .int (a2), .int (a3), .int (zgF st 10 0 15)] dX11_payUnlessFull_29 lk_X11_270 li_X1_write le_X1_write (c_X1_write hfl h) rfl rfl (by decide) rfl ⟨_, rfl⟩ rfl ⟨Nat.le_of_ble_eq_true rfl, Nat.le_of_ble_eq_true rfl⟩ (Nat.le_of_ble_eq_true rfl) ⟨Nat.le_of_ble_eq_true rfl, Nat.le_of_ble_eq_true rfl, Nat.le_of_ble_eq_true rfl, Nat.le_of_ble_eq_true rfl⟩ (k_Wv fun s29 h => ?_)
      refine z_iconst C dX11_payUnlessFull_32 (v := 1) (by decide) ?_
      exact z_iret C dX11_payUnlessFull_33 hr rfl ⟨_, _, rfl, rfl, h⟩ (Nat.le_of_ble_eq_true rfl) (Nat.le_of_ble_eq_true rfl)
    · have h := h.2 c13
      refine z_iconst C dX11_payUnlessFull_16 (v := 0) (by decide) ?_
      exact z_iret C dX11_payUnlessFull_17 hr rfl ⟨_, _, rfl, rfl, h⟩ (Nat.le_of_ble_eq_true rfl) (Nat.le_of_ble_eq_true rfl)
  · have h := h.1 c1
    refine z_iconst C dX11_payUnlessFull_4 (v := 1) (by decide) ?_
    exact z_iret C dX11_payUnlessFull_5 hr rfl ⟨_, _, rfl, rfl, h⟩ (Nat.le_of_ble_eq_true rfl) (Nat.le_of_ble_eq_true rfl)
def w_X11_mend (st : zTs) (a1 : Int32) (a2 : Int32) (X : Nat → zTs → Prop) (P : Int32 → zTs → Prop) : Prop := w_X1_payments st (fun (r5 : Int32) => (w_X11_checkIndex st a1 r5 (fun k9 => X k9 st) ((w_X11_checkRange st a2 0 1000000000 (fun k9 => X k9 st) ((w_X1_mendings st (fun (r23 : Int32) => ((r23 < 60 → w_X1_sumKnown st a1 (zgF st 10 0 15) (fun (r42 : Int32) => (w_X1_mendSum st a1 a2 (zgF st 10 0 15) (fun (s56 : zTs) => (P r42 s56))))) ∧ (¬ r23 < 60 → P (-1) st)))))))))
set_option maxHeartbeats 4000000 in
set_option maxRecDepth 100000 in
theorem c_X11_mend {Z : zZ} {l : Launch} (hfl : l.stackTraces = false) {st : zTs} {a1 : Int32} {a2 : Int32} {X : Nat → zTs → Prop} {P : Int32 → zTs → Prop} (h : w_X11_mend st a1 a2 X P) : zM Z l yX11_mend cX11_mend 4 (some .int) ({ frames := 9, cells := 2, slots := 12, locals := 122 } : Room) (zh Z zm1 st) [.ref 10, .int (a1), .int (a2)] (zWi Z P) (zXs Z X) := by
  unfold w_X11_mend at h
  refine z_enterM (by decide) (Nat.le_of_ble_eq_true rfl) (lc0 := [some (.ref 10), some (.int (a1)), some (.int (a2)), none]) rfl ?_
  intro p e s m args below meth c ad0 C hr hex
  replace C : zC Z p s m args meth c cX11_mend 4 RX11 := C
  refine z_iload_n C dX11_mend_0 (i := 1) rfl rfl ?_
  refine z_aload_n C dX11_mend_1 (i := 0) rfl rfl ?_
  refine t_get C dX11_mend_2 fl_X11_38 (k := 10) (i := 0) (by decide) rfl (fg_10_7 _ _ _) ?_
  refine t_callV C (rest := [.int (a1)]) (c2 := 0) (s2 := 0) (kd := 11) (i := 0) [] dX11_mend_5 lk_X11_335 li_X1_payments le_X1_payments (c_X1_payments hfl h) rfl rfl (by decide) rfl ⟨_, rfl⟩ rfl ⟨Nat.le_of_ble_eq_true rfl, Nat.le_of_ble_eq_true rfl⟩ (Nat.le_of_ble_eq_true rfl) ⟨Nat.le_of_ble_eq_true rfl, Nat.le_of_ble_eq_true rfl, Nat.le_of_ble_eq_true rfl, Nat.le_of_ble_eq_true rfl⟩ (k_Ri fun r5 h => ?_)
  refine t_callSM C hex (rest := []) (c2 := 1) (s2 := 6) [.int (a1), .int (r5)] dX11_mend_8 lk_X11_77 ls_X11_checkIndex (c_X11_checkIndex hfl h) rfl rfl ⟨Nat.le_of_ble_eq_true rfl, Nat.le_of_ble_eq_true rfl⟩ (Nat.le_of_ble_eq_true rfl) ⟨Nat.le_of_ble_eq_true rfl, Nat.le_of_ble_eq_true rfl, Nat.le_of_ble_eq_true rfl, Nat.le_of_ble_eq_true rfl⟩ (fun _ _ q => ⟨_, q.1, q.2⟩) ⟨Nat.le_of_ble_eq_true rfl, Nat.le_of_ble_eq_true rfl⟩ (k_Rv fun h => ?_)
  refine z_iload_n C dX11_mend_11 (i := 2) rfl rfl ?_
  refine z_iconst C dX11_mend_12 (v := 0) (by decide) ?_
  refine z_ldc_w C dX11_mend_13 kc_X11_338 ?_
  refine t_callSM C hex (rest := []) (c2 := 2) (s2 := 12) [.int (a2), .int (0), .int (1000000000)] dX11_mend_16 lk_X11_107 ls_X11_checkRange (c_X11_checkRange hfl h) rfl rfl ⟨Nat.le_of_ble_eq_true rfl, Nat.le_of_ble_eq_true rfl⟩ (Nat.le_of_ble_eq_true rfl) ⟨Nat.le_of_ble_eq_true rfl, Nat.le_of_ble_eq_true rfl, Nat.le_of_ble_eq_true rfl, Nat.le_of_ble_eq_true rfl⟩ (fun _ _ q => ⟨_, q.1, q.2⟩) ⟨Nat.le_of_ble_eq_true rfl, Nat.le_of_ble_eq_true rfl⟩ (k_Rv fun h => ?_)
  refine z_aload_n C dX11_mend_19 (i := 0) rfl rfl ?_
  refine t_get C dX11_mend_20 fl_X11_38 (k := 10) (i := 0) (by decide) rfl (fg_10_7 _ _ _) ?_
  refine t_callV C (rest := []) (c2 := 2) (s2 := 12) (kd := 11) (i := 0) [] dX11_mend_23 lk_X11_339 li_X1_mendings le_X1_mendings (c_X1_mendings hfl h) rfl rfl (by decide) rfl ⟨_, rfl⟩ rfl ⟨Nat.le_of_ble_eq_true rfl, Nat.le_of_ble_eq_true rfl⟩ (Nat.le_of_ble_eq_true rfl) ⟨Nat.le_of_ble_eq_true rfl, Nat.le_of_ble_eq_true rfl, Nat.le_of_ble_eq_true rfl, Nat.le_of_ble_eq_true rfl⟩ (k_Ri fun r23 h => ?_)
  refine z_bipush C dX11_mend_26 (v := 60) (by decide) ?_
  refine z_icmp_lt C dX11_mend_28 (tgt := 33) (by decide) (fun c28 => ?_) (fun c28 => ?_)
  · have h := h.1 c28
    refine z_aload_n C dX11_mend_33 (i := 0) rfl rfl ?_
    refine t_get C dX11_mend_34 fl_X11_38 (k := 10) (i := 0) (by decide) rfl (fg_10_7 _ _ _) ?_
    refine z_iload_n C dX11_mend_37 (i := 1) rfl rfl ?_
    refine z_aload_n C dX11_mend_38 (i := 0) rfl rfl ?_
    refine t_get C dX11_mend_39 fl_X11_111 (k := 10) (i := 0) (by decide) rfl (fg_10_15 _ _ _) ?_
    refine t_callV C (rest := []) (c2 := 2) (s2 := 12) (kd := 11) (i := 0) [.int (a1), .int (zgF st 10 0 15)] dX11_mend_42 lk_X11_342 li_X1_sumKnown le_X1_sumKnown (c_X1_sumKnown hfl h) rfl rfl (by decide) rfl ⟨_, rfl⟩ rfl ⟨Nat.le_of_ble_eq_true rfl, Nat.le_of_ble_eq_true rfl⟩ (Nat.le_of_ble_eq_true rfl) ⟨Nat.le_of_ble_eq_true rfl, Nat.le_of_ble_eq_true rfl, Nat.le_of_ble_eq_true rfl, Nat.le_of_ble_eq_true rfl⟩ (k_Ri fun r42 h => ?_)
    refine z_istore_n C dX11_mend_45 (i := 3) (lc' := [some (.ref 10), some (.int (a1)), some (.int (a2)), some (.int (r42))]) rfl (by decide) rfl ?_
    refine z_aload_n C dX11_mend_46 (i := 0) rfl rfl ?_
    refine t_get C dX11_mend_47 fl_X11_38 (k := 10) (i := 0) (by decide) rfl (fg_10_7 _ _ _) ?_
    refine z_iload_n C dX11_mend_50 (i := 1) rfl rfl ?_
    refine z_iload_n C dX11_mend_51 (i := 2) rfl rfl ?_
    refine z_aload_n C dX11_mend_52 (i := 0) rfl rfl ?_
    refine t_get C dX11_mend_53 fl_X11_111 (k := 10) (i := 0) (by decide) rfl (fg_10_15 _ _ _) ?_
    refine t_callV C (rest := []) (c2 := 2) (s2 := 12) (kd := 11) (i := 0) [.int (a1), .int (a2), .int (zgF st 10 0 15)] dX11_mend_56 lk_X11_345 li_X1_mendSum le_X1_mendSum (c_X1_mendSum hfl h) rfl rfl (by decide) rfl ⟨_, rfl⟩ rfl ⟨Nat.le_of_ble_eq_true rfl, Nat.le_of_ble_eq_true rfl⟩ (Nat.le_of_ble_eq_true rfl) ⟨Nat.le_of_ble_eq_true rfl, Nat.le_of_ble_eq_true rfl, Nat.le_of_ble_eq_true rfl, Nat.le_of_ble_eq_true rfl⟩ (k_Wv fun s56 h => ?_)
    refine z_iload_n C dX11_mend_59 (i := 3) rfl rfl ?_
    exact zG.up (z_iret C dX11_mend_60 hr rfl ⟨_, _, rfl, rfl, h⟩ (Nat.le_of_ble_eq_true rfl) (Nat.le_of_ble_eq_true rfl))
  · have h := h.2 c28
    refine z_iconst C dX11_mend_31 (v := (-1)) (by decide) ?_
    exact zG.up (z_iret C dX11_mend_32 hr rfl ⟨_, _, rfl, rfl, h⟩ (Nat.le_of_ble_eq_true rfl) (Nat.le_of_ble_eq_true rfl))
def w_X11_payment (st : zTs) (a1 : Int32) (a2 : Int32) (X : Nat → Prop) (P : Int32 → Prop) : Prop := w_X1_payments st (fun (r5 : Int32) => (w_X11_checkIndex st a1 r5 X ((w_X11_checkRange st a2 0 3 X (((a2 = 0 → w_X1_payerOf st a1 (fun (r49 : Int32) => (P r49))) ∧ (a2 = 1 → w_X1_receiverOf st a1 (fun (r58 : Int32) => (P r58))) ∧ (a2 = 2 → w_X1_sumKnown st a1 (zgF st 10 0 15) (fun (r71 : Int32) => (P r71))) ∧ (¬ a2 = 0 ∧ ¬ a2 = 1 ∧ ¬ a2 = 2 → w_X1_dayOf st a1 (fun (r80 : Int32) => (P r80)))))))))
set_option maxHeartbeats 4000000 in
set_option maxRecDepth 100000 in
theorem c_X11_payment {Z : zZ} {l : Launch} (hfl : l.stackTraces = false) {st : zTs} {a1 : Int32} {a2 : Int32} {X : Nat → Prop} {P : Int32 → Prop} (h : w_X11_payment st a1 a2 X P) : zM Z l yX11_payment cX11_payment 3 (some .int) ({ frames := 9, cells := 2, slots := 12, locals := 122 } : Room) (zh Z zm1 st) [.ref 10, .int (a1), .int (a2)] (zRi Z st P) (zXr Z st X) := by
  unfold w_X11_payment at h
  refine z_enterM (by decide) (Nat.le_of_ble_eq_true rfl) (lc0 := [some (.ref 10), some (.int (a1)), some (.int (a2))]) rfl ?_
  intro p e s m args below meth c ad0 C hr hex
  replace C : zC Z p s m args meth c cX11_payment 3 RX11 := C
  refine z_iload_n C dX11_payment_0 (i := 1) rfl rfl ?_
  refine z_aload_n C dX11_payment_1 (i := 0) rfl rfl ?_
  refine t_get C dX11_payment_2 fl_X11_38 (k := 10) (i := 0) (by decide) rfl (fg_10_7 _ _ _) ?_
  refine t_callV C (rest := [.int (a1)]) (c2 := 0) (s2 := 0) (kd := 11) (i := 0) [] dX11_payment_5 lk_X11_335 li_X1_payments le_X1_payments (c_X1_payments hfl h) rfl rfl (by decide) rfl ⟨_, rfl⟩ rfl ⟨Nat.le_of_ble_eq_true rfl, Nat.le_of_ble_eq_true rfl⟩ (Nat.le_of_ble_eq_true rfl) ⟨Nat.le_of_ble_eq_true rfl, Nat.le_of_ble_eq_true rfl, Nat.le_of_ble_eq_true rfl, Nat.le_of_ble_eq_true rfl⟩ (k_Ri fun r5 h => ?_)
  refine t_callSM C hex (rest := []) (c2 := 1) (s2 := 6) [.int (a1), .int (r5)] dX11_payment_8 lk_X11_77 ls_X11_checkIndex (c_X11_checkIndex hfl h) rfl rfl ⟨Nat.le_of_ble_eq_true rfl, Nat.le_of_ble_eq_true rfl⟩ (Nat.le_of_ble_eq_true rfl) ⟨Nat.le_of_ble_eq_true rfl, Nat.le_of_ble_eq_true rfl, Nat.le_of_ble_eq_true rfl, Nat.le_of_ble_eq_true rfl⟩ (fun _ _ q => q) ⟨Nat.le_of_ble_eq_true rfl, Nat.le_of_ble_eq_true rfl⟩ (k_Rv fun h => ?_)
  refine z_iload_n C dX11_payment_11 (i := 2) rfl rfl ?_
  refine z_iconst C dX11_payment_12 (v := 0) (by decide) ?_
  refine z_iconst C dX11_payment_13 (v := 3) (by decide) ?_
  refine t_callSM C hex (rest := []) (c2 := 2) (s2 := 12) [.int (a2), .int (0), .int (3)] dX11_payment_14 lk_X11_107 ls_X11_checkRange (c_X11_checkRange hfl h) rfl rfl ⟨Nat.le_of_ble_eq_true rfl, Nat.le_of_ble_eq_true rfl⟩ (Nat.le_of_ble_eq_true rfl) ⟨Nat.le_of_ble_eq_true rfl, Nat.le_of_ble_eq_true rfl, Nat.le_of_ble_eq_true rfl, Nat.le_of_ble_eq_true rfl⟩ (fun _ _ q => q) ⟨Nat.le_of_ble_eq_true rfl, Nat.le_of_ble_eq_true rfl⟩ (k_Rv fun h => ?_)
  refine z_iload_n C dX11_payment_17 (i := 2) rfl rfl ?_
  by_cases c18_0 : a2 = 0
  · have h := h.1 c18_0
    refine z_tableIn C dX11_payment_18 (off := 26) (tgt := 44) (by rw [c18_0]; decide) (by rw [c18_0]; decide) (by rw [c18_0]; rfl) (by decide) ?_
    refine z_aload_n C dX11_payment_44 (i := 0) rfl rfl ?_
    refine t_get C dX11_payment_45 fl_X11_38 (k := 10) (i := 0) (by decide) rfl (fg_10_7 _ _ _) ?_
    refine z_iload_n C dX11_payment_48 (i := 1) rfl rfl ?_
    refine t_callV C (rest := []) (c2 := 2) (s2 := 12) (kd := 11) (i := 0) [.int (a1)] dX11_payment_49 lk_X11_348 li_X1_payerOf le_X1_payerOf (c_X1_payerOf hfl h) rfl rfl (by decide) rfl ⟨_, rfl⟩ rfl ⟨Nat.le_of_ble_eq_true rfl, Nat.le_of_ble_eq_true rfl⟩ (Nat.le_of_ble_eq_true rfl) ⟨Nat.le_of_ble_eq_true rfl, Nat.le_of_ble_eq_true rfl, Nat.le_of_ble_eq_true rfl, Nat.le_of_ble_eq_true rfl⟩ (k_Ri fun r49 h => ?_)
    exact zG.up (z_iret C dX11_payment_52 hr rfl ⟨rfl, _, rfl, h⟩ (Nat.le_of_ble_eq_true rfl) (Nat.le_of_ble_eq_true rfl))
  · by_cases c18_1 : a2 = 1
    · have h := h.2.1 c18_1
      refine z_tableIn C dX11_payment_18 (off := 35) (tgt := 53) (by rw [c18_1]; decide) (by rw [c18_1]; decide) (by rw [c18_1]; rfl) (by decide) ?_
      refine z_aload_n C dX11_payment_53 (i := 0) rfl rfl ?_
      refine t_get C dX11_payment_54 fl_X11_38 (k := 10) (i := 0) (by decide) rfl (fg_10_7 _ _ _) ?_
      refine z_iload_n C dX11_payment_57 (i := 1) rfl rfl ?_
      refine t_callV C (rest := []) (c2 := 2) (s2 := 12) (kd := 11) (i := 0) [.int (a1)] dX11_payment_58 lk_X11_351 li_X1_receiverOf le_X1_receiverOf (c_X1_receiverOf hfl h) rfl rfl (by decide) rfl ⟨_, rfl⟩ rfl ⟨Nat.le_of_ble_eq_true rfl, Nat.le_of_ble_eq_true rfl⟩ (Nat.le_of_ble_eq_true rfl) ⟨Nat.le_of_ble_eq_true rfl, Nat.le_of_ble_eq_true rfl, Nat.le_of_ble_eq_true rfl, Nat.le_of_ble_eq_true rfl⟩ (k_Ri fun r58 h => ?_)
      exact zG.up (z_iret C dX11_payment_61 hr rfl ⟨rfl, _, rfl, h⟩ (Nat.le_of_ble_eq_true rfl) (Nat.le_of_ble_eq_true rfl))
    · by_cases c18_2 : a2 = 2
      · have h := h.2.2.1 c18_2
        refine z_tableIn C dX11_payment_18 (off := 44) (tgt := 62) (by rw [c18_2]; decide) (by rw [c18_2]; decide) (by rw [c18_2]; rfl) (by decide) ?_
        refine z_aload_n C dX11_payment_62 (i := 0) rfl rfl ?_
        refine t_get C dX11_payment_63 fl_X11_38 (k := 10) (i := 0) (by decide) rfl (fg_10_7 _ _ _) ?_
        refine z_iload_n C dX11_payment_66 (i := 1) rfl rfl ?_
        refine z_aload_n C dX11_payment_67 (i := 0) rfl rfl ?_
        refine t_get C dX11_payment_68 fl_X11_111 (k := 10) (i := 0) (by decide) rfl (fg_10_15 _ _ _) ?_
        refine t_callV C (rest := []) (c2 := 2) (s2 := 12) (kd := 11) (i := 0) [.int (a1), .int (zgF st 10 0 15)] dX11_payment_71 lk_X11_342 li_X1_sumKnown le_X1_sumKnown (c_X1_sumKnown hfl h) rfl rfl (by decide) rfl ⟨_, rfl⟩ rfl ⟨Nat.le_of_ble_eq_true rfl, Nat.le_of_ble_eq_true rfl⟩ (Nat.le_of_ble_eq_true rfl) ⟨Nat.le_of_ble_eq_true rfl, Nat.le_of_ble_eq_true rfl, Nat.le_of_ble_eq_true rfl, Nat.le_of_ble_eq_true rfl⟩ (k_Ri fun r71 h => ?_)
        exact zG.up (z_iret C dX11_payment_74 hr rfl ⟨rfl, _, rfl, h⟩ (Nat.le_of_ble_eq_true rfl) (Nat.le_of_ble_eq_true rfl))
      · have h := h.2.2.2 ⟨c18_0, c18_1, c18_2⟩
        refine z_tableOut C dX11_payment_18 (tgt := 75) (zsw_out (lt_s (p := fun a => ¬ a2 = nI a) (lt_s (p := fun a => ¬ a2 = nI a) (lt_s (p := fun a => ¬ a2 = nI a) lt_0 c18_0) c18_1) c18_2)) (by decide) ?_
        refine z_aload_n C dX11_payment_75 (i := 0) rfl rfl ?_
        refine t_get C dX11_payment_76 fl_X11_38 (k := 10) (i := 0) (by decide) rfl (fg_10_7 _ _ _) ?_
        refine z_iload_n C dX11_payment_79 (i := 1) rfl rfl ?_
        refine t_callV C (rest := []) (c2 := 2) (s2 := 12) (kd := 11) (i := 0) [.int (a1)] dX11_payment_80 lk_X11_354 li_X1_dayOf le_X1_dayOf (c_X1_dayOf hfl h) rfl rfl (by decide) rfl ⟨_, rfl⟩ rfl ⟨Nat.le_of_ble_eq_true rfl, Nat.le_of_ble_eq_true rfl⟩ (Nat.le_of_ble_eq_true rfl) ⟨Nat.le_of_ble_eq_true rfl, Nat.le_of_ble_eq_true rfl, Nat.le_of_ble_eq_true rfl, Nat.le_of_ble_eq_true rfl⟩ (k_Ri fun r80 h => ?_)
        exact zG.up (z_iret C dX11_payment_83 hr rfl ⟨rfl, _, rfl, h⟩ (Nat.le_of_ble_eq_true rfl) (Nat.le_of_ble_eq_true rfl))
def w_X11_balance (st : zTs) (a1 : Int32) (a2 : Int32) (a3 : Int32) (X : Nat → Prop) (P : Int64 → Prop) : Prop := w_X11_checkIndex st a1 (zgF st 10 0 12) X ((w_X1_balanceOf st a1 a2 a3 (fun (r15 : Int64) => (P r15))))
set_option maxHeartbeats 4000000 in
set_option maxRecDepth 100000 in
theorem c_X11_balance {Z : zZ} {l : Launch} (hfl : l.stackTraces = false) {st : zTs} {a1 : Int32} {a2 : Int32} {a3 : Int32} {X : Nat → Prop} {P : Int64 → Prop} (h : w_X11_balance st a1 a2 a3 X P) : zM Z l yX11_balance cX11_balance 4 (some .long) ({ frames := 9, cells := 1, slots := 6, locals := 121 } : Room) (zh Z zm1 st) [.ref 10, .int (a1), .int (a2), .int (a3)] (zRl Z st P) (zXr Z st X) := by
  unfold w_X11_balance at h
  refine z_enterM (by decide) (Nat.le_of_ble_eq_true rfl) (lc0 := [some (.ref 10), some (.int (a1)), some (.int (a2)), some (.int (a3))]) rfl ?_
  intro p e s m args below meth c ad0 C hr hex
  replace C : zC Z p s m args meth c cX11_balance 4 RX11 := C
  refine z_iload_n C dX11_balance_0 (i := 1) rfl rfl ?_
  refine z_aload_n C dX11_balance_1 (i := 0) rfl rfl ?_
  refine t_get C dX11_balance_2 fl_X11_69 (k := 10) (i := 0) (by decide) rfl (fg_10_12 _ _ _) ?_
  refine t_callSM C hex (rest := []) (c2 := 1) (s2 := 6) [.int (a1), .int (zgF st 10 0 12)] dX11_balance_5 lk_X11_77 ls_X11_checkIndex (c_X11_checkIndex hfl h) rfl rfl ⟨Nat.le_of_ble_eq_true rfl, Nat.le_of_ble_eq_true rfl⟩ (Nat.le_of_ble_eq_true rfl) ⟨Nat.le_of_ble_eq_true rfl, Nat.le_of_ble_eq_true rfl, Nat.le_of_ble_eq_true rfl, Nat.le_of_ble_eq_true rfl⟩ (fun _ _ q => q) ⟨Nat.le_of_ble_eq_true rfl, Nat.le_of_ble_eq_true rfl⟩ (k_Rv fun h => ?_)
  refine z_aload_n C dX11_balance_8 (i := 0) rfl rfl ?_
  refine t_get C dX11_balance_9 fl_X11_38 (k := 10) (i := 0) (by decide) rfl (fg_10_7 _ _ _) ?_
  refine z_iload_n C dX11_balance_12 (i := 1) rfl rfl ?_
  refine z_iload_n C dX11_balance_13 (i := 2) rfl rfl ?_
  refine z_iload_n C dX11_balance_14 (i := 3) rfl rfl ?_
  refine t_callV C (rest := []) (c2 := 1) (s2 := 6) (kd := 11) (i := 0) [.int (a1), .int (a2), .int (a3)] dX11_balance_15 lk_X11_357 li_X1_balanceOf le_X1_balanceOf (c_X1_balanceOf hfl h) rfl rfl (by decide) rfl ⟨_, rfl⟩ rfl ⟨Nat.le_of_ble_eq_true rfl, Nat.le_of_ble_eq_true rfl⟩ (Nat.le_of_ble_eq_true rfl) ⟨Nat.le_of_ble_eq_true rfl, Nat.le_of_ble_eq_true rfl, Nat.le_of_ble_eq_true rfl, Nat.le_of_ble_eq_true rfl⟩ (k_Rl fun r15 h => ?_)
  exact zG.up (z_lret C dX11_balance_18 hr ⟨rfl, _, rfl, h⟩ (Nat.le_of_ble_eq_true rfl) (Nat.le_of_ble_eq_true rfl))
def w_X11_hand (st : zTs) (a1 : Int32) (X : Nat → zTs → Prop) (P : Int32 → zTs → Prop) : Prop := w_X11_checkRange st a1 (-50) 50 (fun k9 => X k9 st) ((w_X11_checkRoom st (zgF st 10 0 14) 5 (fun k9 => X k9 st) ((vp_in (zgF st 10 0 14) 5 ∧ (∀ s25 : zTs, s25 = zuA st 42 0 (zgF st 10 0 14 : Int32).toNatClampNeg a1 → (∀ s33 : zTs, s33 = zuF s25 10 0 14 ((zgF s25 10 0 14) + 1) → (P ((zgF s33 10 0 14) - 1) s33)))))))
set_option maxHeartbeats 4000000 in
set_option maxRecDepth 100000 in
theorem c_X11_hand {Z : zZ} {l : Launch} (hfl : l.stackTraces = false) {st : zTs} {a1 : Int32} {X : Nat → zTs → Prop} {P : Int32 → zTs → Prop} (h : w_X11_hand st a1 X P) : zM Z l yX11_hand cX11_hand 2 (some .int) ({ frames := 9, cells := 2, slots := 12, locals := 122 } : Room) (zh Z zm1 st) [.ref 10, .int (a1)] (zWi Z P) (zXs Z X) := by
  unfold w_X11_hand at h
  refine z_enterM (by decide) (Nat.le_of_ble_eq_true rfl) (lc0 := [some (.ref 10), some (.int (a1))]) rfl ?_
  intro p e s m args below meth c ad0 C hr hex
  replace C : zC Z p s m args meth c cX11_hand 2 RX11 := C
  refine z_iload_n C dX11_hand_0 (i := 1) rfl rfl ?_
  refine z_bipush C dX11_hand_1 (v := (-50)) (by decide) ?_
  refine z_bipush C dX11_hand_3 (v := 50) (by decide) ?_
  refine t_callSM C hex (rest := []) (c2 := 1) (s2 := 6) [.int (a1), .int (-50), .int (50)] dX11_hand_5 lk_X11_107 ls_X11_checkRange (c_X11_checkRange hfl h) rfl rfl ⟨Nat.le_of_ble_eq_true rfl, Nat.le_of_ble_eq_true rfl⟩ (Nat.le_of_ble_eq_true rfl) ⟨Nat.le_of_ble_eq_true rfl, Nat.le_of_ble_eq_true rfl, Nat.le_of_ble_eq_true rfl, Nat.le_of_ble_eq_true rfl⟩ (fun _ _ q => ⟨_, q.1, q.2⟩) ⟨Nat.le_of_ble_eq_true rfl, Nat.le_of_ble_eq_true rfl⟩ (k_Rv fun h => ?_)
  refine z_aload_n C dX11_hand_8 (i := 0) rfl rfl ?_
  refine t_get C dX11_hand_9 fl_X11_361 (k := 10) (i := 0) (by decide) rfl (fg_10_14 _ _ _) ?_
  refine z_iconst C dX11_hand_12 (v := 5) (by decide) ?_
  refine t_callSM C hex (rest := []) (c2 := 2) (s2 := 12) [.int (zgF st 10 0 14), .int (5)] dX11_hand_13 lk_X11_73 ls_X11_checkRoom (c_X11_checkRoom hfl h) rfl rfl ⟨Nat.le_of_ble_eq_true rfl, Nat.le_of_ble_eq_true rfl⟩ (Nat.le_of_ble_eq_true rfl) ⟨Nat.le_of_ble_eq_true rfl, Nat.le_of_ble_eq_true rfl, Nat.le_of_ble_eq_true rfl, Nat.le_of_ble_eq_true rfl⟩ (fun _ _ q => ⟨_, q.1, q.2⟩) ⟨Nat.le_of_ble_eq_true rfl, Nat.le_of_ble_eq_true rfl⟩ (k_Rv fun h => ?_)
  refine z_aload_n C dX11_hand_16 (i := 0) rfl rfl ?_
  refine t_get C dX11_hand_17 fl_X11_32 (k := 10) (i := 0) (by decide) rfl (fg_10_6 _ _ _) ?_
  refine z_aload_n C dX11_hand_20 (i := 0) rfl rfl ?_
  refine t_get C dX11_hand_21 fl_X11_361 (k := 10) (i := 0) (by decide) rfl (fg_10_14 _ _ _) ?_
  refine z_iload_n C dX11_hand_24 (i := 1) rfl rfl ?_
  obtain ⟨g25, h⟩ := h
  refine t_iast C dX11_hand_25 (k := 42) (i := 0) (by decide) rfl (fun s9 => sh_42 _ _ s9 _) g25 ?_
  refine t_tops (fun s25 es25 => ?_)
  have h := h s25 es25
  refine z_aload_n C dX11_hand_26 (i := 0) rfl rfl ?_
  refine z_dup C dX11_hand_27 rfl ?_
  refine t_get C dX11_hand_28 fl_X11_361 (k := 10) (i := 0) (by decide) rfl (fg_10_14 _ _ _) ?_
  refine z_iconst C dX11_hand_31 (v := 1) (by decide) ?_
  refine z_iadd C dX11_hand_32 ?_
  refine t_put C dX11_hand_33 fq_X11_361 (Or.inl rfl) (k := 10) (i := 0) (by decide) rfl ⟨rfl, rfl⟩ (fp_10_14 _ _ _ _ _) ?_
  refine t_tops (fun s33 es33 => ?_)
  have h := h s33 es33
  refine z_aload_n C dX11_hand_36 (i := 0) rfl rfl ?_
  refine t_get C dX11_hand_37 fl_X11_361 (k := 10) (i := 0) (by decide) rfl (fg_10_14 _ _ _) ?_
  refine z_iconst C dX11_hand_40 (v := 1) (by decide) ?_
  refine z_isub C dX11_hand_41 ?_
  exact zG.up (z_iret C dX11_hand_42 hr rfl ⟨_, _, rfl, rfl, h⟩ (Nat.le_of_ble_eq_true rfl) (Nat.le_of_ble_eq_true rfl))
def w_X11_byWorks (st : zTs) (a0 : Nat) (a1 : Nat) (a2 : Int32) (a3 : Int32) (P : Int64 → Prop) : Prop := w_X2_change st a0 a2 a3 (fun (r3 : Int64) => (w_X2_change st a1 a2 a3 (fun (r9 : Int64) => (w_X2_ageing st a0 a2 a3 (fun (r16 : Int64) => (P ((r3 - r9) - r16)))))))
set_option maxHeartbeats 4000000 in
set_option maxRecDepth 100000 in
theorem c_X11_byWorks {Z : zZ} {l : Launch} (hfl : l.stackTraces = false) {st : zTs} {a0 : Nat} {a1 : Nat} {a2 : Int32} {a3 : Int32} {P : Int64 → Prop} (h : w_X11_byWorks st a0 a1 a2 a3 P) : zN Z l yX11_byWorks cX11_byWorks 4 (some .long) ({ frames := 5, cells := 0, slots := 0, locals := 107 } : Room) (zh Z zm1 st) [.ref (23 + 256 * a0), .ref (23 + 256 * a1), .int (a2), .int (a3)] (zRl Z st P) := by
  unfold w_X11_byWorks at h
  refine z_enterN (by decide) (Nat.le_of_ble_eq_true rfl) (lc0 := [some (.ref (23 + 256 * a0)), some (.ref (23 + 256 * a1)), some (.int (a2)), some (.int (a3))]) rfl ?_
  intro p e s m args below meth c ad0 C hr _
  have hn9 : True := trivial
  replace C : zC Z p s m args meth c cX11_byWorks 4 RX11 := C
  refine z_aload_n C dX11_byWorks_0 (i := 0) rfl rfl ?_
  refine z_iload_n C dX11_byWorks_1 (i := 2) rfl rfl ?_
  refine z_iload_n C dX11_byWorks_2 (i := 3) rfl rfl ?_
  refine t_callV C (rest := []) (c2 := 0) (s2 := 0) (kd := 23) (i := a0) [.int (a2), .int (a3)] dX11_byWorks_3 lk_X11_434 li_X2_change le_X2_change (c_X2_change hfl h) rfl rfl (by decide) rfl ⟨_, rfl⟩ rfl ⟨Nat.le_of_ble_eq_true rfl, Nat.le_of_ble_eq_true rfl⟩ (Nat.le_of_ble_eq_true rfl) ⟨Nat.le_of_ble_eq_true rfl, Nat.le_of_ble_eq_true rfl, Nat.le_of_ble_eq_true rfl, Nat.le_of_ble_eq_true rfl⟩ (k_Rl fun r3 h => ?_)
  refine z_aload_n C dX11_byWorks_6 (i := 1) rfl rfl ?_
  refine z_iload_n C dX11_byWorks_7 (i := 2) rfl rfl ?_
  refine z_iload_n C dX11_byWorks_8 (i := 3) rfl rfl ?_
  refine t_callV C (rest := [.long (r3)]) (c2 := 0) (s2 := 0) (kd := 23) (i := a1) [.int (a2), .int (a3)] dX11_byWorks_9 lk_X11_434 li_X2_change le_X2_change (c_X2_change hfl h) rfl rfl (by decide) rfl ⟨_, rfl⟩ rfl ⟨Nat.le_of_ble_eq_true rfl, Nat.le_of_ble_eq_true rfl⟩ (Nat.le_of_ble_eq_true rfl) ⟨Nat.le_of_ble_eq_true rfl, Nat.le_of_ble_eq_true rfl, Nat.le_of_ble_eq_true rfl, Nat.le_of_ble_eq_true rfl⟩ (k_Rl fun r9 h => ?_)
  refine z_lsub C dX11_byWorks_12 ?_
  refine z_aload_n C dX11_byWorks_13 (i := 0) rfl rfl ?_
  refine z_iload_n C dX11_byWorks_14 (i := 2) rfl rfl ?_
  refine z_iload_n C dX11_byWorks_15 (i := 3) rfl rfl ?_
  refine t_callV C (rest := [.long (r3 - r9)]) (c2 := 0) (s2 := 0) (kd := 23) (i := a0) [.int (a2), .int (a3)] dX11_byWorks_16 lk_X11_438 li_X2_ageing le_X2_ageing (c_X2_ageing hfl h) rfl rfl (by decide) rfl ⟨_, rfl⟩ rfl ⟨Nat.le_of_ble_eq_true rfl, Nat.le_of_ble_eq_true rfl⟩ (Nat.le_of_ble_eq_true rfl) ⟨Nat.le_of_ble_eq_true rfl, Nat.le_of_ble_eq_true rfl, Nat.le_of_ble_eq_true rfl, Nat.le_of_ble_eq_true rfl⟩ (k_Rl fun r16 h => ?_)
  refine z_lsub C dX11_byWorks_19 ?_
  exact z_lret C dX11_byWorks_20 hr ⟨rfl, _, rfl, h⟩ (Nat.le_of_ble_eq_true rfl) (Nat.le_of_ble_eq_true rfl)
def w_X11_hasCauses (st : zTs) (a0 : Nat) (a1 : Nat) (a2 : Nat) (a3 : Int32) (P : Int32 → Prop) : Prop := ∀ x4 : Int32, x4 = zgF st 21 a2 9 → ((x4 = (-1) → P 0) ∧ (¬ x4 = (-1) → ((zgF st 21 a2 4) = 6 → P 0) ∧ (¬ (zgF st 21 a2 4) = 6 → (a3 ≤ x4 → P 0) ∧ (¬ a3 ≤ x4 → w_X2_covers st a0 x4 (fun (r30 : Int32) => ((r30 = 0 → P 0) ∧ (¬ r30 = 0 → w_X2_covers st a0 a3 (fun (r38 : Int32) => ((r38 = 0 → P 0) ∧ (¬ r38 = 0 → w_X2_covers st a1 x4 (fun (r47 : Int32) => ((r47 = 0 → P 0) ∧ (¬ r47 = 0 → w_X2_covers st a1 a3 (fun (r55 : Int32) => ((r55 = 0 → P 0) ∧ (¬ r55 = 0 → P 1))))))))))))))))
set_option maxHeartbeats 4000000 in
set_option maxRecDepth 100000 in
theorem c_X11_hasCauses {Z : zZ} {l : Launch} (hfl : l.stackTraces = false) {st : zTs} {a0 : Nat} {a1 : Nat} {a2 : Nat} {a3 : Int32} {P : Int32 → Prop} (h : w_X11_hasCauses st a0 a1 a2 a3 P) : zN Z l yX11_hasCauses cX11_hasCauses 5 (some .boolean) ({ frames := 2, cells := 0, slots := 0, locals := 33 } : Room) (zh Z zm1 st) [.ref (23 + 256 * a0), .ref (23 + 256 * a1), .ref (21 + 256 * a2), .int (a3)] (zRi Z st P) := by
  unfold w_X11_hasCauses at h
  refine z_enterN (by decide) (Nat.le_of_ble_eq_true rfl) (lc0 := [some (.ref (23 + 256 * a0)), some (.ref (23 + 256 * a1)), some (.ref (21 + 256 * a2)), some (.int (a3)), none]) rfl ?_
  intro p e s m args below meth c ad0 C hr _
  have hn9 : True := trivial
  replace C : zC Z p s m args meth c cX11_hasCauses 5 RX11 := C
  refine z_aload_n C dX11_hasCauses_0 (i := 2) rfl rfl ?_
  refine t_get C dX11_hasCauses_1 fl_X11_203 (k := 21) (i := a2) (by decide) rfl (fg_21_9 _ _ _) ?_
  refine t_topi (fun x4 ex4 => ?_)
  have h := h x4 ex4
  refine z_istore C dX11_hasCauses_4 (lc' := [some (.ref (23 + 256 * a0)), some (.ref (23 + 256 * a1)), some (.ref (21 + 256 * a2)), some (.int (a3)), some (.int (x4))]) (by decide) rfl ?_
  refine z_iload C dX11_hasCauses_6 rfl ?_
  refine z_iconst C dX11_hasCauses_8 (v := (-1)) (by decide) ?_
  refine z_icmp_eq C dX11_hasCauses_9 (tgt := 65) (by decide) (fun c9 => ?_) (fun c9 => ?_)
  · have h := h.1 c9
    refine z_iconst C dX11_hasCauses_65 (v := 0) (by decide) ?_
    exact z_iret C dX11_hasCauses_66 hr rfl ⟨rfl, _, rfl, h⟩ (Nat.le_of_ble_eq_true rfl) (Nat.le_of_ble_eq_true rfl)
  · have h := h.2 c9
    refine z_aload_n C dX11_hasCauses_12 (i := 2) rfl rfl ?_
    refine t_get C dX11_hasCauses_13 fl_X11_164 (k := 21) (i := a2) (by decide) rfl (fg_21_4 _ _ _) ?_
    refine z_bipush C dX11_hasCauses_16 (v := 6) (by decide) ?_
    refine z_icmp_eq C dX11_hasCauses_18 (tgt := 65) (by decide) (fun c18 => ?_) (fun c18 => ?_)
    · have h := h.1 c18
      refine z_iconst C dX11_hasCauses_65 (v := 0) (by decide) ?_
      exact z_iret C dX11_hasCauses_66 hr rfl ⟨rfl, _, rfl, h⟩ (Nat.le_of_ble_eq_true rfl) (Nat.le_of_ble_eq_true rfl)
    · have h := h.2 c18
      refine z_iload_n C dX11_hasCauses_21 (i := 3) rfl rfl ?_
      refine z_iload C dX11_hasCauses_22 rfl ?_
      refine z_icmp_le C dX11_hasCauses_24 (tgt := 65) (by decide) (fun c24 => ?_) (fun c24 => ?_)
      · have h := h.1 c24
        refine z_iconst C dX11_hasCauses_65 (v := 0) (by decide) ?_
        exact z_iret C dX11_hasCauses_66 hr rfl ⟨rfl, _, rfl, h⟩ (Nat.le_of_ble_eq_true rfl) (Nat.le_of_ble_eq_true rfl)
      · have h := h.2 c24
        refine z_aload_n C dX11_hasCauses_27 (i := 0) rfl rfl ?_
        refine z_iload C dX11_hasCauses_28 rfl ?_
        refine t_callV C (rest := []) (c2 := 0) (s2 := 0) (kd := 23) (i := a0) [.int (x4)] dX11_hasCauses_30 lk_X11_421 li_X2_covers le_X2_covers (c_X2_covers hfl h) rfl rfl (by decide) rfl ⟨_, rfl⟩ rfl ⟨Nat.le_of_ble_eq_true rfl, Nat.le_of_ble_eq_true rfl⟩ (Nat.le_of_ble_eq_true rfl) ⟨Nat.le_of_ble_eq_true rfl, Nat.le_of_ble_eq_true rfl, Nat.le_of_ble_eq_true rfl, Nat.le_of_ble_eq_true rfl⟩ (k_Ri fun r30 h => ?_)
        refine z_if_eq C dX11_hasCauses_33 (tgt := 65) (by decide) (fun c33 => ?_) (fun c33 => ?_)
        · have h := h.1 c33
          refine z_iconst C dX11_hasCauses_65 (v := 0) (by decide) ?_
          exact z_iret C dX11_hasCauses_66 hr rfl ⟨rfl, _, rfl, h⟩ (Nat.le_of_ble_eq_true rfl) (Nat.le_of_ble_eq_true rfl)
        · have h := h.2 c33
          refine z_aload_n C dX11_hasCauses_36 (i := 0) rfl rfl ?_
          refine z_iload_n C dX11_hasCauses_37 (i := 3) rfl rfl ?_
          refine t_callV C (rest := []) (c2 := 0) (s2 := 0) (kd := 23) (i := a0) [.int (a3)] dX11_hasCauses_38 lk_X11_421 li_X2_covers le_X2_covers (c_X2_covers hfl h) rfl rfl (by decide) rfl ⟨_, rfl⟩ rfl ⟨Nat.le_of_ble_eq_true rfl, Nat.le_of_ble_eq_true rfl⟩ (Nat.le_of_ble_eq_true rfl) ⟨Nat.le_of_ble_eq_true rfl, Nat.le_of_ble_eq_true rfl, Nat.le_of_ble_eq_true rfl, Nat.le_of_ble_eq_true rfl⟩ (k_Ri fun r38 h => ?_)
          refine z_if_eq C dX11_hasCauses_41 (tgt := 65) (by decide) (fun c41 => ?_) (fun c41 => ?_)
          · have h := h.1 c41
            refine z_iconst C dX11_hasCauses_65 (v := 0) (by decide) ?_
            exact z_iret C dX11_hasCauses_66 hr rfl ⟨rfl, _, rfl, h⟩ (Nat.le_of_ble_eq_true rfl) (Nat.le_of_ble_eq_true rfl)
          · have h := h.2 c41
            refine z_aload_n C dX11_hasCauses_44 (i := 1) rfl rfl ?_
            refine z_iload C dX11_hasCauses_45 rfl ?_
            refine t_callV C (rest := []) (c2 := 0) (s2 := 0) (kd := 23) (i := a1) [.int (x4)] dX11_hasCauses_47 lk_X11_421 li_X2_covers le_X2_covers (c_X2_covers hfl h) rfl rfl (by decide) rfl ⟨_, rfl⟩ rfl ⟨Nat.le_of_ble_eq_true rfl, Nat.le_of_ble_eq_true rfl⟩ (Nat.le_of_ble_eq_true rfl) ⟨Nat.le_of_ble_eq_true rfl, Nat.le_of_ble_eq_true rfl, Nat.le_of_ble_eq_true rfl, Nat.le_of_ble_eq_true rfl⟩ (k_Ri fun r47 h => ?_)
            refine z_if_eq C dX11_hasCauses_50 (tgt := 65) (by decide) (fun c50 => ?_) (fun c50 => ?_)
            · have h := h.1 c50
              refine z_iconst C dX11_hasCauses_65 (v := 0) (by decide) ?_
              exact z_iret C dX11_hasCauses_66 hr rfl ⟨rfl, _, rfl, h⟩ (Nat.le_of_ble_eq_true rfl) (Nat.le_of_ble_eq_true rfl)
            · have h := h.2 c50
              refine z_aload_n C dX11_hasCauses_53 (i := 1) rfl rfl ?_
              refine z_iload_n C dX11_hasCauses_54 (i := 3) rfl rfl ?_
              refine t_callV C (rest := []) (c2 := 0) (s2 := 0) (kd := 23) (i := a1) [.int (a3)] dX11_hasCauses_55 lk_X11_421 li_X2_covers le_X2_covers (c_X2_covers hfl h) rfl rfl (by decide) rfl ⟨_, rfl⟩ rfl ⟨Nat.le_of_ble_eq_true rfl, Nat.le_of_ble_eq_true rfl⟩ (Nat.le_of_ble_eq_true rfl) ⟨Nat.le_of_ble_eq_true rfl, Nat.le_of_ble_eq_true rfl, Nat.le_of_ble_eq_true rfl, Nat.le_of_ble_eq_true rfl⟩ (k_Ri fun r55 h => ?_)
              refine z_if_eq C dX11_hasCauses_58 (tgt := 65) (by decide) (fun c58 => ?_) (fun c58 => ?_)
              · have h := h.1 c58
                refine z_iconst C dX11_hasCauses_65 (v := 0) (by decide) ?_
                exact z_iret C dX11_hasCauses_66 hr rfl ⟨rfl, _, rfl, h⟩ (Nat.le_of_ble_eq_true rfl) (Nat.le_of_ble_eq_true rfl)
              · have h := h.2 c58
                refine z_iconst C dX11_hasCauses_61 (v := 1) (by decide) ?_
                refine z_goto C dX11_hasCauses_62 (tgt := 66) (by decide) ?_
                exact z_iret C dX11_hasCauses_66 hr rfl ⟨rfl, _, rfl, h⟩ (Nat.le_of_ble_eq_true rfl) (Nat.le_of_ble_eq_true rfl)
end
