section
variable {Z : zZ} {p : Program} {l : Launch} {e : Env} {s : State} {m : MethodId} {args : Array Value} {below : List Frame} {meth : Method} {c : Code} {ad0 : Nat → Nat} {h0 : zH}
def w_X1_payments (st : zTs)  (P : Int32 → Prop) : Prop := P (zgF st 11 0 4)
set_option maxHeartbeats 4000000 in
set_option maxRecDepth 100000 in
theorem c_X1_payments {Z : zZ} {l : Launch} (hfl : l.stackTraces = false) {st : zTs}  {P : Int32 → Prop} (h : w_X1_payments st  P) : zN Z l yX1_payments cX1_payments 1 (some .int) ({ frames := 1, cells := 0, slots := 0, locals := 12 } : Room) (zh Z zm1 st) [.ref 11] (zRi Z st P) := by
  unfold w_X1_payments at h
  refine z_enterN (by decide) (Nat.le_of_ble_eq_true rfl) (lc0 := [some (.ref 11)]) rfl ?_
  intro p e s m args below meth c ad0 C hr _
  have hn9 : True := trivial
  replace C : zC Z p s m args meth c cX1_payments 1 RX1 := C
  refine z_aload_n C dX1_payments_0 (i := 0) rfl rfl ?_
  refine t_get C dX1_payments_1 fl_X1_33 (k := 11) (i := 0) (by decide) rfl (fg_11_4 _ _ _) ?_
  exact z_iret C dX1_payments_4 hr rfl ⟨rfl, _, rfl, h⟩ (Nat.le_of_ble_eq_true rfl) (Nat.le_of_ble_eq_true rfl)
def w_X1_mendings (st : zTs)  (P : Int32 → Prop) : Prop := P (zgF st 11 0 8)
set_option maxHeartbeats 4000000 in
set_option maxRecDepth 100000 in
theorem c_X1_mendings {Z : zZ} {l : Launch} (hfl : l.stackTraces = false) {st : zTs}  {P : Int32 → Prop} (h : w_X1_mendings st  P) : zN Z l yX1_mendings cX1_mendings 1 (some .int) ({ frames := 1, cells := 0, slots := 0, locals := 12 } : Room) (zh Z zm1 st) [.ref 11] (zRi Z st P) := by
  unfold w_X1_mendings at h
  refine z_enterN (by decide) (Nat.le_of_ble_eq_true rfl) (lc0 := [some (.ref 11)]) rfl ?_
  intro p e s m args below meth c ad0 C hr _
  have hn9 : True := trivial
  replace C : zC Z p s m args meth c cX1_mendings 1 RX1 := C
  refine z_aload_n C dX1_mendings_0 (i := 0) rfl rfl ?_
  refine t_get C dX1_mendings_1 fl_X1_37 (k := 11) (i := 0) (by decide) rfl (fg_11_8 _ _ _) ?_
  exact z_iret C dX1_mendings_4 hr rfl ⟨rfl, _, rfl, h⟩ (Nat.le_of_ble_eq_true rfl) (Nat.le_of_ble_eq_true rfl)
def w_X1_isFull (st : zTs)  (P : Int32 → Prop) : Prop := ((zgF st 11 0 4) < 300 → P 0) ∧ (¬ (zgF st 11 0 4) < 300 → P 1)
set_option maxHeartbeats 4000000 in
set_option maxRecDepth 100000 in
theorem c_X1_isFull {Z : zZ} {l : Launch} (hfl : l.stackTraces = false) {st : zTs}  {P : Int32 → Prop} (h : w_X1_isFull st  P) : zN Z l yX1_isFull cX1_isFull 1 (some .boolean) ({ frames := 1, cells := 0, slots := 0, locals := 12 } : Room) (zh Z zm1 st) [.ref 11] (zRi Z st P) := by
  unfold w_X1_isFull at h
  refine z_enterN (by decide) (Nat.le_of_ble_eq_true rfl) (lc0 := [some (.ref 11)]) rfl ?_
  intro p e s m args below meth c ad0 C hr _
  have hn9 : True := trivial
  replace C : zC Z p s m args meth c cX1_isFull 1 RX1 := C
  refine z_aload_n C dX1_isFull_0 (i := 0) rfl rfl ?_
  refine t_get C dX1_isFull_1 fl_X1_33 (k := 11) (i := 0) (by decide) rfl (fg_11_4 _ _ _) ?_
  refine z_sipush C dX1_isFull_4 (v := 300) (by decide) ?_
  refine z_icmp_lt C dX1_isFull_7 (tgt := 14) (by decide) (fun c7 => ?_) (fun c7 => ?_)
  · have h := h.1 c7
    refine z_iconst C dX1_isFull_14 (v := 0) (by decide) ?_
    exact z_iret C dX1_isFull_15 hr rfl ⟨rfl, _, rfl, h⟩ (Nat.le_of_ble_eq_true rfl) (Nat.le_of_ble_eq_true rfl)
  · have h := h.2 c7
    refine z_iconst C dX1_isFull_10 (v := 1) (by decide) ?_
    refine z_goto C dX1_isFull_11 (tgt := 15) (by decide) ?_
    exact z_iret C dX1_isFull_15 hr rfl ⟨rfl, _, rfl, h⟩ (Nat.le_of_ble_eq_true rfl) (Nat.le_of_ble_eq_true rfl)
def w_X1_write (st : zTs) (a1 : Int32) (a2 : Int32) (a3 : Int32) (a4 : Int32) (P : zTs → Prop) : Prop := ((zgF st 11 0 4) < 300 → vp_in (zgF st 11 0 4) 300 ∧ (∀ s20 : zTs, s20 = zuA st 44 0 (zgF st 11 0 4 : Int32).toNatClampNeg a1 → (vp_in (zgF s20 11 0 4) 300 ∧ (∀ s30 : zTs, s30 = zuA s20 45 0 (zgF s20 11 0 4 : Int32).toNatClampNeg a2 → (vp_in (zgF s30 11 0 4) 300 ∧ (∀ s40 : zTs, s40 = zuA s30 46 0 (zgF s30 11 0 4 : Int32).toNatClampNeg a3 → (vp_in (zgF s40 11 0 4) 300 ∧ (∀ s51 : zTs, s51 = zuA s40 47 0 (zgF s40 11 0 4 : Int32).toNatClampNeg a4 → (∀ s59 : zTs, s59 = zuF s51 11 0 4 ((zgF s51 11 0 4) + 1) → (P s59)))))))))) ∧ (¬ (zgF st 11 0 4) < 300 → P st)
set_option maxHeartbeats 4000000 in
set_option maxRecDepth 100000 in
theorem c_X1_write {Z : zZ} {l : Launch} (hfl : l.stackTraces = false) {st : zTs} {a1 : Int32} {a2 : Int32} {a3 : Int32} {a4 : Int32} {P : zTs → Prop} (h : w_X1_write st a1 a2 a3 a4 P) : zN Z l yX1_write cX1_write 5 none ({ frames := 1, cells := 0, slots := 0, locals := 12 } : Room) (zh Z zm1 st) [.ref 11, .int (a1), .int (a2), .int (a3), .int (a4)] (zWv Z zm1 P) := by
  unfold w_X1_write at h
  refine z_enterN (by decide) (Nat.le_of_ble_eq_true rfl) (lc0 := [some (.ref 11), some (.int (a1)), some (.int (a2)), some (.int (a3)), some (.int (a4))]) rfl ?_
  intro p e s m args below meth c ad0 C hr _
  have hn9 : True := trivial
  replace C : zC Z p s m args meth c cX1_write 5 RX1 := C
  refine z_aload_n C dX1_write_0 (i := 0) rfl rfl ?_
  refine t_get C dX1_write_1 fl_X1_33 (k := 11) (i := 0) (by decide) rfl (fg_11_4 _ _ _) ?_
  refine z_sipush C dX1_write_4 (v := 300) (by decide) ?_
  refine z_icmp_lt C dX1_write_7 (tgt := 11) (by decide) (fun c7 => ?_) (fun c7 => ?_)
  · have h := h.1 c7
    refine z_aload_n C dX1_write_11 (i := 0) rfl rfl ?_
    refine t_get C dX1_write_12 fl_X1_9 (k := 11) (i := 0) (by decide) rfl (fg_11_0 _ _ _) ?_
    refine z_aload_n C dX1_write_15 (i := 0) rfl rfl ?_
    refine t_get C dX1_write_16 fl_X1_33 (k := 11) (i := 0) (by decide) rfl (fg_11_4 _ _ _) ?_
    refine z_iload_n C dX1_write_19 (i := 1) rfl rfl ?_
    obtain ⟨g20, h⟩ := h
    refine t_iast C dX1_write_20 (k := 44) (i := 0) (by decide) rfl (fun s9 => sh_44 _ _ s9 _) g20 ?_
    refine t_tops (fun s20 es20 => ?_)
    have h := h s20 es20
    refine z_aload_n C dX1_write_21 (i := 0) rfl rfl ?_
    refine t_get C dX1_write_22 fl_X1_15 (k := 11) (i := 0) (by decide) rfl (fg_11_1 _ _ _) ?_
    refine z_aload_n C dX1_write_25 (i := 0) rfl rfl ?_
    refine t_get C dX1_write_26 fl_X1_33 (k := 11) (i := 0) (by decide) rfl (fg_11_4 _ _ _) ?_
    refine z_iload_n C dX1_write_29 (i := 2) rfl rfl ?_
    obtain ⟨g30, h⟩ := h
    refine t_iast C dX1_write_30 (k := 45) (i := 0) (by decide) rfl (fun s9 => sh_45 _ _ s9 _) g30 ?_
    refine t_tops (fun s30 es30 => ?_)
    have h := h s30 es30
    refine z_aload_n C dX1_write_31 (i := 0) rfl rfl ?_
    refine t_get C dX1_write_32 fl_X1_18 (k := 11) (i := 0) (by decide) rfl (fg_11_2 _ _ _) ?_
    refine z_aload_n C dX1_write_35 (i := 0) rfl rfl ?_
    refine t_get C dX1_write_36 fl_X1_33 (k := 11) (i := 0) (by decide) rfl (fg_11_4 _ _ _) ?_
    refine z_iload_n C dX1_write_39 (i := 3) rfl rfl ?_
    obtain ⟨g40, h⟩ := h
    refine t_iast C dX1_write_40 (k := 46) (i := 0) (by decide) rfl (fun s9 => sh_46 _ _ s9 _) g40 ?_
    refine t_tops (fun s40 es40 => ?_)
    have h := h s40 es40
    refine z_aload_n C dX1_write_41 (i := 0) rfl rfl ?_
    refine t_get C dX1_write_42 fl_X1_21 (k := 11) (i := 0) (by decide) rfl (fg_11_3 _ _ _) ?_
    refine z_aload_n C dX1_write_45 (i := 0) rfl rfl ?_
    refine t_get C dX1_write_46 fl_X1_33 (k := 11) (i := 0) (by decide) rfl (fg_11_4 _ _ _) ?_
    refine z_iload C dX1_write_49 rfl ?_
    obtain ⟨g51, h⟩ := h
    refine t_iast C dX1_write_51 (k := 47) (i := 0) (by decide) rfl (fun s9 => sh_47 _ _ s9 _) g51 ?_
    refine t_tops (fun s51 es51 => ?_)
    have h := h s51 es51
    refine z_aload_n C dX1_write_52 (i := 0) rfl rfl ?_
    refine z_dup C dX1_write_53 rfl ?_
    refine t_get C dX1_write_54 fl_X1_33 (k := 11) (i := 0) (by decide) rfl (fg_11_4 _ _ _) ?_
    refine z_iconst C dX1_write_57 (v := 1) (by decide) ?_
    refine z_iadd C dX1_write_58 ?_
    refine t_put C dX1_write_59 fq_X1_33 (Or.inl rfl) (k := 11) (i := 0) (by decide) rfl ⟨rfl, rfl⟩ (fp_11_4 _ _ _ _ _) ?_
    refine t_tops (fun s59 es59 => ?_)
    have h := h s59 es59
    exact z_vret C dX1_write_62 hr ⟨_, rfl, rfl, h⟩ (Nat.le_of_ble_eq_true rfl) (Nat.le_of_ble_eq_true rfl)
  · have h := h.2 c7
    exact z_vret C dX1_write_10 hr ⟨_, rfl, rfl, h⟩ (Nat.le_of_ble_eq_true rfl) (Nat.le_of_ble_eq_true rfl)
def w_X1_mendSum (st : zTs) (a1 : Int32) (a2 : Int32) (a3 : Int32) (P : zTs → Prop) : Prop := ((zgF st 11 0 8) < 60 → vp_in (zgF st 11 0 8) 60 ∧ (∀ s19 : zTs, s19 = zuA st 48 0 (zgF st 11 0 8 : Int32).toNatClampNeg a1 → (vp_in (zgF s19 11 0 8) 60 ∧ (∀ s29 : zTs, s29 = zuA s19 49 0 (zgF s19 11 0 8 : Int32).toNatClampNeg a2 → (vp_in (zgF s29 11 0 8) 60 ∧ (∀ s39 : zTs, s39 = zuA s29 50 0 (zgF s29 11 0 8 : Int32).toNatClampNeg a3 → (∀ s47 : zTs, s47 = zuF s39 11 0 8 ((zgF s39 11 0 8) + 1) → (P s47)))))))) ∧ (¬ (zgF st 11 0 8) < 60 → P st)
set_option maxHeartbeats 4000000 in
set_option maxRecDepth 100000 in
theorem c_X1_mendSum {Z : zZ} {l : Launch} (hfl : l.stackTraces = false) {st : zTs} {a1 : Int32} {a2 : Int32} {a3 : Int32} {P : zTs → Prop} (h : w_X1_mendSum st a1 a2 a3 P) : zN Z l yX1_mendSum cX1_mendSum 4 none ({ frames := 1, cells := 0, slots := 0, locals := 12 } : Room) (zh Z zm1 st) [.ref 11, .int (a1), .int (a2), .int (a3)] (zWv Z zm1 P) := by
  unfold w_X1_mendSum at h
  refine z_enterN (by decide) (Nat.le_of_ble_eq_true rfl) (lc0 := [some (.ref 11), some (.int (a1)), some (.int (a2)), some (.int (a3))]) rfl ?_
  intro p e s m args below meth c ad0 C hr _
  have hn9 : True := trivial
  replace C : zC Z p s m args meth c cX1_mendSum 4 RX1 := C
  refine z_aload_n C dX1_mendSum_0 (i := 0) rfl rfl ?_
  refine t_get C dX1_mendSum_1 fl_X1_37 (k := 11) (i := 0) (by decide) rfl (fg_11_8 _ _ _) ?_
  refine z_bipush C dX1_mendSum_4 (v := 60) (by decide) ?_
  refine z_icmp_lt C dX1_mendSum_6 (tgt := 10) (by decide) (fun c6 => ?_) (fun c6 => ?_)
  · have h := h.1 c6
    refine z_aload_n C dX1_mendSum_10 (i := 0) rfl rfl ?_
    refine t_get C dX1_mendSum_11 fl_X1_24 (k := 11) (i := 0) (by decide) rfl (fg_11_5 _ _ _) ?_
    refine z_aload_n C dX1_mendSum_14 (i := 0) rfl rfl ?_
    refine t_get C dX1_mendSum_15 fl_X1_37 (k := 11) (i := 0) (by decide) rfl (fg_11_8 _ _ _) ?_
    refine z_iload_n C dX1_mendSum_18 (i := 1) rfl rfl ?_
    obtain ⟨g19, h⟩ := h
    refine t_iast C dX1_mendSum_19 (k := 48) (i := 0) (by decide) rfl (fun s9 => sh_48 _ _ s9 _) g19 ?_
    refine t_tops (fun s19 es19 => ?_)
    have h := h s19 es19
    refine z_aload_n C dX1_mendSum_20 (i := 0) rfl rfl ?_
    refine t_get C dX1_mendSum_21 fl_X1_27 (k := 11) (i := 0) (by decide) rfl (fg_11_6 _ _ _) ?_
    refine z_aload_n C dX1_mendSum_24 (i := 0) rfl rfl ?_
    refine t_get C dX1_mendSum_25 fl_X1_37 (k := 11) (i := 0) (by decide) rfl (fg_11_8 _ _ _) ?_
    refine z_iload_n C dX1_mendSum_28 (i := 2) rfl rfl ?_
    obtain ⟨g29, h⟩ := h
    refine t_iast C dX1_mendSum_29 (k := 49) (i := 0) (by decide) rfl (fun s9 => sh_49 _ _ s9 _) g29 ?_
    refine t_tops (fun s29 es29 => ?_)
    have h := h s29 es29
    refine z_aload_n C dX1_mendSum_30 (i := 0) rfl rfl ?_
    refine t_get C dX1_mendSum_31 fl_X1_30 (k := 11) (i := 0) (by decide) rfl (fg_11_7 _ _ _) ?_
    refine z_aload_n C dX1_mendSum_34 (i := 0) rfl rfl ?_
    refine t_get C dX1_mendSum_35 fl_X1_37 (k := 11) (i := 0) (by decide) rfl (fg_11_8 _ _ _) ?_
    refine z_iload_n C dX1_mendSum_38 (i := 3) rfl rfl ?_
    obtain ⟨g39, h⟩ := h
    refine t_iast C dX1_mendSum_39 (k := 50) (i := 0) (by decide) rfl (fun s9 => sh_50 _ _ s9 _) g39 ?_
    refine t_tops (fun s39 es39 => ?_)
    have h := h s39 es39
    refine z_aload_n C dX1_mendSum_40 (i := 0) rfl rfl ?_
    refine z_dup C dX1_mendSum_41 rfl ?_
    refine t_get C dX1_mendSum_42 fl_X1_37 (k := 11) (i := 0) (by decide) rfl (fg_11_8 _ _ _) ?_
    refine z_iconst C dX1_mendSum_45 (v := 1) (by decide) ?_
    refine z_iadd C dX1_mendSum_46 ?_
    refine t_put C dX1_mendSum_47 fq_X1_37 (Or.inl rfl) (k := 11) (i := 0) (by decide) rfl ⟨rfl, rfl⟩ (fp_11_8 _ _ _ _ _) ?_
    refine t_tops (fun s47 es47 => ?_)
    have h := h s47 es47
    exact z_vret C dX1_mendSum_50 hr ⟨_, rfl, rfl, h⟩ (Nat.le_of_ble_eq_true rfl) (Nat.le_of_ble_eq_true rfl)
  · have h := h.2 c6
    exact z_vret C dX1_mendSum_9 hr ⟨_, rfl, rfl, h⟩ (Nat.le_of_ble_eq_true rfl) (Nat.le_of_ble_eq_true rfl)
def w_X1_payerOf (st : zTs) (a1 : Int32) (P : Int32 → Prop) : Prop := vp_in a1 300 ∧ (P (zgA st 44 0 (a1 : Int32).toNatClampNeg))
set_option maxHeartbeats 4000000 in
set_option maxRecDepth 100000 in
theorem c_X1_payerOf {Z : zZ} {l : Launch} (hfl : l.stackTraces = false) {st : zTs} {a1 : Int32} {P : Int32 → Prop} (h : w_X1_payerOf st a1 P) : zN Z l yX1_payerOf cX1_payerOf 2 (some .int) ({ frames := 1, cells := 0, slots := 0, locals := 12 } : Room) (zh Z zm1 st) [.ref 11, .int (a1)] (zRi Z st P) := by
  unfold w_X1_payerOf at h
  refine z_enterN (by decide) (Nat.le_of_ble_eq_true rfl) (lc0 := [some (.ref 11), some (.int (a1))]) rfl ?_
  intro p e s m args below meth c ad0 C hr _
  have hn9 : True := trivial
  replace C : zC Z p s m args meth c cX1_payerOf 2 RX1 := C
  refine z_aload_n C dX1_payerOf_0 (i := 0) rfl rfl ?_
  refine t_get C dX1_payerOf_1 fl_X1_9 (k := 11) (i := 0) (by decide) rfl (fg_11_0 _ _ _) ?_
  refine z_iload_n C dX1_payerOf_4 (i := 1) rfl rfl ?_
  obtain ⟨g5, h⟩ := h
  refine t_iald C dX1_payerOf_5 (k := 44) (i := 0) (by decide) rfl (sh_44 _ _ _ _) g5 ?_
  exact z_iret C dX1_payerOf_6 hr rfl ⟨rfl, _, rfl, h⟩ (Nat.le_of_ble_eq_true rfl) (Nat.le_of_ble_eq_true rfl)
def w_X1_receiverOf (st : zTs) (a1 : Int32) (P : Int32 → Prop) : Prop := vp_in a1 300 ∧ (P (zgA st 45 0 (a1 : Int32).toNatClampNeg))
set_option maxHeartbeats 4000000 in
set_option maxRecDepth 100000 in
theorem c_X1_receiverOf {Z : zZ} {l : Launch} (hfl : l.stackTraces = false) {st : zTs} {a1 : Int32} {P : Int32 → Prop} (h : w_X1_receiverOf st a1 P) : zN Z l yX1_receiverOf cX1_receiverOf 2 (some .int) ({ frames := 1, cells := 0, slots := 0, locals := 12 } : Room) (zh Z zm1 st) [.ref 11, .int (a1)] (zRi Z st P) := by
  unfold w_X1_receiverOf at h
  refine z_enterN (by decide) (Nat.le_of_ble_eq_true rfl) (lc0 := [some (.ref 11), some (.int (a1))]) rfl ?_
  intro p e s m args below meth c ad0 C hr _
  have hn9 : True := trivial
  replace C : zC Z p s m args meth c cX1_receiverOf 2 RX1 := C
  refine z_aload_n C dX1_receiverOf_0 (i := 0) rfl rfl ?_
  refine t_get C dX1_receiverOf_1 fl_X1_15 (k := 11) (i := 0) (by decide) rfl (fg_11_1 _ _ _) ?_
  refine z_iload_n C dX1_receiverOf_4 (i := 1) rfl rfl ?_
  obtain ⟨g5, h⟩ := h
  refine t_iald C dX1_receiverOf_5 (k := 45) (i := 0) (by decide) rfl (sh_45 _ _ _ _) g5 ?_
  exact z_iret C dX1_receiverOf_6 hr rfl ⟨rfl, _, rfl, h⟩ (Nat.le_of_ble_eq_true rfl) (Nat.le_of_ble_eq_true rfl)
def w_X1_dayOf (st : zTs) (a1 : Int32) (P : Int32 → Prop) : Prop := vp_in a1 300 ∧ (P (zgA st 47 0 (a1 : Int32).toNatClampNeg))
set_option maxHeartbeats 4000000 in
set_option maxRecDepth 100000 in
theorem c_X1_dayOf {Z : zZ} {l : Launch} (hfl : l.stackTraces = false) {st : zTs} {a1 : Int32} {P : Int32 → Prop} (h : w_X1_dayOf st a1 P) : zN Z l yX1_dayOf cX1_dayOf 2 (some .int) ({ frames := 1, cells := 0, slots := 0, locals := 12 } : Room) (zh Z zm1 st) [.ref 11, .int (a1)] (zRi Z st P) := by
  unfold w_X1_dayOf at h
  refine z_enterN (by decide) (Nat.le_of_ble_eq_true rfl) (lc0 := [some (.ref 11), some (.int (a1))]) rfl ?_
  intro p e s m args below meth c ad0 C hr _
  have hn9 : True := trivial
  replace C : zC Z p s m args meth c cX1_dayOf 2 RX1 := C
  refine z_aload_n C dX1_dayOf_0 (i := 0) rfl rfl ?_
  refine t_get C dX1_dayOf_1 fl_X1_21 (k := 11) (i := 0) (by decide) rfl (fg_11_3 _ _ _) ?_
  refine z_iload_n C dX1_dayOf_4 (i := 1) rfl rfl ?_
  obtain ⟨g5, h⟩ := h
  refine t_iald C dX1_dayOf_5 (k := 47) (i := 0) (by decide) rfl (sh_47 _ _ _ _) g5 ?_
  exact z_iret C dX1_dayOf_6 hr rfl ⟨rfl, _, rfl, h⟩ (Nat.le_of_ble_eq_true rfl) (Nat.le_of_ble_eq_true rfl)
def w_X1_sumKnown_49 (P : Int32 → Prop) (st : zTs) (K10 : Int32 → Int32 → Int32 → Int32 → Prop) (a1 : Int32) (a2 : Int32) (a3 : Int32) (a4 : Int32) : Prop := ∀ x49 : Int32, x49 = a4 + 1 → (K10 a1 a2 a3 x49)
set_option maxHeartbeats 4000000 in
set_option maxRecDepth 100000 in
theorem j_X1_sumKnown_49 {P : Int32 → Prop} {st : zTs} {K10 : Int32 → Int32 → Int32 → Int32 → Prop} (hfl : l.stackTraces = false) (C : zC Z p s m args meth c cX1_sumKnown 5 RX1) (hr : meth.sig.returnType = (some .int)) (hn9 : True) (hK10 : ∀ (a1 : Int32) (a2 : Int32) (a3 : Int32) (a4 : Int32), K10 a1 a2 a3 a4 → zG Z ad0 h0 p l e ({ frames := 1, cells := 0, slots := 0, locals := 12 } : Room) s m args below meth c (MQ below (zQ Z ad0 h0 (zRi Z st P)) args s 0 0 (zA Z)) 0 0 (zh Z zm1 st) 5 10 [some (.ref 11), some (.int (a1)), some (.int (a2)), some (.int (a3)), some (.int (a4))] []) (a1 : Int32) (a2 : Int32) (a3 : Int32) (a4 : Int32) (h : w_X1_sumKnown_49 P st K10 a1 a2 a3 a4) : zG Z ad0 h0 p l e ({ frames := 1, cells := 0, slots := 0, locals := 12 } : Room) s m args below meth c (MQ below (zQ Z ad0 h0 (zRi Z st P)) args s 0 0 (zA Z)) 0 0 (zh Z zm1 st) 5 49 [some (.ref 11), some (.int (a1)), some (.int (a2)), some (.int (a3)), some (.int (a4))] [] := by
  unfold w_X1_sumKnown_49 at h
  obtain ⟨x49, ex49⟩ : ∃ z : Int32, z = a4 + 1 := ⟨_, rfl⟩
  have h := h x49 ex49
  refine z_iinc C dX1_sumKnown_49 (v := x49) (lc' := [some (.ref 11), some (.int (a1)), some (.int (a2)), some (.int (a3)), some (.int (x49))]) rfl (by decide) (by rw [ex49]; rfl) rfl ?_
  refine z_goto C dX1_sumKnown_52 (tgt := 10) (by decide) ?_
  exact t_drop [true, true, true, true, true] rfl (hK10 a1 a2 a3 x49 h)
def w_X1_sumKnown_10 (P : Int32 → Prop) (st : zTs)  : Nat → Int32 → Int32 → Int32 → Int32 → Prop
  | 0, _, _, _, _ => False
  | n9 + 1, a1, a2, a3, a4 => ((zgF st 11 0 8) ≤ a4 → P a3) ∧ (¬ (zgF st 11 0 8) ≤ a4 → vp_in a4 60 ∧ (((zgA st 48 0 (a4 : Int32).toNatClampNeg) = a1 → vp_in a4 60 ∧ ((a2 < (zgA st 50 0 (a4 : Int32).toNatClampNeg) → w_X1_sumKnown_49 P st (w_X1_sumKnown_10 P st n9) a1 a2 a3 a4) ∧ (¬ a2 < (zgA st 50 0 (a4 : Int32).toNatClampNeg) → vp_in a4 60 ∧ (∀ x48 : Int32, x48 = zgA st 49 0 (a4 : Int32).toNatClampNeg → (w_X1_sumKnown_49 P st (w_X1_sumKnown_10 P st n9) a1 a2 x48 a4))))) ∧ (¬ (zgA st 48 0 (a4 : Int32).toNatClampNeg) = a1 → w_X1_sumKnown_49 P st (w_X1_sumKnown_10 P st n9) a1 a2 a3 a4)))
set_option maxHeartbeats 4000000 in
set_option maxRecDepth 100000 in
theorem j_X1_sumKnown_10 {P : Int32 → Prop} {st : zTs}  (hfl : l.stackTraces = false) (C : zC Z p s m args meth c cX1_sumKnown 5 RX1) (hr : meth.sig.returnType = (some .int)) (hn9 : True)  : ∀ (n9 : Nat) (a1 : Int32) (a2 : Int32) (a3 : Int32) (a4 : Int32), w_X1_sumKnown_10 P st n9 a1 a2 a3 a4 → zG Z ad0 h0 p l e ({ frames := 1, cells := 0, slots := 0, locals := 12 } : Room) s m args below meth c (MQ below (zQ Z ad0 h0 (zRi Z st P)) args s 0 0 (zA Z)) 0 0 (zh Z zm1 st) 5 10 [some (.ref 11), some (.int (a1)), some (.int (a2)), some (.int (a3)), some (.int (a4))] [] := by
  intro n9
  induction n9 with
  | zero => intro a1 a2 a3 a4 h; exact h.elim
  | succ n9 hK10 =>
    intro a1 a2 a3 a4 h
    rw [w_X1_sumKnown_10] at h
    refine z_iload C dX1_sumKnown_10 rfl ?_
    refine z_aload_n C dX1_sumKnown_12 (i := 0) rfl rfl ?_
    refine t_get C dX1_sumKnown_13 fl_X1_37 (k := 11) (i := 0) (by decide) rfl (fg_11_8 _ _ _) ?_
    refine z_icmp_ge C dX1_sumKnown_16 (tgt := 55) (by decide) (fun c16 => ?_) (fun c16 => ?_)
    · have h := h.1 c16
      refine z_iload_n C dX1_sumKnown_55 (i := 3) rfl rfl ?_
      exact z_iret C dX1_sumKnown_56 hr rfl ⟨rfl, _, rfl, h⟩ (Nat.le_of_ble_eq_true rfl) (Nat.le_of_ble_eq_true rfl)
    · have h := h.2 c16
      refine z_aload_n C dX1_sumKnown_19 (i := 0) rfl rfl ?_
      refine t_get C dX1_sumKnown_20 fl_X1_24 (k := 11) (i := 0) (by decide) rfl (fg_11_5 _ _ _) ?_
      refine z_iload C dX1_sumKnown_23 rfl ?_
      obtain ⟨g25, h⟩ := h
      refine t_iald C dX1_sumKnown_25 (k := 48) (i := 0) (by decide) rfl (sh_48 _ _ _ _) g25 ?_
      refine z_iload_n C dX1_sumKnown_26 (i := 1) rfl rfl ?_
      refine z_icmp_ne C dX1_sumKnown_27 (tgt := 49) (by decide) (fun c27 => ?_) (fun c27 => ?_)
      · have h := h.2 c27
        exact t_drop [true, true, true, true, true] rfl (j_X1_sumKnown_49 hfl C hr hn9 hK10 a1 a2 a3 a4 h)
      · have h := h.1 c27
        refine z_aload_n C dX1_sumKnown_30 (i := 0) rfl rfl ?_
        refine t_get C dX1_sumKnown_31 fl_X1_30 (k := 11) (i := 0) (by decide) rfl (fg_11_7 _ _ _) ?_
        refine z_iload C dX1_sumKnown_34 rfl ?_
        obtain ⟨g36, h⟩ := h
        refine t_iald C dX1_sumKnown_36 (k := 50) (i := 0) (by decide) rfl (sh_50 _ _ _ _) g36 ?_
        refine z_iload_n C dX1_sumKnown_37 (i := 2) rfl rfl ?_
        refine z_icmp_gt C dX1_sumKnown_38 (tgt := 49) (by decide) (fun c38 => ?_) (fun c38 => ?_)
        · have h := h.1 c38
          exact t_drop [true, true, true, true, true] rfl (j_X1_sumKnown_49 hfl C hr hn9 hK10 a1 a2 a3 a4 h)
        · have h := h.2 c38
          refine z_aload_n C dX1_sumKnown_41 (i := 0) rfl rfl ?_
          refine t_get C dX1_sumKnown_42 fl_X1_27 (k := 11) (i := 0) (by decide) rfl (fg_11_6 _ _ _) ?_
          refine z_iload C dX1_sumKnown_45 rfl ?_
          obtain ⟨g47, h⟩ := h
          refine t_iald C dX1_sumKnown_47 (k := 49) (i := 0) (by decide) rfl (sh_49 _ _ _ _) g47 ?_
          refine t_topi (fun x48 ex48 => ?_)
          have h := h x48 ex48
          refine z_istore_n C dX1_sumKnown_48 (i := 3) (lc' := [some (.ref 11), some (.int (a1)), some (.int (a2)), some (.int (x48)), some (.int (a4))]) rfl (by decide) rfl ?_
          exact t_drop [true, true, true, true, true] rfl (j_X1_sumKnown_49 hfl C hr hn9 hK10 a1 a2 x48 a4 h)
def w_X1_sumKnown (st : zTs) (a1 : Int32) (a2 : Int32) (P : Int32 → Prop) : Prop := vp_in a1 300 ∧ (∀ x6 : Int32, x6 = zgA st 46 0 (a1 : Int32).toNatClampNeg → (w_X1_sumKnown_10 P st zfu a1 a2 x6 (0)))
set_option maxHeartbeats 4000000 in
set_option maxRecDepth 100000 in
theorem c_X1_sumKnown {Z : zZ} {l : Launch} (hfl : l.stackTraces = false) {st : zTs} {a1 : Int32} {a2 : Int32} {P : Int32 → Prop} (h : w_X1_sumKnown st a1 a2 P) : zN Z l yX1_sumKnown cX1_sumKnown 5 (some .int) ({ frames := 1, cells := 0, slots := 0, locals := 12 } : Room) (zh Z zm1 st) [.ref 11, .int (a1), .int (a2)] (zRi Z st P) := by
  unfold w_X1_sumKnown at h
  refine z_enterN (by decide) (Nat.le_of_ble_eq_true rfl) (lc0 := [some (.ref 11), some (.int (a1)), some (.int (a2)), none, none]) rfl ?_
  intro p e s m args below meth c ad0 C hr _
  have hn9 : True := trivial
  replace C : zC Z p s m args meth c cX1_sumKnown 5 RX1 := C
  refine z_aload_n C dX1_sumKnown_0 (i := 0) rfl rfl ?_
  refine t_get C dX1_sumKnown_1 fl_X1_18 (k := 11) (i := 0) (by decide) rfl (fg_11_2 _ _ _) ?_
  refine z_iload_n C dX1_sumKnown_4 (i := 1) rfl rfl ?_
  obtain ⟨g5, h⟩ := h
  refine t_iald C dX1_sumKnown_5 (k := 46) (i := 0) (by decide) rfl (sh_46 _ _ _ _) g5 ?_
  refine t_topi (fun x6 ex6 => ?_)
  have h := h x6 ex6
  refine z_istore_n C dX1_sumKnown_6 (i := 3) (lc' := [some (.ref 11), some (.int (a1)), some (.int (a2)), some (.int (x6)), none]) rfl (by decide) rfl ?_
  refine z_iconst C dX1_sumKnown_7 (v := 0) (by decide) ?_
  refine z_istore C dX1_sumKnown_8 (lc' := [some (.ref 11), some (.int (a1)), some (.int (a2)), some (.int (x6)), some (.int (0))]) (by decide) rfl ?_
  exact t_drop [true, true, true, true, true] rfl (j_X1_sumKnown_10 hfl C hr hn9  zfu a1 a2 x6 (0) h)
def w_X1_balanceOf_88 (P : Int64 → Prop) (st : zTs) (K6 : Int32 → Int32 → Int32 → Int64 → Int32 → Prop) (a1 : Int32) (a2 : Int32) (a3 : Int32) (a4 : Int64) (a6 : Int32) : Prop := ∀ x88 : Int32, x88 = a6 + 1 → (K6 a1 a2 a3 a4 x88)
set_option maxHeartbeats 4000000 in
set_option maxRecDepth 100000 in
theorem j_X1_balanceOf_88 {P : Int64 → Prop} {st : zTs} {K6 : Int32 → Int32 → Int32 → Int64 → Int32 → Prop} (hfl : l.stackTraces = false) (C : zC Z p s m args meth c cX1_balanceOf 7 RX1) (hr : meth.sig.returnType = (some .long)) (hn9 : True) (hK6 : ∀ (a1 : Int32) (a2 : Int32) (a3 : Int32) (a4 : Int64) (a6 : Int32), K6 a1 a2 a3 a4 a6 → zG Z ad0 h0 p l e ({ frames := 2, cells := 0, slots := 0, locals := 36 } : Room) s m args below meth c (MQ below (zQ Z ad0 h0 (zRl Z st P)) args s 0 0 (zA Z)) 0 0 (zh Z zm1 st) 7 6 [some (.ref 11), some (.int (a1)), some (.int (a2)), some (.int (a3)), some (.long (a4)), none, some (.int (a6))] []) (a1 : Int32) (a2 : Int32) (a3 : Int32) (a4 : Int64) (a6 : Int32) (h : w_X1_balanceOf_88 P st K6 a1 a2 a3 a4 a6) : zG Z ad0 h0 p l e ({ frames := 2, cells := 0, slots := 0, locals := 36 } : Room) s m args below meth c (MQ below (zQ Z ad0 h0 (zRl Z st P)) args s 0 0 (zA Z)) 0 0 (zh Z zm1 st) 7 88 [some (.ref 11), some (.int (a1)), some (.int (a2)), some (.int (a3)), some (.long (a4)), none, some (.int (a6))] [] := by
  unfold w_X1_balanceOf_88 at h
  obtain ⟨x88, ex88⟩ : ∃ z : Int32, z = a6 + 1 := ⟨_, rfl⟩
  have h := h x88 ex88
  refine z_iinc C dX1_balanceOf_88 (v := x88) (lc' := [some (.ref 11), some (.int (a1)), some (.int (a2)), some (.int (a3)), some (.long (a4)), none, some (.int (x88))]) rfl (by decide) (by rw [ex88]; rfl) rfl ?_
  refine z_goto C dX1_balanceOf_91 (tgt := 6) (by decide) ?_
  exact t_drop [true, true, true, true, true, false, true] rfl (hK6 a1 a2 a3 a4 x88 h)
def w_X1_balanceOf_64 (P : Int64 → Prop) (st : zTs) (K6 : Int32 → Int32 → Int32 → Int64 → Int32 → Prop) (a1 : Int32) (a2 : Int32) (a3 : Int32) (a4 : Int64) (a6 : Int32) : Prop := vp_in a6 300 ∧ (((zgA st 44 0 (a6 : Int32).toNatClampNeg) = a1 → w_X1_sumKnown st a6 a3 (fun (r81 : Int32) => (∀ x86 : Int64, x86 = a4 - ((r81 : Int32).toInt64) → (w_X1_balanceOf_88 P st K6 a1 a2 a3 x86 a6)))) ∧ (¬ (zgA st 44 0 (a6 : Int32).toNatClampNeg) = a1 → w_X1_balanceOf_88 P st K6 a1 a2 a3 a4 a6))
set_option maxHeartbeats 4000000 in
set_option maxRecDepth 100000 in
theorem j_X1_balanceOf_64 {P : Int64 → Prop} {st : zTs} {K6 : Int32 → Int32 → Int32 → Int64 → Int32 → Prop} (hfl : l.stackTraces = false) (C : zC Z p s m args meth c cX1_balanceOf 7 RX1) (hr : meth.sig.returnType = (some .long)) (hn9 : True) (hK6 : ∀ (a1 : Int32) (a2 : Int32) (a3 : Int32) (a4 : Int64) (a6 : Int32), K6 a1 a2 a3 a4 a6 → zG Z ad0 h0 p l e ({ frames := 2, cells := 0, slots := 0, locals := 36 } : Room) s m args below meth c (MQ below (zQ Z ad0 h0 (zRl Z st P)) args s 0 0 (zA Z)) 0 0 (zh Z zm1 st) 7 6 [some (.ref 11), some (.int (a1)), some (.int (a2)), some (.int (a3)), some (.long (a4)), none, some (.int (a6))] []) (a1 : Int32) (a2 : Int32) (a3 : Int32) (a4 : Int64) (a6 : Int32) (h : w_X1_balanceOf_64 P st K6 a1 a2 a3 a4 a6) : zG Z ad0 h0 p l e ({ frames := 2, cells := 0, slots := 0, locals := 36 } : Room) s m args below meth c (MQ below (zQ Z ad0 h0 (zRl Z st P)) args s 0 0 (zA Z)) 0 0 (zh Z zm1 st) 7 64 [some (.ref 11), some (.int (a1)), some (.int (a2)), some (.int (a3)), some (.long (a4)), none, some (.int (a6))] [] := by
  unfold w_X1_balanceOf_64 at h
  refine z_aload_n C dX1_balanceOf_64 (i := 0) rfl rfl ?_
  refine t_get C dX1_balanceOf_65 fl_X1_9 (k := 11) (i := 0) (by decide) rfl (fg_11_0 _ _ _) ?_
  refine z_iload C dX1_balanceOf_68 rfl ?_
  obtain ⟨g70, h⟩ := h
  refine t_iald C dX1_balanceOf_70 (k := 44) (i := 0) (by decide) rfl (sh_44 _ _ _ _) g70 ?_
  refine z_iload_n C dX1_balanceOf_71 (i := 1) rfl rfl ?_
  refine z_icmp_ne C dX1_balanceOf_72 (tgt := 88) (by decide) (fun c72 => ?_) (fun c72 => ?_)
  · have h := h.2 c72
    exact t_drop [true, true, true, true, true, false, true] rfl (j_X1_balanceOf_88 hfl C hr hn9 hK6 a1 a2 a3 a4 a6 h)
  · have h := h.1 c72
    refine z_lload C dX1_balanceOf_75 rfl ?_
    refine z_aload_n C dX1_balanceOf_77 (i := 0) rfl rfl ?_
    refine z_iload C dX1_balanceOf_78 rfl ?_
    refine z_iload_n C dX1_balanceOf_80 (i := 3) rfl rfl ?_
    refine t_callV C (rest := [.long (a4)]) (c2 := 0) (s2 := 0) (kd := 11) (i := 0) [.int (a6), .int (a3)] dX1_balanceOf_81 lk_X1_40 li_X1_sumKnown le_X1_sumKnown (c_X1_sumKnown hfl h) rfl rfl (by decide) rfl ⟨_, rfl⟩ rfl ⟨Nat.le_of_ble_eq_true rfl, Nat.le_of_ble_eq_true rfl⟩ (Nat.le_of_ble_eq_true rfl) ⟨Nat.le_of_ble_eq_true rfl, Nat.le_of_ble_eq_true rfl, Nat.le_of_ble_eq_true rfl, Nat.le_of_ble_eq_true rfl⟩ (k_Ri fun r81 h => ?_)
    refine z_i2l C dX1_balanceOf_84 ?_
    refine z_lsub C dX1_balanceOf_85 ?_
    refine t_topl (fun x86 ex86 => ?_)
    have h := h x86 ex86
    refine z_lstore C dX1_balanceOf_86 (lc' := [some (.ref 11), some (.int (a1)), some (.int (a2)), some (.int (a3)), some (.long (x86)), none, some (.int (a6))]) (by decide) rfl ?_
    exact t_drop [true, true, true, true, true, false, true] rfl (j_X1_balanceOf_88 hfl C hr hn9 hK6 a1 a2 a3 x86 a6 h)
def w_X1_balanceOf_6 (P : Int64 → Prop) (st : zTs)  : Nat → Int32 → Int32 → Int32 → Int64 → Int32 → Prop
  | 0, _, _, _, _, _ => False
  | n9 + 1, a1, a2, a3, a4, a6 => ((zgF st 11 0 4) ≤ a6 → P a4) ∧ (¬ (zgF st 11 0 4) ≤ a6 → vp_in a6 300 ∧ ((a2 < (zgA st 47 0 (a6 : Int32).toNatClampNeg) → w_X1_balanceOf_88 P st (w_X1_balanceOf_6 P st n9) a1 a2 a3 a4 a6) ∧ (¬ a2 < (zgA st 47 0 (a6 : Int32).toNatClampNeg) → vp_in a6 300 ∧ (((zgA st 47 0 (a6 : Int32).toNatClampNeg) ≤ a3 → vp_in a6 300 ∧ (((zgA st 45 0 (a6 : Int32).toNatClampNeg) = a1 → w_X1_sumKnown st a6 a3 (fun (r57 : Int32) => (∀ x62 : Int64, x62 = a4 + ((r57 : Int32).toInt64) → (w_X1_balanceOf_64 P st (w_X1_balanceOf_6 P st n9) a1 a2 a3 x62 a6)))) ∧ (¬ (zgA st 45 0 (a6 : Int32).toNatClampNeg) = a1 → w_X1_balanceOf_64 P st (w_X1_balanceOf_6 P st n9) a1 a2 a3 a4 a6))) ∧ (¬ (zgA st 47 0 (a6 : Int32).toNatClampNeg) ≤ a3 → w_X1_balanceOf_88 P st (w_X1_balanceOf_6 P st n9) a1 a2 a3 a4 a6)))))
set_option maxHeartbeats 4000000 in
set_option maxRecDepth 100000 in
theorem j_X1_balanceOf_6 {P : Int64 → Prop} {st : zTs}  (hfl : l.stackTraces = false) (C : zC Z p s m args meth c cX1_balanceOf 7 RX1) (hr : meth.sig.returnType = (some .long)) (hn9 : True)  : ∀ (n9 : Nat) (a1 : Int32) (a2 : Int32) (a3 : Int32) (a4 : Int64) (a6 : Int32), w_X1_balanceOf_6 P st n9 a1 a2 a3 a4 a6 → zG Z ad0 h0 p l e ({ frames := 2, cells := 0, slots := 0, locals := 36 } : Room) s m args below meth c (MQ below (zQ Z ad0 h0 (zRl Z st P)) args s 0 0 (zA Z)) 0 0 (zh Z zm1 st) 7 6 [some (.ref 11), some (.int (a1)), some (.int (a2)), some (.int (a3)), some (.long (a4)), none, some (.int (a6))] [] := by
  intro n9
  induction n9 with
  | zero => intro a1 a2 a3 a4 a6 h; exact h.elim
  | succ n9 hK6 =>
    intro a1 a2 a3 a4 a6 h
    rw [w_X1_balanceOf_6] at h
    refine z_iload C dX1_balanceOf_6 rfl ?_
    refine z_aload_n C dX1_balanceOf_8 (i := 0) rfl rfl ?_
    refine t_get C dX1_balanceOf_9 fl_X1_33 (k := 11) (i := 0) (by decide) rfl (fg_11_4 _ _ _) ?_
    refine z_icmp_ge C dX1_balanceOf_12 (tgt := 94) (by decide) (fun c12 => ?_) (fun c12 => ?_)
    · have h := h.1 c12
      refine z_lload C dX1_balanceOf_94 rfl ?_
      exact z_lret C dX1_balanceOf_96 hr ⟨rfl, _, rfl, h⟩ (Nat.le_of_ble_eq_true rfl) (Nat.le_of_ble_eq_true rfl)
    · have h := h.2 c12
      refine z_aload_n C dX1_balanceOf_15 (i := 0) rfl rfl ?_
      refine t_get C dX1_balanceOf_16 fl_X1_21 (k := 11) (i := 0) (by decide) rfl (fg_11_3 _ _ _) ?_
      refine z_iload C dX1_balanceOf_19 rfl ?_
      obtain ⟨g21, h⟩ := h
      refine t_iald C dX1_balanceOf_21 (k := 47) (i := 0) (by decide) rfl (sh_47 _ _ _ _) g21 ?_
      refine z_iload_n C dX1_balanceOf_22 (i := 2) rfl rfl ?_
      refine z_icmp_gt C dX1_balanceOf_23 (tgt := 88) (by decide) (fun c23 => ?_) (fun c23 => ?_)
      · have h := h.1 c23
        exact t_drop [true, true, true, true, true, false, true] rfl (j_X1_balanceOf_88 hfl C hr hn9 hK6 a1 a2 a3 a4 a6 h)
      · have h := h.2 c23
        refine z_aload_n C dX1_balanceOf_26 (i := 0) rfl rfl ?_
        refine t_get C dX1_balanceOf_27 fl_X1_21 (k := 11) (i := 0) (by decide) rfl (fg_11_3 _ _ _) ?_
        refine z_iload C dX1_balanceOf_30 rfl ?_
        obtain ⟨g32, h⟩ := h
        refine t_iald C dX1_balanceOf_32 (k := 47) (i := 0) (by decide) rfl (sh_47 _ _ _ _) g32 ?_
        refine z_iload_n C dX1_balanceOf_33 (i := 3) rfl rfl ?_
        refine z_icmp_le C dX1_balanceOf_34 (tgt := 40) (by decide) (fun c34 => ?_) (fun c34 => ?_)
        · have h := h.1 c34
          refine z_aload_n C dX1_balanceOf_40 (i := 0) rfl rfl ?_
          refine t_get C dX1_balanceOf_41 fl_X1_15 (k := 11) (i := 0) (by decide) rfl (fg_11_1 _ _ _) ?_
          refine z_iload C dX1_balanceOf_44 rfl ?_
          obtain ⟨g46, h⟩ := h
          refine t_iald C dX1_balanceOf_46 (k := 45) (i := 0) (by decide) rfl (sh_45 _ _ _ _) g46 ?_
          refine z_iload_n C dX1_balanceOf_47 (i := 1) rfl rfl ?_
          refine z_icmp_ne C dX1_balanceOf_48 (tgt := 64) (by decide) (fun c48 => ?_) (fun c48 => ?_)
          · have h := h.2 c48
            exact t_drop [true, true, true, true, true, false, true] rfl (j_X1_balanceOf_64 hfl C hr hn9 hK6 a1 a2 a3 a4 a6 h)
          · have h := h.1 c48
            refine z_lload C dX1_balanceOf_51 rfl ?_
            refine z_aload_n C dX1_balanceOf_53 (i := 0) rfl rfl ?_
            refine z_iload C dX1_balanceOf_54 rfl ?_
            refine z_iload_n C dX1_balanceOf_56 (i := 3) rfl rfl ?_
            refine t_callV C (rest := [.long (a4)]) (c2 := 0) (s2 := 0) (kd := 11) (i := 0) [.int (a6), .int (a3)] dX1_balanceOf_57 lk_X1_40 li_X1_sumKnown le_X1_sumKnown (c_X1_sumKnown hfl h) rfl rfl (by decide) rfl ⟨_, rfl⟩ rfl ⟨Nat.le_of_ble_eq_true rfl, Nat.le_of_ble_eq_true rfl⟩ (Nat.le_of_ble_eq_true rfl) ⟨Nat.le_of_ble_eq_true rfl, Nat.le_of_ble_eq_true rfl, Nat.le_of_ble_eq_true rfl, Nat.le_of_ble_eq_true rfl⟩ (k_Ri fun r57 h => ?_)
            refine z_i2l C dX1_balanceOf_60 ?_
            refine z_ladd C dX1_balanceOf_61 ?_
            refine t_topl (fun x62 ex62 => ?_)
            have h := h x62 ex62
            refine z_lstore C dX1_balanceOf_62 (lc' := [some (.ref 11), some (.int (a1)), some (.int (a2)), some (.int (a3)), some (.long (x62)), none, some (.int (a6))]) (by decide) rfl ?_
            exact t_drop [true, true, true, true, true, false, true] rfl (j_X1_balanceOf_64 hfl C hr hn9 hK6 a1 a2 a3 x62 a6 h)
        · have h := h.2 c34
          refine z_goto C dX1_balanceOf_37 (tgt := 88) (by decide) ?_
          exact t_drop [true, true, true, true, true, false, true] rfl (j_X1_balanceOf_88 hfl C hr hn9 hK6 a1 a2 a3 a4 a6 h)
def w_X1_balanceOf (st : zTs) (a1 : Int32) (a2 : Int32) (a3 : Int32) (P : Int64 → Prop) : Prop := w_X1_balanceOf_6 P st zfu a1 a2 a3 (0) (0)
set_option maxHeartbeats 4000000 in
set_option maxRecDepth 100000 in
theorem c_X1_balanceOf {Z : zZ} {l : Launch} (hfl : l.stackTraces = false) {st : zTs} {a1 : Int32} {a2 : Int32} {a3 : Int32} {P : Int64 → Prop} (h : w_X1_balanceOf st a1 a2 a3 P) : zN Z l yX1_balanceOf cX1_balanceOf 7 (some .long) ({ frames := 2, cells := 0, slots := 0, locals := 36 } : Room) (zh Z zm1 st) [.ref 11, .int (a1), .int (a2), .int (a3)] (zRl Z st P) := by
  unfold w_X1_balanceOf at h
  refine z_enterN (by decide) (Nat.le_of_ble_eq_true rfl) (lc0 := [some (.ref 11), some (.int (a1)), some (.int (a2)), some (.int (a3)), none, none, none]) rfl ?_
  intro p e s m args below meth c ad0 C hr _
  have hn9 : True := trivial
  replace C : zC Z p s m args meth c cX1_balanceOf 7 RX1 := C
  refine z_lconst C dX1_balanceOf_0 (v := 0) (by decide) ?_
  refine z_lstore C dX1_balanceOf_1 (lc' := [some (.ref 11), some (.int (a1)), some (.int (a2)), some (.int (a3)), some (.long (0)), none, none]) (by decide) rfl ?_
  refine z_iconst C dX1_balanceOf_3 (v := 0) (by decide) ?_
  refine z_istore C dX1_balanceOf_4 (lc' := [some (.ref 11), some (.int (a1)), some (.int (a2)), some (.int (a3)), some (.long (0)), none, some (.int (0))]) (by decide) rfl ?_
  exact t_drop [true, true, true, true, true, false, true] rfl (j_X1_balanceOf_6 hfl C hr hn9  zfu a1 a2 a3 (0) (0) h)
def w_X2_readings (st : zTs) (i : Nat) (P : Int32 → Prop) : Prop := P (zgF st 23 i 2)
set_option maxHeartbeats 4000000 in
set_option maxRecDepth 100000 in
theorem c_X2_readings {Z : zZ} {l : Launch} (hfl : l.stackTraces = false) {st : zTs} {i : Nat} {P : Int32 → Prop} (h : w_X2_readings st i P) : zN Z l yX2_readings cX2_readings 1 (some .int) ({ frames := 1, cells := 0, slots := 0, locals := 12 } : Room) (zh Z zm1 st) [.ref (23 + 256 * i)] (zRi Z st P) := by
  unfold w_X2_readings at h
  refine z_enterN (by decide) (Nat.le_of_ble_eq_true rfl) (lc0 := [some (.ref (23 + 256 * i))]) rfl ?_
  intro p e s m args below meth c ad0 C hr _
  have hn9 : True := trivial
  replace C : zC Z p s m args meth c cX2_readings 1 RX2 := C
  refine z_aload_n C dX2_readings_0 (i := 0) rfl rfl ?_
  refine t_get C dX2_readings_1 fl_X2_18 (k := 23) (i := i) (by decide) rfl (fg_23_2 _ _ _) ?_
  exact z_iret C dX2_readings_4 hr rfl ⟨rfl, _, rfl, h⟩ (Nat.le_of_ble_eq_true rfl) (Nat.le_of_ble_eq_true rfl)
def w_X2_isBehindLast (st : zTs) (i : Nat) (a1 : Int32) (P : Int32 → Prop) : Prop := ((zgF st 23 i 2) = 0 → P 1) ∧ (¬ (zgF st 23 i 2) = 0 → vp_in ((zgF st 23 i 2) - 1) 40 ∧ ((a1 ≤ (zgA st 64 i ((zgF st 23 i 2) - 1 : Int32).toNatClampNeg) → P 0) ∧ (¬ a1 ≤ (zgA st 64 i ((zgF st 23 i 2) - 1 : Int32).toNatClampNeg) → P 1)))
set_option maxHeartbeats 4000000 in
set_option maxRecDepth 100000 in
theorem c_X2_isBehindLast {Z : zZ} {l : Launch} (hfl : l.stackTraces = false) {st : zTs} {i : Nat} {a1 : Int32} {P : Int32 → Prop} (h : w_X2_isBehindLast st i a1 P) : zN Z l yX2_isBehindLast cX2_isBehindLast 2 (some .boolean) ({ frames := 1, cells := 0, slots := 0, locals := 12 } : Room) (zh Z zm1 st) [.ref (23 + 256 * i), .int (a1)] (zRi Z st P) := by
  unfold w_X2_isBehindLast at h
  refine z_enterN (by decide) (Nat.le_of_ble_eq_true rfl) (lc0 := [some (.ref (23 + 256 * i)), some (.int (a1))]) rfl ?_
  intro p e s m args below meth c ad0 C hr _
  have hn9 : True := trivial
  replace C : zC Z p s m args meth c cX2_isBehindLast 2 RX2 := C
  refine z_aload_n C dX2_isBehindLast_0 (i := 0) rfl rfl ?_
  refine t_get C dX2_isBehindLast_1 fl_X2_18 (k := 23) (i := i) (by decide) rfl (fg_23_2 _ _ _) ?_
  refine z_if_eq C dX2_isBehindLast_4 (tgt := 22) (by decide) (fun c4 => ?_) (fun c4 => ?_)
  · have h := h.1 c4
    refine z_iconst C dX2_isBehindLast_22 (v := 1) (by decide) ?_
    refine z_goto C dX2_isBehindLast_23 (tgt := 27) (by decide) ?_
    exact z_iret C dX2_isBehindLast_27 hr rfl ⟨rfl, _, rfl, h⟩ (Nat.le_of_ble_eq_true rfl) (Nat.le_of_ble_eq_true rfl)
  · have h := h.2 c4
    refine z_iload_n C dX2_isBehindLast_7 (i := 1) rfl rfl ?_
    refine z_aload_n C dX2_isBehindLast_8 (i := 0) rfl rfl ?_
    refine t_get C dX2_isBehindLast_9 fl_X2_9 (k := 23) (i := i) (by decide) rfl (fg_23_0 _ _ _) ?_
    refine z_aload_n C dX2_isBehindLast_12 (i := 0) rfl rfl ?_
    refine t_get C dX2_isBehindLast_13 fl_X2_18 (k := 23) (i := i) (by decide) rfl (fg_23_2 _ _ _) ?_
    refine z_iconst C dX2_isBehindLast_16 (v := 1) (by decide) ?_
    refine z_isub C dX2_isBehindLast_17 ?_
    obtain ⟨g18, h⟩ := h
    refine t_iald C dX2_isBehindLast_18 (k := 64) (i := i) (by decide) rfl (sh_64 _ _ _ _) g18 ?_
    refine z_icmp_le C dX2_isBehindLast_19 (tgt := 26) (by decide) (fun c19 => ?_) (fun c19 => ?_)
    · have h := h.1 c19
      refine z_iconst C dX2_isBehindLast_26 (v := 0) (by decide) ?_
      exact z_iret C dX2_isBehindLast_27 hr rfl ⟨rfl, _, rfl, h⟩ (Nat.le_of_ble_eq_true rfl) (Nat.le_of_ble_eq_true rfl)
    · have h := h.2 c19
      refine z_iconst C dX2_isBehindLast_22 (v := 1) (by decide) ?_
      refine z_goto C dX2_isBehindLast_23 (tgt := 27) (by decide) ?_
      exact z_iret C dX2_isBehindLast_27 hr rfl ⟨rfl, _, rfl, h⟩ (Nat.le_of_ble_eq_true rfl) (Nat.le_of_ble_eq_true rfl)
def w_X2_addReading (st : zTs) (i : Nat) (a1 : Int32) (a2 : Int32) (P : zTs → Prop) : Prop := ((zgF st 23 i 2) < 40 → vp_in (zgF st 23 i 2) 40 ∧ (∀ s19 : zTs, s19 = zuA st 64 i (zgF st 23 i 2 : Int32).toNatClampNeg a1 → (vp_in (zgF s19 23 i 2) 40 ∧ (∀ s29 : zTs, s29 = zuA s19 65 i (zgF s19 23 i 2 : Int32).toNatClampNeg a2 → (∀ s37 : zTs, s37 = zuF s29 23 i 2 ((zgF s29 23 i 2) + 1) → (P s37)))))) ∧ (¬ (zgF st 23 i 2) < 40 → P st)
set_option maxHeartbeats 4000000 in
set_option maxRecDepth 100000 in
theorem c_X2_addReading {Z : zZ} {l : Launch} (hfl : l.stackTraces = false) {st : zTs} {i : Nat} {a1 : Int32} {a2 : Int32} {P : zTs → Prop} (h : w_X2_addReading st i a1 a2 P) : zN Z l yX2_addReading cX2_addReading 3 none ({ frames := 1, cells := 0, slots := 0, locals := 12 } : Room) (zh Z zm1 st) [.ref (23 + 256 * i), .int (a1), .int (a2)] (zWv Z zm1 P) := by
  unfold w_X2_addReading at h
  refine z_enterN (by decide) (Nat.le_of_ble_eq_true rfl) (lc0 := [some (.ref (23 + 256 * i)), some (.int (a1)), some (.int (a2))]) rfl ?_
  intro p e s m args below meth c ad0 C hr _
  have hn9 : True := trivial
  replace C : zC Z p s m args meth c cX2_addReading 3 RX2 := C
  refine z_aload_n C dX2_addReading_0 (i := 0) rfl rfl ?_
  refine t_get C dX2_addReading_1 fl_X2_18 (k := 23) (i := i) (by decide) rfl (fg_23_2 _ _ _) ?_
  refine z_bipush C dX2_addReading_4 (v := 40) (by decide) ?_
  refine z_icmp_lt C dX2_addReading_6 (tgt := 10) (by decide) (fun c6 => ?_) (fun c6 => ?_)
  · have h := h.1 c6
    refine z_aload_n C dX2_addReading_10 (i := 0) rfl rfl ?_
    refine t_get C dX2_addReading_11 fl_X2_9 (k := 23) (i := i) (by decide) rfl (fg_23_0 _ _ _) ?_
    refine z_aload_n C dX2_addReading_14 (i := 0) rfl rfl ?_
    refine t_get C dX2_addReading_15 fl_X2_18 (k := 23) (i := i) (by decide) rfl (fg_23_2 _ _ _) ?_
    refine z_iload_n C dX2_addReading_18 (i := 1) rfl rfl ?_
    obtain ⟨g19, h⟩ := h
    refine t_iast C dX2_addReading_19 (k := 64) (i := i) (by decide) rfl (fun s9 => sh_64 _ _ s9 _) g19 ?_
    refine t_tops (fun s19 es19 => ?_)
    have h := h s19 es19
    refine z_aload_n C dX2_addReading_20 (i := 0) rfl rfl ?_
    refine t_get C dX2_addReading_21 fl_X2_15 (k := 23) (i := i) (by decide) rfl (fg_23_1 _ _ _) ?_
    refine z_aload_n C dX2_addReading_24 (i := 0) rfl rfl ?_
    refine t_get C dX2_addReading_25 fl_X2_18 (k := 23) (i := i) (by decide) rfl (fg_23_2 _ _ _) ?_
    refine z_iload_n C dX2_addReading_28 (i := 2) rfl rfl ?_
    obtain ⟨g29, h⟩ := h
    refine t_iast C dX2_addReading_29 (k := 65) (i := i) (by decide) rfl (fun s9 => sh_65 _ _ s9 _) g29 ?_
    refine t_tops (fun s29 es29 => ?_)
    have h := h s29 es29
    refine z_aload_n C dX2_addReading_30 (i := 0) rfl rfl ?_
    refine z_dup C dX2_addReading_31 rfl ?_
    refine t_get C dX2_addReading_32 fl_X2_18 (k := 23) (i := i) (by decide) rfl (fg_23_2 _ _ _) ?_
    refine z_iconst C dX2_addReading_35 (v := 1) (by decide) ?_
    refine z_iadd C dX2_addReading_36 ?_
    refine t_put C dX2_addReading_37 fq_X2_18 (Or.inl rfl) (k := 23) (i := i) (by decide) rfl ⟨rfl, rfl⟩ (fp_23_2 _ _ _ _ _) ?_
    refine t_tops (fun s37 es37 => ?_)
    have h := h s37 es37
    exact z_vret C dX2_addReading_40 hr ⟨_, rfl, rfl, h⟩ (Nat.le_of_ble_eq_true rfl) (Nat.le_of_ble_eq_true rfl)
  · have h := h.2 c6
    exact z_vret C dX2_addReading_9 hr ⟨_, rfl, rfl, h⟩ (Nat.le_of_ble_eq_true rfl) (Nat.le_of_ble_eq_true rfl)
def w_X2_covers (st : zTs) (i : Nat) (a1 : Int32) (P : Int32 → Prop) : Prop := ((zgF st 23 i 2) ≤ 0 → P 0) ∧ (¬ (zgF st 23 i 2) ≤ 0 → vp_in 0 40 ∧ ((a1 < (zgA st 64 i (0 : Int32).toNatClampNeg) → P 0) ∧ (¬ a1 < (zgA st 64 i (0 : Int32).toNatClampNeg) → vp_in ((zgF st 23 i 2) - 1) 40 ∧ (((zgA st 64 i ((zgF st 23 i 2) - 1 : Int32).toNatClampNeg) < a1 → P 0) ∧ (¬ (zgA st 64 i ((zgF st 23 i 2) - 1 : Int32).toNatClampNeg) < a1 → P 1)))))
set_option maxHeartbeats 4000000 in
set_option maxRecDepth 100000 in
theorem c_X2_covers {Z : zZ} {l : Launch} (hfl : l.stackTraces = false) {st : zTs} {i : Nat} {a1 : Int32} {P : Int32 → Prop} (h : w_X2_covers st i a1 P) : zN Z l yX2_covers cX2_covers 2 (some .boolean) ({ frames := 1, cells := 0, slots := 0, locals := 12 } : Room) (zh Z zm1 st) [.ref (23 + 256 * i), .int (a1)] (zRi Z st P) := by
  unfold w_X2_covers at h
  refine z_enterN (by decide) (Nat.le_of_ble_eq_true rfl) (lc0 := [some (.ref (23 + 256 * i)), some (.int (a1))]) rfl ?_
  intro p e s m args below meth c ad0 C hr _
  have hn9 : True := trivial
  replace C : zC Z p s m args meth c cX2_covers 2 RX2 := C
  refine z_aload_n C dX2_covers_0 (i := 0) rfl rfl ?_
  refine t_get C dX2_covers_1 fl_X2_18 (k := 23) (i := i) (by decide) rfl (fg_23_2 _ _ _) ?_
  refine z_if_le C dX2_covers_4 (tgt := 36) (by decide) (fun c4 => ?_) (fun c4 => ?_)
  · have h := h.1 c4
    refine z_iconst C dX2_covers_36 (v := 0) (by decide) ?_
    exact z_iret C dX2_covers_37 hr rfl ⟨rfl, _, rfl, h⟩ (Nat.le_of_ble_eq_true rfl) (Nat.le_of_ble_eq_true rfl)
  · have h := h.2 c4
    refine z_iload_n C dX2_covers_7 (i := 1) rfl rfl ?_
    refine z_aload_n C dX2_covers_8 (i := 0) rfl rfl ?_
    refine t_get C dX2_covers_9 fl_X2_9 (k := 23) (i := i) (by decide) rfl (fg_23_0 _ _ _) ?_
    refine z_iconst C dX2_covers_12 (v := 0) (by decide) ?_
    obtain ⟨g13, h⟩ := h
    refine t_iald C dX2_covers_13 (k := 64) (i := i) (by decide) rfl (sh_64 _ _ _ _) g13 ?_
    refine z_icmp_lt C dX2_covers_14 (tgt := 36) (by decide) (fun c14 => ?_) (fun c14 => ?_)
    · have h := h.1 c14
      refine z_iconst C dX2_covers_36 (v := 0) (by decide) ?_
      exact z_iret C dX2_covers_37 hr rfl ⟨rfl, _, rfl, h⟩ (Nat.le_of_ble_eq_true rfl) (Nat.le_of_ble_eq_true rfl)
    · have h := h.2 c14
      refine z_iload_n C dX2_covers_17 (i := 1) rfl rfl ?_
      refine z_aload_n C dX2_covers_18 (i := 0) rfl rfl ?_
      refine t_get C dX2_covers_19 fl_X2_9 (k := 23) (i := i) (by decide) rfl (fg_23_0 _ _ _) ?_
      refine z_aload_n C dX2_covers_22 (i := 0) rfl rfl ?_
      refine t_get C dX2_covers_23 fl_X2_18 (k := 23) (i := i) (by decide) rfl (fg_23_2 _ _ _) ?_
      refine z_iconst C dX2_covers_26 (v := 1) (by decide) ?_
      refine z_isub C dX2_covers_27 ?_
      obtain ⟨g28, h⟩ := h
      refine t_iald C dX2_covers_28 (k := 64) (i := i) (by decide) rfl (sh_64 _ _ _ _) g28 ?_
      refine z_icmp_gt C dX2_covers_29 (tgt := 36) (by decide) (fun c29 => ?_) (fun c29 => ?_)
      · have h := h.1 c29
        refine z_iconst C dX2_covers_36 (v := 0) (by decide) ?_
        exact z_iret C dX2_covers_37 hr rfl ⟨rfl, _, rfl, h⟩ (Nat.le_of_ble_eq_true rfl) (Nat.le_of_ble_eq_true rfl)
      · have h := h.2 c29
        refine z_iconst C dX2_covers_32 (v := 1) (by decide) ?_
        refine z_goto C dX2_covers_33 (tgt := 37) (by decide) ?_
        exact z_iret C dX2_covers_37 hr rfl ⟨rfl, _, rfl, h⟩ (Nat.le_of_ble_eq_true rfl) (Nat.le_of_ble_eq_true rfl)
def w_X2_portion (st : zTs) (a0 : Int64) (a2 : Int32) (a3 : Int32) (P : Int64 → Prop) : Prop := (a3 = 0 → P 0) ∧ (¬ a3 = 0 → w_J9_floorDiv_f86c9 st (a0 * ((a2 : Int32).toInt64)) ((a3 : Int32).toInt64) (fun (r14 : Int64) => (P r14)))
set_option maxHeartbeats 4000000 in
set_option maxRecDepth 100000 in
theorem c_X2_portion {Z : zZ} {l : Launch} (hfl : l.stackTraces = false) {st : zTs} {a0 : Int64} {a2 : Int32} {a3 : Int32} {P : Int64 → Prop} (h : w_X2_portion st a0 a2 a3 P) : zN Z l yX2_portion cX2_portion 4 (some .long) ({ frames := 2, cells := 0, slots := 0, locals := 37 } : Room) (zh Z zm1 st) [.long (a0), .int (a2), .int (a3)] (zRl Z st P) := by
  unfold w_X2_portion at h
  refine z_enterN (by decide) (Nat.le_of_ble_eq_true rfl) (lc0 := [some (.long (a0)), none, some (.int (a2)), some (.int (a3))]) rfl ?_
  intro p e s m args below meth c ad0 C hr _
  have hn9 : True := trivial
  replace C : zC Z p s m args meth c cX2_portion 4 RX2 := C
  refine z_iload_n C dX2_portion_0 (i := 3) rfl rfl ?_
  refine z_if_ne C dX2_portion_1 (tgt := 8) (by decide) (fun c1 => ?_) (fun c1 => ?_)
  · have h := h.2 c1
    refine z_lload_n C dX2_portion_8 (i := 0) rfl rfl ?_
    refine z_iload_n C dX2_portion_9 (i := 2) rfl rfl ?_
    refine z_i2l C dX2_portion_10 ?_
    refine z_lmul C dX2_portion_11 ?_
    refine z_iload_n C dX2_portion_12 (i := 3) rfl rfl ?_
    refine z_i2l C dX2_portion_13 ?_
    refine t_callS C (rest := []) (c2 := 0) (s2 := 0) [.long (a0 * ((a2 : Int32).toInt64)), .long ((a3 : Int32).toInt64)] dX2_portion_14 lk_X2_30 ls_J9_floorDiv_f86c9 (c_J9_floorDiv_f86c9 hfl h) rfl rfl ⟨Nat.le_of_ble_eq_true rfl, Nat.le_of_ble_eq_true rfl⟩ (Nat.le_of_ble_eq_true rfl) ⟨Nat.le_of_ble_eq_true rfl, Nat.le_of_ble_eq_true rfl, Nat.le_of_ble_eq_true rfl, Nat.le_of_ble_eq_true rfl⟩ (k_Rl fun r14 h => ?_)
    exact z_lret C dX2_portion_17 hr ⟨rfl, _, rfl, h⟩ (Nat.le_of_ble_eq_true rfl) (Nat.le_of_ble_eq_true rfl)
  · have h := h.1 c1
    refine z_lconst C dX2_portion_4 (v := 0) (by decide) ?_
    refine z_goto C dX2_portion_5 (tgt := 17) (by decide) ?_
    exact z_lret C dX2_portion_17 hr ⟨rfl, _, rfl, h⟩ (Nat.le_of_ble_eq_true rfl) (Nat.le_of_ble_eq_true rfl)
def w_X2_valueOn_30 (P : Int32 → Prop) (st : zTs)  (a0 : Nat) (a1 : Int32) (a2 : Int32) : Prop := ((a2 + 1) < (zgF st 23 a0 2) → vp_in (a2 + 1) 40 ∧ (vp_in a2 40 ∧ (∀ x62 : Int32, x62 = (zgA st 64 a0 (a2 + 1 : Int32).toNatClampNeg) - (zgA st 64 a0 (a2 : Int32).toNatClampNeg) → (vp_in (a2 + 1) 40 ∧ (vp_in a2 40 ∧ (∀ x79 : Int64, x79 = ((zgA st 65 a0 (a2 + 1 : Int32).toNatClampNeg) - (zgA st 65 a0 (a2 : Int32).toNatClampNeg) : Int32).toInt64 → (vp_in a2 40 ∧ (vp_in a2 40 ∧ (w_X2_portion st x79 (a1 - (zgA st 64 a0 (a2 : Int32).toNatClampNeg)) x62 (fun (r98 : Int64) => (P ((zgA st 65 a0 (a2 : Int32).toNatClampNeg) + ((r98 : Int64).toInt32))))))))))))) ∧ (¬ (a2 + 1) < (zgF st 23 a0 2) → vp_in a2 40 ∧ (P (zgA st 65 a0 (a2 : Int32).toNatClampNeg)))
set_option maxHeartbeats 4000000 in
set_option maxRecDepth 100000 in
theorem j_X2_valueOn_30 {P : Int32 → Prop} {st : zTs}  (hfl : l.stackTraces = false) (C : zC Z p s m args meth c cX2_valueOn 6 RX2) (hr : meth.sig.returnType = (some .int)) (hn9 : True)  (a0 : Nat) (a1 : Int32) (a2 : Int32) (h : w_X2_valueOn_30 P st a0 a1 a2) : zG Z ad0 h0 p l e ({ frames := 3, cells := 0, slots := 0, locals := 60 } : Room) s m args below meth c (MQ below (zQ Z ad0 h0 (zRi Z st P)) args s 0 0 (zA Z)) 0 0 (zh Z zm1 st) 6 30 [some (.ref (23 + 256 * a0)), some (.int (a1)), some (.int (a2)), none, none, none] [] := by
  unfold w_X2_valueOn_30 at h
  refine z_iload_n C dX2_valueOn_30 (i := 2) rfl rfl ?_
  refine z_iconst C dX2_valueOn_31 (v := 1) (by decide) ?_
  refine z_iadd C dX2_valueOn_32 ?_
  refine z_aload_n C dX2_valueOn_33 (i := 0) rfl rfl ?_
  refine t_get C dX2_valueOn_34 fl_X2_18 (k := 23) (i := a0) (by decide) rfl (fg_23_2 _ _ _) ?_
  refine z_icmp_lt C dX2_valueOn_37 (tgt := 47) (by decide) (fun c37 => ?_) (fun c37 => ?_)
  · have h := h.1 c37
    refine z_aload_n C dX2_valueOn_47 (i := 0) rfl rfl ?_
    refine t_get C dX2_valueOn_48 fl_X2_9 (k := 23) (i := a0) (by decide) rfl (fg_23_0 _ _ _) ?_
    refine z_iload_n C dX2_valueOn_51 (i := 2) rfl rfl ?_
    refine z_iconst C dX2_valueOn_52 (v := 1) (by decide) ?_
    refine z_iadd C dX2_valueOn_53 ?_
    obtain ⟨g54, h⟩ := h
    refine t_iald C dX2_valueOn_54 (k := 64) (i := a0) (by decide) rfl (sh_64 _ _ _ _) g54 ?_
    refine z_aload_n C dX2_valueOn_55 (i := 0) rfl rfl ?_
    refine t_get C dX2_valueOn_56 fl_X2_9 (k := 23) (i := a0) (by decide) rfl (fg_23_0 _ _ _) ?_
    refine z_iload_n C dX2_valueOn_59 (i := 2) rfl rfl ?_
    obtain ⟨g60, h⟩ := h
    refine t_iald C dX2_valueOn_60 (k := 64) (i := a0) (by decide) rfl (sh_64 _ _ _ _) g60 ?_
    refine z_isub C dX2_valueOn_61 ?_
    refine t_topi (fun x62 ex62 => ?_)
    have h := h x62 ex62
    refine z_istore_n C dX2_valueOn_62 (i := 3) (lc' := [some (.ref (23 + 256 * a0)), some (.int (a1)), some (.int (a2)), some (.int (x62)), none, none]) rfl (by decide) rfl ?_
    refine z_aload_n C dX2_valueOn_63 (i := 0) rfl rfl ?_
    refine t_get C dX2_valueOn_64 fl_X2_15 (k := 23) (i := a0) (by decide) rfl (fg_23_1 _ _ _) ?_
    refine z_iload_n C dX2_valueOn_67 (i := 2) rfl rfl ?_
    refine z_iconst C dX2_valueOn_68 (v := 1) (by decide) ?_
    refine z_iadd C dX2_valueOn_69 ?_
    obtain ⟨g70, h⟩ := h
    refine t_iald C dX2_valueOn_70 (k := 65) (i := a0) (by decide) rfl (sh_65 _ _ _ _) g70 ?_
    refine z_aload_n C dX2_valueOn_71 (i := 0) rfl rfl ?_
    refine t_get C dX2_valueOn_72 fl_X2_15 (k := 23) (i := a0) (by decide) rfl (fg_23_1 _ _ _) ?_
    refine z_iload_n C dX2_valueOn_75 (i := 2) rfl rfl ?_
    obtain ⟨g76, h⟩ := h
    refine t_iald C dX2_valueOn_76 (k := 65) (i := a0) (by decide) rfl (sh_65 _ _ _ _) g76 ?_
    refine z_isub C dX2_valueOn_77 ?_
    refine z_i2l C dX2_valueOn_78 ?_
    refine t_topl (fun x79 ex79 => ?_)
    have h := h x79 ex79
    refine z_lstore C dX2_valueOn_79 (lc' := [some (.ref (23 + 256 * a0)), some (.int (a1)), some (.int (a2)), some (.int (x62)), some (.long (x79)), none]) (by decide) rfl ?_
    refine z_aload_n C dX2_valueOn_81 (i := 0) rfl rfl ?_
    refine t_get C dX2_valueOn_82 fl_X2_15 (k := 23) (i := a0) (by decide) rfl (fg_23_1 _ _ _) ?_
    refine z_iload_n C dX2_valueOn_85 (i := 2) rfl rfl ?_
    obtain ⟨g86, h⟩ := h
    refine t_iald C dX2_valueOn_86 (k := 65) (i := a0) (by decide) rfl (sh_65 _ _ _ _) g86 ?_
    refine z_lload C dX2_valueOn_87 rfl ?_
    refine z_iload_n C dX2_valueOn_89 (i := 1) rfl rfl ?_
    refine z_aload_n C dX2_valueOn_90 (i := 0) rfl rfl ?_
    refine t_get C dX2_valueOn_91 fl_X2_9 (k := 23) (i := a0) (by decide) rfl (fg_23_0 _ _ _) ?_
    refine z_iload_n C dX2_valueOn_94 (i := 2) rfl rfl ?_
    obtain ⟨g95, h⟩ := h
    refine t_iald C dX2_valueOn_95 (k := 64) (i := a0) (by decide) rfl (sh_64 _ _ _ _) g95 ?_
    refine z_isub C dX2_valueOn_96 ?_
    refine z_iload_n C dX2_valueOn_97 (i := 3) rfl rfl ?_
    refine t_callS C (rest := [.int (zgA st 65 a0 (a2 : Int32).toNatClampNeg)]) (c2 := 0) (s2 := 0) [.long (x79), .int (a1 - (zgA st 64 a0 (a2 : Int32).toNatClampNeg)), .int (x62)] dX2_valueOn_98 lk_X2_22 ls_X2_portion (c_X2_portion hfl h) rfl rfl ⟨Nat.le_of_ble_eq_true rfl, Nat.le_of_ble_eq_true rfl⟩ (Nat.le_of_ble_eq_true rfl) ⟨Nat.le_of_ble_eq_true rfl, Nat.le_of_ble_eq_true rfl, Nat.le_of_ble_eq_true rfl, Nat.le_of_ble_eq_true rfl⟩ (k_Rl fun r98 h => ?_)
    refine z_l2i C dX2_valueOn_101 ?_
    refine z_iadd C dX2_valueOn_102 ?_
    exact z_iret C dX2_valueOn_103 hr rfl ⟨rfl, _, rfl, h⟩ (Nat.le_of_ble_eq_true rfl) (Nat.le_of_ble_eq_true rfl)
  · have h := h.2 c37
    refine z_aload_n C dX2_valueOn_40 (i := 0) rfl rfl ?_
    refine t_get C dX2_valueOn_41 fl_X2_15 (k := 23) (i := a0) (by decide) rfl (fg_23_1 _ _ _) ?_
    refine z_iload_n C dX2_valueOn_44 (i := 2) rfl rfl ?_
    obtain ⟨g45, h⟩ := h
    refine t_iald C dX2_valueOn_45 (k := 65) (i := a0) (by decide) rfl (sh_65 _ _ _ _) g45 ?_
    exact z_iret C dX2_valueOn_46 hr rfl ⟨rfl, _, rfl, h⟩ (Nat.le_of_ble_eq_true rfl) (Nat.le_of_ble_eq_true rfl)
def w_X2_valueOn_4 (P : Int32 → Prop) (st : zTs)  : Nat → Nat → Int32 → Int32 → Int32 → Prop
  | 0, _, _, _, _ => False
  | n9 + 1, a0, a1, a2, a3 => ((zgF st 23 a0 2) ≤ a3 → w_X2_valueOn_30 P st a0 a1 a2) ∧ (¬ (zgF st 23 a0 2) ≤ a3 → vp_in a3 40 ∧ ((a1 < (zgA st 64 a0 (a3 : Int32).toNatClampNeg) → w_X2_valueOn_30 P st a0 a1 a2) ∧ (¬ a1 < (zgA st 64 a0 (a3 : Int32).toNatClampNeg) → ∀ x24 : Int32, x24 = a3 + 1 → ((w_X2_valueOn_4 P st n9) a0 a1 a3 x24))))
set_option maxHeartbeats 4000000 in
set_option maxRecDepth 100000 in
theorem j_X2_valueOn_4 {P : Int32 → Prop} {st : zTs}  (hfl : l.stackTraces = false) (C : zC Z p s m args meth c cX2_valueOn 6 RX2) (hr : meth.sig.returnType = (some .int)) (hn9 : True)  : ∀ (n9 : Nat) (a0 : Nat) (a1 : Int32) (a2 : Int32) (a3 : Int32), w_X2_valueOn_4 P st n9 a0 a1 a2 a3 → zG Z ad0 h0 p l e ({ frames := 3, cells := 0, slots := 0, locals := 60 } : Room) s m args below meth c (MQ below (zQ Z ad0 h0 (zRi Z st P)) args s 0 0 (zA Z)) 0 0 (zh Z zm1 st) 6 4 [some (.ref (23 + 256 * a0)), some (.int (a1)), some (.int (a2)), some (.int (a3)), none, none] [] := by
  intro n9
  induction n9 with
  | zero => intro a0 a1 a2 a3 h; exact h.elim
  | succ n9 hK4 =>
    intro a0 a1 a2 a3 h
    rw [w_X2_valueOn_4] at h
    refine z_iload_n C dX2_valueOn_4 (i := 3) rfl rfl ?_
    refine z_aload_n C dX2_valueOn_5 (i := 0) rfl rfl ?_
    refine t_get C dX2_valueOn_6 fl_X2_18 (k := 23) (i := a0) (by decide) rfl (fg_23_2 _ _ _) ?_
    refine z_icmp_ge C dX2_valueOn_9 (tgt := 30) (by decide) (fun c9 => ?_) (fun c9 => ?_)
    · have h := h.1 c9
      exact t_drop [true, true, true, false, false, false] rfl (j_X2_valueOn_30 hfl C hr hn9  a0 a1 a2 h)
    · have h := h.2 c9
      refine z_aload_n C dX2_valueOn_12 (i := 0) rfl rfl ?_
      refine t_get C dX2_valueOn_13 fl_X2_9 (k := 23) (i := a0) (by decide) rfl (fg_23_0 _ _ _) ?_
      refine z_iload_n C dX2_valueOn_16 (i := 3) rfl rfl ?_
      obtain ⟨g17, h⟩ := h
      refine t_iald C dX2_valueOn_17 (k := 64) (i := a0) (by decide) rfl (sh_64 _ _ _ _) g17 ?_
      refine z_iload_n C dX2_valueOn_18 (i := 1) rfl rfl ?_
      refine z_icmp_gt C dX2_valueOn_19 (tgt := 30) (by decide) (fun c19 => ?_) (fun c19 => ?_)
      · have h := h.1 c19
        exact t_drop [true, true, true, false, false, false] rfl (j_X2_valueOn_30 hfl C hr hn9  a0 a1 a2 h)
      · have h := h.2 c19
        refine z_iload_n C dX2_valueOn_22 (i := 3) rfl rfl ?_
        refine z_istore_n C dX2_valueOn_23 (i := 2) (lc' := [some (.ref (23 + 256 * a0)), some (.int (a1)), some (.int (a3)), some (.int (a3)), none, none]) rfl (by decide) rfl ?_
        obtain ⟨x24, ex24⟩ : ∃ z : Int32, z = a3 + 1 := ⟨_, rfl⟩
        have h := h x24 ex24
        refine z_iinc C dX2_valueOn_24 (v := x24) (lc' := [some (.ref (23 + 256 * a0)), some (.int (a1)), some (.int (a3)), some (.int (x24)), none, none]) rfl (by decide) (by rw [ex24]; rfl) rfl ?_
        refine z_goto C dX2_valueOn_27 (tgt := 4) (by decide) ?_
        exact t_drop [true, true, true, true, false, false] rfl (hK4 a0 a1 a3 x24 h)
def w_X2_valueOn (st : zTs) (i : Nat) (a1 : Int32) (P : Int32 → Prop) : Prop := w_X2_valueOn_4 P st zfu i a1 (0) (0)
set_option maxHeartbeats 4000000 in
set_option maxRecDepth 100000 in
theorem c_X2_valueOn {Z : zZ} {l : Launch} (hfl : l.stackTraces = false) {st : zTs} {i : Nat} {a1 : Int32} {P : Int32 → Prop} (h : w_X2_valueOn st i a1 P) : zN Z l yX2_valueOn cX2_valueOn 6 (some .int) ({ frames := 3, cells := 0, slots := 0, locals := 60 } : Room) (zh Z zm1 st) [.ref (23 + 256 * i), .int (a1)] (zRi Z st P) := by
  unfold w_X2_valueOn at h
  refine z_enterN (by decide) (Nat.le_of_ble_eq_true rfl) (lc0 := [some (.ref (23 + 256 * i)), some (.int (a1)), none, none, none, none]) rfl ?_
  intro p e s m args below meth c ad0 C hr _
  have hn9 : True := trivial
  replace C : zC Z p s m args meth c cX2_valueOn 6 RX2 := C
  refine z_iconst C dX2_valueOn_0 (v := 0) (by decide) ?_
  refine z_istore_n C dX2_valueOn_1 (i := 2) (lc' := [some (.ref (23 + 256 * i)), some (.int (a1)), some (.int (0)), none, none, none]) rfl (by decide) rfl ?_
  refine z_iconst C dX2_valueOn_2 (v := 0) (by decide) ?_
  refine z_istore_n C dX2_valueOn_3 (i := 3) (lc' := [some (.ref (23 + 256 * i)), some (.int (a1)), some (.int (0)), some (.int (0)), none, none]) rfl (by decide) rfl ?_
  exact t_drop [true, true, true, true, false, false] rfl (j_X2_valueOn_4 hfl C hr hn9  zfu i a1 (0) (0) h)
def w_X2_change (st : zTs) (i : Nat) (a1 : Int32) (a2 : Int32) (P : Int64 → Prop) : Prop := w_X2_valueOn st i a2 (fun (r2 : Int32) => (w_X2_valueOn st i a1 (fun (r7 : Int32) => (P ((r2 - r7 : Int32).toInt64)))))
set_option maxHeartbeats 4000000 in
set_option maxRecDepth 100000 in
theorem c_X2_change {Z : zZ} {l : Launch} (hfl : l.stackTraces = false) {st : zTs} {i : Nat} {a1 : Int32} {a2 : Int32} {P : Int64 → Prop} (h : w_X2_change st i a1 a2 P) : zN Z l yX2_change cX2_change 3 (some .long) ({ frames := 4, cells := 0, slots := 0, locals := 85 } : Room) (zh Z zm1 st) [.ref (23 + 256 * i), .int (a1), .int (a2)] (zRl Z st P) := by
  unfold w_X2_change at h
  refine z_enterN (by decide) (Nat.le_of_ble_eq_true rfl) (lc0 := [some (.ref (23 + 256 * i)), some (.int (a1)), some (.int (a2))]) rfl ?_
  intro p e s m args below meth c ad0 C hr _
  have hn9 : True := trivial
  replace C : zC Z p s m args meth c cX2_change 3 RX2 := C
  refine z_aload_n C dX2_change_0 (i := 0) rfl rfl ?_
  refine z_iload_n C dX2_change_1 (i := 2) rfl rfl ?_
  refine t_callV C (rest := []) (c2 := 0) (s2 := 0) (kd := 23) (i := i) [.int (a2)] dX2_change_2 lk_X2_26 li_X2_valueOn le_X2_valueOn (c_X2_valueOn hfl h) rfl rfl (by decide) rfl ⟨_, rfl⟩ rfl ⟨Nat.le_of_ble_eq_true rfl, Nat.le_of_ble_eq_true rfl⟩ (Nat.le_of_ble_eq_true rfl) ⟨Nat.le_of_ble_eq_true rfl, Nat.le_of_ble_eq_true rfl, Nat.le_of_ble_eq_true rfl, Nat.le_of_ble_eq_true rfl⟩ (k_Ri fun r2 h => ?_)
  refine z_aload_n C dX2_change_5 (i := 0) rfl rfl ?_
  refine z_iload_n C dX2_change_6 (i := 1) rfl rfl ?_
  refine t_callV C (rest := [.int (r2)]) (c2 := 0) (s2 := 0) (kd := 23) (i := i) [.int (a1)] dX2_change_7 lk_X2_26 li_X2_valueOn le_X2_valueOn (c_X2_valueOn hfl h) rfl rfl (by decide) rfl ⟨_, rfl⟩ rfl ⟨Nat.le_of_ble_eq_true rfl, Nat.le_of_ble_eq_true rfl⟩ (Nat.le_of_ble_eq_true rfl) ⟨Nat.le_of_ble_eq_true rfl, Nat.le_of_ble_eq_true rfl, Nat.le_of_ble_eq_true rfl, Nat.le_of_ble_eq_true rfl⟩ (k_Ri fun r7 h => ?_)
  refine z_isub C dX2_change_10 ?_
  refine z_i2l C dX2_change_11 ?_
  exact z_lret C dX2_change_12 hr ⟨rfl, _, rfl, h⟩ (Nat.le_of_ble_eq_true rfl) (Nat.le_of_ble_eq_true rfl)
def w_X2_ageing (st : zTs) (i : Nat) (a1 : Int32) (a2 : Int32) (P : Int64 → Prop) : Prop := w_X2_valueOn st i a1 (fun (r2 : Int32) => (vp_in 0 40 ∧ (vp_in 0 40 ∧ (w_X2_portion st ((r2 - (zgA st 65 i (0 : Int32).toNatClampNeg) : Int32).toInt64) (a2 - a1) (a1 - (zgA st 64 i (0 : Int32).toNatClampNeg)) (fun (r24 : Int64) => (P r24))))))
set_option maxHeartbeats 4000000 in
set_option maxRecDepth 100000 in
theorem c_X2_ageing {Z : zZ} {l : Launch} (hfl : l.stackTraces = false) {st : zTs} {i : Nat} {a1 : Int32} {a2 : Int32} {P : Int64 → Prop} (h : w_X2_ageing st i a1 a2 P) : zN Z l yX2_ageing cX2_ageing 3 (some .long) ({ frames := 4, cells := 0, slots := 0, locals := 85 } : Room) (zh Z zm1 st) [.ref (23 + 256 * i), .int (a1), .int (a2)] (zRl Z st P) := by
  unfold w_X2_ageing at h
  refine z_enterN (by decide) (Nat.le_of_ble_eq_true rfl) (lc0 := [some (.ref (23 + 256 * i)), some (.int (a1)), some (.int (a2))]) rfl ?_
  intro p e s m args below meth c ad0 C hr _
  have hn9 : True := trivial
  replace C : zC Z p s m args meth c cX2_ageing 3 RX2 := C
  refine z_aload_n C dX2_ageing_0 (i := 0) rfl rfl ?_
  refine z_iload_n C dX2_ageing_1 (i := 1) rfl rfl ?_
  refine t_callV C (rest := []) (c2 := 0) (s2 := 0) (kd := 23) (i := i) [.int (a1)] dX2_ageing_2 lk_X2_26 li_X2_valueOn le_X2_valueOn (c_X2_valueOn hfl h) rfl rfl (by decide) rfl ⟨_, rfl⟩ rfl ⟨Nat.le_of_ble_eq_true rfl, Nat.le_of_ble_eq_true rfl⟩ (Nat.le_of_ble_eq_true rfl) ⟨Nat.le_of_ble_eq_true rfl, Nat.le_of_ble_eq_true rfl, Nat.le_of_ble_eq_true rfl, Nat.le_of_ble_eq_true rfl⟩ (k_Ri fun r2 h => ?_)
  refine z_aload_n C dX2_ageing_5 (i := 0) rfl rfl ?_
  refine t_get C dX2_ageing_6 fl_X2_15 (k := 23) (i := i) (by decide) rfl (fg_23_1 _ _ _) ?_
  refine z_iconst C dX2_ageing_9 (v := 0) (by decide) ?_
  obtain ⟨g10, h⟩ := h
  refine t_iald C dX2_ageing_10 (k := 65) (i := i) (by decide) rfl (sh_65 _ _ _ _) g10 ?_
  refine z_isub C dX2_ageing_11 ?_
  refine z_i2l C dX2_ageing_12 ?_
  refine z_iload_n C dX2_ageing_13 (i := 2) rfl rfl ?_
  refine z_iload_n C dX2_ageing_14 (i := 1) rfl rfl ?_
  refine z_isub C dX2_ageing_15 ?_
  refine z_iload_n C dX2_ageing_16 (i := 1) rfl rfl ?_
  refine z_aload_n C dX2_ageing_17 (i := 0) rfl rfl ?_
  refine t_get C dX2_ageing_18 fl_X2_9 (k := 23) (i := i) (by decide) rfl (fg_23_0 _ _ _) ?_
  refine z_iconst C dX2_ageing_21 (v := 0) (by decide) ?_
  obtain ⟨g22, h⟩ := h
  refine t_iald C dX2_ageing_22 (k := 64) (i := i) (by decide) rfl (sh_64 _ _ _ _) g22 ?_
  refine z_isub C dX2_ageing_23 ?_
  refine t_callS C (rest := []) (c2 := 0) (s2 := 0) [.long ((r2 - (zgA st 65 i (0 : Int32).toNatClampNeg) : Int32).toInt64), .int (a2 - a1), .int (a1 - (zgA st 64 i (0 : Int32).toNatClampNeg))] dX2_ageing_24 lk_X2_22 ls_X2_portion (c_X2_portion hfl h) rfl rfl ⟨Nat.le_of_ble_eq_true rfl, Nat.le_of_ble_eq_true rfl⟩ (Nat.le_of_ble_eq_true rfl) ⟨Nat.le_of_ble_eq_true rfl, Nat.le_of_ble_eq_true rfl, Nat.le_of_ble_eq_true rfl, Nat.le_of_ble_eq_true rfl⟩ (k_Rl fun r24 h => ?_)
  exact z_lret C dX2_ageing_27 hr ⟨rfl, _, rfl, h⟩ (Nat.le_of_ble_eq_true rfl) (Nat.le_of_ble_eq_true rfl)
def w_X7_cracks (st : zTs) (i : Nat) (P : Int32 → Prop) : Prop := P (zgF st 22 i 3)
set_option maxHeartbeats 4000000 in
set_option maxRecDepth 100000 in
theorem c_X7_cracks {Z : zZ} {l : Launch} (hfl : l.stackTraces = false) {st : zTs} {i : Nat} {P : Int32 → Prop} (h : w_X7_cracks st i P) : zN Z l yX7_cracks cX7_cracks 1 (some .int) ({ frames := 1, cells := 0, slots := 0, locals := 12 } : Room) (zh Z zm1 st) [.ref (22 + 256 * i)] (zRi Z st P) := by
  unfold w_X7_cracks at h
  refine z_enterN (by decide) (Nat.le_of_ble_eq_true rfl) (lc0 := [some (.ref (22 + 256 * i))]) rfl ?_
  intro p e s m args below meth c ad0 C hr _
  have hn9 : True := trivial
  replace C : zC Z p s m args meth c cX7_cracks 1 RX7 := C
  refine z_aload_n C dX7_cracks_0 (i := 0) rfl rfl ?_
  refine t_get C dX7_cracks_1 fl_X7_22 (k := 22) (i := i) (by decide) rfl (fg_22_3 _ _ _) ?_
  exact z_iret C dX7_cracks_4 hr rfl ⟨rfl, _, rfl, h⟩ (Nat.le_of_ble_eq_true rfl) (Nat.le_of_ble_eq_true rfl)
def w_X7_placeOf (st : zTs) (i : Nat) (a1 : Int32) (P : Int32 → Prop) : Prop := vp_in a1 20 ∧ (P (zgA st 62 i (a1 : Int32).toNatClampNeg))
set_option maxHeartbeats 4000000 in
set_option maxRecDepth 100000 in
theorem c_X7_placeOf {Z : zZ} {l : Launch} (hfl : l.stackTraces = false) {st : zTs} {i : Nat} {a1 : Int32} {P : Int32 → Prop} (h : w_X7_placeOf st i a1 P) : zN Z l yX7_placeOf cX7_placeOf 2 (some .int) ({ frames := 1, cells := 0, slots := 0, locals := 12 } : Room) (zh Z zm1 st) [.ref (22 + 256 * i), .int (a1)] (zRi Z st P) := by
  unfold w_X7_placeOf at h
  refine z_enterN (by decide) (Nat.le_of_ble_eq_true rfl) (lc0 := [some (.ref (22 + 256 * i)), some (.int (a1))]) rfl ?_
  intro p e s m args below meth c ad0 C hr _
  have hn9 : True := trivial
  replace C : zC Z p s m args meth c cX7_placeOf 2 RX7 := C
  refine z_aload_n C dX7_placeOf_0 (i := 0) rfl rfl ?_
  refine t_get C dX7_placeOf_1 fl_X7_9 (k := 22) (i := i) (by decide) rfl (fg_22_1 _ _ _) ?_
  refine z_iload_n C dX7_placeOf_4 (i := 1) rfl rfl ?_
  obtain ⟨g5, h⟩ := h
  refine t_iald C dX7_placeOf_5 (k := 62) (i := i) (by decide) rfl (sh_62 _ _ _ _) g5 ?_
  exact z_iret C dX7_placeOf_6 hr rfl ⟨rfl, _, rfl, h⟩ (Nat.le_of_ble_eq_true rfl) (Nat.le_of_ble_eq_true rfl)
def w_X3_choosePairs_155 (P : zTs → Prop) (K6 : zTs → Nat → Nat → Int32 → Int32 → Int32 → Prop) (st : zTs) (a1 : Nat) (a2 : Nat) (a3 : Int32) (a4 : Int32) (a5 : Int32) : Prop := ∀ x155 : Int32, x155 = a5 + 1 → (K6 st a1 a2 a3 a4 x155)
set_option maxHeartbeats 4000000 in
set_option maxRecDepth 100000 in
theorem j_X3_choosePairs_155 {P : zTs → Prop} {K6 : zTs → Nat → Nat → Int32 → Int32 → Int32 → Prop} (hfl : l.stackTraces = false) (C : zC Z p s m args meth c cX3_choosePairs 10 RX3) (hr : meth.sig.returnType = none) (hn9 : True) (hK6 : ∀ (st : zTs) (a1 : Nat) (a2 : Nat) (a3 : Int32) (a4 : Int32) (a5 : Int32), K6 st a1 a2 a3 a4 a5 → zG Z ad0 h0 p l e ({ frames := 2, cells := 0, slots := 0, locals := 33 } : Room) s m args below meth c (MQ below (zQ Z ad0 h0 (zWv Z zm1 P)) args s 0 0 (zA Z)) 0 0 (zh Z zm1 st) 10 6 [some (.ref 12), some (.ref (22 + 256 * a1)), some (.ref (22 + 256 * a2)), some (.int (a3)), some (.int (a4)), some (.int (a5)), none, none, none, none] []) (st : zTs) (a1 : Nat) (a2 : Nat) (a3 : Int32) (a4 : Int32) (a5 : Int32) (h : w_X3_choosePairs_155 P K6 st a1 a2 a3 a4 a5) : zG Z ad0 h0 p l e ({ frames := 2, cells := 0, slots := 0, locals := 33 } : Room) s m args below meth c (MQ below (zQ Z ad0 h0 (zWv Z zm1 P)) args s 0 0 (zA Z)) 0 0 (zh Z zm1 st) 10 155 [some (.ref 12), some (.ref (22 + 256 * a1)), some (.ref (22 + 256 * a2)), some (.int (a3)), some (.int (a4)), some (.int (a5)), none, none, none, none] [] := by
  unfold w_X3_choosePairs_155 at h
  obtain ⟨x155, ex155⟩ : ∃ z : Int32, z = a5 + 1 := ⟨_, rfl⟩
  have h := h x155 ex155
  refine z_iinc C dX3_choosePairs_155 (v := x155) (lc' := [some (.ref 12), some (.ref (22 + 256 * a1)), some (.ref (22 + 256 * a2)), some (.int (a3)), some (.int (a4)), some (.int (x155)), none, none, none, none]) rfl (by decide) (by rw [ex155]; rfl) rfl ?_
  refine z_goto C dX3_choosePairs_158 (tgt := 6) (by decide) ?_
  exact t_drop [true, true, true, true, true, true, false, false, false, false] rfl (hK6 st a1 a2 a3 a4 x155 h)
def w_X3_choosePairs_149 (P : zTs → Prop) (K6 : zTs → Nat → Nat → Int32 → Int32 → Int32 → Prop) (K37 : zTs → Nat → Nat → Int32 → Int32 → Int32 → Int32 → Int32 → Prop) (st : zTs) (a1 : Nat) (a2 : Nat) (a3 : Int32) (a4 : Int32) (a5 : Int32) (a6 : Int32) (a7 : Int32) : Prop := ∀ x149 : Int32, x149 = a7 + 1 → (K37 st a1 a2 a3 a4 a5 a6 x149)
set_option maxHeartbeats 4000000 in
set_option maxRecDepth 100000 in
theorem j_X3_choosePairs_149 {P : zTs → Prop} {K6 : zTs → Nat → Nat → Int32 → Int32 → Int32 → Prop} {K37 : zTs → Nat → Nat → Int32 → Int32 → Int32 → Int32 → Int32 → Prop} (hfl : l.stackTraces = false) (C : zC Z p s m args meth c cX3_choosePairs 10 RX3) (hr : meth.sig.returnType = none) (hn9 : True) (hK6 : ∀ (st : zTs) (a1 : Nat) (a2 : Nat) (a3 : Int32) (a4 : Int32) (a5 : Int32), K6 st a1 a2 a3 a4 a5 → zG Z ad0 h0 p l e ({ frames := 2, cells := 0, slots := 0, locals := 33 } : Room) s m args below meth c (MQ below (zQ Z ad0 h0 (zWv Z zm1 P)) args s 0 0 (zA Z)) 0 0 (zh Z zm1 st) 10 6 [some (.ref 12), some (.ref (22 + 256 * a1)), some (.ref (22 + 256 * a2)), some (.int (a3)), some (.int (a4)), some (.int (a5)), none, none, none, none] []) (hK37 : ∀ (st : zTs) (a1 : Nat) (a2 : Nat) (a3 : Int32) (a4 : Int32) (a5 : Int32) (a6 : Int32) (a7 : Int32), K37 st a1 a2 a3 a4 a5 a6 a7 → zG Z ad0 h0 p l e ({ frames := 2, cells := 0, slots := 0, locals := 33 } : Room) s m args below meth c (MQ below (zQ Z ad0 h0 (zWv Z zm1 P)) args s 0 0 (zA Z)) 0 0 (zh Z zm1 st) 10 37 [some (.ref 12), some (.ref (22 + 256 * a1)), some (.ref (22 + 256 * a2)), some (.int (a3)), some (.int (a4)), some (.int (a5)), some (.int (a6)), some (.int (a7)), none, none] []) (st : zTs) (a1 : Nat) (a2 : Nat) (a3 : Int32) (a4 : Int32) (a5 : Int32) (a6 : Int32) (a7 : Int32) (h : w_X3_choosePairs_149 P K6 K37 st a1 a2 a3 a4 a5 a6 a7) : zG Z ad0 h0 p l e ({ frames := 2, cells := 0, slots := 0, locals := 33 } : Room) s m args below meth c (MQ below (zQ Z ad0 h0 (zWv Z zm1 P)) args s 0 0 (zA Z)) 0 0 (zh Z zm1 st) 10 149 [some (.ref 12), some (.ref (22 + 256 * a1)), some (.ref (22 + 256 * a2)), some (.int (a3)), some (.int (a4)), some (.int (a5)), some (.int (a6)), some (.int (a7)), none, none] [] := by
  unfold w_X3_choosePairs_149 at h
  obtain ⟨x149, ex149⟩ : ∃ z : Int32, z = a7 + 1 := ⟨_, rfl⟩
  have h := h x149 ex149
  refine z_iinc C dX3_choosePairs_149 (v := x149) (lc' := [some (.ref 12), some (.ref (22 + 256 * a1)), some (.ref (22 + 256 * a2)), some (.int (a3)), some (.int (a4)), some (.int (a5)), some (.int (a6)), some (.int (x149)), none, none]) rfl (by decide) (by rw [ex149]; rfl) rfl ?_
  refine z_goto C dX3_choosePairs_152 (tgt := 37) (by decide) ?_
  exact t_drop [true, true, true, true, true, true, true, true, false, false] rfl (hK37 st a1 a2 a3 a4 a5 a6 x149 h)
def w_X3_choosePairs_37 (P : zTs → Prop) (K6 : zTs → Nat → Nat → Int32 → Int32 → Int32 → Prop) : Nat → zTs → Nat → Nat → Int32 → Int32 → Int32 → Int32 → Int32 → Prop
  | 0, _, _, _, _, _, _, _, _ => False
  | n9 + 1, st, a1, a2, a3, a4, a5, a6, a7 => w_X7_cracks st a2 (fun (r40 : Int32) => ((r40 ≤ a7 → w_X3_choosePairs_155 P K6 st a1 a2 a3 a4 a5) ∧ (¬ r40 ≤ a7 → vp_in a5 20 ∧ (((zgA st 53 0 (a5 : Int32).toNatClampNeg) = (-1) → w_X7_placeOf st a1 a5 (fun (r60 : Int32) => (w_X7_placeOf st a2 a7 (fun (r66 : Int32) => (w_J9_abs_0f7a4 st (r60 - r66) (fun (r70 : Int32) => (∀ x87 : Int32, x87 = ((21 * (a5 + 1)) + a7) + 1 → ((a3 < r70 → w_X3_choosePairs_149 P K6 (w_X3_choosePairs_37 P K6 n9) st a1 a2 a3 a4 a5 a6 a7) ∧ (¬ a3 < r70 → vp_in x87 441 ∧ (vp_in a6 441 ∧ ((((zgA st 51 0 (x87 : Int32).toNatClampNeg) + 1) = (zgA st 51 0 (a6 : Int32).toNatClampNeg) → vp_in x87 441 ∧ (vp_in a6 441 ∧ ((((zgA st 52 0 (x87 : Int32).toNatClampNeg) + r70) = (zgA st 52 0 (a6 : Int32).toNatClampNeg) → vp_in a5 20 ∧ (∀ s142 : zTs, s142 = zuA st 53 0 (a5 : Int32).toNatClampNeg a7 → (∀ x147 : Int32, x147 = a7 + 1 → (w_X3_choosePairs_149 P K6 (w_X3_choosePairs_37 P K6 n9) s142 a1 a2 a3 x147 a5 a6 a7)))) ∧ (¬ ((zgA st 52 0 (x87 : Int32).toNatClampNeg) + r70) = (zgA st 52 0 (a6 : Int32).toNatClampNeg) → w_X3_choosePairs_149 P K6 (w_X3_choosePairs_37 P K6 n9) st a1 a2 a3 a4 a5 a6 a7)))) ∧ (¬ ((zgA st 51 0 (x87 : Int32).toNatClampNeg) + 1) = (zgA st 51 0 (a6 : Int32).toNatClampNeg) → w_X3_choosePairs_149 P K6 (w_X3_choosePairs_37 P K6 n9) st a1 a2 a3 a4 a5 a6 a7)))))))))))) ∧ (¬ (zgA st 53 0 (a5 : Int32).toNatClampNeg) = (-1) → w_X3_choosePairs_155 P K6 st a1 a2 a3 a4 a5)))))
set_option maxHeartbeats 4000000 in
set_option maxRecDepth 100000 in
theorem j_X3_choosePairs_37 {P : zTs → Prop} {K6 : zTs → Nat → Nat → Int32 → Int32 → Int32 → Prop} (hfl : l.stackTraces = false) (C : zC Z p s m args meth c cX3_choosePairs 10 RX3) (hr : meth.sig.returnType = none) (hn9 : True) (hK6 : ∀ (st : zTs) (a1 : Nat) (a2 : Nat) (a3 : Int32) (a4 : Int32) (a5 : Int32), K6 st a1 a2 a3 a4 a5 → zG Z ad0 h0 p l e ({ frames := 2, cells := 0, slots := 0, locals := 33 } : Room) s m args below meth c (MQ below (zQ Z ad0 h0 (zWv Z zm1 P)) args s 0 0 (zA Z)) 0 0 (zh Z zm1 st) 10 6 [some (.ref 12), some (.ref (22 + 256 * a1)), some (.ref (22 + 256 * a2)), some (.int (a3)), some (.int (a4)), some (.int (a5)), none, none, none, none] []) : ∀ (n9 : Nat) (st : zTs) (a1 : Nat) (a2 : Nat) (a3 : Int32) (a4 : Int32) (a5 : Int32) (a6 : Int32) (a7 : Int32), w_X3_choosePairs_37 P K6 n9 st a1 a2 a3 a4 a5 a6 a7 → zG Z ad0 h0 p l e ({ frames := 2, cells := 0, slots := 0, locals := 33 } : Room) s m args below meth c (MQ below (zQ Z ad0 h0 (zWv Z zm1 P)) args s 0 0 (zA Z)) 0 0 (zh Z zm1 st) 10 37 [some (.ref 12), some (.ref (22 + 256 * a1)), some (.ref (22 + 256 * a2)), some (.int (a3)), some (.int (a4)), some (.int (a5)), some (.int (a6)), some (.int (a7)), none, none] [] := by
  intro n9
  induction n9 with
  | zero => intro st a1 a2 a3 a4 a5 a6 a7 h; exact h.elim
  | succ n9 hK37 =>
    intro st a1 a2 a3 a4 a5 a6 a7 h
    rw [w_X3_choosePairs_37] at h
    refine z_iload C dX3_choosePairs_37 rfl ?_
    refine z_aload_n C dX3_choosePairs_39 (i := 2) rfl rfl ?_
    refine t_callV C (rest := [.int (a7)]) (c2 := 0) (s2 := 0) (kd := 22) (i := a2) [] dX3_choosePairs_40 lk_X3_21 li_X7_cracks le_X7_cracks (c_X7_cracks hfl h) rfl rfl (by decide) rfl ⟨_, rfl⟩ rfl ⟨Nat.le_of_ble_eq_true rfl, Nat.le_of_ble_eq_true rfl⟩ (Nat.le_of_ble_eq_true rfl) ⟨Nat.le_of_ble_eq_true rfl, Nat.le_of_ble_eq_true rfl, Nat.le_of_ble_eq_true rfl, Nat.le_of_ble_eq_true rfl⟩ (k_Ri fun r40 h => ?_)
    refine z_icmp_ge C dX3_choosePairs_43 (tgt := 155) (by decide) (fun c43 => ?_) (fun c43 => ?_)
    · have h := h.1 c43
      exact t_drop [true, true, true, true, true, true, false, false, false, false] rfl (j_X3_choosePairs_155 hfl C hr hn9 hK6 st a1 a2 a3 a4 a5 h)
    · have h := h.2 c43
      refine z_aload_n C dX3_choosePairs_46 (i := 0) rfl rfl ?_
      refine t_get C dX3_choosePairs_47 fl_X3_18 (k := 12) (i := 0) (by decide) rfl (fg_12_2 _ _ _) ?_
      refine z_iload C dX3_choosePairs_50 rfl ?_
      obtain ⟨g52, h⟩ := h
      refine t_iald C dX3_choosePairs_52 (k := 53) (i := 0) (by decide) rfl (sh_53 _ _ _ _) g52 ?_
      refine z_iconst C dX3_choosePairs_53 (v := (-1)) (by decide) ?_
      refine z_icmp_ne C dX3_choosePairs_54 (tgt := 155) (by decide) (fun c54 => ?_) (fun c54 => ?_)
      · have h := h.2 c54
        exact t_drop [true, true, true, true, true, true, false, false, false, false] rfl (j_X3_choosePairs_155 hfl C hr hn9 hK6 st a1 a2 a3 a4 a5 h)
      · have h := h.1 c54
        refine z_aload_n C dX3_choosePairs_57 (i := 1) rfl rfl ?_
        refine z_iload C dX3_choosePairs_58 rfl ?_
        refine t_callV C (rest := []) (c2 := 0) (s2 := 0) (kd := 22) (i := a1) [.int (a5)] dX3_choosePairs_60 lk_X3_42 li_X7_placeOf le_X7_placeOf (c_X7_placeOf hfl h) rfl rfl (by decide) rfl ⟨_, rfl⟩ rfl ⟨Nat.le_of_ble_eq_true rfl, Nat.le_of_ble_eq_true rfl⟩ (Nat.le_of_ble_eq_true rfl) ⟨Nat.le_of_ble_eq_true rfl, Nat.le_of_ble_eq_true rfl, Nat.le_of_ble_eq_true rfl, Nat.le_of_ble_eq_true rfl⟩ (k_Ri fun r60 h => ?_)
        refine z_aload_n C dX3_choosePairs_63 (i := 2) rfl rfl ?_
        refine z_iload C dX3_choosePairs_64 rfl ?_
        refine t_callV C (rest := [.int (r60)]) (c2 := 0) (s2 := 0) (kd := 22) (i := a2) [.int (a7)] dX3_choosePairs_66 lk_X3_42 li_X7_placeOf le_X7_placeOf (c_X7_placeOf hfl h) rfl rfl (by decide) rfl ⟨_, rfl⟩ rfl ⟨Nat.le_of_ble_eq_true rfl, Nat.le_of_ble_eq_true rfl⟩ (Nat.le_of_ble_eq_true rfl) ⟨Nat.le_of_ble_eq_true rfl, Nat.le_of_ble_eq_true rfl, Nat.le_of_ble_eq_true rfl, Nat.le_of_ble_eq_true rfl⟩ (k_Ri fun r66 h => ?_)
        refine z_isub C dX3_choosePairs_69 ?_
        refine t_callS C (rest := []) (c2 := 0) (s2 := 0) [.int (r60 - r66)] dX3_choosePairs_70 lk_X3_46 ls_J9_abs_0f7a4 (c_J9_abs_0f7a4 hfl h) rfl rfl ⟨Nat.le_of_ble_eq_true rfl, Nat.le_of_ble_eq_true rfl⟩ (Nat.le_of_ble_eq_true rfl) ⟨Nat.le_of_ble_eq_true rfl, Nat.le_of_ble_eq_true rfl, Nat.le_of_ble_eq_true rfl, Nat.le_of_ble_eq_true rfl⟩ (k_Ri fun r70 h => ?_)
        refine z_istore C dX3_choosePairs_73 (lc' := [some (.ref 12), some (.ref (22 + 256 * a1)), some (.ref (22 + 256 * a2)), some (.int (a3)), some (.int (a4)), some (.int (a5)), some (.int (a6)), some (.int (a7)), some (.int (r70)), none]) (by decide) rfl ?_
        refine z_bipush C dX3_choosePairs_75 (v := 21) (by decide) ?_
        refine z_iload C dX3_choosePairs_77 rfl ?_
        refine z_iconst C dX3_choosePairs_79 (v := 1) (by decide) ?_
        refine z_iadd C dX3_choosePairs_80 ?_
        refine z_imul C dX3_choosePairs_81 ?_
        refine z_iload C dX3_choosePairs_82 rfl ?_
        refine z_iadd C dX3_choosePairs_84 ?_
        refine z_iconst C dX3_choosePairs_85 (v := 1) (by decide) ?_
        refine z_iadd C dX3_choosePairs_86 ?_
        refine t_topi (fun x87 ex87 => ?_)
        have h := h x87 ex87
        refine z_istore C dX3_choosePairs_87 (lc' := [some (.ref 12), some (.ref (22 + 256 * a1)), some (.ref (22 + 256 * a2)), some (.int (a3)), some (.int (a4)), some (.int (a5)), some (.int (a6)), some (.int (a7)), some (.int (r70)), some (.int (x87))]) (by decide) rfl ?_
        refine z_iload C dX3_choosePairs_89 rfl ?_
        refine z_iload_n C dX3_choosePairs_91 (i := 3) rfl rfl ?_
        refine z_icmp_gt C dX3_choosePairs_92 (tgt := 149) (by decide) (fun c92 => ?_) (fun c92 => ?_)
        · have h := h.1 c92
          exact t_drop [true, true, true, true, true, true, true, true, false, false] rfl (j_X3_choosePairs_149 hfl C hr hn9 hK6 hK37 st a1 a2 a3 a4 a5 a6 a7 h)
        · have h := h.2 c92
          refine z_aload_n C dX3_choosePairs_95 (i := 0) rfl rfl ?_
          refine t_get C dX3_choosePairs_96 fl_X3_11 (k := 12) (i := 0) (by decide) rfl (fg_12_0 _ _ _) ?_
          refine z_iload C dX3_choosePairs_99 rfl ?_
          obtain ⟨g101, h⟩ := h
          refine t_iald C dX3_choosePairs_101 (k := 51) (i := 0) (by decide) rfl (sh_51 _ _ _ _) g101 ?_
          refine z_iconst C dX3_choosePairs_102 (v := 1) (by decide) ?_
          refine z_iadd C dX3_choosePairs_103 ?_
          refine z_aload_n C dX3_choosePairs_104 (i := 0) rfl rfl ?_
          refine t_get C dX3_choosePairs_105 fl_X3_11 (k := 12) (i := 0) (by decide) rfl (fg_12_0 _ _ _) ?_
          refine z_iload C dX3_choosePairs_108 rfl ?_
          obtain ⟨g110, h⟩ := h
          refine t_iald C dX3_choosePairs_110 (k := 51) (i := 0) (by decide) rfl (sh_51 _ _ _ _) g110 ?_
          refine z_icmp_ne C dX3_choosePairs_111 (tgt := 149) (by decide) (fun c111 => ?_) (fun c111 => ?_)
          · have h := h.2 c111
            exact t_drop [true, true, true, true, true, true, true, true, false, false] rfl (j_X3_choosePairs_149 hfl C hr hn9 hK6 hK37 st a1 a2 a3 a4 a5 a6 a7 h)
          · have h := h.1 c111
            refine z_aload_n C dX3_choosePairs_114 (i := 0) rfl rfl ?_
            refine t_get C dX3_choosePairs_115 fl_X3_15 (k := 12) (i := 0) (by decide) rfl (fg_12_1 _ _ _) ?_
            refine z_iload C dX3_choosePairs_118 rfl ?_
            obtain ⟨g120, h⟩ := h
            refine t_iald C dX3_choosePairs_120 (k := 52) (i := 0) (by decide) rfl (sh_52 _ _ _ _) g120 ?_
            refine z_iload C dX3_choosePairs_121 rfl ?_
            refine z_iadd C dX3_choosePairs_123 ?_
            refine z_aload_n C dX3_choosePairs_124 (i := 0) rfl rfl ?_
            refine t_get C dX3_choosePairs_125 fl_X3_15 (k := 12) (i := 0) (by decide) rfl (fg_12_1 _ _ _) ?_
            refine z_iload C dX3_choosePairs_128 rfl ?_
            obtain ⟨g130, h⟩ := h
            refine t_iald C dX3_choosePairs_130 (k := 52) (i := 0) (by decide) rfl (sh_52 _ _ _ _) g130 ?_
            refine z_icmp_ne C dX3_choosePairs_131 (tgt := 149) (by decide) (fun c131 => ?_) (fun c131 => ?_)
            · have h := h.2 c131
              exact t_drop [true, true, true, true, true, true, true, true, false, false] rfl (j_X3_choosePairs_149 hfl C hr hn9 hK6 hK37 st a1 a2 a3 a4 a5 a6 a7 h)
            · have h := h.1 c131
              refine z_aload_n C dX3_choosePairs_134 (i := 0) rfl rfl ?_
              refine t_get C dX3_choosePairs_135 fl_X3_18 (k := 12) (i := 0) (by decide) rfl (fg_12_2 _ _ _) ?_
              refine z_iload C dX3_choosePairs_138 rfl ?_
              refine z_iload C dX3_choosePairs_140 rfl ?_
              obtain ⟨g142, h⟩ := h
              refine t_iast C dX3_choosePairs_142 (k := 53) (i := 0) (by decide) rfl (fun s9 => sh_53 _ _ s9 _) g142 ?_
              refine t_tops (fun s142 es142 => ?_)
              have h := h s142 es142
              refine z_iload C dX3_choosePairs_143 rfl ?_
              refine z_iconst C dX3_choosePairs_145 (v := 1) (by decide) ?_
              refine z_iadd C dX3_choosePairs_146 ?_
              refine t_topi (fun x147 ex147 => ?_)
              have h := h x147 ex147
              refine z_istore C dX3_choosePairs_147 (lc' := [some (.ref 12), some (.ref (22 + 256 * a1)), some (.ref (22 + 256 * a2)), some (.int (a3)), some (.int (x147)), some (.int (a5)), some (.int (a6)), some (.int (a7)), some (.int (r70)), some (.int (x87))]) (by decide) rfl ?_
              exact t_drop [true, true, true, true, true, true, true, true, false, false] rfl (j_X3_choosePairs_149 hfl C hr hn9 hK6 hK37 s142 a1 a2 a3 x147 a5 a6 a7 h)
def w_X3_choosePairs_6 (P : zTs → Prop)  : Nat → zTs → Nat → Nat → Int32 → Int32 → Int32 → Prop
  | 0, _, _, _, _, _, _ => False
  | n9 + 1, st, a1, a2, a3, a4, a5 => w_X7_cracks st a1 (fun (r9 : Int32) => ((r9 ≤ a5 → P st) ∧ (¬ r9 ≤ a5 → vp_in a5 20 ∧ (∀ s22 : zTs, s22 = zuA st 53 0 (a5 : Int32).toNatClampNeg (-1) → (∀ x31 : Int32, x31 = (21 * a5) + a4 → (w_X3_choosePairs_37 P (w_X3_choosePairs_6 P n9) zfu s22 a1 a2 a3 a4 a5 x31 a4))))))
set_option maxHeartbeats 4000000 in
set_option maxRecDepth 100000 in
theorem j_X3_choosePairs_6 {P : zTs → Prop}  (hfl : l.stackTraces = false) (C : zC Z p s m args meth c cX3_choosePairs 10 RX3) (hr : meth.sig.returnType = none) (hn9 : True)  : ∀ (n9 : Nat) (st : zTs) (a1 : Nat) (a2 : Nat) (a3 : Int32) (a4 : Int32) (a5 : Int32), w_X3_choosePairs_6 P n9 st a1 a2 a3 a4 a5 → zG Z ad0 h0 p l e ({ frames := 2, cells := 0, slots := 0, locals := 33 } : Room) s m args below meth c (MQ below (zQ Z ad0 h0 (zWv Z zm1 P)) args s 0 0 (zA Z)) 0 0 (zh Z zm1 st) 10 6 [some (.ref 12), some (.ref (22 + 256 * a1)), some (.ref (22 + 256 * a2)), some (.int (a3)), some (.int (a4)), some (.int (a5)), none, none, none, none] [] := by
  intro n9
  induction n9 with
  | zero => intro st a1 a2 a3 a4 a5 h; exact h.elim
  | succ n9 hK6 =>
    intro st a1 a2 a3 a4 a5 h
    rw [w_X3_choosePairs_6] at h
    refine z_iload C dX3_choosePairs_6 rfl ?_
    refine z_aload_n C dX3_choosePairs_8 (i := 1) rfl rfl ?_
    refine t_callV C (rest := [.int (a5)]) (c2 := 0) (s2 := 0) (kd := 22) (i := a1) [] dX3_choosePairs_9 lk_X3_21 li_X7_cracks le_X7_cracks (c_X7_cracks hfl h) rfl rfl (by decide) rfl ⟨_, rfl⟩ rfl ⟨Nat.le_of_ble_eq_true rfl, Nat.le_of_ble_eq_true rfl⟩ (Nat.le_of_ble_eq_true rfl) ⟨Nat.le_of_ble_eq_true rfl, Nat.le_of_ble_eq_true rfl, Nat.le_of_ble_eq_true rfl, Nat.le_of_ble_eq_true rfl⟩ (k_Ri fun r9 h => ?_)
    refine z_icmp_ge C dX3_choosePairs_12 (tgt := 161) (by decide) (fun c12 => ?_) (fun c12 => ?_)
    · have h := h.1 c12
      exact z_vret C dX3_choosePairs_161 hr ⟨_, rfl, rfl, h⟩ (Nat.le_of_ble_eq_true rfl) (Nat.le_of_ble_eq_true rfl)
    · have h := h.2 c12
      refine z_aload_n C dX3_choosePairs_15 (i := 0) rfl rfl ?_
      refine t_get C dX3_choosePairs_16 fl_X3_18 (k := 12) (i := 0) (by decide) rfl (fg_12_2 _ _ _) ?_
      refine z_iload C dX3_choosePairs_19 rfl ?_
      refine z_iconst C dX3_choosePairs_21 (v := (-1)) (by decide) ?_
      obtain ⟨g22, h⟩ := h
      refine t_iast C dX3_choosePairs_22 (k := 53) (i := 0) (by decide) rfl (fun s9 => sh_53 _ _ s9 _) g22 ?_
      refine t_tops (fun s22 es22 => ?_)
      have h := h s22 es22
      refine z_bipush C dX3_choosePairs_23 (v := 21) (by decide) ?_
      refine z_iload C dX3_choosePairs_25 rfl ?_
      refine z_imul C dX3_choosePairs_27 ?_
      refine z_iload C dX3_choosePairs_28 rfl ?_
      refine z_iadd C dX3_choosePairs_30 ?_
      refine t_topi (fun x31 ex31 => ?_)
      have h := h x31 ex31
      refine z_istore C dX3_choosePairs_31 (lc' := [some (.ref 12), some (.ref (22 + 256 * a1)), some (.ref (22 + 256 * a2)), some (.int (a3)), some (.int (a4)), some (.int (a5)), some (.int (x31)), none, none, none]) (by decide) rfl ?_
      refine z_iload C dX3_choosePairs_33 rfl ?_
      refine z_istore C dX3_choosePairs_35 (lc' := [some (.ref 12), some (.ref (22 + 256 * a1)), some (.ref (22 + 256 * a2)), some (.int (a3)), some (.int (a4)), some (.int (a5)), some (.int (x31)), some (.int (a4)), none, none]) (by decide) rfl ?_
      exact t_drop [true, true, true, true, true, true, true, true, false, false] rfl (j_X3_choosePairs_37 hfl C hr hn9 hK6 zfu s22 a1 a2 a3 a4 a5 x31 a4 h)
def w_X3_choosePairs (st : zTs) (a1 : Nat) (a2 : Nat) (a3 : Int32) (P : zTs → Prop) : Prop := w_X3_choosePairs_6 P zfu st a1 a2 a3 (0) (0)
set_option maxHeartbeats 4000000 in
set_option maxRecDepth 100000 in
theorem c_X3_choosePairs {Z : zZ} {l : Launch} (hfl : l.stackTraces = false) {st : zTs} {a1 : Nat} {a2 : Nat} {a3 : Int32} {P : zTs → Prop} (h : w_X3_choosePairs st a1 a2 a3 P) : zN Z l yX3_choosePairs cX3_choosePairs 10 none ({ frames := 2, cells := 0, slots := 0, locals := 33 } : Room) (zh Z zm1 st) [.ref 12, .ref (22 + 256 * a1), .ref (22 + 256 * a2), .int (a3)] (zWv Z zm1 P) := by
  unfold w_X3_choosePairs at h
  refine z_enterN (by decide) (Nat.le_of_ble_eq_true rfl) (lc0 := [some (.ref 12), some (.ref (22 + 256 * a1)), some (.ref (22 + 256 * a2)), some (.int (a3)), none, none, none, none, none, none]) rfl ?_
  intro p e s m args below meth c ad0 C hr _
  have hn9 : True := trivial
  replace C : zC Z p s m args meth c cX3_choosePairs 10 RX3 := C
  refine z_iconst C dX3_choosePairs_0 (v := 0) (by decide) ?_
  refine z_istore C dX3_choosePairs_1 (lc' := [some (.ref 12), some (.ref (22 + 256 * a1)), some (.ref (22 + 256 * a2)), some (.int (a3)), some (.int (0)), none, none, none, none, none]) (by decide) rfl ?_
  refine z_iconst C dX3_choosePairs_3 (v := 0) (by decide) ?_
  refine z_istore C dX3_choosePairs_4 (lc' := [some (.ref 12), some (.ref (22 + 256 * a1)), some (.ref (22 + 256 * a2)), some (.int (a3)), some (.int (0)), some (.int (0)), none, none, none, none]) (by decide) rfl ?_
  exact t_drop [true, true, true, true, true, true, false, false, false, false] rfl (j_X3_choosePairs_6 hfl C hr hn9  zfu st a1 a2 a3 (0) (0) h)
def w_X3_offer_30 (P : zTs → Prop)  (st : zTs) (a1 : Int32) (a2 : Int32) (a3 : Int32) : Prop := vp_in a1 441 ∧ (∀ s36 : zTs, s36 = zuA st 51 0 (a1 : Int32).toNatClampNeg a2 → (vp_in a1 441 ∧ (∀ s43 : zTs, s43 = zuA s36 52 0 (a1 : Int32).toNatClampNeg a3 → (P s43))))
set_option maxHeartbeats 4000000 in
set_option maxRecDepth 100000 in
theorem j_X3_offer_30 {P : zTs → Prop}  (hfl : l.stackTraces = false) (C : zC Z p s m args meth c cX3_offer 4 RX3) (hr : meth.sig.returnType = none) (hn9 : True)  (st : zTs) (a1 : Int32) (a2 : Int32) (a3 : Int32) (h : w_X3_offer_30 P st a1 a2 a3) : zG Z ad0 h0 p l e ({ frames := 1, cells := 0, slots := 0, locals := 12 } : Room) s m args below meth c (MQ below (zQ Z ad0 h0 (zWv Z zm1 P)) args s 0 0 (zA Z)) 0 0 (zh Z zm1 st) 4 30 [some (.ref 12), some (.int (a1)), some (.int (a2)), some (.int (a3))] [] := by
  unfold w_X3_offer_30 at h
  refine z_aload_n C dX3_offer_30 (i := 0) rfl rfl ?_
  refine t_get C dX3_offer_31 fl_X3_11 (k := 12) (i := 0) (by decide) rfl (fg_12_0 _ _ _) ?_
  refine z_iload_n C dX3_offer_34 (i := 1) rfl rfl ?_
  refine z_iload_n C dX3_offer_35 (i := 2) rfl rfl ?_
  obtain ⟨g36, h⟩ := h
  refine t_iast C dX3_offer_36 (k := 51) (i := 0) (by decide) rfl (fun s9 => sh_51 _ _ s9 _) g36 ?_
  refine t_tops (fun s36 es36 => ?_)
  have h := h s36 es36
  refine z_aload_n C dX3_offer_37 (i := 0) rfl rfl ?_
  refine t_get C dX3_offer_38 fl_X3_15 (k := 12) (i := 0) (by decide) rfl (fg_12_1 _ _ _) ?_
  refine z_iload_n C dX3_offer_41 (i := 1) rfl rfl ?_
  refine z_iload_n C dX3_offer_42 (i := 3) rfl rfl ?_
  obtain ⟨g43, h⟩ := h
  refine t_iast C dX3_offer_43 (k := 52) (i := 0) (by decide) rfl (fun s9 => sh_52 _ _ s9 _) g43 ?_
  refine t_tops (fun s43 es43 => ?_)
  have h := h s43 es43
  exact z_vret C dX3_offer_44 hr ⟨_, rfl, rfl, h⟩ (Nat.le_of_ble_eq_true rfl) (Nat.le_of_ble_eq_true rfl)
def w_X3_offer (st : zTs) (a1 : Int32) (a2 : Int32) (a3 : Int32) (P : zTs → Prop) : Prop := vp_in a1 441 ∧ (((zgA st 51 0 (a1 : Int32).toNatClampNeg) < a2 → w_X3_offer_30 P st a1 a2 a3) ∧ (¬ (zgA st 51 0 (a1 : Int32).toNatClampNeg) < a2 → vp_in a1 441 ∧ ((a2 = (zgA st 51 0 (a1 : Int32).toNatClampNeg) → vp_in a1 441 ∧ (((zgA st 52 0 (a1 : Int32).toNatClampNeg) ≤ a3 → P st) ∧ (¬ (zgA st 52 0 (a1 : Int32).toNatClampNeg) ≤ a3 → w_X3_offer_30 P st a1 a2 a3))) ∧ (¬ a2 = (zgA st 51 0 (a1 : Int32).toNatClampNeg) → P st))))
set_option maxHeartbeats 4000000 in
set_option maxRecDepth 100000 in
theorem c_X3_offer {Z : zZ} {l : Launch} (hfl : l.stackTraces = false) {st : zTs} {a1 : Int32} {a2 : Int32} {a3 : Int32} {P : zTs → Prop} (h : w_X3_offer st a1 a2 a3 P) : zN Z l yX3_offer cX3_offer 4 none ({ frames := 1, cells := 0, slots := 0, locals := 12 } : Room) (zh Z zm1 st) [.ref 12, .int (a1), .int (a2), .int (a3)] (zWv Z zm1 P) := by
  unfold w_X3_offer at h
  refine z_enterN (by decide) (Nat.le_of_ble_eq_true rfl) (lc0 := [some (.ref 12), some (.int (a1)), some (.int (a2)), some (.int (a3))]) rfl ?_
  intro p e s m args below meth c ad0 C hr _
  have hn9 : True := trivial
  replace C : zC Z p s m args meth c cX3_offer 4 RX3 := C
  refine z_iload_n C dX3_offer_0 (i := 2) rfl rfl ?_
  refine z_aload_n C dX3_offer_1 (i := 0) rfl rfl ?_
  refine t_get C dX3_offer_2 fl_X3_11 (k := 12) (i := 0) (by decide) rfl (fg_12_0 _ _ _) ?_
  refine z_iload_n C dX3_offer_5 (i := 1) rfl rfl ?_
  obtain ⟨g6, h⟩ := h
  refine t_iald C dX3_offer_6 (k := 51) (i := 0) (by decide) rfl (sh_51 _ _ _ _) g6 ?_
  refine z_icmp_gt C dX3_offer_7 (tgt := 30) (by decide) (fun c7 => ?_) (fun c7 => ?_)
  · have h := h.1 c7
    exact t_drop [true, true, true, true] rfl (j_X3_offer_30 hfl C hr hn9  st a1 a2 a3 h)
  · have h := h.2 c7
    refine z_iload_n C dX3_offer_10 (i := 2) rfl rfl ?_
    refine z_aload_n C dX3_offer_11 (i := 0) rfl rfl ?_
    refine t_get C dX3_offer_12 fl_X3_11 (k := 12) (i := 0) (by decide) rfl (fg_12_0 _ _ _) ?_
    refine z_iload_n C dX3_offer_15 (i := 1) rfl rfl ?_
    obtain ⟨g16, h⟩ := h
    refine t_iald C dX3_offer_16 (k := 51) (i := 0) (by decide) rfl (sh_51 _ _ _ _) g16 ?_
    refine z_icmp_ne C dX3_offer_17 (tgt := 44) (by decide) (fun c17 => ?_) (fun c17 => ?_)
    · have h := h.2 c17
      exact z_vret C dX3_offer_44 hr ⟨_, rfl, rfl, h⟩ (Nat.le_of_ble_eq_true rfl) (Nat.le_of_ble_eq_true rfl)
    · have h := h.1 c17
      refine z_iload_n C dX3_offer_20 (i := 3) rfl rfl ?_
      refine z_aload_n C dX3_offer_21 (i := 0) rfl rfl ?_
      refine t_get C dX3_offer_22 fl_X3_15 (k := 12) (i := 0) (by decide) rfl (fg_12_1 _ _ _) ?_
      refine z_iload_n C dX3_offer_25 (i := 1) rfl rfl ?_
      obtain ⟨g26, h⟩ := h
      refine t_iald C dX3_offer_26 (k := 52) (i := 0) (by decide) rfl (sh_52 _ _ _ _) g26 ?_
      refine z_icmp_ge C dX3_offer_27 (tgt := 44) (by decide) (fun c27 => ?_) (fun c27 => ?_)
      · have h := h.1 c27
        exact z_vret C dX3_offer_44 hr ⟨_, rfl, rfl, h⟩ (Nat.le_of_ble_eq_true rfl) (Nat.le_of_ble_eq_true rfl)
      · have h := h.2 c27
        exact t_drop [true, true, true, true] rfl (j_X3_offer_30 hfl C hr hn9  st a1 a2 a3 h)
def w_X3_fillFromTheEnd_177 (P : zTs → Prop) (K6 : zTs → Nat → Nat → Int32 → Int32 → Prop) (K17 : zTs → Nat → Nat → Int32 → Int32 → Int32 → Prop) (st : zTs) (a1 : Nat) (a2 : Nat) (a3 : Int32) (a4 : Int32) (a5 : Int32) : Prop := ∀ x177 : Int32, x177 = a5 + (-1) → (K17 st a1 a2 a3 a4 x177)
set_option maxHeartbeats 4000000 in
set_option maxRecDepth 100000 in
theorem j_X3_fillFromTheEnd_177 {P : zTs → Prop} {K6 : zTs → Nat → Nat → Int32 → Int32 → Prop} {K17 : zTs → Nat → Nat → Int32 → Int32 → Int32 → Prop} (hfl : l.stackTraces = false) (C : zC Z p s m args meth c cX3_fillFromTheEnd 9 RX3) (hr : meth.sig.returnType = none) (hn9 : True) (hK6 : ∀ (st : zTs) (a1 : Nat) (a2 : Nat) (a3 : Int32) (a4 : Int32), K6 st a1 a2 a3 a4 → zG Z ad0 h0 p l e ({ frames := 2, cells := 0, slots := 0, locals := 35 } : Room) s m args below meth c (MQ below (zQ Z ad0 h0 (zWv Z zm1 P)) args s 0 0 (zA Z)) 0 0 (zh Z zm1 st) 9 6 [some (.ref 12), some (.ref (22 + 256 * a1)), some (.ref (22 + 256 * a2)), some (.int (a3)), some (.int (a4)), none, none, none, none] []) (hK17 : ∀ (st : zTs) (a1 : Nat) (a2 : Nat) (a3 : Int32) (a4 : Int32) (a5 : Int32), K17 st a1 a2 a3 a4 a5 → zG Z ad0 h0 p l e ({ frames := 2, cells := 0, slots := 0, locals := 35 } : Room) s m args below meth c (MQ below (zQ Z ad0 h0 (zWv Z zm1 P)) args s 0 0 (zA Z)) 0 0 (zh Z zm1 st) 9 17 [some (.ref 12), some (.ref (22 + 256 * a1)), some (.ref (22 + 256 * a2)), some (.int (a3)), some (.int (a4)), some (.int (a5)), none, none, none] []) (st : zTs) (a1 : Nat) (a2 : Nat) (a3 : Int32) (a4 : Int32) (a5 : Int32) (h : w_X3_fillFromTheEnd_177 P K6 K17 st a1 a2 a3 a4 a5) : zG Z ad0 h0 p l e ({ frames := 2, cells := 0, slots := 0, locals := 35 } : Room) s m args below meth c (MQ below (zQ Z ad0 h0 (zWv Z zm1 P)) args s 0 0 (zA Z)) 0 0 (zh Z zm1 st) 9 177 [some (.ref 12), some (.ref (22 + 256 * a1)), some (.ref (22 + 256 * a2)), some (.int (a3)), some (.int (a4)), some (.int (a5)), none, none, none] [] := by
  unfold w_X3_fillFromTheEnd_177 at h
  obtain ⟨x177, ex177⟩ : ∃ z : Int32, z = a5 + (-1) := ⟨_, rfl⟩
  have h := h x177 ex177
  refine z_iinc C dX3_fillFromTheEnd_177 (v := x177) (lc' := [some (.ref 12), some (.ref (22 + 256 * a1)), some (.ref (22 + 256 * a2)), some (.int (a3)), some (.int (a4)), some (.int (x177)), none, none, none]) rfl (by decide) (by rw [ex177]; rfl) rfl ?_
  refine z_goto C dX3_fillFromTheEnd_180 (tgt := 17) (by decide) ?_
  exact t_drop [true, true, true, true, true, true, false, false, false] rfl (hK17 st a1 a2 a3 a4 x177 h)
def w_X3_fillFromTheEnd_17 (P : zTs → Prop) (K6 : zTs → Nat → Nat → Int32 → Int32 → Prop) : Nat → zTs → Nat → Nat → Int32 → Int32 → Int32 → Prop
  | 0, _, _, _, _, _, _ => False
  | n9 + 1, st, a1, a2, a3, a4, a5 => (a5 < 0 → ∀ x183 : Int32, x183 = a4 + (-1) → (K6 st a1 a2 a3 x183)) ∧ (¬ a5 < 0 → ∀ x30 : Int32, x30 = (21 * a4) + a5 → (vp_in x30 441 ∧ (∀ s39 : zTs, s39 = zuA st 51 0 (x30 : Int32).toNatClampNeg 0 → (vp_in x30 441 ∧ (∀ s47 : zTs, s47 = zuA s39 52 0 (x30 : Int32).toNatClampNeg 0 → (w_X7_cracks s47 a1 (fun (r51 : Int32) => ((a4 = r51 → w_X3_fillFromTheEnd_177 P K6 (w_X3_fillFromTheEnd_17 P K6 n9) s47 a1 a2 a3 a4 a5) ∧ (¬ a4 = r51 → w_X7_cracks s47 a2 (fun (r60 : Int32) => ((a5 = r60 → w_X3_fillFromTheEnd_177 P K6 (w_X3_fillFromTheEnd_17 P K6 n9) s47 a1 a2 a3 a4 a5) ∧ (¬ a5 = r60 → vp_in (x30 + 21) 441 ∧ (vp_in (x30 + 21) 441 ∧ (w_X3_offer s47 x30 (zgA s47 51 0 (x30 + 21 : Int32).toNatClampNeg) (zgA s47 52 0 (x30 + 21 : Int32).toNatClampNeg) (fun (s92 : zTs) => (vp_in (x30 + 1) 441 ∧ (vp_in (x30 + 1) 441 ∧ (w_X3_offer s92 x30 (zgA s92 51 0 (x30 + 1 : Int32).toNatClampNeg) (zgA s92 52 0 (x30 + 1 : Int32).toNatClampNeg) (fun (s116 : zTs) => (w_X7_placeOf s116 a1 a4 (fun (r122 : Int32) => (w_X7_placeOf s116 a2 a5 (fun (r128 : Int32) => (w_J9_abs_0f7a4 s116 (r122 - r128) (fun (r132 : Int32) => ((a3 < r132 → w_X3_fillFromTheEnd_177 P K6 (w_X3_fillFromTheEnd_17 P K6 n9) s116 a1 a2 a3 a4 a5) ∧ (¬ a3 < r132 → ∀ x150 : Int32, x150 = (x30 + 21) + 1 → (vp_in x150 441 ∧ (vp_in x150 441 ∧ (w_X3_offer s116 x30 ((zgA s116 51 0 (x150 : Int32).toNatClampNeg) + 1) ((zgA s116 52 0 (x150 : Int32).toNatClampNeg) + r132) (fun (s174 : zTs) => (w_X3_fillFromTheEnd_177 P K6 (w_X3_fillFromTheEnd_17 P K6 n9) s174 a1 a2 a3 a4 a5))))))))))))))))))))))))))))))))
set_option maxHeartbeats 4000000 in
set_option maxRecDepth 100000 in
theorem j_X3_fillFromTheEnd_17 {P : zTs → Prop} {K6 : zTs → Nat → Nat → Int32 → Int32 → Prop} (hfl : l.stackTraces = false) (C : zC Z p s m args meth c cX3_fillFromTheEnd 9 RX3) (hr : meth.sig.returnType = none) (hn9 : True) (hK6 : ∀ (st : zTs) (a1 : Nat) (a2 : Nat) (a3 : Int32) (a4 : Int32), K6 st a1 a2 a3 a4 → zG Z ad0 h0 p l e ({ frames := 2, cells := 0, slots := 0, locals := 35 } : Room) s m args below meth c (MQ below (zQ Z ad0 h0 (zWv Z zm1 P)) args s 0 0 (zA Z)) 0 0 (zh Z zm1 st) 9 6 [some (.ref 12), some (.ref (22 + 256 * a1)), some (.ref (22 + 256 * a2)), some (.int (a3)), some (.int (a4)), none, none, none, none] []) : ∀ (n9 : Nat) (st : zTs) (a1 : Nat) (a2 : Nat) (a3 : Int32) (a4 : Int32) (a5 : Int32), w_X3_fillFromTheEnd_17 P K6 n9 st a1 a2 a3 a4 a5 → zG Z ad0 h0 p l e ({ frames := 2, cells := 0, slots := 0, locals := 35 } : Room) s m args below meth c (MQ below (zQ Z ad0 h0 (zWv Z zm1 P)) args s 0 0 (zA Z)) 0 0 (zh Z zm1 st) 9 17 [some (.ref 12), some (.ref (22 + 256 * a1)), some (.ref (22 + 256 * a2)), some (.int (a3)), some (.int (a4)), some (.int (a5)), none, none, none] [] := by
  intro n9
  induction n9 with
  | zero => intro st a1 a2 a3 a4 a5 h; exact h.elim
  | succ n9 hK17 =>
    intro st a1 a2 a3 a4 a5 h
    rw [w_X3_fillFromTheEnd_17] at h
    refine z_iload C dX3_fillFromTheEnd_17 rfl ?_
    refine z_if_lt C dX3_fillFromTheEnd_19 (tgt := 183) (by decide) (fun c19 => ?_) (fun c19 => ?_)
    · have h := h.1 c19
      obtain ⟨x183, ex183⟩ : ∃ z : Int32, z = a4 + (-1) := ⟨_, rfl⟩
      have h := h x183 ex183
      refine z_iinc C dX3_fillFromTheEnd_183 (v := x183) (lc' := [some (.ref 12), some (.ref (22 + 256 * a1)), some (.ref (22 + 256 * a2)), some (.int (a3)), some (.int (x183)), some (.int (a5)), none, none, none]) rfl (by decide) (by rw [ex183]; rfl) rfl ?_
      refine z_goto C dX3_fillFromTheEnd_186 (tgt := 6) (by decide) ?_
      exact t_drop [true, true, true, true, true, false, false, false, false] rfl (hK6 st a1 a2 a3 x183 h)
    · have h := h.2 c19
      refine z_bipush C dX3_fillFromTheEnd_22 (v := 21) (by decide) ?_
      refine z_iload C dX3_fillFromTheEnd_24 rfl ?_
      refine z_imul C dX3_fillFromTheEnd_26 ?_
      refine z_iload C dX3_fillFromTheEnd_27 rfl ?_
      refine z_iadd C dX3_fillFromTheEnd_29 ?_
      refine t_topi (fun x30 ex30 => ?_)
      have h := h x30 ex30
      refine z_istore C dX3_fillFromTheEnd_30 (lc' := [some (.ref 12), some (.ref (22 + 256 * a1)), some (.ref (22 + 256 * a2)), some (.int (a3)), some (.int (a4)), some (.int (a5)), some (.int (x30)), none, none]) (by decide) rfl ?_
      refine z_aload_n C dX3_fillFromTheEnd_32 (i := 0) rfl rfl ?_
      refine t_get C dX3_fillFromTheEnd_33 fl_X3_11 (k := 12) (i := 0) (by decide) rfl (fg_12_0 _ _ _) ?_
      refine z_iload C dX3_fillFromTheEnd_36 rfl ?_
      refine z_iconst C dX3_fillFromTheEnd_38 (v := 0) (by decide) ?_
      obtain ⟨g39, h⟩ := h
      refine t_iast C dX3_fillFromTheEnd_39 (k := 51) (i := 0) (by decide) rfl (fun s9 => sh_51 _ _ s9 _) g39 ?_
      refine t_tops (fun s39 es39 => ?_)
      have h := h s39 es39
      refine z_aload_n C dX3_fillFromTheEnd_40 (i := 0) rfl rfl ?_
      refine t_get C dX3_fillFromTheEnd_41 fl_X3_15 (k := 12) (i := 0) (by decide) rfl (fg_12_1 _ _ _) ?_
      refine z_iload C dX3_fillFromTheEnd_44 rfl ?_
      refine z_iconst C dX3_fillFromTheEnd_46 (v := 0) (by decide) ?_
      obtain ⟨g47, h⟩ := h
      refine t_iast C dX3_fillFromTheEnd_47 (k := 52) (i := 0) (by decide) rfl (fun s9 => sh_52 _ _ s9 _) g47 ?_
      refine t_tops (fun s47 es47 => ?_)
      have h := h s47 es47
      refine z_iload C dX3_fillFromTheEnd_48 rfl ?_
      refine z_aload_n C dX3_fillFromTheEnd_50 (i := 1) rfl rfl ?_
      refine t_callV C (rest := [.int (a4)]) (c2 := 0) (s2 := 0) (kd := 22) (i := a1) [] dX3_fillFromTheEnd_51 lk_X3_21 li_X7_cracks le_X7_cracks (c_X7_cracks hfl h) rfl rfl (by decide) rfl ⟨_, rfl⟩ rfl ⟨Nat.le_of_ble_eq_true rfl, Nat.le_of_ble_eq_true rfl⟩ (Nat.le_of_ble_eq_true rfl) ⟨Nat.le_of_ble_eq_true rfl, Nat.le_of_ble_eq_true rfl, Nat.le_of_ble_eq_true rfl, Nat.le_of_ble_eq_true rfl⟩ (k_Ri fun r51 h => ?_)
      refine z_icmp_eq C dX3_fillFromTheEnd_54 (tgt := 177) (by decide) (fun c54 => ?_) (fun c54 => ?_)
      · have h := h.1 c54
        exact t_drop [true, true, true, true, true, true, false, false, false] rfl (j_X3_fillFromTheEnd_177 hfl C hr hn9 hK6 hK17 s47 a1 a2 a3 a4 a5 h)
      · have h := h.2 c54
        refine z_iload C dX3_fillFromTheEnd_57 rfl ?_
        refine z_aload_n C dX3_fillFromTheEnd_59 (i := 2) rfl rfl ?_
        refine t_callV C (rest := [.int (a5)]) (c2 := 0) (s2 := 0) (kd := 22) (i := a2) [] dX3_fillFromTheEnd_60 lk_X3_21 li_X7_cracks le_X7_cracks (c_X7_cracks hfl h) rfl rfl (by decide) rfl ⟨_, rfl⟩ rfl ⟨Nat.le_of_ble_eq_true rfl, Nat.le_of_ble_eq_true rfl⟩ (Nat.le_of_ble_eq_true rfl) ⟨Nat.le_of_ble_eq_true rfl, Nat.le_of_ble_eq_true rfl, Nat.le_of_ble_eq_true rfl, Nat.le_of_ble_eq_true rfl⟩ (k_Ri fun r60 h => ?_)
        refine z_icmp_ne C dX3_fillFromTheEnd_63 (tgt := 69) (by decide) (fun c63 => ?_) (fun c63 => ?_)
        · have h := h.2 c63
          refine z_aload_n C dX3_fillFromTheEnd_69 (i := 0) rfl rfl ?_
          refine z_iload C dX3_fillFromTheEnd_70 rfl ?_
          refine z_aload_n C dX3_fillFromTheEnd_72 (i := 0) rfl rfl ?_
          refine t_get C dX3_fillFromTheEnd_73 fl_X3_11 (k := 12) (i := 0) (by decide) rfl (fg_12_0 _ _ _) ?_
          refine z_iload C dX3_fillFromTheEnd_76 rfl ?_
          refine z_bipush C dX3_fillFromTheEnd_78 (v := 21) (by decide) ?_
          refine z_iadd C dX3_fillFromTheEnd_80 ?_
          obtain ⟨g81, h⟩ := h
          refine t_iald C dX3_fillFromTheEnd_81 (k := 51) (i := 0) (by decide) rfl (sh_51 _ _ _ _) g81 ?_
          refine z_aload_n C dX3_fillFromTheEnd_82 (i := 0) rfl rfl ?_
          refine t_get C dX3_fillFromTheEnd_83 fl_X3_15 (k := 12) (i := 0) (by decide) rfl (fg_12_1 _ _ _) ?_
          refine z_iload C dX3_fillFromTheEnd_86 rfl ?_
          refine z_bipush C dX3_fillFromTheEnd_88 (v := 21) (by decide) ?_
          refine z_iadd C dX3_fillFromTheEnd_90 ?_
          obtain ⟨g91, h⟩ := h
          refine t_iald C dX3_fillFromTheEnd_91 (k := 52) (i := 0) (by decide) rfl (sh_52 _ _ _ _) g91 ?_
          refine t_callV C (rest := []) (c2 := 0) (s2 := 0) (kd := 12) (i := 0) [.int (x30), .int (zgA s47 51 0 (x30 + 21 : Int32).toNatClampNeg), .int (zgA s47 52 0 (x30 + 21 : Int32).toNatClampNeg)] dX3_fillFromTheEnd_92 lk_X3_38 li_X3_offer le_X3_offer (c_X3_offer hfl h) rfl rfl (by decide) rfl ⟨_, rfl⟩ rfl ⟨Nat.le_of_ble_eq_true rfl, Nat.le_of_ble_eq_true rfl⟩ (Nat.le_of_ble_eq_true rfl) ⟨Nat.le_of_ble_eq_true rfl, Nat.le_of_ble_eq_true rfl, Nat.le_of_ble_eq_true rfl, Nat.le_of_ble_eq_true rfl⟩ (k_Wv fun s92 h => ?_)
          refine z_aload_n C dX3_fillFromTheEnd_95 (i := 0) rfl rfl ?_
          refine z_iload C dX3_fillFromTheEnd_96 rfl ?_
          refine z_aload_n C dX3_fillFromTheEnd_98 (i := 0) rfl rfl ?_
          refine t_get C dX3_fillFromTheEnd_99 fl_X3_11 (k := 12) (i := 0) (by decide) rfl (fg_12_0 _ _ _) ?_
          refine z_iload C dX3_fillFromTheEnd_102 rfl ?_
          refine z_iconst C dX3_fillFromTheEnd_104 (v := 1) (by decide) ?_
          refine z_iadd C dX3_fillFromTheEnd_105 ?_
          obtain ⟨g106, h⟩ := h
          refine t_iald C dX3_fillFromTheEnd_106 (k := 51) (i := 0) (by decide) rfl (sh_51 _ _ _ _) g106 ?_
          refine z_aload_n C dX3_fillFromTheEnd_107 (i := 0) rfl rfl ?_
          refine t_get C dX3_fillFromTheEnd_108 fl_X3_15 (k := 12) (i := 0) (by decide) rfl (fg_12_1 _ _ _) ?_
          refine z_iload C dX3_fillFromTheEnd_111 rfl ?_
          refine z_iconst C dX3_fillFromTheEnd_113 (v := 1) (by decide) ?_
          refine z_iadd C dX3_fillFromTheEnd_114 ?_
          obtain ⟨g115, h⟩ := h
          refine t_iald C dX3_fillFromTheEnd_115 (k := 52) (i := 0) (by decide) rfl (sh_52 _ _ _ _) g115 ?_
          refine t_callV C (rest := []) (c2 := 0) (s2 := 0) (kd := 12) (i := 0) [.int (x30), .int (zgA s92 51 0 (x30 + 1 : Int32).toNatClampNeg), .int (zgA s92 52 0 (x30 + 1 : Int32).toNatClampNeg)] dX3_fillFromTheEnd_116 lk_X3_38 li_X3_offer le_X3_offer (c_X3_offer hfl h) rfl rfl (by decide) rfl ⟨_, rfl⟩ rfl ⟨Nat.le_of_ble_eq_true rfl, Nat.le_of_ble_eq_true rfl⟩ (Nat.le_of_ble_eq_true rfl) ⟨Nat.le_of_ble_eq_true rfl, Nat.le_of_ble_eq_true rfl, Nat.le_of_ble_eq_true rfl, Nat.le_of_ble_eq_true rfl⟩ (k_Wv fun s116 h => ?_)
          refine z_aload_n C dX3_fillFromTheEnd_119 (i := 1) rfl rfl ?_
          refine z_iload C dX3_fillFromTheEnd_120 rfl ?_
          refine t_callV C (rest := []) (c2 := 0) (s2 := 0) (kd := 22) (i := a1) [.int (a4)] dX3_fillFromTheEnd_122 lk_X3_42 li_X7_placeOf le_X7_placeOf (c_X7_placeOf hfl h) rfl rfl (by decide) rfl ⟨_, rfl⟩ rfl ⟨Nat.le_of_ble_eq_true rfl, Nat.le_of_ble_eq_true rfl⟩ (Nat.le_of_ble_eq_true rfl) ⟨Nat.le_of_ble_eq_true rfl, Nat.le_of_ble_eq_true rfl, Nat.le_of_ble_eq_true rfl, Nat.le_of_ble_eq_true rfl⟩ (k_Ri fun r122 h => ?_)
          refine z_aload_n C dX3_fillFromTheEnd_125 (i := 2) rfl rfl ?_
          refine z_iload C dX3_fillFromTheEnd_126 rfl ?_
          refine t_callV C (rest := [.int (r122)]) (c2 := 0) (s2 := 0) (kd := 22) (i := a2) [.int (a5)] dX3_fillFromTheEnd_128 lk_X3_42 li_X7_placeOf le_X7_placeOf (c_X7_placeOf hfl h) rfl rfl (by decide) rfl ⟨_, rfl⟩ rfl ⟨Nat.le_of_ble_eq_true rfl, Nat.le_of_ble_eq_true rfl⟩ (Nat.le_of_ble_eq_true rfl) ⟨Nat.le_of_ble_eq_true rfl, Nat.le_of_ble_eq_true rfl, Nat.le_of_ble_eq_true rfl, Nat.le_of_ble_eq_true rfl⟩ (k_Ri fun r128 h => ?_)
          refine z_isub C dX3_fillFromTheEnd_131 ?_
          refine t_callS C (rest := []) (c2 := 0) (s2 := 0) [.int (r122 - r128)] dX3_fillFromTheEnd_132 lk_X3_46 ls_J9_abs_0f7a4 (c_J9_abs_0f7a4 hfl h) rfl rfl ⟨Nat.le_of_ble_eq_true rfl, Nat.le_of_ble_eq_true rfl⟩ (Nat.le_of_ble_eq_true rfl) ⟨Nat.le_of_ble_eq_true rfl, Nat.le_of_ble_eq_true rfl, Nat.le_of_ble_eq_true rfl, Nat.le_of_ble_eq_true rfl⟩ (k_Ri fun r132 h => ?_)
          refine z_istore C dX3_fillFromTheEnd_135 (lc' := [some (.ref 12), some (.ref (22 + 256 * a1)), some (.ref (22 + 256 * a2)), some (.int (a3)), some (.int (a4)), some (.int (a5)), some (.int (x30)), some (.int (r132)), none]) (by decide) rfl ?_
          refine z_iload C dX3_fillFromTheEnd_137 rfl ?_
          refine z_iload_n C dX3_fillFromTheEnd_139 (i := 3) rfl rfl ?_
          refine z_icmp_gt C dX3_fillFromTheEnd_140 (tgt := 177) (by decide) (fun c140 => ?_) (fun c140 => ?_)
          · have h := h.1 c140
            exact t_drop [true, true, true, true, true, true, false, false, false] rfl (j_X3_fillFromTheEnd_177 hfl C hr hn9 hK6 hK17 s116 a1 a2 a3 a4 a5 h)
          · have h := h.2 c140
            refine z_iload C dX3_fillFromTheEnd_143 rfl ?_
            refine z_bipush C dX3_fillFromTheEnd_145 (v := 21) (by decide) ?_
            refine z_iadd C dX3_fillFromTheEnd_147 ?_
            refine z_iconst C dX3_fillFromTheEnd_148 (v := 1) (by decide) ?_
            refine z_iadd C dX3_fillFromTheEnd_149 ?_
            refine t_topi (fun x150 ex150 => ?_)
            have h := h x150 ex150
            refine z_istore C dX3_fillFromTheEnd_150 (lc' := [some (.ref 12), some (.ref (22 + 256 * a1)), some (.ref (22 + 256 * a2)), some (.int (a3)), some (.int (a4)), some (.int (a5)), some (.int (x30)), some (.int (r132)), some (.int (x150))]) (by decide) rfl ?_
            refine z_aload_n C dX3_fillFromTheEnd_152 (i := 0) rfl rfl ?_
            refine z_iload C dX3_fillFromTheEnd_153 rfl ?_
            refine z_aload_n C dX3_fillFromTheEnd_155 (i := 0) rfl rfl ?_
            refine t_get C dX3_fillFromTheEnd_156 fl_X3_11 (k := 12) (i := 0) (by decide) rfl (fg_12_0 _ _ _) ?_
            refine z_iload C dX3_fillFromTheEnd_159 rfl ?_
            obtain ⟨g161, h⟩ := h
            refine t_iald C dX3_fillFromTheEnd_161 (k := 51) (i := 0) (by decide) rfl (sh_51 _ _ _ _) g161 ?_
            refine z_iconst C dX3_fillFromTheEnd_162 (v := 1) (by decide) ?_
            refine z_iadd C dX3_fillFromTheEnd_163 ?_
            refine z_aload_n C dX3_fillFromTheEnd_164 (i := 0) rfl rfl ?_
            refine t_get C dX3_fillFromTheEnd_165 fl_X3_15 (k := 12) (i := 0) (by decide) rfl (fg_12_1 _ _ _) ?_
            refine z_iload C dX3_fillFromTheEnd_168 rfl ?_
            obtain ⟨g170, h⟩ := h
            refine t_iald C dX3_fillFromTheEnd_170 (k := 52) (i := 0) (by decide) rfl (sh_52 _ _ _ _) g170 ?_
            refine z_iload C dX3_fillFromTheEnd_171 rfl ?_
            refine z_iadd C dX3_fillFromTheEnd_173 ?_
            refine t_callV C (rest := []) (c2 := 0) (s2 := 0) (kd := 12) (i := 0) [.int (x30), .int ((zgA s116 51 0 (x150 : Int32).toNatClampNeg) + 1), .int ((zgA s116 52 0 (x150 : Int32).toNatClampNeg) + r132)] dX3_fillFromTheEnd_174 lk_X3_38 li_X3_offer le_X3_offer (c_X3_offer hfl h) rfl rfl (by decide) rfl ⟨_, rfl⟩ rfl ⟨Nat.le_of_ble_eq_true rfl, Nat.le_of_ble_eq_true rfl⟩ (Nat.le_of_ble_eq_true rfl) ⟨Nat.le_of_ble_eq_true rfl, Nat.le_of_ble_eq_true rfl, Nat.le_of_ble_eq_true rfl, Nat.le_of_ble_eq_true rfl⟩ (k_Wv fun s174 h => ?_)
            exact t_drop [true, true, true, true, true, true, false, false, false] rfl (j_X3_fillFromTheEnd_177 hfl C hr hn9 hK6 hK17 s174 a1 a2 a3 a4 a5 h)
        · have h := h.1 c63
          refine z_goto C dX3_fillFromTheEnd_66 (tgt := 177) (by decide) ?_
          exact t_drop [true, true, true, true, true, true, false, false, false] rfl (j_X3_fillFromTheEnd_177 hfl C hr hn9 hK6 hK17 s47 a1 a2 a3 a4 a5 h)
def w_X3_fillFromTheEnd_6 (P : zTs → Prop)  : Nat → zTs → Nat → Nat → Int32 → Int32 → Prop
  | 0, _, _, _, _, _ => False
  | n9 + 1, st, a1, a2, a3, a4 => (a4 < 0 → P st) ∧ (¬ a4 < 0 → w_X7_cracks st a2 (fun (r12 : Int32) => (w_X3_fillFromTheEnd_17 P (w_X3_fillFromTheEnd_6 P n9) zfu st a1 a2 a3 a4 r12)))
set_option maxHeartbeats 4000000 in
set_option maxRecDepth 100000 in
theorem j_X3_fillFromTheEnd_6 {P : zTs → Prop}  (hfl : l.stackTraces = false) (C : zC Z p s m args meth c cX3_fillFromTheEnd 9 RX3) (hr : meth.sig.returnType = none) (hn9 : True)  : ∀ (n9 : Nat) (st : zTs) (a1 : Nat) (a2 : Nat) (a3 : Int32) (a4 : Int32), w_X3_fillFromTheEnd_6 P n9 st a1 a2 a3 a4 → zG Z ad0 h0 p l e ({ frames := 2, cells := 0, slots := 0, locals := 35 } : Room) s m args below meth c (MQ below (zQ Z ad0 h0 (zWv Z zm1 P)) args s 0 0 (zA Z)) 0 0 (zh Z zm1 st) 9 6 [some (.ref 12), some (.ref (22 + 256 * a1)), some (.ref (22 + 256 * a2)), some (.int (a3)), some (.int (a4)), none, none, none, none] [] := by
  intro n9
  induction n9 with
  | zero => intro st a1 a2 a3 a4 h; exact h.elim
  | succ n9 hK6 =>
    intro st a1 a2 a3 a4 h
    rw [w_X3_fillFromTheEnd_6] at h
    refine z_iload C dX3_fillFromTheEnd_6 rfl ?_
    refine z_if_lt C dX3_fillFromTheEnd_8 (tgt := 189) (by decide) (fun c8 => ?_) (fun c8 => ?_)
    · have h := h.1 c8
      exact z_vret C dX3_fillFromTheEnd_189 hr ⟨_, rfl, rfl, h⟩ (Nat.le_of_ble_eq_true rfl) (Nat.le_of_ble_eq_true rfl)
    · have h := h.2 c8
      refine z_aload_n C dX3_fillFromTheEnd_11 (i := 2) rfl rfl ?_
      refine t_callV C (rest := []) (c2 := 0) (s2 := 0) (kd := 22) (i := a2) [] dX3_fillFromTheEnd_12 lk_X3_21 li_X7_cracks le_X7_cracks (c_X7_cracks hfl h) rfl rfl (by decide) rfl ⟨_, rfl⟩ rfl ⟨Nat.le_of_ble_eq_true rfl, Nat.le_of_ble_eq_true rfl⟩ (Nat.le_of_ble_eq_true rfl) ⟨Nat.le_of_ble_eq_true rfl, Nat.le_of_ble_eq_true rfl, Nat.le_of_ble_eq_true rfl, Nat.le_of_ble_eq_true rfl⟩ (k_Ri fun r12 h => ?_)
      refine z_istore C dX3_fillFromTheEnd_15 (lc' := [some (.ref 12), some (.ref (22 + 256 * a1)), some (.ref (22 + 256 * a2)), some (.int (a3)), some (.int (a4)), some (.int (r12)), none, none, none]) (by decide) rfl ?_
      exact t_drop [true, true, true, true, true, true, false, false, false] rfl (j_X3_fillFromTheEnd_17 hfl C hr hn9 hK6 zfu st a1 a2 a3 a4 r12 h)
def w_X3_fillFromTheEnd (st : zTs) (a1 : Nat) (a2 : Nat) (a3 : Int32) (P : zTs → Prop) : Prop := w_X7_cracks st a1 (fun (r1 : Int32) => (w_X3_fillFromTheEnd_6 P zfu st a1 a2 a3 r1))
set_option maxHeartbeats 4000000 in
set_option maxRecDepth 100000 in
theorem c_X3_fillFromTheEnd {Z : zZ} {l : Launch} (hfl : l.stackTraces = false) {st : zTs} {a1 : Nat} {a2 : Nat} {a3 : Int32} {P : zTs → Prop} (h : w_X3_fillFromTheEnd st a1 a2 a3 P) : zN Z l yX3_fillFromTheEnd cX3_fillFromTheEnd 9 none ({ frames := 2, cells := 0, slots := 0, locals := 35 } : Room) (zh Z zm1 st) [.ref 12, .ref (22 + 256 * a1), .ref (22 + 256 * a2), .int (a3)] (zWv Z zm1 P) := by
  unfold w_X3_fillFromTheEnd at h
  refine z_enterN (by decide) (Nat.le_of_ble_eq_true rfl) (lc0 := [some (.ref 12), some (.ref (22 + 256 * a1)), some (.ref (22 + 256 * a2)), some (.int (a3)), none, none, none, none, none]) rfl ?_
  intro p e s m args below meth c ad0 C hr _
  have hn9 : True := trivial
  replace C : zC Z p s m args meth c cX3_fillFromTheEnd 9 RX3 := C
  refine z_aload_n C dX3_fillFromTheEnd_0 (i := 1) rfl rfl ?_
  refine t_callV C (rest := []) (c2 := 0) (s2 := 0) (kd := 22) (i := a1) [] dX3_fillFromTheEnd_1 lk_X3_21 li_X7_cracks le_X7_cracks (c_X7_cracks hfl h) rfl rfl (by decide) rfl ⟨_, rfl⟩ rfl ⟨Nat.le_of_ble_eq_true rfl, Nat.le_of_ble_eq_true rfl⟩ (Nat.le_of_ble_eq_true rfl) ⟨Nat.le_of_ble_eq_true rfl, Nat.le_of_ble_eq_true rfl, Nat.le_of_ble_eq_true rfl, Nat.le_of_ble_eq_true rfl⟩ (k_Ri fun r1 h => ?_)
  refine z_istore C dX3_fillFromTheEnd_4 (lc' := [some (.ref 12), some (.ref (22 + 256 * a1)), some (.ref (22 + 256 * a2)), some (.int (a3)), some (.int (r1)), none, none, none, none]) (by decide) rfl ?_
  exact t_drop [true, true, true, true, true, false, false, false, false] rfl (j_X3_fillFromTheEnd_6 hfl C hr hn9  zfu st a1 a2 a3 r1 h)
def w_X3_join (st : zTs) (a1 : Nat) (a2 : Nat) (a3 : Int32) (P : zTs → Prop) : Prop := w_X7_cracks st a1 (fun (r2 : Int32) => (∀ s5 : zTs, s5 = zuF st 12 0 3 r2 → (w_X3_fillFromTheEnd s5 a1 a2 a3 (fun (s12 : zTs) => (w_X3_choosePairs s12 a1 a2 a3 (fun (s19 : zTs) => (P s19)))))))
set_option maxHeartbeats 4000000 in
set_option maxRecDepth 100000 in
theorem c_X3_join {Z : zZ} {l : Launch} (hfl : l.stackTraces = false) {st : zTs} {a1 : Nat} {a2 : Nat} {a3 : Int32} {P : zTs → Prop} (h : w_X3_join st a1 a2 a3 P) : zN Z l yX3_join cX3_join 4 none ({ frames := 3, cells := 0, slots := 0, locals := 63 } : Room) (zh Z zm1 st) [.ref 12, .ref (22 + 256 * a1), .ref (22 + 256 * a2), .int (a3)] (zWv Z zm1 P) := by
  unfold w_X3_join at h
  refine z_enterN (by decide) (Nat.le_of_ble_eq_true rfl) (lc0 := [some (.ref 12), some (.ref (22 + 256 * a1)), some (.ref (22 + 256 * a2)), some (.int (a3))]) rfl ?_
  intro p e s m args below meth c ad0 C hr _
  have hn9 : True := trivial
  replace C : zC Z p s m args meth c cX3_join 4 RX3 := C
  refine z_aload_n C dX3_join_0 (i := 0) rfl rfl ?_
  refine z_aload_n C dX3_join_1 (i := 1) rfl rfl ?_
  refine t_callV C (rest := [.ref 12]) (c2 := 0) (s2 := 0) (kd := 22) (i := a1) [] dX3_join_2 lk_X3_21 li_X7_cracks le_X7_cracks (c_X7_cracks hfl h) rfl rfl (by decide) rfl ⟨_, rfl⟩ rfl ⟨Nat.le_of_ble_eq_true rfl, Nat.le_of_ble_eq_true rfl⟩ (Nat.le_of_ble_eq_true rfl) ⟨Nat.le_of_ble_eq_true rfl, Nat.le_of_ble_eq_true rfl, Nat.le_of_ble_eq_true rfl, Nat.le_of_ble_eq_true rfl⟩ (k_Ri fun r2 h => ?_)
  refine t_put C dX3_join_5 fq_X3_27 (Or.inl rfl) (k := 12) (i := 0) (by decide) rfl ⟨rfl, rfl⟩ (fp_12_3 _ _ _ _ _) ?_
  refine t_tops (fun s5 es5 => ?_)
  have h := h s5 es5
  refine z_aload_n C dX3_join_8 (i := 0) rfl rfl ?_
  refine z_aload_n C dX3_join_9 (i := 1) rfl rfl ?_
  refine z_aload_n C dX3_join_10 (i := 2) rfl rfl ?_
  refine z_iload_n C dX3_join_11 (i := 3) rfl rfl ?_
  refine t_callV C (rest := []) (c2 := 0) (s2 := 0) (kd := 12) (i := 0) [.ref (22 + 256 * a1), .ref (22 + 256 * a2), .int (a3)] dX3_join_12 lk_X3_31 li_X3_fillFromTheEnd le_X3_fillFromTheEnd (c_X3_fillFromTheEnd hfl h) rfl rfl (by decide) rfl ⟨_, rfl⟩ rfl ⟨Nat.le_of_ble_eq_true rfl, Nat.le_of_ble_eq_true rfl⟩ (Nat.le_of_ble_eq_true rfl) ⟨Nat.le_of_ble_eq_true rfl, Nat.le_of_ble_eq_true rfl, Nat.le_of_ble_eq_true rfl, Nat.le_of_ble_eq_true rfl⟩ (k_Wv fun s12 h => ?_)
  refine z_aload_n C dX3_join_15 (i := 0) rfl rfl ?_
  refine z_aload_n C dX3_join_16 (i := 1) rfl rfl ?_
  refine z_aload_n C dX3_join_17 (i := 2) rfl rfl ?_
  refine z_iload_n C dX3_join_18 (i := 3) rfl rfl ?_
  refine t_callV C (rest := []) (c2 := 0) (s2 := 0) (kd := 12) (i := 0) [.ref (22 + 256 * a1), .ref (22 + 256 * a2), .int (a3)] dX3_join_19 lk_X3_35 li_X3_choosePairs le_X3_choosePairs (c_X3_choosePairs hfl h) rfl rfl (by decide) rfl ⟨_, rfl⟩ rfl ⟨Nat.le_of_ble_eq_true rfl, Nat.le_of_ble_eq_true rfl⟩ (Nat.le_of_ble_eq_true rfl) ⟨Nat.le_of_ble_eq_true rfl, Nat.le_of_ble_eq_true rfl, Nat.le_of_ble_eq_true rfl, Nat.le_of_ble_eq_true rfl⟩ (k_Wv fun s19 h => ?_)
  exact z_vret C dX3_join_22 hr ⟨_, rfl, rfl, h⟩ (Nat.le_of_ble_eq_true rfl) (Nat.le_of_ble_eq_true rfl)
def w_X3_partnerOf (st : zTs) (a1 : Int32) (P : Int32 → Prop) : Prop := (a1 < 0 → P (-1)) ∧ (¬ a1 < 0 → ((zgF st 12 0 3) ≤ a1 → P (-1)) ∧ (¬ (zgF st 12 0 3) ≤ a1 → vp_in a1 20 ∧ (P (zgA st 53 0 (a1 : Int32).toNatClampNeg))))
set_option maxHeartbeats 4000000 in
set_option maxRecDepth 100000 in
theorem c_X3_partnerOf {Z : zZ} {l : Launch} (hfl : l.stackTraces = false) {st : zTs} {a1 : Int32} {P : Int32 → Prop} (h : w_X3_partnerOf st a1 P) : zN Z l yX3_partnerOf cX3_partnerOf 2 (some .int) ({ frames := 1, cells := 0, slots := 0, locals := 12 } : Room) (zh Z zm1 st) [.ref 12, .int (a1)] (zRi Z st P) := by
  unfold w_X3_partnerOf at h
  refine z_enterN (by decide) (Nat.le_of_ble_eq_true rfl) (lc0 := [some (.ref 12), some (.int (a1))]) rfl ?_
  intro p e s m args below meth c ad0 C hr _
  have hn9 : True := trivial
  replace C : zC Z p s m args meth c cX3_partnerOf 2 RX3 := C
  refine z_iload_n C dX3_partnerOf_0 (i := 1) rfl rfl ?_
  refine z_if_lt C dX3_partnerOf_1 (tgt := 21) (by decide) (fun c1 => ?_) (fun c1 => ?_)
  · have h := h.1 c1
    refine z_iconst C dX3_partnerOf_21 (v := (-1)) (by decide) ?_
    exact z_iret C dX3_partnerOf_22 hr rfl ⟨rfl, _, rfl, h⟩ (Nat.le_of_ble_eq_true rfl) (Nat.le_of_ble_eq_true rfl)
  · have h := h.2 c1
    refine z_iload_n C dX3_partnerOf_4 (i := 1) rfl rfl ?_
    refine z_aload_n C dX3_partnerOf_5 (i := 0) rfl rfl ?_
    refine t_get C dX3_partnerOf_6 fl_X3_27 (k := 12) (i := 0) (by decide) rfl (fg_12_3 _ _ _) ?_
    refine z_icmp_ge C dX3_partnerOf_9 (tgt := 21) (by decide) (fun c9 => ?_) (fun c9 => ?_)
    · have h := h.1 c9
      refine z_iconst C dX3_partnerOf_21 (v := (-1)) (by decide) ?_
      exact z_iret C dX3_partnerOf_22 hr rfl ⟨rfl, _, rfl, h⟩ (Nat.le_of_ble_eq_true rfl) (Nat.le_of_ble_eq_true rfl)
    · have h := h.2 c9
      refine z_aload_n C dX3_partnerOf_12 (i := 0) rfl rfl ?_
      refine t_get C dX3_partnerOf_13 fl_X3_18 (k := 12) (i := 0) (by decide) rfl (fg_12_2 _ _ _) ?_
      refine z_iload_n C dX3_partnerOf_16 (i := 1) rfl rfl ?_
      obtain ⟨g17, h⟩ := h
      refine t_iald C dX3_partnerOf_17 (k := 53) (i := 0) (by decide) rfl (sh_53 _ _ _ _) g17 ?_
      refine z_goto C dX3_partnerOf_18 (tgt := 22) (by decide) ?_
      exact z_iret C dX3_partnerOf_22 hr rfl ⟨rfl, _, rfl, h⟩ (Nat.le_of_ble_eq_true rfl) (Nat.le_of_ble_eq_true rfl)
def w_X3_pairs (st : zTs)  (P : Int32 → Prop) : Prop := vp_in 0 441 ∧ (P (zgA st 51 0 (0 : Int32).toNatClampNeg))
set_option maxHeartbeats 4000000 in
set_option maxRecDepth 100000 in
theorem c_X3_pairs {Z : zZ} {l : Launch} (hfl : l.stackTraces = false) {st : zTs}  {P : Int32 → Prop} (h : w_X3_pairs st  P) : zN Z l yX3_pairs cX3_pairs 1 (some .int) ({ frames := 1, cells := 0, slots := 0, locals := 12 } : Room) (zh Z zm1 st) [.ref 12] (zRi Z st P) := by
  unfold w_X3_pairs at h
  refine z_enterN (by decide) (Nat.le_of_ble_eq_true rfl) (lc0 := [some (.ref 12)]) rfl ?_
  intro p e s m args below meth c ad0 C hr _
  have hn9 : True := trivial
  replace C : zC Z p s m args meth c cX3_pairs 1 RX3 := C
  refine z_aload_n C dX3_pairs_0 (i := 0) rfl rfl ?_
  refine t_get C dX3_pairs_1 fl_X3_11 (k := 12) (i := 0) (by decide) rfl (fg_12_0 _ _ _) ?_
  refine z_iconst C dX3_pairs_4 (v := 0) (by decide) ?_
  obtain ⟨g5, h⟩ := h
  refine t_iald C dX3_pairs_5 (k := 51) (i := 0) (by decide) rfl (sh_51 _ _ _ _) g5 ?_
  exact z_iret C dX3_pairs_6 hr rfl ⟨rfl, _, rfl, h⟩ (Nat.le_of_ble_eq_true rfl) (Nat.le_of_ble_eq_true rfl)
def w_X3_apart (st : zTs)  (P : Int32 → Prop) : Prop := vp_in 0 441 ∧ (P (zgA st 52 0 (0 : Int32).toNatClampNeg))
set_option maxHeartbeats 4000000 in
set_option maxRecDepth 100000 in
theorem c_X3_apart {Z : zZ} {l : Launch} (hfl : l.stackTraces = false) {st : zTs}  {P : Int32 → Prop} (h : w_X3_apart st  P) : zN Z l yX3_apart cX3_apart 1 (some .int) ({ frames := 1, cells := 0, slots := 0, locals := 12 } : Room) (zh Z zm1 st) [.ref 12] (zRi Z st P) := by
  unfold w_X3_apart at h
  refine z_enterN (by decide) (Nat.le_of_ble_eq_true rfl) (lc0 := [some (.ref 12)]) rfl ?_
  intro p e s m args below meth c ad0 C hr _
  have hn9 : True := trivial
  replace C : zC Z p s m args meth c cX3_apart 1 RX3 := C
  refine z_aload_n C dX3_apart_0 (i := 0) rfl rfl ?_
  refine t_get C dX3_apart_1 fl_X3_15 (k := 12) (i := 0) (by decide) rfl (fg_12_1 _ _ _) ?_
  refine z_iconst C dX3_apart_4 (v := 0) (by decide) ?_
  obtain ⟨g5, h⟩ := h
  refine t_iald C dX3_apart_5 (k := 52) (i := 0) (by decide) rfl (sh_52 _ _ _ _) g5 ?_
  exact z_iret C dX3_apart_6 hr rfl ⟨rfl, _, rfl, h⟩ (Nat.le_of_ble_eq_true rfl) (Nat.le_of_ble_eq_true rfl)
def w_X7_trueWidthOf (st : zTs) (i : Nat) (a1 : Int32) (P : Int32 → Prop) : Prop := vp_in a1 20 ∧ (P (zgA st 63 i (a1 : Int32).toNatClampNeg))
set_option maxHeartbeats 4000000 in
set_option maxRecDepth 100000 in
theorem c_X7_trueWidthOf {Z : zZ} {l : Launch} (hfl : l.stackTraces = false) {st : zTs} {i : Nat} {a1 : Int32} {P : Int32 → Prop} (h : w_X7_trueWidthOf st i a1 P) : zN Z l yX7_trueWidthOf cX7_trueWidthOf 2 (some .int) ({ frames := 1, cells := 0, slots := 0, locals := 12 } : Room) (zh Z zm1 st) [.ref (22 + 256 * i), .int (a1)] (zRi Z st P) := by
  unfold w_X7_trueWidthOf at h
  refine z_enterN (by decide) (Nat.le_of_ble_eq_true rfl) (lc0 := [some (.ref (22 + 256 * i)), some (.int (a1))]) rfl ?_
  intro p e s m args below meth c ad0 C hr _
  have hn9 : True := trivial
  replace C : zC Z p s m args meth c cX7_trueWidthOf 2 RX7 := C
  refine z_aload_n C dX7_trueWidthOf_0 (i := 0) rfl rfl ?_
  refine t_get C dX7_trueWidthOf_1 fl_X7_15 (k := 22) (i := i) (by decide) rfl (fg_22_2 _ _ _) ?_
  refine z_iload_n C dX7_trueWidthOf_4 (i := 1) rfl rfl ?_
  obtain ⟨g5, h⟩ := h
  refine t_iald C dX7_trueWidthOf_5 (k := 63) (i := i) (by decide) rfl (sh_63 _ _ _ _) g5 ?_
  exact z_iret C dX7_trueWidthOf_6 hr rfl ⟨rfl, _, rfl, h⟩ (Nat.le_of_ble_eq_true rfl) (Nat.le_of_ble_eq_true rfl)
def w_X3_grownByMoreThan_50 (P : Int32 → Prop) (st : zTs) (K6 : Int32 → Nat → Nat → Int32 → Int32 → Prop) (a1 : Int32) (a2 : Nat) (a3 : Nat) (a4 : Int32) (a5 : Int32) : Prop := ∀ x50 : Int32, x50 = a5 + 1 → (K6 a1 a2 a3 a4 x50)
set_option maxHeartbeats 4000000 in
set_option maxRecDepth 100000 in
theorem j_X3_grownByMoreThan_50 {P : Int32 → Prop} {st : zTs} {K6 : Int32 → Nat → Nat → Int32 → Int32 → Prop} (hfl : l.stackTraces = false) (C : zC Z p s m args meth c cX3_grownByMoreThan 7 RX3) (hr : meth.sig.returnType = (some .int)) (hn9 : True) (hK6 : ∀ (a1 : Int32) (a2 : Nat) (a3 : Nat) (a4 : Int32) (a5 : Int32), K6 a1 a2 a3 a4 a5 → zG Z ad0 h0 p l e ({ frames := 2, cells := 0, slots := 0, locals := 33 } : Room) s m args below meth c (MQ below (zQ Z ad0 h0 (zRi Z st P)) args s 0 0 (zA Z)) 0 0 (zh Z zm1 st) 7 6 [some (.ref 12), some (.int (a1)), some (.ref (22 + 256 * a2)), some (.ref (22 + 256 * a3)), some (.int (a4)), some (.int (a5)), none] []) (a1 : Int32) (a2 : Nat) (a3 : Nat) (a4 : Int32) (a5 : Int32) (h : w_X3_grownByMoreThan_50 P st K6 a1 a2 a3 a4 a5) : zG Z ad0 h0 p l e ({ frames := 2, cells := 0, slots := 0, locals := 33 } : Room) s m args below meth c (MQ below (zQ Z ad0 h0 (zRi Z st P)) args s 0 0 (zA Z)) 0 0 (zh Z zm1 st) 7 50 [some (.ref 12), some (.int (a1)), some (.ref (22 + 256 * a2)), some (.ref (22 + 256 * a3)), some (.int (a4)), some (.int (a5)), none] [] := by
  unfold w_X3_grownByMoreThan_50 at h
  obtain ⟨x50, ex50⟩ : ∃ z : Int32, z = a5 + 1 := ⟨_, rfl⟩
  have h := h x50 ex50
  refine z_iinc C dX3_grownByMoreThan_50 (v := x50) (lc' := [some (.ref 12), some (.int (a1)), some (.ref (22 + 256 * a2)), some (.ref (22 + 256 * a3)), some (.int (a4)), some (.int (x50)), none]) rfl (by decide) (by rw [ex50]; rfl) rfl ?_
  refine z_goto C dX3_grownByMoreThan_53 (tgt := 6) (by decide) ?_
  exact t_drop [true, true, true, true, true, true, false] rfl (hK6 a1 a2 a3 a4 x50 h)
def w_X3_grownByMoreThan_6 (P : Int32 → Prop) (st : zTs)  : Nat → Int32 → Nat → Nat → Int32 → Int32 → Prop
  | 0, _, _, _, _, _ => False
  | n9 + 1, a1, a2, a3, a4, a5 => ((zgF st 12 0 3) ≤ a5 → P a4) ∧ (¬ (zgF st 12 0 3) ≤ a5 → vp_in a5 20 ∧ (∀ x22 : Int32, x22 = zgA st 53 0 (a5 : Int32).toNatClampNeg → ((x22 = (-1) → w_X3_grownByMoreThan_50 P st (w_X3_grownByMoreThan_6 P st n9) a1 a2 a3 a4 a5) ∧ (¬ x22 = (-1) → w_X7_trueWidthOf st a3 x22 (fun (r33 : Int32) => (w_X7_trueWidthOf st a2 a5 (fun (r39 : Int32) => (((r33 - r39) ≤ a1 → w_X3_grownByMoreThan_50 P st (w_X3_grownByMoreThan_6 P st n9) a1 a2 a3 a4 a5) ∧ (¬ (r33 - r39) ≤ a1 → ∀ x47 : Int32, x47 = a4 + 1 → (w_X3_grownByMoreThan_50 P st (w_X3_grownByMoreThan_6 P st n9) a1 a2 a3 x47 a5))))))))))
set_option maxHeartbeats 4000000 in
set_option maxRecDepth 100000 in
theorem j_X3_grownByMoreThan_6 {P : Int32 → Prop} {st : zTs}  (hfl : l.stackTraces = false) (C : zC Z p s m args meth c cX3_grownByMoreThan 7 RX3) (hr : meth.sig.returnType = (some .int)) (hn9 : True)  : ∀ (n9 : Nat) (a1 : Int32) (a2 : Nat) (a3 : Nat) (a4 : Int32) (a5 : Int32), w_X3_grownByMoreThan_6 P st n9 a1 a2 a3 a4 a5 → zG Z ad0 h0 p l e ({ frames := 2, cells := 0, slots := 0, locals := 33 } : Room) s m args below meth c (MQ below (zQ Z ad0 h0 (zRi Z st P)) args s 0 0 (zA Z)) 0 0 (zh Z zm1 st) 7 6 [some (.ref 12), some (.int (a1)), some (.ref (22 + 256 * a2)), some (.ref (22 + 256 * a3)), some (.int (a4)), some (.int (a5)), none] [] := by
  intro n9
  induction n9 with
  | zero => intro a1 a2 a3 a4 a5 h; exact h.elim
  | succ n9 hK6 =>
    intro a1 a2 a3 a4 a5 h
    rw [w_X3_grownByMoreThan_6] at h
    refine z_iload C dX3_grownByMoreThan_6 rfl ?_
    refine z_aload_n C dX3_grownByMoreThan_8 (i := 0) rfl rfl ?_
    refine t_get C dX3_grownByMoreThan_9 fl_X3_27 (k := 12) (i := 0) (by decide) rfl (fg_12_3 _ _ _) ?_
    refine z_icmp_ge C dX3_grownByMoreThan_12 (tgt := 56) (by decide) (fun c12 => ?_) (fun c12 => ?_)
    · have h := h.1 c12
      refine z_iload C dX3_grownByMoreThan_56 rfl ?_
      exact z_iret C dX3_grownByMoreThan_58 hr rfl ⟨rfl, _, rfl, h⟩ (Nat.le_of_ble_eq_true rfl) (Nat.le_of_ble_eq_true rfl)
    · have h := h.2 c12
      refine z_aload_n C dX3_grownByMoreThan_15 (i := 0) rfl rfl ?_
      refine t_get C dX3_grownByMoreThan_16 fl_X3_18 (k := 12) (i := 0) (by decide) rfl (fg_12_2 _ _ _) ?_
      refine z_iload C dX3_grownByMoreThan_19 rfl ?_
      obtain ⟨g21, h⟩ := h
      refine t_iald C dX3_grownByMoreThan_21 (k := 53) (i := 0) (by decide) rfl (sh_53 _ _ _ _) g21 ?_
      refine t_topi (fun x22 ex22 => ?_)
      have h := h x22 ex22
      refine z_istore C dX3_grownByMoreThan_22 (lc' := [some (.ref 12), some (.int (a1)), some (.ref (22 + 256 * a2)), some (.ref (22 + 256 * a3)), some (.int (a4)), some (.int (a5)), some (.int (x22))]) (by decide) rfl ?_
      refine z_iload C dX3_grownByMoreThan_24 rfl ?_
      refine z_iconst C dX3_grownByMoreThan_26 (v := (-1)) (by decide) ?_
      refine z_icmp_eq C dX3_grownByMoreThan_27 (tgt := 50) (by decide) (fun c27 => ?_) (fun c27 => ?_)
      · have h := h.1 c27
        exact t_drop [true, true, true, true, true, true, false] rfl (j_X3_grownByMoreThan_50 hfl C hr hn9 hK6 a1 a2 a3 a4 a5 h)
      · have h := h.2 c27
        refine z_aload_n C dX3_grownByMoreThan_30 (i := 3) rfl rfl ?_
        refine z_iload C dX3_grownByMoreThan_31 rfl ?_
        refine t_callV C (rest := []) (c2 := 0) (s2 := 0) (kd := 22) (i := a3) [.int (x22)] dX3_grownByMoreThan_33 lk_X3_51 li_X7_trueWidthOf le_X7_trueWidthOf (c_X7_trueWidthOf hfl h) rfl rfl (by decide) rfl ⟨_, rfl⟩ rfl ⟨Nat.le_of_ble_eq_true rfl, Nat.le_of_ble_eq_true rfl⟩ (Nat.le_of_ble_eq_true rfl) ⟨Nat.le_of_ble_eq_true rfl, Nat.le_of_ble_eq_true rfl, Nat.le_of_ble_eq_true rfl, Nat.le_of_ble_eq_true rfl⟩ (k_Ri fun r33 h => ?_)
        refine z_aload_n C dX3_grownByMoreThan_36 (i := 2) rfl rfl ?_
        refine z_iload C dX3_grownByMoreThan_37 rfl ?_
        refine t_callV C (rest := [.int (r33)]) (c2 := 0) (s2 := 0) (kd := 22) (i := a2) [.int (a5)] dX3_grownByMoreThan_39 lk_X3_51 li_X7_trueWidthOf le_X7_trueWidthOf (c_X7_trueWidthOf hfl h) rfl rfl (by decide) rfl ⟨_, rfl⟩ rfl ⟨Nat.le_of_ble_eq_true rfl, Nat.le_of_ble_eq_true rfl⟩ (Nat.le_of_ble_eq_true rfl) ⟨Nat.le_of_ble_eq_true rfl, Nat.le_of_ble_eq_true rfl, Nat.le_of_ble_eq_true rfl, Nat.le_of_ble_eq_true rfl⟩ (k_Ri fun r39 h => ?_)
        refine z_isub C dX3_grownByMoreThan_42 ?_
        refine z_iload_n C dX3_grownByMoreThan_43 (i := 1) rfl rfl ?_
        refine z_icmp_le C dX3_grownByMoreThan_44 (tgt := 50) (by decide) (fun c44 => ?_) (fun c44 => ?_)
        · have h := h.1 c44
          exact t_drop [true, true, true, true, true, true, false] rfl (j_X3_grownByMoreThan_50 hfl C hr hn9 hK6 a1 a2 a3 a4 a5 h)
        · have h := h.2 c44
          obtain ⟨x47, ex47⟩ : ∃ z : Int32, z = a4 + 1 := ⟨_, rfl⟩
          have h := h x47 ex47
          refine z_iinc C dX3_grownByMoreThan_47 (v := x47) (lc' := [some (.ref 12), some (.int (a1)), some (.ref (22 + 256 * a2)), some (.ref (22 + 256 * a3)), some (.int (x47)), some (.int (a5)), some (.int (x22))]) rfl (by decide) (by rw [ex47]; rfl) rfl ?_
          exact t_drop [true, true, true, true, true, true, false] rfl (j_X3_grownByMoreThan_50 hfl C hr hn9 hK6 a1 a2 a3 x47 a5 h)
def w_X3_grownByMoreThan (st : zTs) (a1 : Int32) (a2 : Nat) (a3 : Nat) (P : Int32 → Prop) : Prop := w_X3_grownByMoreThan_6 P st zfu a1 a2 a3 (0) (0)
set_option maxHeartbeats 4000000 in
set_option maxRecDepth 100000 in
theorem c_X3_grownByMoreThan {Z : zZ} {l : Launch} (hfl : l.stackTraces = false) {st : zTs} {a1 : Int32} {a2 : Nat} {a3 : Nat} {P : Int32 → Prop} (h : w_X3_grownByMoreThan st a1 a2 a3 P) : zN Z l yX3_grownByMoreThan cX3_grownByMoreThan 7 (some .int) ({ frames := 2, cells := 0, slots := 0, locals := 33 } : Room) (zh Z zm1 st) [.ref 12, .int (a1), .ref (22 + 256 * a2), .ref (22 + 256 * a3)] (zRi Z st P) := by
  unfold w_X3_grownByMoreThan at h
  refine z_enterN (by decide) (Nat.le_of_ble_eq_true rfl) (lc0 := [some (.ref 12), some (.int (a1)), some (.ref (22 + 256 * a2)), some (.ref (22 + 256 * a3)), none, none, none]) rfl ?_
  intro p e s m args below meth c ad0 C hr _
  have hn9 : True := trivial
  replace C : zC Z p s m args meth c cX3_grownByMoreThan 7 RX3 := C
  refine z_iconst C dX3_grownByMoreThan_0 (v := 0) (by decide) ?_
  refine z_istore C dX3_grownByMoreThan_1 (lc' := [some (.ref 12), some (.int (a1)), some (.ref (22 + 256 * a2)), some (.ref (22 + 256 * a3)), some (.int (0)), none, none]) (by decide) rfl ?_
  refine z_iconst C dX3_grownByMoreThan_3 (v := 0) (by decide) ?_
  refine z_istore C dX3_grownByMoreThan_4 (lc' := [some (.ref 12), some (.int (a1)), some (.ref (22 + 256 * a2)), some (.ref (22 + 256 * a3)), some (.int (0)), some (.int (0)), none]) (by decide) rfl ?_
  exact t_drop [true, true, true, true, true, true, false] rfl (j_X3_grownByMoreThan_6 hfl C hr hn9  zfu a1 a2 a3 (0) (0) h)
def w_X4_isLike (st : zTs) (i : Nat) (a1 : Nat) (P : Int32 → Prop) : Prop := ((zgF st 25 i 0) = (zgF st 25 a1 0) → ((zgF st 25 i 1) = (zgF st 25 a1 1) → ((zgF st 25 i 2) = (zgF st 25 a1 2) → P 1) ∧ (¬ (zgF st 25 i 2) = (zgF st 25 a1 2) → P 0)) ∧ (¬ (zgF st 25 i 1) = (zgF st 25 a1 1) → P 0)) ∧ (¬ (zgF st 25 i 0) = (zgF st 25 a1 0) → P 0)
set_option maxHeartbeats 4000000 in
set_option maxRecDepth 100000 in
theorem c_X4_isLike {Z : zZ} {l : Launch} (hfl : l.stackTraces = false) {st : zTs} {i : Nat} {a1 : Nat} {P : Int32 → Prop} (h : w_X4_isLike st i a1 P) : zN Z l yX4_isLike cX4_isLike 2 (some .boolean) ({ frames := 1, cells := 0, slots := 0, locals := 12 } : Room) (zh Z zm1 st) [.ref (25 + 256 * i), .ref (25 + 256 * a1)] (zRi Z st P) := by
  unfold w_X4_isLike at h
  refine z_enterN (by decide) (Nat.le_of_ble_eq_true rfl) (lc0 := [some (.ref (25 + 256 * i)), some (.ref (25 + 256 * a1))]) rfl ?_
  intro p e s m args below meth c ad0 C hr _
  have hn9 : True := trivial
  replace C : zC Z p s m args meth c cX4_isLike 2 RX4 := C
  refine z_aload_n C dX4_isLike_0 (i := 0) rfl rfl ?_
  refine t_get C dX4_isLike_1 fl_X4_7 (k := 25) (i := i) (by decide) rfl (fg_25_0 _ _ _) ?_
  refine z_aload_n C dX4_isLike_4 (i := 1) rfl rfl ?_
  refine t_get C dX4_isLike_5 fl_X4_7 (k := 25) (i := a1) (by decide) rfl (fg_25_0 _ _ _) ?_
  refine z_icmp_ne C dX4_isLike_8 (tgt := 37) (by decide) (fun c8 => ?_) (fun c8 => ?_)
  · have h := h.2 c8
    refine z_iconst C dX4_isLike_37 (v := 0) (by decide) ?_
    exact z_iret C dX4_isLike_38 hr rfl ⟨rfl, _, rfl, h⟩ (Nat.le_of_ble_eq_true rfl) (Nat.le_of_ble_eq_true rfl)
  · have h := h.1 c8
    refine z_aload_n C dX4_isLike_11 (i := 0) rfl rfl ?_
    refine t_get C dX4_isLike_12 fl_X4_13 (k := 25) (i := i) (by decide) rfl (fg_25_1 _ _ _) ?_
    refine z_aload_n C dX4_isLike_15 (i := 1) rfl rfl ?_
    refine t_get C dX4_isLike_16 fl_X4_13 (k := 25) (i := a1) (by decide) rfl (fg_25_1 _ _ _) ?_
    refine z_icmp_ne C dX4_isLike_19 (tgt := 37) (by decide) (fun c19 => ?_) (fun c19 => ?_)
    · have h := h.2 c19
      refine z_iconst C dX4_isLike_37 (v := 0) (by decide) ?_
      exact z_iret C dX4_isLike_38 hr rfl ⟨rfl, _, rfl, h⟩ (Nat.le_of_ble_eq_true rfl) (Nat.le_of_ble_eq_true rfl)
    · have h := h.1 c19
      refine z_aload_n C dX4_isLike_22 (i := 0) rfl rfl ?_
      refine t_get C dX4_isLike_23 fl_X4_16 (k := 25) (i := i) (by decide) rfl (fg_25_2 _ _ _) ?_
      refine z_aload_n C dX4_isLike_26 (i := 1) rfl rfl ?_
      refine t_get C dX4_isLike_27 fl_X4_16 (k := 25) (i := a1) (by decide) rfl (fg_25_2 _ _ _) ?_
      refine z_icmp_ne C dX4_isLike_30 (tgt := 37) (by decide) (fun c30 => ?_) (fun c30 => ?_)
      · have h := h.2 c30
        refine z_iconst C dX4_isLike_37 (v := 0) (by decide) ?_
        exact z_iret C dX4_isLike_38 hr rfl ⟨rfl, _, rfl, h⟩ (Nat.le_of_ble_eq_true rfl) (Nat.le_of_ble_eq_true rfl)
      · have h := h.1 c30
        refine z_iconst C dX4_isLike_33 (v := 1) (by decide) ?_
        refine z_goto C dX4_isLike_34 (tgt := 38) (by decide) ?_
        exact z_iret C dX4_isLike_38 hr rfl ⟨rfl, _, rfl, h⟩ (Nat.le_of_ble_eq_true rfl) (Nat.le_of_ble_eq_true rfl)
def w_X5_restsOn (st : zTs) (i : Nat) (a1 : Int32) (P : Int32 → Prop) : Prop := ((((zgF st 24 i 4) >>> ((a1 - a1 / 7 * 7) &&& 31)) &&& 1) = 1 → P 1) ∧ (¬ (((zgF st 24 i 4) >>> ((a1 - a1 / 7 * 7) &&& 31)) &&& 1) = 1 → P 0)
set_option maxHeartbeats 4000000 in
set_option maxRecDepth 100000 in
theorem c_X5_restsOn {Z : zZ} {l : Launch} (hfl : l.stackTraces = false) {st : zTs} {i : Nat} {a1 : Int32} {P : Int32 → Prop} (h : w_X5_restsOn st i a1 P) : zN Z l yX5_restsOn cX5_restsOn 2 (some .boolean) ({ frames := 1, cells := 0, slots := 0, locals := 12 } : Room) (zh Z zm1 st) [.ref (24 + 256 * i), .int (a1)] (zRi Z st P) := by
  unfold w_X5_restsOn at h
  refine z_enterN (by decide) (Nat.le_of_ble_eq_true rfl) (lc0 := [some (.ref (24 + 256 * i)), some (.int (a1))]) rfl ?_
  intro p e s m args below meth c ad0 C hr _
  have hn9 : True := trivial
  replace C : zC Z p s m args meth c cX5_restsOn 2 RX5 := C
  refine z_aload_n C dX5_restsOn_0 (i := 0) rfl rfl ?_
  refine t_get C dX5_restsOn_1 fl_X5_42 (k := 24) (i := i) (by decide) rfl (fg_24_4 _ _ _) ?_
  refine z_iload_n C dX5_restsOn_4 (i := 1) rfl rfl ?_
  refine z_bipush C dX5_restsOn_5 (v := 7) (by decide) ?_
  refine z_irem C dX5_restsOn_7 (by decide) ?_
  refine z_ishr C dX5_restsOn_8 ?_
  refine z_iconst C dX5_restsOn_9 (v := 1) (by decide) ?_
  refine z_iand C dX5_restsOn_10 ?_
  refine z_iconst C dX5_restsOn_11 (v := 1) (by decide) ?_
  refine z_icmp_ne C dX5_restsOn_12 (tgt := 19) (by decide) (fun c12 => ?_) (fun c12 => ?_)
  · have h := h.2 c12
    refine z_iconst C dX5_restsOn_19 (v := 0) (by decide) ?_
    exact z_iret C dX5_restsOn_20 hr rfl ⟨rfl, _, rfl, h⟩ (Nat.le_of_ble_eq_true rfl) (Nat.le_of_ble_eq_true rfl)
  · have h := h.1 c12
    refine z_iconst C dX5_restsOn_15 (v := 1) (by decide) ?_
    refine z_goto C dX5_restsOn_16 (tgt := 20) (by decide) ?_
    exact z_iret C dX5_restsOn_20 hr rfl ⟨rfl, _, rfl, h⟩ (Nat.le_of_ble_eq_true rfl) (Nat.le_of_ble_eq_true rfl)
def w_X5_restsAlways (st : zTs) (i : Nat) (P : Int32 → Prop) : Prop := ((zgF st 24 i 4) = 127 → P 1) ∧ (¬ (zgF st 24 i 4) = 127 → P 0)
set_option maxHeartbeats 4000000 in
set_option maxRecDepth 100000 in
theorem c_X5_restsAlways {Z : zZ} {l : Launch} (hfl : l.stackTraces = false) {st : zTs} {i : Nat} {P : Int32 → Prop} (h : w_X5_restsAlways st i P) : zN Z l yX5_restsAlways cX5_restsAlways 1 (some .boolean) ({ frames := 1, cells := 0, slots := 0, locals := 12 } : Room) (zh Z zm1 st) [.ref (24 + 256 * i)] (zRi Z st P) := by
  unfold w_X5_restsAlways at h
  refine z_enterN (by decide) (Nat.le_of_ble_eq_true rfl) (lc0 := [some (.ref (24 + 256 * i))]) rfl ?_
  intro p e s m args below meth c ad0 C hr _
  have hn9 : True := trivial
  replace C : zC Z p s m args meth c cX5_restsAlways 1 RX5 := C
  refine z_aload_n C dX5_restsAlways_0 (i := 0) rfl rfl ?_
  refine t_get C dX5_restsAlways_1 fl_X5_42 (k := 24) (i := i) (by decide) rfl (fg_24_4 _ _ _) ?_
  refine z_bipush C dX5_restsAlways_4 (v := 127) (by decide) ?_
  refine z_icmp_ne C dX5_restsAlways_6 (tgt := 13) (by decide) (fun c6 => ?_) (fun c6 => ?_)
  · have h := h.2 c6
    refine z_iconst C dX5_restsAlways_13 (v := 0) (by decide) ?_
    exact z_iret C dX5_restsAlways_14 hr rfl ⟨rfl, _, rfl, h⟩ (Nat.le_of_ble_eq_true rfl) (Nat.le_of_ble_eq_true rfl)
  · have h := h.1 c6
    refine z_iconst C dX5_restsAlways_9 (v := 1) (by decide) ?_
    refine z_goto C dX5_restsAlways_10 (tgt := 14) (by decide) ?_
    exact z_iret C dX5_restsAlways_14 hr rfl ⟨rfl, _, rfl, h⟩ (Nat.le_of_ble_eq_true rfl) (Nat.le_of_ble_eq_true rfl)
def w_X5_countFrom_36 (P : Int32 → Prop) (st : zTs) (K8 : Nat → Int32 → Int32 → Int32 → Int32 → Prop) (a0 : Nat) (a2 : Int32) (a3 : Int32) (a4 : Int32) (a5 : Int32) : Prop := ∀ x36 : Int32, x36 = a5 + 1 → (K8 a0 a2 a3 a4 x36)
set_option maxHeartbeats 4000000 in
set_option maxRecDepth 100000 in
theorem j_X5_countFrom_36 {P : Int32 → Prop} {st : zTs} {K8 : Nat → Int32 → Int32 → Int32 → Int32 → Prop} (hfl : l.stackTraces = false) (C : zC Z p s m args meth c cX5_countFrom 6 RX5) (hr : meth.sig.returnType = (some .int)) (hn9 : True) (hK8 : ∀ (a0 : Nat) (a2 : Int32) (a3 : Int32) (a4 : Int32) (a5 : Int32), K8 a0 a2 a3 a4 a5 → zG Z ad0 h0 p l e ({ frames := 2, cells := 0, slots := 0, locals := 33 } : Room) s m args below meth c (MQ below (zQ Z ad0 h0 (zRi Z st P)) args s 0 0 (zA Z)) 0 0 (zh Z zm1 st) 6 8 [some (.ref (24 + 256 * a0)), none, some (.int (a2)), some (.int (a3)), some (.int (a4)), some (.int (a5))] []) (a0 : Nat) (a2 : Int32) (a3 : Int32) (a4 : Int32) (a5 : Int32) (h : w_X5_countFrom_36 P st K8 a0 a2 a3 a4 a5) : zG Z ad0 h0 p l e ({ frames := 2, cells := 0, slots := 0, locals := 33 } : Room) s m args below meth c (MQ below (zQ Z ad0 h0 (zRi Z st P)) args s 0 0 (zA Z)) 0 0 (zh Z zm1 st) 6 36 [some (.ref (24 + 256 * a0)), none, some (.int (a2)), some (.int (a3)), some (.int (a4)), some (.int (a5))] [] := by
  unfold w_X5_countFrom_36 at h
  obtain ⟨x36, ex36⟩ : ∃ z : Int32, z = a5 + 1 := ⟨_, rfl⟩
  have h := h x36 ex36
  refine z_iinc C dX5_countFrom_36 (v := x36) (lc' := [some (.ref (24 + 256 * a0)), none, some (.int (a2)), some (.int (a3)), some (.int (a4)), some (.int (x36))]) rfl (by decide) (by rw [ex36]; rfl) rfl ?_
  refine z_goto C dX5_countFrom_39 (tgt := 8) (by decide) ?_
  exact t_drop [true, false, true, true, true, true] rfl (hK8 a0 a2 a3 a4 x36 h)
def w_X5_countFrom_8 (P : Int32 → Prop) (st : zTs)  : Nat → Nat → Int32 → Int32 → Int32 → Int32 → Prop
  | 0, _, _, _, _, _ => False
  | n9 + 1, a0, a2, a3, a4, a5 => ((7 * a2) ≤ a5 → P a3) ∧ (¬ (7 * a2) ≤ a5 → (a4 ≤ 0 → P a3) ∧ (¬ a4 ≤ 0 → ∀ x22 : Int32, x22 = a3 + 1 → (w_X5_restsOn st a0 x22 (fun (r27 : Int32) => ((r27 = 0 → ∀ x33 : Int32, x33 = a4 + (-1) → (w_X5_countFrom_36 P st (w_X5_countFrom_8 P st n9) a0 a2 x22 x33 a5)) ∧ (¬ r27 = 0 → w_X5_countFrom_36 P st (w_X5_countFrom_8 P st n9) a0 a2 x22 a4 a5))))))
set_option maxHeartbeats 4000000 in
set_option maxRecDepth 100000 in
theorem j_X5_countFrom_8 {P : Int32 → Prop} {st : zTs}  (hfl : l.stackTraces = false) (C : zC Z p s m args meth c cX5_countFrom 6 RX5) (hr : meth.sig.returnType = (some .int)) (hn9 : True)  : ∀ (n9 : Nat) (a0 : Nat) (a2 : Int32) (a3 : Int32) (a4 : Int32) (a5 : Int32), w_X5_countFrom_8 P st n9 a0 a2 a3 a4 a5 → zG Z ad0 h0 p l e ({ frames := 2, cells := 0, slots := 0, locals := 33 } : Room) s m args below meth c (MQ below (zQ Z ad0 h0 (zRi Z st P)) args s 0 0 (zA Z)) 0 0 (zh Z zm1 st) 6 8 [some (.ref (24 + 256 * a0)), none, some (.int (a2)), some (.int (a3)), some (.int (a4)), some (.int (a5))] [] := by
  intro n9
  induction n9 with
  | zero => intro a0 a2 a3 a4 a5 h; exact h.elim
  | succ n9 hK8 =>
    intro a0 a2 a3 a4 a5 h
    rw [w_X5_countFrom_8] at h
    refine z_iload C dX5_countFrom_8 rfl ?_
    refine z_bipush C dX5_countFrom_10 (v := 7) (by decide) ?_
    refine z_iload_n C dX5_countFrom_12 (i := 2) rfl rfl ?_
    refine z_imul C dX5_countFrom_13 ?_
    refine z_icmp_ge C dX5_countFrom_14 (tgt := 42) (by decide) (fun c14 => ?_) (fun c14 => ?_)
    · have h := h.1 c14
      refine z_iload_n C dX5_countFrom_42 (i := 3) rfl rfl ?_
      exact z_iret C dX5_countFrom_43 hr rfl ⟨rfl, _, rfl, h⟩ (Nat.le_of_ble_eq_true rfl) (Nat.le_of_ble_eq_true rfl)
    · have h := h.2 c14
      refine z_iload C dX5_countFrom_17 rfl ?_
      refine z_if_le C dX5_countFrom_19 (tgt := 42) (by decide) (fun c19 => ?_) (fun c19 => ?_)
      · have h := h.1 c19
        refine z_iload_n C dX5_countFrom_42 (i := 3) rfl rfl ?_
        exact z_iret C dX5_countFrom_43 hr rfl ⟨rfl, _, rfl, h⟩ (Nat.le_of_ble_eq_true rfl) (Nat.le_of_ble_eq_true rfl)
      · have h := h.2 c19
        obtain ⟨x22, ex22⟩ : ∃ z : Int32, z = a3 + 1 := ⟨_, rfl⟩
        have h := h x22 ex22
        refine z_iinc C dX5_countFrom_22 (v := x22) (lc' := [some (.ref (24 + 256 * a0)), none, some (.int (a2)), some (.int (x22)), some (.int (a4)), some (.int (a5))]) rfl (by decide) (by rw [ex22]; rfl) rfl ?_
        refine z_aload_n C dX5_countFrom_25 (i := 0) rfl rfl ?_
        refine z_iload_n C dX5_countFrom_26 (i := 3) rfl rfl ?_
        refine t_callV C (rest := []) (c2 := 0) (s2 := 0) (kd := 24) (i := a0) [.int (x22)] dX5_countFrom_27 lk_X5_45 li_X5_restsOn le_X5_restsOn (c_X5_restsOn hfl h) rfl rfl (by decide) rfl ⟨_, rfl⟩ rfl ⟨Nat.le_of_ble_eq_true rfl, Nat.le_of_ble_eq_true rfl⟩ (Nat.le_of_ble_eq_true rfl) ⟨Nat.le_of_ble_eq_true rfl, Nat.le_of_ble_eq_true rfl, Nat.le_of_ble_eq_true rfl, Nat.le_of_ble_eq_true rfl⟩ (k_Ri fun r27 h => ?_)
        refine z_if_ne C dX5_countFrom_30 (tgt := 36) (by decide) (fun c30 => ?_) (fun c30 => ?_)
        · have h := h.2 c30
          exact t_drop [true, false, true, true, true, true] rfl (j_X5_countFrom_36 hfl C hr hn9 hK8 a0 a2 x22 a4 a5 h)
        · have h := h.1 c30
          obtain ⟨x33, ex33⟩ : ∃ z : Int32, z = a4 + (-1) := ⟨_, rfl⟩
          have h := h x33 ex33
          refine z_iinc C dX5_countFrom_33 (v := x33) (lc' := [some (.ref (24 + 256 * a0)), none, some (.int (a2)), some (.int (x22)), some (.int (x33)), some (.int (a5))]) rfl (by decide) (by rw [ex33]; rfl) rfl ?_
          exact t_drop [true, false, true, true, true, true] rfl (j_X5_countFrom_36 hfl C hr hn9 hK8 a0 a2 x22 x33 a5 h)
def w_X5_countFrom (st : zTs) (i : Nat) (a1 : Int32) (a2 : Int32) (P : Int32 → Prop) : Prop := w_X5_countFrom_8 P st zfu i a2 a1 a2 (0)
set_option maxHeartbeats 4000000 in
set_option maxRecDepth 100000 in
theorem c_X5_countFrom {Z : zZ} {l : Launch} (hfl : l.stackTraces = false) {st : zTs} {i : Nat} {a1 : Int32} {a2 : Int32} {P : Int32 → Prop} (h : w_X5_countFrom st i a1 a2 P) : zN Z l yX5_countFrom cX5_countFrom 6 (some .int) ({ frames := 2, cells := 0, slots := 0, locals := 33 } : Room) (zh Z zm1 st) [.ref (24 + 256 * i), .int (a1), .int (a2)] (zRi Z st P) := by
  unfold w_X5_countFrom at h
  refine z_enterN (by decide) (Nat.le_of_ble_eq_true rfl) (lc0 := [some (.ref (24 + 256 * i)), some (.int (a1)), some (.int (a2)), none, none, none]) rfl ?_
  intro p e s m args below meth c ad0 C hr _
  have hn9 : True := trivial
  replace C : zC Z p s m args meth c cX5_countFrom 6 RX5 := C
  refine z_iload_n C dX5_countFrom_0 (i := 1) rfl rfl ?_
  refine z_istore_n C dX5_countFrom_1 (i := 3) (lc' := [some (.ref (24 + 256 * i)), some (.int (a1)), some (.int (a2)), some (.int (a1)), none, none]) rfl (by decide) rfl ?_
  refine z_iload_n C dX5_countFrom_2 (i := 2) rfl rfl ?_
  refine z_istore C dX5_countFrom_3 (lc' := [some (.ref (24 + 256 * i)), some (.int (a1)), some (.int (a2)), some (.int (a1)), some (.int (a2)), none]) (by decide) rfl ?_
  refine z_iconst C dX5_countFrom_5 (v := 0) (by decide) ?_
  refine z_istore C dX5_countFrom_6 (lc' := [some (.ref (24 + 256 * i)), some (.int (a1)), some (.int (a2)), some (.int (a1)), some (.int (a2)), some (.int (0))]) (by decide) rfl ?_
  exact t_drop [true, false, true, true, true, true] rfl (j_X5_countFrom_8 hfl C hr hn9  zfu i a2 a1 a2 (0) h)
def w_X5_compares_38 (P : Int32 → Prop) (st : zTs)  (a4 : Int32) (a5 : Int32) (b0 : Int32) : Prop := ((a4 - a4 / 2 * 2) = 0 → (a5 ≤ b0 → P 0) ∧ (¬ a5 ≤ b0 → P 1)) ∧ (¬ (a4 - a4 / 2 * 2) = 0 → (b0 ≤ a5 → P 0) ∧ (¬ b0 ≤ a5 → P 1))
set_option maxHeartbeats 4000000 in
set_option maxRecDepth 100000 in
theorem j_X5_compares_38 {P : Int32 → Prop} {st : zTs}  (hfl : l.stackTraces = false) (C : zC Z p s m args meth c cX5_compares 7 RX5) (hr : meth.sig.returnType = (some .boolean)) (hn9 : True)  (a4 : Int32) (a5 : Int32) (b0 : Int32) (h : w_X5_compares_38 P st a4 a5 b0) : zG Z ad0 h0 p l e ({ frames := 1, cells := 0, slots := 0, locals := 12 } : Room) s m args below meth c (MQ below (zQ Z ad0 h0 (zRi Z st P)) args s 0 0 (zA Z)) 0 0 (zh Z zm1 st) 7 38 [none, none, none, none, some (.int (a4)), some (.int (a5)), none] [.int (b0)] := by
  unfold w_X5_compares_38 at h
  refine z_istore C dX5_compares_38 (lc' := [none, none, none, none, some (.int (a4)), some (.int (a5)), some (.int (b0))]) (by decide) rfl ?_
  refine z_iload C dX5_compares_40 rfl ?_
  refine z_iconst C dX5_compares_42 (v := 2) (by decide) ?_
  refine z_irem C dX5_compares_43 (by decide) ?_
  refine z_if_ne C dX5_compares_44 (tgt := 62) (by decide) (fun c44 => ?_) (fun c44 => ?_)
  · have h := h.2 c44
    refine z_iload C dX5_compares_62 rfl ?_
    refine z_iload C dX5_compares_64 rfl ?_
    refine z_icmp_le C dX5_compares_66 (tgt := 73) (by decide) (fun c66 => ?_) (fun c66 => ?_)
    · have h := h.1 c66
      refine z_iconst C dX5_compares_73 (v := 0) (by decide) ?_
      exact z_iret C dX5_compares_74 hr rfl ⟨rfl, _, rfl, h⟩ (Nat.le_of_ble_eq_true rfl) (Nat.le_of_ble_eq_true rfl)
    · have h := h.2 c66
      refine z_iconst C dX5_compares_69 (v := 1) (by decide) ?_
      refine z_goto C dX5_compares_70 (tgt := 74) (by decide) ?_
      exact z_iret C dX5_compares_74 hr rfl ⟨rfl, _, rfl, h⟩ (Nat.le_of_ble_eq_true rfl) (Nat.le_of_ble_eq_true rfl)
  · have h := h.1 c44
    refine z_iload C dX5_compares_47 rfl ?_
    refine z_iload C dX5_compares_49 rfl ?_
    refine z_icmp_ge C dX5_compares_51 (tgt := 58) (by decide) (fun c51 => ?_) (fun c51 => ?_)
    · have h := h.1 c51
      refine z_iconst C dX5_compares_58 (v := 0) (by decide) ?_
      refine z_goto C dX5_compares_59 (tgt := 74) (by decide) ?_
      exact z_iret C dX5_compares_74 hr rfl ⟨rfl, _, rfl, h⟩ (Nat.le_of_ble_eq_true rfl) (Nat.le_of_ble_eq_true rfl)
    · have h := h.2 c51
      refine z_iconst C dX5_compares_54 (v := 1) (by decide) ?_
      refine z_goto C dX5_compares_55 (tgt := 74) (by decide) ?_
      exact z_iret C dX5_compares_74 hr rfl ⟨rfl, _, rfl, h⟩ (Nat.le_of_ble_eq_true rfl) (Nat.le_of_ble_eq_true rfl)
def w_X5_compares (st : zTs) (a0 : Int32) (a1 : Int32) (a2 : Int32) (a3 : Int32) (P : Int32 → Prop) : Prop := ∀ x5 : Int32, x5 = a0 / 10000 → (∀ x12 : Int32, x12 = a0 - a0 / 10000 * 10000 → (((x5 / 2) = 0 → w_X5_compares_38 P st x5 x12 a1) ∧ (¬ (x5 / 2) = 0 → ((x5 / 2) = 1 → w_X5_compares_38 P st x5 x12 a2) ∧ (¬ (x5 / 2) = 1 → w_X5_compares_38 P st x5 x12 a3))))
set_option maxHeartbeats 4000000 in
set_option maxRecDepth 100000 in
theorem c_X5_compares {Z : zZ} {l : Launch} (hfl : l.stackTraces = false) {st : zTs} {a0 : Int32} {a1 : Int32} {a2 : Int32} {a3 : Int32} {P : Int32 → Prop} (h : w_X5_compares st a0 a1 a2 a3 P) : zN Z l yX5_compares cX5_compares 7 (some .boolean) ({ frames := 1, cells := 0, slots := 0, locals := 12 } : Room) (zh Z zm1 st) [.int (a0), .int (a1), .int (a2), .int (a3)] (zRi Z st P) := by
  unfold w_X5_compares at h
  refine z_enterN (by decide) (Nat.le_of_ble_eq_true rfl) (lc0 := [some (.int (a0)), some (.int (a1)), some (.int (a2)), some (.int (a3)), none, none, none]) rfl ?_
  intro p e s m args below meth c ad0 C hr _
  have hn9 : True := trivial
  replace C : zC Z p s m args meth c cX5_compares 7 RX5 := C
  refine z_iload_n C dX5_compares_0 (i := 0) rfl rfl ?_
  refine z_sipush C dX5_compares_1 (v := 10000) (by decide) ?_
  refine z_idiv C dX5_compares_4 (by decide) ?_
  refine t_topi (fun x5 ex5 => ?_)
  have h := h x5 ex5
  refine z_istore C dX5_compares_5 (lc' := [some (.int (a0)), some (.int (a1)), some (.int (a2)), some (.int (a3)), some (.int (x5)), none, none]) (by decide) rfl ?_
  refine z_iload_n C dX5_compares_7 (i := 0) rfl rfl ?_
  refine z_sipush C dX5_compares_8 (v := 10000) (by decide) ?_
  refine z_irem C dX5_compares_11 (by decide) ?_
  refine t_topi (fun x12 ex12 => ?_)
  have h := h x12 ex12
  refine z_istore C dX5_compares_12 (lc' := [some (.int (a0)), some (.int (a1)), some (.int (a2)), some (.int (a3)), some (.int (x5)), some (.int (x12)), none]) (by decide) rfl ?_
  refine z_iload C dX5_compares_14 rfl ?_
  refine z_iconst C dX5_compares_16 (v := 2) (by decide) ?_
  refine z_idiv C dX5_compares_17 (by decide) ?_
  refine z_if_ne C dX5_compares_18 (tgt := 25) (by decide) (fun c18 => ?_) (fun c18 => ?_)
  · have h := h.2 c18
    refine z_iload C dX5_compares_25 rfl ?_
    refine z_iconst C dX5_compares_27 (v := 2) (by decide) ?_
    refine z_idiv C dX5_compares_28 (by decide) ?_
    refine z_iconst C dX5_compares_29 (v := 1) (by decide) ?_
    refine z_icmp_ne C dX5_compares_30 (tgt := 37) (by decide) (fun c30 => ?_) (fun c30 => ?_)
    · have h := h.2 c30
      refine z_iload_n C dX5_compares_37 (i := 3) rfl rfl ?_
      exact t_drop [false, false, false, false, true, true, false] rfl (j_X5_compares_38 hfl C hr hn9  x5 x12 a3 h)
    · have h := h.1 c30
      refine z_iload_n C dX5_compares_33 (i := 2) rfl rfl ?_
      refine z_goto C dX5_compares_34 (tgt := 38) (by decide) ?_
      exact t_drop [false, false, false, false, true, true, false] rfl (j_X5_compares_38 hfl C hr hn9  x5 x12 a2 h)
  · have h := h.1 c18
    refine z_iload_n C dX5_compares_21 (i := 1) rfl rfl ?_
    refine z_goto C dX5_compares_22 (tgt := 38) (by decide) ?_
    exact t_drop [false, false, false, false, true, true, false] rfl (j_X5_compares_38 hfl C hr hn9  x5 x12 a1 h)
def w_X7_isBehind (st : zTs) (i : Nat) (a1 : Int32) (P : Int32 → Prop) : Prop := ((zgF st 22 i 3) ≤ 0 → P 0) ∧ (¬ (zgF st 22 i 3) ≤ 0 → vp_in ((zgF st 22 i 3) - 1) 20 ∧ (((zgA st 62 i ((zgF st 22 i 3) - 1 : Int32).toNatClampNeg) ≤ a1 → P 0) ∧ (¬ (zgA st 62 i ((zgF st 22 i 3) - 1 : Int32).toNatClampNeg) ≤ a1 → P 1)))
set_option maxHeartbeats 4000000 in
set_option maxRecDepth 100000 in
theorem c_X7_isBehind {Z : zZ} {l : Launch} (hfl : l.stackTraces = false) {st : zTs} {i : Nat} {a1 : Int32} {P : Int32 → Prop} (h : w_X7_isBehind st i a1 P) : zN Z l yX7_isBehind cX7_isBehind 2 (some .boolean) ({ frames := 1, cells := 0, slots := 0, locals := 12 } : Room) (zh Z zm1 st) [.ref (22 + 256 * i), .int (a1)] (zRi Z st P) := by
  unfold w_X7_isBehind at h
  refine z_enterN (by decide) (Nat.le_of_ble_eq_true rfl) (lc0 := [some (.ref (22 + 256 * i)), some (.int (a1))]) rfl ?_
  intro p e s m args below meth c ad0 C hr _
  have hn9 : True := trivial
  replace C : zC Z p s m args meth c cX7_isBehind 2 RX7 := C
  refine z_aload_n C dX7_isBehind_0 (i := 0) rfl rfl ?_
  refine t_get C dX7_isBehind_1 fl_X7_22 (k := 22) (i := i) (by decide) rfl (fg_22_3 _ _ _) ?_
  refine z_if_le C dX7_isBehind_4 (tgt := 26) (by decide) (fun c4 => ?_) (fun c4 => ?_)
  · have h := h.1 c4
    refine z_iconst C dX7_isBehind_26 (v := 0) (by decide) ?_
    exact z_iret C dX7_isBehind_27 hr rfl ⟨rfl, _, rfl, h⟩ (Nat.le_of_ble_eq_true rfl) (Nat.le_of_ble_eq_true rfl)
  · have h := h.2 c4
    refine z_iload_n C dX7_isBehind_7 (i := 1) rfl rfl ?_
    refine z_aload_n C dX7_isBehind_8 (i := 0) rfl rfl ?_
    refine t_get C dX7_isBehind_9 fl_X7_9 (k := 22) (i := i) (by decide) rfl (fg_22_1 _ _ _) ?_
    refine z_aload_n C dX7_isBehind_12 (i := 0) rfl rfl ?_
    refine t_get C dX7_isBehind_13 fl_X7_22 (k := 22) (i := i) (by decide) rfl (fg_22_3 _ _ _) ?_
    refine z_iconst C dX7_isBehind_16 (v := 1) (by decide) ?_
    refine z_isub C dX7_isBehind_17 ?_
    obtain ⟨g18, h⟩ := h
    refine t_iald C dX7_isBehind_18 (k := 62) (i := i) (by decide) rfl (sh_62 _ _ _ _) g18 ?_
    refine z_icmp_ge C dX7_isBehind_19 (tgt := 26) (by decide) (fun c19 => ?_) (fun c19 => ?_)
    · have h := h.1 c19
      refine z_iconst C dX7_isBehind_26 (v := 0) (by decide) ?_
      exact z_iret C dX7_isBehind_27 hr rfl ⟨rfl, _, rfl, h⟩ (Nat.le_of_ble_eq_true rfl) (Nat.le_of_ble_eq_true rfl)
    · have h := h.2 c19
      refine z_iconst C dX7_isBehind_22 (v := 1) (by decide) ?_
      refine z_goto C dX7_isBehind_23 (tgt := 27) (by decide) ?_
      exact z_iret C dX7_isBehind_27 hr rfl ⟨rfl, _, rfl, h⟩ (Nat.le_of_ble_eq_true rfl) (Nat.le_of_ble_eq_true rfl)
def w_X7_addCrack (st : zTs) (i : Nat) (a1 : Int32) (a2 : Int32) (P : zTs → Prop) : Prop := ((zgF st 22 i 3) < 20 → vp_in (zgF st 22 i 3) 20 ∧ (∀ s19 : zTs, s19 = zuA st 62 i (zgF st 22 i 3 : Int32).toNatClampNeg a1 → (vp_in (zgF s19 22 i 3) 20 ∧ (∀ s34 : zTs, s34 = zuA s19 63 i (zgF s19 22 i 3 : Int32).toNatClampNeg (a2 - (zgF s19 22 i 0)) → (∀ s42 : zTs, s42 = zuF s34 22 i 3 ((zgF s34 22 i 3) + 1) → (P s42)))))) ∧ (¬ (zgF st 22 i 3) < 20 → P st)
set_option maxHeartbeats 4000000 in
set_option maxRecDepth 100000 in
theorem c_X7_addCrack {Z : zZ} {l : Launch} (hfl : l.stackTraces = false) {st : zTs} {i : Nat} {a1 : Int32} {a2 : Int32} {P : zTs → Prop} (h : w_X7_addCrack st i a1 a2 P) : zN Z l yX7_addCrack cX7_addCrack 3 none ({ frames := 1, cells := 0, slots := 0, locals := 12 } : Room) (zh Z zm1 st) [.ref (22 + 256 * i), .int (a1), .int (a2)] (zWv Z zm1 P) := by
  unfold w_X7_addCrack at h
  refine z_enterN (by decide) (Nat.le_of_ble_eq_true rfl) (lc0 := [some (.ref (22 + 256 * i)), some (.int (a1)), some (.int (a2))]) rfl ?_
  intro p e s m args below meth c ad0 C hr _
  have hn9 : True := trivial
  replace C : zC Z p s m args meth c cX7_addCrack 3 RX7 := C
  refine z_aload_n C dX7_addCrack_0 (i := 0) rfl rfl ?_
  refine t_get C dX7_addCrack_1 fl_X7_22 (k := 22) (i := i) (by decide) rfl (fg_22_3 _ _ _) ?_
  refine z_bipush C dX7_addCrack_4 (v := 20) (by decide) ?_
  refine z_icmp_lt C dX7_addCrack_6 (tgt := 10) (by decide) (fun c6 => ?_) (fun c6 => ?_)
  · have h := h.1 c6
    refine z_aload_n C dX7_addCrack_10 (i := 0) rfl rfl ?_
    refine t_get C dX7_addCrack_11 fl_X7_9 (k := 22) (i := i) (by decide) rfl (fg_22_1 _ _ _) ?_
    refine z_aload_n C dX7_addCrack_14 (i := 0) rfl rfl ?_
    refine t_get C dX7_addCrack_15 fl_X7_22 (k := 22) (i := i) (by decide) rfl (fg_22_3 _ _ _) ?_
    refine z_iload_n C dX7_addCrack_18 (i := 1) rfl rfl ?_
    obtain ⟨g19, h⟩ := h
    refine t_iast C dX7_addCrack_19 (k := 62) (i := i) (by decide) rfl (fun s9 => sh_62 _ _ s9 _) g19 ?_
    refine t_tops (fun s19 es19 => ?_)
    have h := h s19 es19
    refine z_aload_n C dX7_addCrack_20 (i := 0) rfl rfl ?_
    refine t_get C dX7_addCrack_21 fl_X7_15 (k := 22) (i := i) (by decide) rfl (fg_22_2 _ _ _) ?_
    refine z_aload_n C dX7_addCrack_24 (i := 0) rfl rfl ?_
    refine t_get C dX7_addCrack_25 fl_X7_22 (k := 22) (i := i) (by decide) rfl (fg_22_3 _ _ _) ?_
    refine z_iload_n C dX7_addCrack_28 (i := 2) rfl rfl ?_
    refine z_aload_n C dX7_addCrack_29 (i := 0) rfl rfl ?_
    refine t_get C dX7_addCrack_30 fl_X7_18 (k := 22) (i := i) (by decide) rfl (fg_22_0 _ _ _) ?_
    refine z_isub C dX7_addCrack_33 ?_
    obtain ⟨g34, h⟩ := h
    refine t_iast C dX7_addCrack_34 (k := 63) (i := i) (by decide) rfl (fun s9 => sh_63 _ _ s9 _) g34 ?_
    refine t_tops (fun s34 es34 => ?_)
    have h := h s34 es34
    refine z_aload_n C dX7_addCrack_35 (i := 0) rfl rfl ?_
    refine z_dup C dX7_addCrack_36 rfl ?_
    refine t_get C dX7_addCrack_37 fl_X7_22 (k := 22) (i := i) (by decide) rfl (fg_22_3 _ _ _) ?_
    refine z_iconst C dX7_addCrack_40 (v := 1) (by decide) ?_
    refine z_iadd C dX7_addCrack_41 ?_
    refine t_put C dX7_addCrack_42 fq_X7_22 (Or.inl rfl) (k := 22) (i := i) (by decide) rfl ⟨rfl, rfl⟩ (fp_22_3 _ _ _ _ _) ?_
    refine t_tops (fun s42 es42 => ?_)
    have h := h s42 es42
    exact z_vret C dX7_addCrack_45 hr ⟨_, rfl, rfl, h⟩ (Nat.le_of_ble_eq_true rfl) (Nat.le_of_ble_eq_true rfl)
  · have h := h.2 c6
    exact z_vret C dX7_addCrack_9 hr ⟨_, rfl, rfl, h⟩ (Nat.le_of_ble_eq_true rfl) (Nat.le_of_ble_eq_true rfl)
def w_X8_ownerOf (st : zTs) (i : Nat) (a1 : Int32) (P : Int32 → Prop) : Prop := vp_in a1 2 ∧ (P (zgA st 55 i (a1 : Int32).toNatClampNeg))
set_option maxHeartbeats 4000000 in
set_option maxRecDepth 100000 in
theorem c_X8_ownerOf {Z : zZ} {l : Launch} (hfl : l.stackTraces = false) {st : zTs} {i : Nat} {a1 : Int32} {P : Int32 → Prop} (h : w_X8_ownerOf st i a1 P) : zN Z l yX8_ownerOf cX8_ownerOf 2 (some .int) ({ frames := 1, cells := 0, slots := 0, locals := 12 } : Room) (zh Z zm1 st) [.ref (20 + 256 * i), .int (a1)] (zRi Z st P) := by
  unfold w_X8_ownerOf at h
  refine z_enterN (by decide) (Nat.le_of_ble_eq_true rfl) (lc0 := [some (.ref (20 + 256 * i)), some (.int (a1))]) rfl ?_
  intro p e s m args below meth c ad0 C hr _
  have hn9 : True := trivial
  replace C : zC Z p s m args meth c cX8_ownerOf 2 RX8 := C
  refine z_aload_n C dX8_ownerOf_0 (i := 0) rfl rfl ?_
  refine t_get C dX8_ownerOf_1 fl_X8_9 (k := 20) (i := i) (by decide) rfl (fg_20_0 _ _ _) ?_
  refine z_iload_n C dX8_ownerOf_4 (i := 1) rfl rfl ?_
  obtain ⟨g5, h⟩ := h
  refine t_iald C dX8_ownerOf_5 (k := 55) (i := i) (by decide) rfl (sh_55 _ _ _ _) g5 ?_
  exact z_iret C dX8_ownerOf_6 hr rfl ⟨rfl, _, rfl, h⟩ (Nat.le_of_ble_eq_true rfl) (Nat.le_of_ble_eq_true rfl)
def w_X8_giveTo (st : zTs) (i : Nat) (a1 : Int32) (a2 : Int32) (P : zTs → Prop) : Prop := vp_in a1 2 ∧ (∀ s6 : zTs, s6 = zuA st 55 i (a1 : Int32).toNatClampNeg a2 → (P s6))
set_option maxHeartbeats 4000000 in
set_option maxRecDepth 100000 in
theorem c_X8_giveTo {Z : zZ} {l : Launch} (hfl : l.stackTraces = false) {st : zTs} {i : Nat} {a1 : Int32} {a2 : Int32} {P : zTs → Prop} (h : w_X8_giveTo st i a1 a2 P) : zN Z l yX8_giveTo cX8_giveTo 3 none ({ frames := 1, cells := 0, slots := 0, locals := 12 } : Room) (zh Z zm1 st) [.ref (20 + 256 * i), .int (a1), .int (a2)] (zWv Z zm1 P) := by
  unfold w_X8_giveTo at h
  refine z_enterN (by decide) (Nat.le_of_ble_eq_true rfl) (lc0 := [some (.ref (20 + 256 * i)), some (.int (a1)), some (.int (a2))]) rfl ?_
  intro p e s m args below meth c ad0 C hr _
  have hn9 : True := trivial
  replace C : zC Z p s m args meth c cX8_giveTo 3 RX8 := C
  refine z_aload_n C dX8_giveTo_0 (i := 0) rfl rfl ?_
  refine t_get C dX8_giveTo_1 fl_X8_9 (k := 20) (i := i) (by decide) rfl (fg_20_0 _ _ _) ?_
  refine z_iload_n C dX8_giveTo_4 (i := 1) rfl rfl ?_
  refine z_iload_n C dX8_giveTo_5 (i := 2) rfl rfl ?_
  obtain ⟨g6, h⟩ := h
  refine t_iast C dX8_giveTo_6 (k := 55) (i := i) (by decide) rfl (fun s9 => sh_55 _ _ s9 _) g6 ?_
  refine t_tops (fun s6 es6 => ?_)
  have h := h s6 es6
  exact z_vret C dX8_giveTo_7 hr ⟨_, rfl, rfl, h⟩ (Nat.le_of_ble_eq_true rfl) (Nat.le_of_ble_eq_true rfl)
def w_X8_hasCell (st : zTs) (i : Nat) (a1 : Int32) (a2 : Int32) (P : Int32 → Prop) : Prop := (a1 < 0 → P 0) ∧ (¬ a1 < 0 → (12 ≤ a1 → P 0) ∧ (¬ 12 ≤ a1 → (a2 < 0 → P 0) ∧ (¬ a2 < 0 → vp_in a1 12 ∧ (((zgA st 56 i (a1 : Int32).toNatClampNeg) ≤ a2 → P 0) ∧ (¬ (zgA st 56 i (a1 : Int32).toNatClampNeg) ≤ a2 → P 1)))))
set_option maxHeartbeats 4000000 in
set_option maxRecDepth 100000 in
theorem c_X8_hasCell {Z : zZ} {l : Launch} (hfl : l.stackTraces = false) {st : zTs} {i : Nat} {a1 : Int32} {a2 : Int32} {P : Int32 → Prop} (h : w_X8_hasCell st i a1 a2 P) : zN Z l yX8_hasCell cX8_hasCell 3 (some .boolean) ({ frames := 1, cells := 0, slots := 0, locals := 12 } : Room) (zh Z zm1 st) [.ref (20 + 256 * i), .int (a1), .int (a2)] (zRi Z st P) := by
  unfold w_X8_hasCell at h
  refine z_enterN (by decide) (Nat.le_of_ble_eq_true rfl) (lc0 := [some (.ref (20 + 256 * i)), some (.int (a1)), some (.int (a2))]) rfl ?_
  intro p e s m args below meth c ad0 C hr _
  have hn9 : True := trivial
  replace C : zC Z p s m args meth c cX8_hasCell 3 RX8 := C
  refine z_iload_n C dX8_hasCell_0 (i := 1) rfl rfl ?_
  refine z_if_lt C dX8_hasCell_1 (tgt := 28) (by decide) (fun c1 => ?_) (fun c1 => ?_)
  · have h := h.1 c1
    refine z_iconst C dX8_hasCell_28 (v := 0) (by decide) ?_
    exact z_iret C dX8_hasCell_29 hr rfl ⟨rfl, _, rfl, h⟩ (Nat.le_of_ble_eq_true rfl) (Nat.le_of_ble_eq_true rfl)
  · have h := h.2 c1
    refine z_iload_n C dX8_hasCell_4 (i := 1) rfl rfl ?_
    refine z_bipush C dX8_hasCell_5 (v := 12) (by decide) ?_
    refine z_icmp_ge C dX8_hasCell_7 (tgt := 28) (by decide) (fun c7 => ?_) (fun c7 => ?_)
    · have h := h.1 c7
      refine z_iconst C dX8_hasCell_28 (v := 0) (by decide) ?_
      exact z_iret C dX8_hasCell_29 hr rfl ⟨rfl, _, rfl, h⟩ (Nat.le_of_ble_eq_true rfl) (Nat.le_of_ble_eq_true rfl)
    · have h := h.2 c7
      refine z_iload_n C dX8_hasCell_10 (i := 2) rfl rfl ?_
      refine z_if_lt C dX8_hasCell_11 (tgt := 28) (by decide) (fun c11 => ?_) (fun c11 => ?_)
      · have h := h.1 c11
        refine z_iconst C dX8_hasCell_28 (v := 0) (by decide) ?_
        exact z_iret C dX8_hasCell_29 hr rfl ⟨rfl, _, rfl, h⟩ (Nat.le_of_ble_eq_true rfl) (Nat.le_of_ble_eq_true rfl)
      · have h := h.2 c11
        refine z_iload_n C dX8_hasCell_14 (i := 2) rfl rfl ?_
        refine z_aload_n C dX8_hasCell_15 (i := 0) rfl rfl ?_
        refine t_get C dX8_hasCell_16 fl_X8_15 (k := 20) (i := i) (by decide) rfl (fg_20_1 _ _ _) ?_
        refine z_iload_n C dX8_hasCell_19 (i := 1) rfl rfl ?_
        obtain ⟨g20, h⟩ := h
        refine t_iald C dX8_hasCell_20 (k := 56) (i := i) (by decide) rfl (sh_56 _ _ _ _) g20 ?_
        refine z_icmp_ge C dX8_hasCell_21 (tgt := 28) (by decide) (fun c21 => ?_) (fun c21 => ?_)
        · have h := h.1 c21
          refine z_iconst C dX8_hasCell_28 (v := 0) (by decide) ?_
          exact z_iret C dX8_hasCell_29 hr rfl ⟨rfl, _, rfl, h⟩ (Nat.le_of_ble_eq_true rfl) (Nat.le_of_ble_eq_true rfl)
        · have h := h.2 c21
          refine z_iconst C dX8_hasCell_24 (v := 1) (by decide) ?_
          refine z_goto C dX8_hasCell_25 (tgt := 29) (by decide) ?_
          exact z_iret C dX8_hasCell_29 hr rfl ⟨rfl, _, rfl, h⟩ (Nat.le_of_ble_eq_true rfl) (Nat.le_of_ble_eq_true rfl)
def w_X8_builderOf (st : zTs) (i : Nat) (a1 : Int32) (a2 : Int32) (P : Int32 → Prop) : Prop := vp_in ((a1 * 20) + a2) 240 ∧ (P (zgA st 57 i ((a1 * 20) + a2 : Int32).toNatClampNeg))
set_option maxHeartbeats 4000000 in
set_option maxRecDepth 100000 in
theorem c_X8_builderOf {Z : zZ} {l : Launch} (hfl : l.stackTraces = false) {st : zTs} {i : Nat} {a1 : Int32} {a2 : Int32} {P : Int32 → Prop} (h : w_X8_builderOf st i a1 a2 P) : zN Z l yX8_builderOf cX8_builderOf 3 (some .int) ({ frames := 1, cells := 0, slots := 0, locals := 12 } : Room) (zh Z zm1 st) [.ref (20 + 256 * i), .int (a1), .int (a2)] (zRi Z st P) := by
  unfold w_X8_builderOf at h
  refine z_enterN (by decide) (Nat.le_of_ble_eq_true rfl) (lc0 := [some (.ref (20 + 256 * i)), some (.int (a1)), some (.int (a2))]) rfl ?_
  intro p e s m args below meth c ad0 C hr _
  have hn9 : True := trivial
  replace C : zC Z p s m args meth c cX8_builderOf 3 RX8 := C
  refine z_aload_n C dX8_builderOf_0 (i := 0) rfl rfl ?_
  refine t_get C dX8_builderOf_1 fl_X8_18 (k := 20) (i := i) (by decide) rfl (fg_20_2 _ _ _) ?_
  refine z_iload_n C dX8_builderOf_4 (i := 1) rfl rfl ?_
  refine z_bipush C dX8_builderOf_5 (v := 20) (by decide) ?_
  refine z_imul C dX8_builderOf_7 ?_
  refine z_iload_n C dX8_builderOf_8 (i := 2) rfl rfl ?_
  refine z_iadd C dX8_builderOf_9 ?_
  obtain ⟨g10, h⟩ := h
  refine t_iald C dX8_builderOf_10 (k := 57) (i := i) (by decide) rfl (sh_57 _ _ _ _) g10 ?_
  exact z_iret C dX8_builderOf_11 hr rfl ⟨rfl, _, rfl, h⟩ (Nat.le_of_ble_eq_true rfl) (Nat.le_of_ble_eq_true rfl)
def w_X8_usersOf (st : zTs) (i : Nat) (a1 : Int32) (a2 : Int32) (P : Int32 → Prop) : Prop := vp_in ((a1 * 20) + a2) 240 ∧ (P (zgA st 60 i ((a1 * 20) + a2 : Int32).toNatClampNeg))
set_option maxHeartbeats 4000000 in
set_option maxRecDepth 100000 in
theorem c_X8_usersOf {Z : zZ} {l : Launch} (hfl : l.stackTraces = false) {st : zTs} {i : Nat} {a1 : Int32} {a2 : Int32} {P : Int32 → Prop} (h : w_X8_usersOf st i a1 a2 P) : zN Z l yX8_usersOf cX8_usersOf 3 (some .int) ({ frames := 1, cells := 0, slots := 0, locals := 12 } : Room) (zh Z zm1 st) [.ref (20 + 256 * i), .int (a1), .int (a2)] (zRi Z st P) := by
  unfold w_X8_usersOf at h
  refine z_enterN (by decide) (Nat.le_of_ble_eq_true rfl) (lc0 := [some (.ref (20 + 256 * i)), some (.int (a1)), some (.int (a2))]) rfl ?_
  intro p e s m args below meth c ad0 C hr _
  have hn9 : True := trivial
  replace C : zC Z p s m args meth c cX8_usersOf 3 RX8 := C
  refine z_aload_n C dX8_usersOf_0 (i := 0) rfl rfl ?_
  refine t_get C dX8_usersOf_1 fl_X8_27 (k := 20) (i := i) (by decide) rfl (fg_20_5 _ _ _) ?_
  refine z_iload_n C dX8_usersOf_4 (i := 1) rfl rfl ?_
  refine z_bipush C dX8_usersOf_5 (v := 20) (by decide) ?_
  refine z_imul C dX8_usersOf_7 ?_
  refine z_iload_n C dX8_usersOf_8 (i := 2) rfl rfl ?_
  refine z_iadd C dX8_usersOf_9 ?_
  obtain ⟨g10, h⟩ := h
  refine t_iald C dX8_usersOf_10 (k := 60) (i := i) (by decide) rfl (sh_60 _ _ _ _) g10 ?_
  exact z_iret C dX8_usersOf_11 hr rfl ⟨rfl, _, rfl, h⟩ (Nat.le_of_ble_eq_true rfl) (Nat.le_of_ble_eq_true rfl)
def w_X8_valueOf (st : zTs) (i : Nat) (a1 : Int32) (a2 : Int32) (a3 : Int32) (a4 : Int32) (P : Int32 → Prop) : Prop := ∀ x6 : Int32, x6 = (a1 * 20) + a2 → (vp_in x6 240 ∧ (∀ x21 : Int32, x21 = (a3 - (zgA st 58 i (x6 : Int32).toNatClampNeg)) / 365 → (vp_in x6 240 ∧ (w_J9_max_7cf53 st 0 (100 - (a4 * x21)) (fun (r39 : Int32) => (P (((zgA st 59 i (x6 : Int32).toNatClampNeg) * r39) / 100)))))))
set_option maxHeartbeats 4000000 in
set_option maxRecDepth 100000 in
theorem c_X8_valueOf {Z : zZ} {l : Launch} (hfl : l.stackTraces = false) {st : zTs} {i : Nat} {a1 : Int32} {a2 : Int32} {a3 : Int32} {a4 : Int32} {P : Int32 → Prop} (h : w_X8_valueOf st i a1 a2 a3 a4 P) : zN Z l yX8_valueOf cX8_valueOf 7 (some .int) ({ frames := 2, cells := 0, slots := 0, locals := 33 } : Room) (zh Z zm1 st) [.ref (20 + 256 * i), .int (a1), .int (a2), .int (a3), .int (a4)] (zRi Z st P) := by
  unfold w_X8_valueOf at h
  refine z_enterN (by decide) (Nat.le_of_ble_eq_true rfl) (lc0 := [some (.ref (20 + 256 * i)), some (.int (a1)), some (.int (a2)), some (.int (a3)), some (.int (a4)), none, none]) rfl ?_
  intro p e s m args below meth c ad0 C hr _
  have hn9 : True := trivial
  replace C : zC Z p s m args meth c cX8_valueOf 7 RX8 := C
  refine z_iload_n C dX8_valueOf_0 (i := 1) rfl rfl ?_
  refine z_bipush C dX8_valueOf_1 (v := 20) (by decide) ?_
  refine z_imul C dX8_valueOf_3 ?_
  refine z_iload_n C dX8_valueOf_4 (i := 2) rfl rfl ?_
  refine z_iadd C dX8_valueOf_5 ?_
  refine t_topi (fun x6 ex6 => ?_)
  have h := h x6 ex6
  refine z_istore C dX8_valueOf_6 (lc' := [some (.ref (20 + 256 * i)), some (.int (a1)), some (.int (a2)), some (.int (a3)), some (.int (a4)), some (.int (x6)), none]) (by decide) rfl ?_
  refine z_iload_n C dX8_valueOf_8 (i := 3) rfl rfl ?_
  refine z_aload_n C dX8_valueOf_9 (i := 0) rfl rfl ?_
  refine t_get C dX8_valueOf_10 fl_X8_21 (k := 20) (i := i) (by decide) rfl (fg_20_3 _ _ _) ?_
  refine z_iload C dX8_valueOf_13 rfl ?_
  obtain ⟨g15, h⟩ := h
  refine t_iald C dX8_valueOf_15 (k := 58) (i := i) (by decide) rfl (sh_58 _ _ _ _) g15 ?_
  refine z_isub C dX8_valueOf_16 ?_
  refine z_sipush C dX8_valueOf_17 (v := 365) (by decide) ?_
  refine z_idiv C dX8_valueOf_20 (by decide) ?_
  refine t_topi (fun x21 ex21 => ?_)
  have h := h x21 ex21
  refine z_istore C dX8_valueOf_21 (lc' := [some (.ref (20 + 256 * i)), some (.int (a1)), some (.int (a2)), some (.int (a3)), some (.int (a4)), some (.int (x6)), some (.int (x21))]) (by decide) rfl ?_
  refine z_aload_n C dX8_valueOf_23 (i := 0) rfl rfl ?_
  refine t_get C dX8_valueOf_24 fl_X8_24 (k := 20) (i := i) (by decide) rfl (fg_20_4 _ _ _) ?_
  refine z_iload C dX8_valueOf_27 rfl ?_
  obtain ⟨g29, h⟩ := h
  refine t_iald C dX8_valueOf_29 (k := 59) (i := i) (by decide) rfl (sh_59 _ _ _ _) g29 ?_
  refine z_iconst C dX8_valueOf_30 (v := 0) (by decide) ?_
  refine z_bipush C dX8_valueOf_31 (v := 100) (by decide) ?_
  refine z_iload C dX8_valueOf_33 rfl ?_
  refine z_iload C dX8_valueOf_35 rfl ?_
  refine z_imul C dX8_valueOf_37 ?_
  refine z_isub C dX8_valueOf_38 ?_
  refine t_callS C (rest := [.int (zgA st 59 i (x6 : Int32).toNatClampNeg)]) (c2 := 0) (s2 := 0) [.int (0), .int (100 - (a4 * x21))] dX8_valueOf_39 lk_X8_30 ls_J9_max_7cf53 (c_J9_max_7cf53 hfl h) rfl rfl ⟨Nat.le_of_ble_eq_true rfl, Nat.le_of_ble_eq_true rfl⟩ (Nat.le_of_ble_eq_true rfl) ⟨Nat.le_of_ble_eq_true rfl, Nat.le_of_ble_eq_true rfl, Nat.le_of_ble_eq_true rfl, Nat.le_of_ble_eq_true rfl⟩ (k_Ri fun r39 h => ?_)
  refine z_imul C dX8_valueOf_42 ?_
  refine z_bipush C dX8_valueOf_43 (v := 100) (by decide) ?_
  refine z_idiv C dX8_valueOf_45 (by decide) ?_
  exact z_iret C dX8_valueOf_46 hr rfl ⟨rfl, _, rfl, h⟩ (Nat.le_of_ble_eq_true rfl) (Nat.le_of_ble_eq_true rfl)
def w_X8_highest_5 (P : Int32 → Prop) (st : zTs)  : Nat → Nat → Int32 → Int32 → Int32 → Prop
  | 0, _, _, _, _ => False
  | n9 + 1, a0, a2, a3, a4 => (a2 < a4 → P a3) ∧ (¬ a2 < a4 → vp_in a4 12 ∧ (w_J9_max_7cf53 st a3 (zgA st 56 a0 (a4 : Int32).toNatClampNeg) (fun (r19 : Int32) => (∀ x23 : Int32, x23 = a4 + 1 → ((w_X8_highest_5 P st n9) a0 a2 r19 x23)))))
set_option maxHeartbeats 4000000 in
set_option maxRecDepth 100000 in
theorem j_X8_highest_5 {P : Int32 → Prop} {st : zTs}  (hfl : l.stackTraces = false) (C : zC Z p s m args meth c cX8_highest 5 RX8) (hr : meth.sig.returnType = (some .int)) (hn9 : True)  : ∀ (n9 : Nat) (a0 : Nat) (a2 : Int32) (a3 : Int32) (a4 : Int32), w_X8_highest_5 P st n9 a0 a2 a3 a4 → zG Z ad0 h0 p l e ({ frames := 2, cells := 0, slots := 0, locals := 33 } : Room) s m args below meth c (MQ below (zQ Z ad0 h0 (zRi Z st P)) args s 0 0 (zA Z)) 0 0 (zh Z zm1 st) 5 5 [some (.ref (20 + 256 * a0)), none, some (.int (a2)), some (.int (a3)), some (.int (a4))] [] := by
  intro n9
  induction n9 with
  | zero => intro a0 a2 a3 a4 h; exact h.elim
  | succ n9 hK5 =>
    intro a0 a2 a3 a4 h
    rw [w_X8_highest_5] at h
    refine z_iload C dX8_highest_5 rfl ?_
    refine z_iload_n C dX8_highest_7 (i := 2) rfl rfl ?_
    refine z_icmp_gt C dX8_highest_8 (tgt := 29) (by decide) (fun c8 => ?_) (fun c8 => ?_)
    · have h := h.1 c8
      refine z_iload_n C dX8_highest_29 (i := 3) rfl rfl ?_
      exact z_iret C dX8_highest_30 hr rfl ⟨rfl, _, rfl, h⟩ (Nat.le_of_ble_eq_true rfl) (Nat.le_of_ble_eq_true rfl)
    · have h := h.2 c8
      refine z_iload_n C dX8_highest_11 (i := 3) rfl rfl ?_
      refine z_aload_n C dX8_highest_12 (i := 0) rfl rfl ?_
      refine t_get C dX8_highest_13 fl_X8_15 (k := 20) (i := a0) (by decide) rfl (fg_20_1 _ _ _) ?_
      refine z_iload C dX8_highest_16 rfl ?_
      obtain ⟨g18, h⟩ := h
      refine t_iald C dX8_highest_18 (k := 56) (i := a0) (by decide) rfl (sh_56 _ _ _ _) g18 ?_
      refine t_callS C (rest := []) (c2 := 0) (s2 := 0) [.int (a3), .int (zgA st 56 a0 (a4 : Int32).toNatClampNeg)] dX8_highest_19 lk_X8_30 ls_J9_max_7cf53 (c_J9_max_7cf53 hfl h) rfl rfl ⟨Nat.le_of_ble_eq_true rfl, Nat.le_of_ble_eq_true rfl⟩ (Nat.le_of_ble_eq_true rfl) ⟨Nat.le_of_ble_eq_true rfl, Nat.le_of_ble_eq_true rfl, Nat.le_of_ble_eq_true rfl, Nat.le_of_ble_eq_true rfl⟩ (k_Ri fun r19 h => ?_)
      refine z_istore_n C dX8_highest_22 (i := 3) (lc' := [some (.ref (20 + 256 * a0)), none, some (.int (a2)), some (.int (r19)), some (.int (a4))]) rfl (by decide) rfl ?_
      obtain ⟨x23, ex23⟩ : ∃ z : Int32, z = a4 + 1 := ⟨_, rfl⟩
      have h := h x23 ex23
      refine z_iinc C dX8_highest_23 (v := x23) (lc' := [some (.ref (20 + 256 * a0)), none, some (.int (a2)), some (.int (r19)), some (.int (x23))]) rfl (by decide) (by rw [ex23]; rfl) rfl ?_
      refine z_goto C dX8_highest_26 (tgt := 5) (by decide) ?_
      exact t_drop [true, false, true, true, true] rfl (hK5 a0 a2 r19 x23 h)
def w_X8_highest (st : zTs) (i : Nat) (a1 : Int32) (a2 : Int32) (P : Int32 → Prop) : Prop := w_X8_highest_5 P st zfu i a2 (0) a1
set_option maxHeartbeats 4000000 in
set_option maxRecDepth 100000 in
theorem c_X8_highest {Z : zZ} {l : Launch} (hfl : l.stackTraces = false) {st : zTs} {i : Nat} {a1 : Int32} {a2 : Int32} {P : Int32 → Prop} (h : w_X8_highest st i a1 a2 P) : zN Z l yX8_highest cX8_highest 5 (some .int) ({ frames := 2, cells := 0, slots := 0, locals := 33 } : Room) (zh Z zm1 st) [.ref (20 + 256 * i), .int (a1), .int (a2)] (zRi Z st P) := by
  unfold w_X8_highest at h
  refine z_enterN (by decide) (Nat.le_of_ble_eq_true rfl) (lc0 := [some (.ref (20 + 256 * i)), some (.int (a1)), some (.int (a2)), none, none]) rfl ?_
  intro p e s m args below meth c ad0 C hr _
  have hn9 : True := trivial
  replace C : zC Z p s m args meth c cX8_highest 5 RX8 := C
  refine z_iconst C dX8_highest_0 (v := 0) (by decide) ?_
  refine z_istore_n C dX8_highest_1 (i := 3) (lc' := [some (.ref (20 + 256 * i)), some (.int (a1)), some (.int (a2)), some (.int (0)), none]) rfl (by decide) rfl ?_
  refine z_iload_n C dX8_highest_2 (i := 1) rfl rfl ?_
  refine z_istore C dX8_highest_3 (lc' := [some (.ref (20 + 256 * i)), some (.int (a1)), some (.int (a2)), some (.int (0)), some (.int (a1))]) (by decide) rfl ?_
  exact t_drop [true, false, true, true, true] rfl (j_X8_highest_5 hfl C hr hn9  zfu i a2 (0) a1 h)
def w_X8_cellsInAll_4 (P : Int32 → Prop) (st : zTs)  : Nat → Nat → Int32 → Int32 → Prop
  | 0, _, _, _ => False
  | n9 + 1, a0, a1, a2 => (12 ≤ a2 → P a1) ∧ (¬ 12 ≤ a2 → vp_in a2 12 ∧ (∀ x18 : Int32, x18 = a1 + (zgA st 56 a0 (a2 : Int32).toNatClampNeg) → (∀ x19 : Int32, x19 = a2 + 1 → ((w_X8_cellsInAll_4 P st n9) a0 x18 x19))))
set_option maxHeartbeats 4000000 in
set_option maxRecDepth 100000 in
theorem j_X8_cellsInAll_4 {P : Int32 → Prop} {st : zTs}  (hfl : l.stackTraces = false) (C : zC Z p s m args meth c cX8_cellsInAll 3 RX8) (hr : meth.sig.returnType = (some .int)) (hn9 : True)  : ∀ (n9 : Nat) (a0 : Nat) (a1 : Int32) (a2 : Int32), w_X8_cellsInAll_4 P st n9 a0 a1 a2 → zG Z ad0 h0 p l e ({ frames := 1, cells := 0, slots := 0, locals := 12 } : Room) s m args below meth c (MQ below (zQ Z ad0 h0 (zRi Z st P)) args s 0 0 (zA Z)) 0 0 (zh Z zm1 st) 3 4 [some (.ref (20 + 256 * a0)), some (.int (a1)), some (.int (a2))] [] := by
  intro n9
  induction n9 with
  | zero => intro a0 a1 a2 h; exact h.elim
  | succ n9 hK4 =>
    intro a0 a1 a2 h
    rw [w_X8_cellsInAll_4] at h
    refine z_iload_n C dX8_cellsInAll_4 (i := 2) rfl rfl ?_
    refine z_bipush C dX8_cellsInAll_5 (v := 12) (by decide) ?_
    refine z_icmp_ge C dX8_cellsInAll_7 (tgt := 25) (by decide) (fun c7 => ?_) (fun c7 => ?_)
    · have h := h.1 c7
      refine z_iload_n C dX8_cellsInAll_25 (i := 1) rfl rfl ?_
      exact z_iret C dX8_cellsInAll_26 hr rfl ⟨rfl, _, rfl, h⟩ (Nat.le_of_ble_eq_true rfl) (Nat.le_of_ble_eq_true rfl)
    · have h := h.2 c7
      refine z_iload_n C dX8_cellsInAll_10 (i := 1) rfl rfl ?_
      refine z_aload_n C dX8_cellsInAll_11 (i := 0) rfl rfl ?_
      refine t_get C dX8_cellsInAll_12 fl_X8_15 (k := 20) (i := a0) (by decide) rfl (fg_20_1 _ _ _) ?_
      refine z_iload_n C dX8_cellsInAll_15 (i := 2) rfl rfl ?_
      obtain ⟨g16, h⟩ := h
      refine t_iald C dX8_cellsInAll_16 (k := 56) (i := a0) (by decide) rfl (sh_56 _ _ _ _) g16 ?_
      refine z_iadd C dX8_cellsInAll_17 ?_
      refine t_topi (fun x18 ex18 => ?_)
      have h := h x18 ex18
      refine z_istore_n C dX8_cellsInAll_18 (i := 1) (lc' := [some (.ref (20 + 256 * a0)), some (.int (x18)), some (.int (a2))]) rfl (by decide) rfl ?_
      obtain ⟨x19, ex19⟩ : ∃ z : Int32, z = a2 + 1 := ⟨_, rfl⟩
      have h := h x19 ex19
      refine z_iinc C dX8_cellsInAll_19 (v := x19) (lc' := [some (.ref (20 + 256 * a0)), some (.int (x18)), some (.int (x19))]) rfl (by decide) (by rw [ex19]; rfl) rfl ?_
      refine z_goto C dX8_cellsInAll_22 (tgt := 4) (by decide) ?_
      exact t_drop [true, true, true] rfl (hK4 a0 x18 x19 h)
def w_X8_cellsInAll (st : zTs) (i : Nat) (P : Int32 → Prop) : Prop := w_X8_cellsInAll_4 P st zfu i (0) (0)
set_option maxHeartbeats 4000000 in
set_option maxRecDepth 100000 in
theorem c_X8_cellsInAll {Z : zZ} {l : Launch} (hfl : l.stackTraces = false) {st : zTs} {i : Nat} {P : Int32 → Prop} (h : w_X8_cellsInAll st i P) : zN Z l yX8_cellsInAll cX8_cellsInAll 3 (some .int) ({ frames := 1, cells := 0, slots := 0, locals := 12 } : Room) (zh Z zm1 st) [.ref (20 + 256 * i)] (zRi Z st P) := by
  unfold w_X8_cellsInAll at h
  refine z_enterN (by decide) (Nat.le_of_ble_eq_true rfl) (lc0 := [some (.ref (20 + 256 * i)), none, none]) rfl ?_
  intro p e s m args below meth c ad0 C hr _
  have hn9 : True := trivial
  replace C : zC Z p s m args meth c cX8_cellsInAll 3 RX8 := C
  refine z_iconst C dX8_cellsInAll_0 (v := 0) (by decide) ?_
  refine z_istore_n C dX8_cellsInAll_1 (i := 1) (lc' := [some (.ref (20 + 256 * i)), some (.int (0)), none]) rfl (by decide) rfl ?_
  refine z_iconst C dX8_cellsInAll_2 (v := 0) (by decide) ?_
  refine z_istore_n C dX8_cellsInAll_3 (i := 2) (lc' := [some (.ref (20 + 256 * i)), some (.int (0)), some (.int (0))]) rfl (by decide) rfl ?_
  exact t_drop [true, true, true] rfl (j_X8_cellsInAll_4 hfl C hr hn9  zfu i (0) (0) h)
def w_X8_addCell (st : zTs) (i : Nat) (a1 : Int32) (a2 : Int32) (a3 : Int32) (a4 : Int32) (P : zTs → Prop) : Prop := vp_in a1 12 ∧ (((zgA st 56 i (a1 : Int32).toNatClampNeg) < 20 → vp_in a1 12 ∧ (∀ x23 : Int32, x23 = (a1 * 20) + (zgA st 56 i (a1 : Int32).toNatClampNeg) → (vp_in x23 240 ∧ (∀ s32 : zTs, s32 = zuA st 57 i (x23 : Int32).toNatClampNeg a2 → (vp_in x23 240 ∧ (∀ s40 : zTs, s40 = zuA s32 58 i (x23 : Int32).toNatClampNeg a3 → (vp_in x23 240 ∧ (∀ s49 : zTs, s49 = zuA s40 59 i (x23 : Int32).toNatClampNeg a4 → (vp_in x23 240 ∧ (∀ s59 : zTs, s59 = zuA s49 60 i (x23 : Int32).toNatClampNeg (1 <<< (a2 &&& 31)) → (vp_in a1 12 ∧ (vp_in a1 12 ∧ (∀ s69 : zTs, s69 = zuA s59 56 i (a1 : Int32).toNatClampNeg ((zgA s59 56 i (a1 : Int32).toNatClampNeg) + 1) → (P s69)))))))))))))) ∧ (¬ (zgA st 56 i (a1 : Int32).toNatClampNeg) < 20 → P st))
set_option maxHeartbeats 4000000 in
set_option maxRecDepth 100000 in
theorem c_X8_addCell {Z : zZ} {l : Launch} (hfl : l.stackTraces = false) {st : zTs} {i : Nat} {a1 : Int32} {a2 : Int32} {a3 : Int32} {a4 : Int32} {P : zTs → Prop} (h : w_X8_addCell st i a1 a2 a3 a4 P) : zN Z l yX8_addCell cX8_addCell 6 none ({ frames := 1, cells := 0, slots := 0, locals := 12 } : Room) (zh Z zm1 st) [.ref (20 + 256 * i), .int (a1), .int (a2), .int (a3), .int (a4)] (zWv Z zm1 P) := by
  unfold w_X8_addCell at h
  refine z_enterN (by decide) (Nat.le_of_ble_eq_true rfl) (lc0 := [some (.ref (20 + 256 * i)), some (.int (a1)), some (.int (a2)), some (.int (a3)), some (.int (a4)), none]) rfl ?_
  intro p e s m args below meth c ad0 C hr _
  have hn9 : True := trivial
  replace C : zC Z p s m args meth c cX8_addCell 6 RX8 := C
  refine z_aload_n C dX8_addCell_0 (i := 0) rfl rfl ?_
  refine t_get C dX8_addCell_1 fl_X8_15 (k := 20) (i := i) (by decide) rfl (fg_20_1 _ _ _) ?_
  refine z_iload_n C dX8_addCell_4 (i := 1) rfl rfl ?_
  obtain ⟨g5, h⟩ := h
  refine t_iald C dX8_addCell_5 (k := 56) (i := i) (by decide) rfl (sh_56 _ _ _ _) g5 ?_
  refine z_bipush C dX8_addCell_6 (v := 20) (by decide) ?_
  refine z_icmp_lt C dX8_addCell_8 (tgt := 12) (by decide) (fun c8 => ?_) (fun c8 => ?_)
  · have h := h.1 c8
    refine z_iload_n C dX8_addCell_12 (i := 1) rfl rfl ?_
    refine z_bipush C dX8_addCell_13 (v := 20) (by decide) ?_
    refine z_imul C dX8_addCell_15 ?_
    refine z_aload_n C dX8_addCell_16 (i := 0) rfl rfl ?_
    refine t_get C dX8_addCell_17 fl_X8_15 (k := 20) (i := i) (by decide) rfl (fg_20_1 _ _ _) ?_
    refine z_iload_n C dX8_addCell_20 (i := 1) rfl rfl ?_
    obtain ⟨g21, h⟩ := h
    refine t_iald C dX8_addCell_21 (k := 56) (i := i) (by decide) rfl (sh_56 _ _ _ _) g21 ?_
    refine z_iadd C dX8_addCell_22 ?_
    refine t_topi (fun x23 ex23 => ?_)
    have h := h x23 ex23
    refine z_istore C dX8_addCell_23 (lc' := [some (.ref (20 + 256 * i)), some (.int (a1)), some (.int (a2)), some (.int (a3)), some (.int (a4)), some (.int (x23))]) (by decide) rfl ?_
    refine z_aload_n C dX8_addCell_25 (i := 0) rfl rfl ?_
    refine t_get C dX8_addCell_26 fl_X8_18 (k := 20) (i := i) (by decide) rfl (fg_20_2 _ _ _) ?_
    refine z_iload C dX8_addCell_29 rfl ?_
    refine z_iload_n C dX8_addCell_31 (i := 2) rfl rfl ?_
    obtain ⟨g32, h⟩ := h
    refine t_iast C dX8_addCell_32 (k := 57) (i := i) (by decide) rfl (fun s9 => sh_57 _ _ s9 _) g32 ?_
    refine t_tops (fun s32 es32 => ?_)
    have h := h s32 es32
    refine z_aload_n C dX8_addCell_33 (i := 0) rfl rfl ?_
    refine t_get C dX8_addCell_34 fl_X8_21 (k := 20) (i := i) (by decide) rfl (fg_20_3 _ _ _) ?_
    refine z_iload C dX8_addCell_37 rfl ?_
    refine z_iload_n C dX8_addCell_39 (i := 3) rfl rfl ?_
    obtain ⟨g40, h⟩ := h
    refine t_iast C dX8_addCell_40 (k := 58) (i := i) (by decide) rfl (fun s9 => sh_58 _ _ s9 _) g40 ?_
    refine t_tops (fun s40 es40 => ?_)
    have h := h s40 es40
    refine z_aload_n C dX8_addCell_41 (i := 0) rfl rfl ?_
    refine t_get C dX8_addCell_42 fl_X8_24 (k := 20) (i := i) (by decide) rfl (fg_20_4 _ _ _) ?_
    refine z_iload C dX8_addCell_45 rfl ?_
    refine z_iload C dX8_addCell_47 rfl ?_
    obtain ⟨g49, h⟩ := h
    refine t_iast C dX8_addCell_49 (k := 59) (i := i) (by decide) rfl (fun s9 => sh_59 _ _ s9 _) g49 ?_
    refine t_tops (fun s49 es49 => ?_)
    have h := h s49 es49
    refine z_aload_n C dX8_addCell_50 (i := 0) rfl rfl ?_
    refine t_get C dX8_addCell_51 fl_X8_27 (k := 20) (i := i) (by decide) rfl (fg_20_5 _ _ _) ?_
    refine z_iload C dX8_addCell_54 rfl ?_
    refine z_iconst C dX8_addCell_56 (v := 1) (by decide) ?_
    refine z_iload_n C dX8_addCell_57 (i := 2) rfl rfl ?_
    refine z_ishl C dX8_addCell_58 ?_
    obtain ⟨g59, h⟩ := h
    refine t_iast C dX8_addCell_59 (k := 60) (i := i) (by decide) rfl (fun s9 => sh_60 _ _ s9 _) g59 ?_
    refine t_tops (fun s59 es59 => ?_)
    have h := h s59 es59
    refine z_aload_n C dX8_addCell_60 (i := 0) rfl rfl ?_
    refine t_get C dX8_addCell_61 fl_X8_15 (k := 20) (i := i) (by decide) rfl (fg_20_1 _ _ _) ?_
    refine z_iload_n C dX8_addCell_64 (i := 1) rfl rfl ?_
    refine z_dup2 C dX8_addCell_65 rfl rfl ?_
    obtain ⟨g66, h⟩ := h
    refine t_iald C dX8_addCell_66 (k := 56) (i := i) (by decide) rfl (sh_56 _ _ _ _) g66 ?_
    refine z_iconst C dX8_addCell_67 (v := 1) (by decide) ?_
    refine z_iadd C dX8_addCell_68 ?_
    obtain ⟨g69, h⟩ := h
    refine t_iast C dX8_addCell_69 (k := 56) (i := i) (by decide) rfl (fun s9 => sh_56 _ _ s9 _) g69 ?_
    refine t_tops (fun s69 es69 => ?_)
    have h := h s69 es69
    exact z_vret C dX8_addCell_70 hr ⟨_, rfl, rfl, h⟩ (Nat.le_of_ble_eq_true rfl) (Nat.le_of_ble_eq_true rfl)
  · have h := h.2 c8
    exact z_vret C dX8_addCell_11 hr ⟨_, rfl, rfl, h⟩ (Nat.le_of_ble_eq_true rfl) (Nat.le_of_ble_eq_true rfl)
def w_X8_takeHighestOff_35 (P : Int32 → zTs → Prop) (K5 : zTs → Nat → Int32 → Int32 → Int32 → Prop) (st : zTs) (a0 : Nat) (a2 : Int32) (a3 : Int32) (a4 : Int32) : Prop := ∀ x35 : Int32, x35 = a4 + 1 → (K5 st a0 a2 a3 x35)
set_option maxHeartbeats 4000000 in
set_option maxRecDepth 100000 in
theorem j_X8_takeHighestOff_35 {P : Int32 → zTs → Prop} {K5 : zTs → Nat → Int32 → Int32 → Int32 → Prop} (hfl : l.stackTraces = false) (C : zC Z p s m args meth c cX8_takeHighestOff 5 RX8) (hr : meth.sig.returnType = (some .int)) (hn9 : True) (hK5 : ∀ (st : zTs) (a0 : Nat) (a2 : Int32) (a3 : Int32) (a4 : Int32), K5 st a0 a2 a3 a4 → zG Z ad0 h0 p l e ({ frames := 1, cells := 0, slots := 0, locals := 12 } : Room) s m args below meth c (MQ below (zQ Z ad0 h0 (zWi Z P)) args s 0 0 (zA Z)) 0 0 (zh Z zm1 st) 5 5 [some (.ref (20 + 256 * a0)), none, some (.int (a2)), some (.int (a3)), some (.int (a4))] []) (st : zTs) (a0 : Nat) (a2 : Int32) (a3 : Int32) (a4 : Int32) (h : w_X8_takeHighestOff_35 P K5 st a0 a2 a3 a4) : zG Z ad0 h0 p l e ({ frames := 1, cells := 0, slots := 0, locals := 12 } : Room) s m args below meth c (MQ below (zQ Z ad0 h0 (zWi Z P)) args s 0 0 (zA Z)) 0 0 (zh Z zm1 st) 5 35 [some (.ref (20 + 256 * a0)), none, some (.int (a2)), some (.int (a3)), some (.int (a4))] [] := by
  unfold w_X8_takeHighestOff_35 at h
  obtain ⟨x35, ex35⟩ : ∃ z : Int32, z = a4 + 1 := ⟨_, rfl⟩
  have h := h x35 ex35
  refine z_iinc C dX8_takeHighestOff_35 (v := x35) (lc' := [some (.ref (20 + 256 * a0)), none, some (.int (a2)), some (.int (a3)), some (.int (x35))]) rfl (by decide) (by rw [ex35]; rfl) rfl ?_
  refine z_goto C dX8_takeHighestOff_38 (tgt := 5) (by decide) ?_
  exact t_drop [true, false, true, true, true] rfl (hK5 st a0 a2 a3 x35 h)
def w_X8_takeHighestOff_5 (P : Int32 → zTs → Prop)  : Nat → zTs → Nat → Int32 → Int32 → Int32 → Prop
  | 0, _, _, _, _, _ => False
  | n9 + 1, st, a0, a2, a3, a4 => (a2 < a4 → P a3 st) ∧ (¬ a2 < a4 → vp_in a4 12 ∧ (((zgA st 56 a0 (a4 : Int32).toNatClampNeg) ≤ 0 → w_X8_takeHighestOff_35 P (w_X8_takeHighestOff_5 P n9) st a0 a2 a3 a4) ∧ (¬ (zgA st 56 a0 (a4 : Int32).toNatClampNeg) ≤ 0 → vp_in a4 12 ∧ (vp_in a4 12 ∧ (∀ s31 : zTs, s31 = zuA st 56 a0 (a4 : Int32).toNatClampNeg ((zgA st 56 a0 (a4 : Int32).toNatClampNeg) - 1) → (∀ x32 : Int32, x32 = a3 + 1 → (w_X8_takeHighestOff_35 P (w_X8_takeHighestOff_5 P n9) s31 a0 a2 x32 a4)))))))
set_option maxHeartbeats 4000000 in
set_option maxRecDepth 100000 in
theorem j_X8_takeHighestOff_5 {P : Int32 → zTs → Prop}  (hfl : l.stackTraces = false) (C : zC Z p s m args meth c cX8_takeHighestOff 5 RX8) (hr : meth.sig.returnType = (some .int)) (hn9 : True)  : ∀ (n9 : Nat) (st : zTs) (a0 : Nat) (a2 : Int32) (a3 : Int32) (a4 : Int32), w_X8_takeHighestOff_5 P n9 st a0 a2 a3 a4 → zG Z ad0 h0 p l e ({ frames := 1, cells := 0, slots := 0, locals := 12 } : Room) s m args below meth c (MQ below (zQ Z ad0 h0 (zWi Z P)) args s 0 0 (zA Z)) 0 0 (zh Z zm1 st) 5 5 [some (.ref (20 + 256 * a0)), none, some (.int (a2)), some (.int (a3)), some (.int (a4))] [] := by
  intro n9
  induction n9 with
  | zero => intro st a0 a2 a3 a4 h; exact h.elim
  | succ n9 hK5 =>
    intro st a0 a2 a3 a4 h
    rw [w_X8_takeHighestOff_5] at h
    refine z_iload C dX8_takeHighestOff_5 rfl ?_
    refine z_iload_n C dX8_takeHighestOff_7 (i := 2) rfl rfl ?_
    refine z_icmp_gt C dX8_takeHighestOff_8 (tgt := 41) (by decide) (fun c8 => ?_) (fun c8 => ?_)
    · have h := h.1 c8
      refine z_iload_n C dX8_takeHighestOff_41 (i := 3) rfl rfl ?_
      exact z_iret C dX8_takeHighestOff_42 hr rfl ⟨_, _, rfl, rfl, h⟩ (Nat.le_of_ble_eq_true rfl) (Nat.le_of_ble_eq_true rfl)
    · have h := h.2 c8
      refine z_aload_n C dX8_takeHighestOff_11 (i := 0) rfl rfl ?_
      refine t_get C dX8_takeHighestOff_12 fl_X8_15 (k := 20) (i := a0) (by decide) rfl (fg_20_1 _ _ _) ?_
      refine z_iload C dX8_takeHighestOff_15 rfl ?_
      obtain ⟨g17, h⟩ := h
      refine t_iald C dX8_takeHighestOff_17 (k := 56) (i := a0) (by decide) rfl (sh_56 _ _ _ _) g17 ?_
      refine z_if_le C dX8_takeHighestOff_18 (tgt := 35) (by decide) (fun c18 => ?_) (fun c18 => ?_)
      · have h := h.1 c18
        exact t_drop [true, false, true, true, true] rfl (j_X8_takeHighestOff_35 hfl C hr hn9 hK5 st a0 a2 a3 a4 h)
      · have h := h.2 c18
        refine z_aload_n C dX8_takeHighestOff_21 (i := 0) rfl rfl ?_
        refine t_get C dX8_takeHighestOff_22 fl_X8_15 (k := 20) (i := a0) (by decide) rfl (fg_20_1 _ _ _) ?_
        refine z_iload C dX8_takeHighestOff_25 rfl ?_
        refine z_dup2 C dX8_takeHighestOff_27 rfl rfl ?_
        obtain ⟨g28, h⟩ := h
        refine t_iald C dX8_takeHighestOff_28 (k := 56) (i := a0) (by decide) rfl (sh_56 _ _ _ _) g28 ?_
        refine z_iconst C dX8_takeHighestOff_29 (v := 1) (by decide) ?_
        refine z_isub C dX8_takeHighestOff_30 ?_
        obtain ⟨g31, h⟩ := h
        refine t_iast C dX8_takeHighestOff_31 (k := 56) (i := a0) (by decide) rfl (fun s9 => sh_56 _ _ s9 _) g31 ?_
        refine t_tops (fun s31 es31 => ?_)
        have h := h s31 es31
        obtain ⟨x32, ex32⟩ : ∃ z : Int32, z = a3 + 1 := ⟨_, rfl⟩
        have h := h x32 ex32
        refine z_iinc C dX8_takeHighestOff_32 (v := x32) (lc' := [some (.ref (20 + 256 * a0)), none, some (.int (a2)), some (.int (x32)), some (.int (a4))]) rfl (by decide) (by rw [ex32]; rfl) rfl ?_
        exact t_drop [true, false, true, true, true] rfl (j_X8_takeHighestOff_35 hfl C hr hn9 hK5 s31 a0 a2 x32 a4 h)
def w_X8_takeHighestOff (st : zTs) (i : Nat) (a1 : Int32) (a2 : Int32) (P : Int32 → zTs → Prop) : Prop := w_X8_takeHighestOff_5 P zfu st i a2 (0) a1
set_option maxHeartbeats 4000000 in
set_option maxRecDepth 100000 in
theorem c_X8_takeHighestOff {Z : zZ} {l : Launch} (hfl : l.stackTraces = false) {st : zTs} {i : Nat} {a1 : Int32} {a2 : Int32} {P : Int32 → zTs → Prop} (h : w_X8_takeHighestOff st i a1 a2 P) : zN Z l yX8_takeHighestOff cX8_takeHighestOff 5 (some .int) ({ frames := 1, cells := 0, slots := 0, locals := 12 } : Room) (zh Z zm1 st) [.ref (20 + 256 * i), .int (a1), .int (a2)] (zWi Z P) := by
  unfold w_X8_takeHighestOff at h
  refine z_enterN (by decide) (Nat.le_of_ble_eq_true rfl) (lc0 := [some (.ref (20 + 256 * i)), some (.int (a1)), some (.int (a2)), none, none]) rfl ?_
  intro p e s m args below meth c ad0 C hr _
  have hn9 : True := trivial
  replace C : zC Z p s m args meth c cX8_takeHighestOff 5 RX8 := C
  refine z_iconst C dX8_takeHighestOff_0 (v := 0) (by decide) ?_
  refine z_istore_n C dX8_takeHighestOff_1 (i := 3) (lc' := [some (.ref (20 + 256 * i)), some (.int (a1)), some (.int (a2)), some (.int (0)), none]) rfl (by decide) rfl ?_
  refine z_iload_n C dX8_takeHighestOff_2 (i := 1) rfl rfl ?_
  refine z_istore C dX8_takeHighestOff_3 (lc' := [some (.ref (20 + 256 * i)), some (.int (a1)), some (.int (a2)), some (.int (0)), some (.int (a1))]) (by decide) rfl ?_
  exact t_drop [true, false, true, true, true] rfl (j_X8_takeHighestOff_5 hfl C hr hn9  zfu st i a2 (0) a1 h)
def w_X8_dueForUse_53 (P : Int32 → Prop) (st : zTs) (K6 : Nat → Int32 → Int32 → Int32 → Int32 → Int32 → Int32 → Int32 → Prop) (a0 : Nat) (a1 : Int32) (a2 : Int32) (a3 : Int32) (a4 : Int32) (a5 : Int32) (a6 : Int32) (a7 : Int32) : Prop := ∀ x53 : Int32, x53 = a7 + 1 → (K6 a0 a1 a2 a3 a4 a5 a6 x53)
set_option maxHeartbeats 4000000 in
set_option maxRecDepth 100000 in
theorem j_X8_dueForUse_53 {P : Int32 → Prop} {st : zTs} {K6 : Nat → Int32 → Int32 → Int32 → Int32 → Int32 → Int32 → Int32 → Prop} (hfl : l.stackTraces = false) (C : zC Z p s m args meth c cX8_dueForUse 8 RX8) (hr : meth.sig.returnType = (some .int)) (hn9 : True) (hK6 : ∀ (a0 : Nat) (a1 : Int32) (a2 : Int32) (a3 : Int32) (a4 : Int32) (a5 : Int32) (a6 : Int32) (a7 : Int32), K6 a0 a1 a2 a3 a4 a5 a6 a7 → zG Z ad0 h0 p l e ({ frames := 3, cells := 0, slots := 0, locals := 59 } : Room) s m args below meth c (MQ below (zQ Z ad0 h0 (zRi Z st P)) args s 0 0 (zA Z)) 0 0 (zh Z zm1 st) 8 6 [some (.ref (20 + 256 * a0)), some (.int (a1)), some (.int (a2)), some (.int (a3)), some (.int (a4)), some (.int (a5)), some (.int (a6)), some (.int (a7))] []) (a0 : Nat) (a1 : Int32) (a2 : Int32) (a3 : Int32) (a4 : Int32) (a5 : Int32) (a6 : Int32) (a7 : Int32) (h : w_X8_dueForUse_53 P st K6 a0 a1 a2 a3 a4 a5 a6 a7) : zG Z ad0 h0 p l e ({ frames := 3, cells := 0, slots := 0, locals := 59 } : Room) s m args below meth c (MQ below (zQ Z ad0 h0 (zRi Z st P)) args s 0 0 (zA Z)) 0 0 (zh Z zm1 st) 8 53 [some (.ref (20 + 256 * a0)), some (.int (a1)), some (.int (a2)), some (.int (a3)), some (.int (a4)), some (.int (a5)), some (.int (a6)), some (.int (a7))] [] := by
  unfold w_X8_dueForUse_53 at h
  obtain ⟨x53, ex53⟩ : ∃ z : Int32, z = a7 + 1 := ⟨_, rfl⟩
  have h := h x53 ex53
  refine z_iinc C dX8_dueForUse_53 (v := x53) (lc' := [some (.ref (20 + 256 * a0)), some (.int (a1)), some (.int (a2)), some (.int (a3)), some (.int (a4)), some (.int (a5)), some (.int (a6)), some (.int (x53))]) rfl (by decide) (by rw [ex53]; rfl) rfl ?_
  refine z_goto C dX8_dueForUse_56 (tgt := 6) (by decide) ?_
  exact t_drop [true, true, true, true, true, true, true, true] rfl (hK6 a0 a1 a2 a3 a4 a5 a6 x53 h)
def w_X8_dueForUse_6 (P : Int32 → Prop) (st : zTs)  : Nat → Nat → Int32 → Int32 → Int32 → Int32 → Int32 → Int32 → Int32 → Prop
  | 0, _, _, _, _, _, _, _, _ => False
  | n9 + 1, a0, a1, a2, a3, a4, a5, a6, a7 => vp_in a1 12 ∧ (w_J9_min_7cf53 st a3 (zgA st 56 a0 (a1 : Int32).toNatClampNeg) (fun (r15 : Int32) => ((r15 ≤ a7 → P a6) ∧ (¬ r15 ≤ a7 → w_X8_usersOf st a0 a1 a7 (fun (r25 : Int32) => ((((r25 >>> (a2 &&& 31)) &&& 1) = 0 → w_X8_valueOf st a0 a1 a7 a4 a5 (fun (r45 : Int32) => (∀ x51 : Int32, x51 = a6 + (r45 / 2) → (w_X8_dueForUse_53 P st (w_X8_dueForUse_6 P st n9) a0 a1 a2 a3 a4 a5 x51 a7)))) ∧ (¬ ((r25 >>> (a2 &&& 31)) &&& 1) = 0 → w_X8_dueForUse_53 P st (w_X8_dueForUse_6 P st n9) a0 a1 a2 a3 a4 a5 a6 a7)))))))
set_option maxHeartbeats 4000000 in
set_option maxRecDepth 100000 in
theorem j_X8_dueForUse_6 {P : Int32 → Prop} {st : zTs}  (hfl : l.stackTraces = false) (C : zC Z p s m args meth c cX8_dueForUse 8 RX8) (hr : meth.sig.returnType = (some .int)) (hn9 : True)  : ∀ (n9 : Nat) (a0 : Nat) (a1 : Int32) (a2 : Int32) (a3 : Int32) (a4 : Int32) (a5 : Int32) (a6 : Int32) (a7 : Int32), w_X8_dueForUse_6 P st n9 a0 a1 a2 a3 a4 a5 a6 a7 → zG Z ad0 h0 p l e ({ frames := 3, cells := 0, slots := 0, locals := 59 } : Room) s m args below meth c (MQ below (zQ Z ad0 h0 (zRi Z st P)) args s 0 0 (zA Z)) 0 0 (zh Z zm1 st) 8 6 [some (.ref (20 + 256 * a0)), some (.int (a1)), some (.int (a2)), some (.int (a3)), some (.int (a4)), some (.int (a5)), some (.int (a6)), some (.int (a7))] [] := by
  intro n9
  induction n9 with
  | zero => intro a0 a1 a2 a3 a4 a5 a6 a7 h; exact h.elim
  | succ n9 hK6 =>
    intro a0 a1 a2 a3 a4 a5 a6 a7 h
    rw [w_X8_dueForUse_6] at h
    refine z_iload C dX8_dueForUse_6 rfl ?_
    refine z_iload_n C dX8_dueForUse_8 (i := 3) rfl rfl ?_
    refine z_aload_n C dX8_dueForUse_9 (i := 0) rfl rfl ?_
    refine t_get C dX8_dueForUse_10 fl_X8_15 (k := 20) (i := a0) (by decide) rfl (fg_20_1 _ _ _) ?_
    refine z_iload_n C dX8_dueForUse_13 (i := 1) rfl rfl ?_
    obtain ⟨g14, h⟩ := h
    refine t_iald C dX8_dueForUse_14 (k := 56) (i := a0) (by decide) rfl (sh_56 _ _ _ _) g14 ?_
    refine t_callS C (rest := [.int (a7)]) (c2 := 0) (s2 := 0) [.int (a3), .int (zgA st 56 a0 (a1 : Int32).toNatClampNeg)] dX8_dueForUse_15 lk_X8_36 ls_J9_min_7cf53 (c_J9_min_7cf53 hfl h) rfl rfl ⟨Nat.le_of_ble_eq_true rfl, Nat.le_of_ble_eq_true rfl⟩ (Nat.le_of_ble_eq_true rfl) ⟨Nat.le_of_ble_eq_true rfl, Nat.le_of_ble_eq_true rfl, Nat.le_of_ble_eq_true rfl, Nat.le_of_ble_eq_true rfl⟩ (k_Ri fun r15 h => ?_)
    refine z_icmp_ge C dX8_dueForUse_18 (tgt := 59) (by decide) (fun c18 => ?_) (fun c18 => ?_)
    · have h := h.1 c18
      refine z_iload C dX8_dueForUse_59 rfl ?_
      exact z_iret C dX8_dueForUse_61 hr rfl ⟨rfl, _, rfl, h⟩ (Nat.le_of_ble_eq_true rfl) (Nat.le_of_ble_eq_true rfl)
    · have h := h.2 c18
      refine z_aload_n C dX8_dueForUse_21 (i := 0) rfl rfl ?_
      refine z_iload_n C dX8_dueForUse_22 (i := 1) rfl rfl ?_
      refine z_iload C dX8_dueForUse_23 rfl ?_
      refine t_callV C (rest := []) (c2 := 0) (s2 := 0) (kd := 20) (i := a0) [.int (a1), .int (a7)] dX8_dueForUse_25 lk_X8_39 li_X8_usersOf le_X8_usersOf (c_X8_usersOf hfl h) rfl rfl (by decide) rfl ⟨_, rfl⟩ rfl ⟨Nat.le_of_ble_eq_true rfl, Nat.le_of_ble_eq_true rfl⟩ (Nat.le_of_ble_eq_true rfl) ⟨Nat.le_of_ble_eq_true rfl, Nat.le_of_ble_eq_true rfl, Nat.le_of_ble_eq_true rfl, Nat.le_of_ble_eq_true rfl⟩ (k_Ri fun r25 h => ?_)
      refine z_iload_n C dX8_dueForUse_28 (i := 2) rfl rfl ?_
      refine z_ishr C dX8_dueForUse_29 ?_
      refine z_iconst C dX8_dueForUse_30 (v := 1) (by decide) ?_
      refine z_iand C dX8_dueForUse_31 ?_
      refine z_if_ne C dX8_dueForUse_32 (tgt := 53) (by decide) (fun c32 => ?_) (fun c32 => ?_)
      · have h := h.2 c32
        exact t_drop [true, true, true, true, true, true, true, true] rfl (j_X8_dueForUse_53 hfl C hr hn9 hK6 a0 a1 a2 a3 a4 a5 a6 a7 h)
      · have h := h.1 c32
        refine z_iload C dX8_dueForUse_35 rfl ?_
        refine z_aload_n C dX8_dueForUse_37 (i := 0) rfl rfl ?_
        refine z_iload_n C dX8_dueForUse_38 (i := 1) rfl rfl ?_
        refine z_iload C dX8_dueForUse_39 rfl ?_
        refine z_iload C dX8_dueForUse_41 rfl ?_
        refine z_iload C dX8_dueForUse_43 rfl ?_
        refine t_callV C (rest := [.int (a6)]) (c2 := 0) (s2 := 0) (kd := 20) (i := a0) [.int (a1), .int (a7), .int (a4), .int (a5)] dX8_dueForUse_45 lk_X8_42 li_X8_valueOf le_X8_valueOf (c_X8_valueOf hfl h) rfl rfl (by decide) rfl ⟨_, rfl⟩ rfl ⟨Nat.le_of_ble_eq_true rfl, Nat.le_of_ble_eq_true rfl⟩ (Nat.le_of_ble_eq_true rfl) ⟨Nat.le_of_ble_eq_true rfl, Nat.le_of_ble_eq_true rfl, Nat.le_of_ble_eq_true rfl, Nat.le_of_ble_eq_true rfl⟩ (k_Ri fun r45 h => ?_)
        refine z_iconst C dX8_dueForUse_48 (v := 2) (by decide) ?_
        refine z_idiv C dX8_dueForUse_49 (by decide) ?_
        refine z_iadd C dX8_dueForUse_50 ?_
        refine t_topi (fun x51 ex51 => ?_)
        have h := h x51 ex51
        refine z_istore C dX8_dueForUse_51 (lc' := [some (.ref (20 + 256 * a0)), some (.int (a1)), some (.int (a2)), some (.int (a3)), some (.int (a4)), some (.int (a5)), some (.int (x51)), some (.int (a7))]) (by decide) rfl ?_
        exact t_drop [true, true, true, true, true, true, true, true] rfl (j_X8_dueForUse_53 hfl C hr hn9 hK6 a0 a1 a2 a3 a4 a5 x51 a7 h)
def w_X8_dueForUse (st : zTs) (i : Nat) (a1 : Int32) (a2 : Int32) (a3 : Int32) (a4 : Int32) (a5 : Int32) (P : Int32 → Prop) : Prop := w_X8_dueForUse_6 P st zfu i a1 a2 a3 a4 a5 (0) (0)
set_option maxHeartbeats 4000000 in
set_option maxRecDepth 100000 in
theorem c_X8_dueForUse {Z : zZ} {l : Launch} (hfl : l.stackTraces = false) {st : zTs} {i : Nat} {a1 : Int32} {a2 : Int32} {a3 : Int32} {a4 : Int32} {a5 : Int32} {P : Int32 → Prop} (h : w_X8_dueForUse st i a1 a2 a3 a4 a5 P) : zN Z l yX8_dueForUse cX8_dueForUse 8 (some .int) ({ frames := 3, cells := 0, slots := 0, locals := 59 } : Room) (zh Z zm1 st) [.ref (20 + 256 * i), .int (a1), .int (a2), .int (a3), .int (a4), .int (a5)] (zRi Z st P) := by
  unfold w_X8_dueForUse at h
  refine z_enterN (by decide) (Nat.le_of_ble_eq_true rfl) (lc0 := [some (.ref (20 + 256 * i)), some (.int (a1)), some (.int (a2)), some (.int (a3)), some (.int (a4)), some (.int (a5)), none, none]) rfl ?_
  intro p e s m args below meth c ad0 C hr _
  have hn9 : True := trivial
  replace C : zC Z p s m args meth c cX8_dueForUse 8 RX8 := C
  refine z_iconst C dX8_dueForUse_0 (v := 0) (by decide) ?_
  refine z_istore C dX8_dueForUse_1 (lc' := [some (.ref (20 + 256 * i)), some (.int (a1)), some (.int (a2)), some (.int (a3)), some (.int (a4)), some (.int (a5)), some (.int (0)), none]) (by decide) rfl ?_
  refine z_iconst C dX8_dueForUse_3 (v := 0) (by decide) ?_
  refine z_istore C dX8_dueForUse_4 (lc' := [some (.ref (20 + 256 * i)), some (.int (a1)), some (.int (a2)), some (.int (a3)), some (.int (a4)), some (.int (a5)), some (.int (0)), some (.int (0))]) (by decide) rfl ?_
  exact t_drop [true, true, true, true, true, true, true, true] rfl (j_X8_dueForUse_6 hfl C hr hn9  zfu i a1 a2 a3 a4 a5 (0) (0) h)
def w_X8_markUsed_3 (P : zTs → Prop)  : Nat → zTs → Nat → Int32 → Int32 → Int32 → Int32 → Prop
  | 0, _, _, _, _, _, _ => False
  | n9 + 1, st, a0, a1, a2, a3, a4 => vp_in a1 12 ∧ (w_J9_min_7cf53 st a3 (zgA st 56 a0 (a1 : Int32).toNatClampNeg) (fun (r12 : Int32) => ((r12 ≤ a4 → P st) ∧ (¬ r12 ≤ a4 → vp_in ((a1 * 20) + a4) 240 ∧ (vp_in ((a1 * 20) + a4) 240 ∧ (∀ s35 : zTs, s35 = zuA st 60 a0 ((a1 * 20) + a4 : Int32).toNatClampNeg ((zgA st 60 a0 ((a1 * 20) + a4 : Int32).toNatClampNeg) ||| (1 <<< (a2 &&& 31))) → (∀ x36 : Int32, x36 = a4 + 1 → ((w_X8_markUsed_3 P n9) s35 a0 a1 a2 a3 x36))))))))
set_option maxHeartbeats 4000000 in
set_option maxRecDepth 100000 in
theorem j_X8_markUsed_3 {P : zTs → Prop}  (hfl : l.stackTraces = false) (C : zC Z p s m args meth c cX8_markUsed 5 RX8) (hr : meth.sig.returnType = none) (hn9 : True)  : ∀ (n9 : Nat) (st : zTs) (a0 : Nat) (a1 : Int32) (a2 : Int32) (a3 : Int32) (a4 : Int32), w_X8_markUsed_3 P n9 st a0 a1 a2 a3 a4 → zG Z ad0 h0 p l e ({ frames := 2, cells := 0, slots := 0, locals := 33 } : Room) s m args below meth c (MQ below (zQ Z ad0 h0 (zWv Z zm1 P)) args s 0 0 (zA Z)) 0 0 (zh Z zm1 st) 5 3 [some (.ref (20 + 256 * a0)), some (.int (a1)), some (.int (a2)), some (.int (a3)), some (.int (a4))] [] := by
  intro n9
  induction n9 with
  | zero => intro st a0 a1 a2 a3 a4 h; exact h.elim
  | succ n9 hK3 =>
    intro st a0 a1 a2 a3 a4 h
    rw [w_X8_markUsed_3] at h
    refine z_iload C dX8_markUsed_3 rfl ?_
    refine z_iload_n C dX8_markUsed_5 (i := 3) rfl rfl ?_
    refine z_aload_n C dX8_markUsed_6 (i := 0) rfl rfl ?_
    refine t_get C dX8_markUsed_7 fl_X8_15 (k := 20) (i := a0) (by decide) rfl (fg_20_1 _ _ _) ?_
    refine z_iload_n C dX8_markUsed_10 (i := 1) rfl rfl ?_
    obtain ⟨g11, h⟩ := h
    refine t_iald C dX8_markUsed_11 (k := 56) (i := a0) (by decide) rfl (sh_56 _ _ _ _) g11 ?_
    refine t_callS C (rest := [.int (a4)]) (c2 := 0) (s2 := 0) [.int (a3), .int (zgA st 56 a0 (a1 : Int32).toNatClampNeg)] dX8_markUsed_12 lk_X8_36 ls_J9_min_7cf53 (c_J9_min_7cf53 hfl h) rfl rfl ⟨Nat.le_of_ble_eq_true rfl, Nat.le_of_ble_eq_true rfl⟩ (Nat.le_of_ble_eq_true rfl) ⟨Nat.le_of_ble_eq_true rfl, Nat.le_of_ble_eq_true rfl, Nat.le_of_ble_eq_true rfl, Nat.le_of_ble_eq_true rfl⟩ (k_Ri fun r12 h => ?_)
    refine z_icmp_ge C dX8_markUsed_15 (tgt := 42) (by decide) (fun c15 => ?_) (fun c15 => ?_)
    · have h := h.1 c15
      exact z_vret C dX8_markUsed_42 hr ⟨_, rfl, rfl, h⟩ (Nat.le_of_ble_eq_true rfl) (Nat.le_of_ble_eq_true rfl)
    · have h := h.2 c15
      refine z_aload_n C dX8_markUsed_18 (i := 0) rfl rfl ?_
      refine t_get C dX8_markUsed_19 fl_X8_27 (k := 20) (i := a0) (by decide) rfl (fg_20_5 _ _ _) ?_
      refine z_iload_n C dX8_markUsed_22 (i := 1) rfl rfl ?_
      refine z_bipush C dX8_markUsed_23 (v := 20) (by decide) ?_
      refine z_imul C dX8_markUsed_25 ?_
      refine z_iload C dX8_markUsed_26 rfl ?_
      refine z_iadd C dX8_markUsed_28 ?_
      refine z_dup2 C dX8_markUsed_29 rfl rfl ?_
      obtain ⟨g30, h⟩ := h
      refine t_iald C dX8_markUsed_30 (k := 60) (i := a0) (by decide) rfl (sh_60 _ _ _ _) g30 ?_
      refine z_iconst C dX8_markUsed_31 (v := 1) (by decide) ?_
      refine z_iload_n C dX8_markUsed_32 (i := 2) rfl rfl ?_
      refine z_ishl C dX8_markUsed_33 ?_
      refine z_ior C dX8_markUsed_34 ?_
      obtain ⟨g35, h⟩ := h
      refine t_iast C dX8_markUsed_35 (k := 60) (i := a0) (by decide) rfl (fun s9 => sh_60 _ _ s9 _) g35 ?_
      refine t_tops (fun s35 es35 => ?_)
      have h := h s35 es35
      obtain ⟨x36, ex36⟩ : ∃ z : Int32, z = a4 + 1 := ⟨_, rfl⟩
      have h := h x36 ex36
      refine z_iinc C dX8_markUsed_36 (v := x36) (lc' := [some (.ref (20 + 256 * a0)), some (.int (a1)), some (.int (a2)), some (.int (a3)), some (.int (x36))]) rfl (by decide) (by rw [ex36]; rfl) rfl ?_
      refine z_goto C dX8_markUsed_39 (tgt := 3) (by decide) ?_
      exact t_drop [true, true, true, true, true] rfl (hK3 s35 a0 a1 a2 a3 x36 h)
def w_X8_markUsed (st : zTs) (i : Nat) (a1 : Int32) (a2 : Int32) (a3 : Int32) (P : zTs → Prop) : Prop := w_X8_markUsed_3 P zfu st i a1 a2 a3 (0)
set_option maxHeartbeats 4000000 in
set_option maxRecDepth 100000 in
theorem c_X8_markUsed {Z : zZ} {l : Launch} (hfl : l.stackTraces = false) {st : zTs} {i : Nat} {a1 : Int32} {a2 : Int32} {a3 : Int32} {P : zTs → Prop} (h : w_X8_markUsed st i a1 a2 a3 P) : zN Z l yX8_markUsed cX8_markUsed 5 none ({ frames := 2, cells := 0, slots := 0, locals := 33 } : Room) (zh Z zm1 st) [.ref (20 + 256 * i), .int (a1), .int (a2), .int (a3)] (zWv Z zm1 P) := by
  unfold w_X8_markUsed at h
  refine z_enterN (by decide) (Nat.le_of_ble_eq_true rfl) (lc0 := [some (.ref (20 + 256 * i)), some (.int (a1)), some (.int (a2)), some (.int (a3)), none]) rfl ?_
  intro p e s m args below meth c ad0 C hr _
  have hn9 : True := trivial
  replace C : zC Z p s m args meth c cX8_markUsed 5 RX8 := C
  refine z_iconst C dX8_markUsed_0 (v := 0) (by decide) ?_
  refine z_istore C dX8_markUsed_1 (lc' := [some (.ref (20 + 256 * i)), some (.int (a1)), some (.int (a2)), some (.int (a3)), some (.int (0))]) (by decide) rfl ?_
  exact t_drop [true, true, true, true, true] rfl (j_X8_markUsed_3 hfl C hr hn9  zfu st i a1 a2 a3 (0) h)
def w_X10_ownerThere (st : zTs) (i : Nat) (P : Int32 → Prop) : Prop := w_X8_ownerOf st (zgP st 21 i 0) (zgF st 21 i 1) (fun (r8 : Int32) => (P r8))
set_option maxHeartbeats 4000000 in
set_option maxRecDepth 100000 in
theorem c_X10_ownerThere {Z : zZ} {l : Launch} (hfl : l.stackTraces = false) {st : zTs} {i : Nat} {P : Int32 → Prop} (h : w_X10_ownerThere st i P) : zN Z l yX10_ownerThere cX10_ownerThere 1 (some .int) ({ frames := 2, cells := 0, slots := 0, locals := 33 } : Room) (zh Z zm1 st) [.ref (21 + 256 * i)] (zRi Z st P) := by
  unfold w_X10_ownerThere at h
  refine z_enterN (by decide) (Nat.le_of_ble_eq_true rfl) (lc0 := [some (.ref (21 + 256 * i))]) rfl ?_
  intro p e s m args below meth c ad0 C hr _
  have hn9 : True := trivial
  replace C : zC Z p s m args meth c cX10_ownerThere 1 RX10 := C
  refine z_aload_n C dX10_ownerThere_0 (i := 0) rfl rfl ?_
  refine t_get C dX10_ownerThere_1 fl_X10_43 (k := 21) (i := i) (by decide) rfl (fg_21_0 _ _ _) ?_
  refine z_aload_n C dX10_ownerThere_4 (i := 0) rfl rfl ?_
  refine t_get C dX10_ownerThere_5 fl_X10_47 (k := 21) (i := i) (by decide) rfl (fg_21_1 _ _ _) ?_
  refine t_callV C (rest := []) (c2 := 0) (s2 := 0) (kd := 20) (i := zgP st 21 i 0) [.int (zgF st 21 i 1)] dX10_ownerThere_8 lk_X10_60 li_X8_ownerOf le_X8_ownerOf (c_X8_ownerOf hfl h) rfl rfl (by decide) rfl ⟨_, rfl⟩ rfl ⟨Nat.le_of_ble_eq_true rfl, Nat.le_of_ble_eq_true rfl⟩ (Nat.le_of_ble_eq_true rfl) ⟨Nat.le_of_ble_eq_true rfl, Nat.le_of_ble_eq_true rfl, Nat.le_of_ble_eq_true rfl, Nat.le_of_ble_eq_true rfl⟩ (k_Ri fun r8 h => ?_)
  exact z_iret C dX10_ownerThere_11 hr rfl ⟨rfl, _, rfl, h⟩ (Nat.le_of_ble_eq_true rfl) (Nat.le_of_ble_eq_true rfl)
def w_X10_neighbour (st : zTs) (i : Nat) (P : Int32 → Prop) : Prop := w_X8_ownerOf st (zgP st 21 i 0) (1 - (zgF st 21 i 1)) (fun (r10 : Int32) => (P r10))
set_option maxHeartbeats 4000000 in
set_option maxRecDepth 100000 in
theorem c_X10_neighbour {Z : zZ} {l : Launch} (hfl : l.stackTraces = false) {st : zTs} {i : Nat} {P : Int32 → Prop} (h : w_X10_neighbour st i P) : zN Z l yX10_neighbour cX10_neighbour 1 (some .int) ({ frames := 2, cells := 0, slots := 0, locals := 33 } : Room) (zh Z zm1 st) [.ref (21 + 256 * i)] (zRi Z st P) := by
  unfold w_X10_neighbour at h
  refine z_enterN (by decide) (Nat.le_of_ble_eq_true rfl) (lc0 := [some (.ref (21 + 256 * i))]) rfl ?_
  intro p e s m args below meth c ad0 C hr _
  have hn9 : True := trivial
  replace C : zC Z p s m args meth c cX10_neighbour 1 RX10 := C
  refine z_aload_n C dX10_neighbour_0 (i := 0) rfl rfl ?_
  refine t_get C dX10_neighbour_1 fl_X10_43 (k := 21) (i := i) (by decide) rfl (fg_21_0 _ _ _) ?_
  refine z_iconst C dX10_neighbour_4 (v := 1) (by decide) ?_
  refine z_aload_n C dX10_neighbour_5 (i := 0) rfl rfl ?_
  refine t_get C dX10_neighbour_6 fl_X10_47 (k := 21) (i := i) (by decide) rfl (fg_21_1 _ _ _) ?_
  refine z_isub C dX10_neighbour_9 ?_
  refine t_callV C (rest := []) (c2 := 0) (s2 := 0) (kd := 20) (i := zgP st 21 i 0) [.int (1 - (zgF st 21 i 1))] dX10_neighbour_10 lk_X10_60 li_X8_ownerOf le_X8_ownerOf (c_X8_ownerOf hfl h) rfl rfl (by decide) rfl ⟨_, rfl⟩ rfl ⟨Nat.le_of_ble_eq_true rfl, Nat.le_of_ble_eq_true rfl⟩ (Nat.le_of_ble_eq_true rfl) ⟨Nat.le_of_ble_eq_true rfl, Nat.le_of_ble_eq_true rfl, Nat.le_of_ble_eq_true rfl, Nat.le_of_ble_eq_true rfl⟩ (k_Ri fun r10 h => ?_)
  exact z_iret C dX10_neighbour_13 hr rfl ⟨rfl, _, rfl, h⟩ (Nat.le_of_ble_eq_true rfl) (Nat.le_of_ble_eq_true rfl)
def w_X10_ask (st : zTs) (i : Nat) (a1 : Int32) (P : zTs → Prop) : Prop := ∀ s2 : zTs, s2 = zuF st 21 i 4 2 → (∀ s15 : zTs, s15 = zuF s2 21 i 5 (a1 + (zgF s2 24 (zgP s2 21 i 3) 3)) → (w_X5_countFrom s15 (zgP s15 21 i 3) (zgF s15 21 i 5) (zgF s15 24 (zgP s15 21 i 3) 5) (fun (r34 : Int32) => (∀ s37 : zTs, s37 = zuF s15 21 i 6 r34 → (P s37)))))
set_option maxHeartbeats 4000000 in
set_option maxRecDepth 100000 in
theorem c_X10_ask {Z : zZ} {l : Launch} (hfl : l.stackTraces = false) {st : zTs} {i : Nat} {a1 : Int32} {P : zTs → Prop} (h : w_X10_ask st i a1 P) : zN Z l yX10_ask cX10_ask 2 none ({ frames := 3, cells := 0, slots := 0, locals := 58 } : Room) (zh Z zm1 st) [.ref (21 + 256 * i), .int (a1)] (zWv Z zm1 P) := by
  unfold w_X10_ask at h
  refine z_enterN (by decide) (Nat.le_of_ble_eq_true rfl) (lc0 := [some (.ref (21 + 256 * i)), some (.int (a1))]) rfl ?_
  intro p e s m args below meth c ad0 C hr _
  have hn9 : True := trivial
  replace C : zC Z p s m args meth c cX10_ask 2 RX10 := C
  refine z_aload_n C dX10_ask_0 (i := 0) rfl rfl ?_
  refine z_iconst C dX10_ask_1 (v := 2) (by decide) ?_
  refine t_put C dX10_ask_2 fq_X10_57 (Or.inl rfl) (k := 21) (i := i) (by decide) rfl ⟨rfl, rfl⟩ (fp_21_4 _ _ _ _ _) ?_
  refine t_tops (fun s2 es2 => ?_)
  have h := h s2 es2
  refine z_aload_n C dX10_ask_5 (i := 0) rfl rfl ?_
  refine z_iload_n C dX10_ask_6 (i := 1) rfl rfl ?_
  refine z_aload_n C dX10_ask_7 (i := 0) rfl rfl ?_
  refine t_get C dX10_ask_8 fl_X10_53 (k := 21) (i := i) (by decide) rfl (fg_21_3 _ _ _) ?_
  refine t_get C dX10_ask_11 fl_X10_66 (k := 24) (i := zgP s2 21 i 3) (by decide) rfl (fg_24_3 _ _ _) ?_
  refine z_iadd C dX10_ask_14 ?_
  refine t_put C dX10_ask_15 fq_X10_9 (Or.inl rfl) (k := 21) (i := i) (by decide) rfl ⟨rfl, rfl⟩ (fp_21_5 _ _ _ _ _) ?_
  refine t_tops (fun s15 es15 => ?_)
  have h := h s15 es15
  refine z_aload_n C dX10_ask_18 (i := 0) rfl rfl ?_
  refine z_aload_n C dX10_ask_19 (i := 0) rfl rfl ?_
  refine t_get C dX10_ask_20 fl_X10_53 (k := 21) (i := i) (by decide) rfl (fg_21_3 _ _ _) ?_
  refine z_aload_n C dX10_ask_23 (i := 0) rfl rfl ?_
  refine t_get C dX10_ask_24 fl_X10_9 (k := 21) (i := i) (by decide) rfl (fg_21_5 _ _ _) ?_
  refine z_aload_n C dX10_ask_27 (i := 0) rfl rfl ?_
  refine t_get C dX10_ask_28 fl_X10_53 (k := 21) (i := i) (by decide) rfl (fg_21_3 _ _ _) ?_
  refine t_get C dX10_ask_31 fl_X10_71 (k := 24) (i := zgP s15 21 i 3) (by decide) rfl (fg_24_5 _ _ _) ?_
  refine t_callV C (rest := [.ref (21 + 256 * i)]) (c2 := 0) (s2 := 0) (kd := 24) (i := zgP s15 21 i 3) [.int (zgF s15 21 i 5), .int (zgF s15 24 (zgP s15 21 i 3) 5)] dX10_ask_34 lk_X10_74 li_X5_countFrom le_X5_countFrom (c_X5_countFrom hfl h) rfl rfl (by decide) rfl ⟨_, rfl⟩ rfl ⟨Nat.le_of_ble_eq_true rfl, Nat.le_of_ble_eq_true rfl⟩ (Nat.le_of_ble_eq_true rfl) ⟨Nat.le_of_ble_eq_true rfl, Nat.le_of_ble_eq_true rfl, Nat.le_of_ble_eq_true rfl, Nat.le_of_ble_eq_true rfl⟩ (k_Ri fun r34 h => ?_)
  refine t_put C dX10_ask_37 fq_X10_15 (Or.inl rfl) (k := 21) (i := i) (by decide) rfl ⟨rfl, rfl⟩ (fp_21_6 _ _ _ _ _) ?_
  refine t_tops (fun s37 es37 => ?_)
  have h := h s37 es37
  exact z_vret C dX10_ask_40 hr ⟨_, rfl, rfl, h⟩ (Nat.le_of_ble_eq_true rfl) (Nat.le_of_ble_eq_true rfl)
def w_X10_disputeFromDay (st : zTs) (i : Nat) (a1 : Int32) (P : zTs → Prop) : Prop := ∀ s2 : zTs, s2 = zuF st 21 i 4 4 → (∀ s7 : zTs, s7 = zuF s2 21 i 8 a1 → (P s7))
set_option maxHeartbeats 4000000 in
set_option maxRecDepth 100000 in
theorem c_X10_disputeFromDay {Z : zZ} {l : Launch} (hfl : l.stackTraces = false) {st : zTs} {i : Nat} {a1 : Int32} {P : zTs → Prop} (h : w_X10_disputeFromDay st i a1 P) : zN Z l yX10_disputeFromDay cX10_disputeFromDay 2 none ({ frames := 1, cells := 0, slots := 0, locals := 12 } : Room) (zh Z zm1 st) [.ref (21 + 256 * i), .int (a1)] (zWv Z zm1 P) := by
  unfold w_X10_disputeFromDay at h
  refine z_enterN (by decide) (Nat.le_of_ble_eq_true rfl) (lc0 := [some (.ref (21 + 256 * i)), some (.int (a1))]) rfl ?_
  intro p e s m args below meth c ad0 C hr _
  have hn9 : True := trivial
  replace C : zC Z p s m args meth c cX10_disputeFromDay 2 RX10 := C
  refine z_aload_n C dX10_disputeFromDay_0 (i := 0) rfl rfl ?_
  refine z_iconst C dX10_disputeFromDay_1 (v := 4) (by decide) ?_
  refine t_put C dX10_disputeFromDay_2 fq_X10_57 (Or.inl rfl) (k := 21) (i := i) (by decide) rfl ⟨rfl, rfl⟩ (fp_21_4 _ _ _ _ _) ?_
  refine t_tops (fun s2 es2 => ?_)
  have h := h s2 es2
  refine z_aload_n C dX10_disputeFromDay_5 (i := 0) rfl rfl ?_
  refine z_iload_n C dX10_disputeFromDay_6 (i := 1) rfl rfl ?_
  refine t_put C dX10_disputeFromDay_7 fq_X10_21 (Or.inl rfl) (k := 21) (i := i) (by decide) rfl ⟨rfl, rfl⟩ (fp_21_8 _ _ _ _ _) ?_
  refine t_tops (fun s7 es7 => ?_)
  have h := h s7 es7
  exact z_vret C dX10_disputeFromDay_10 hr ⟨_, rfl, rfl, h⟩ (Nat.le_of_ble_eq_true rfl) (Nat.le_of_ble_eq_true rfl)
def w_X10_allowByNotice (st : zTs) (i : Nat) (P : zTs → Prop) : Prop := ∀ s2 : zTs, s2 = zuF st 21 i 4 3 → (vp_in (zgF s2 21 i 2) 4 ∧ (∀ s23 : zTs, s23 = zuF s2 21 i 7 ((zgF s2 21 i 5) + (zgA s2 66 (zgP s2 21 i 3) (zgF s2 21 i 2 : Int32).toNatClampNeg)) → (P s23)))
set_option maxHeartbeats 4000000 in
set_option maxRecDepth 100000 in
theorem c_X10_allowByNotice {Z : zZ} {l : Launch} (hfl : l.stackTraces = false) {st : zTs} {i : Nat} {P : zTs → Prop} (h : w_X10_allowByNotice st i P) : zN Z l yX10_allowByNotice cX10_allowByNotice 1 none ({ frames := 1, cells := 0, slots := 0, locals := 12 } : Room) (zh Z zm1 st) [.ref (21 + 256 * i)] (zWv Z zm1 P) := by
  unfold w_X10_allowByNotice at h
  refine z_enterN (by decide) (Nat.le_of_ble_eq_true rfl) (lc0 := [some (.ref (21 + 256 * i))]) rfl ?_
  intro p e s m args below meth c ad0 C hr _
  have hn9 : True := trivial
  replace C : zC Z p s m args meth c cX10_allowByNotice 1 RX10 := C
  refine z_aload_n C dX10_allowByNotice_0 (i := 0) rfl rfl ?_
  refine z_iconst C dX10_allowByNotice_1 (v := 3) (by decide) ?_
  refine t_put C dX10_allowByNotice_2 fq_X10_57 (Or.inl rfl) (k := 21) (i := i) (by decide) rfl ⟨rfl, rfl⟩ (fp_21_4 _ _ _ _ _) ?_
  refine t_tops (fun s2 es2 => ?_)
  have h := h s2 es2
  refine z_aload_n C dX10_allowByNotice_5 (i := 0) rfl rfl ?_
  refine z_aload_n C dX10_allowByNotice_6 (i := 0) rfl rfl ?_
  refine t_get C dX10_allowByNotice_7 fl_X10_9 (k := 21) (i := i) (by decide) rfl (fg_21_5 _ _ _) ?_
  refine z_aload_n C dX10_allowByNotice_10 (i := 0) rfl rfl ?_
  refine t_get C dX10_allowByNotice_11 fl_X10_53 (k := 21) (i := i) (by decide) rfl (fg_21_3 _ _ _) ?_
  refine t_get C dX10_allowByNotice_14 fl_X10_89 (k := 24) (i := zgP s2 21 i 3) (by decide) rfl (fg_24_1 _ _ _) ?_
  refine z_aload_n C dX10_allowByNotice_17 (i := 0) rfl rfl ?_
  refine t_get C dX10_allowByNotice_18 fl_X10_50 (k := 21) (i := i) (by decide) rfl (fg_21_2 _ _ _) ?_
  obtain ⟨g21, h⟩ := h
  refine t_iald C dX10_allowByNotice_21 (k := 66) (i := zgP s2 21 i 3) (by decide) rfl (sh_66 _ _ _ _) g21 ?_
  refine z_iadd C dX10_allowByNotice_22 ?_
  refine t_put C dX10_allowByNotice_23 fq_X10_18 (Or.inl rfl) (k := 21) (i := i) (by decide) rfl ⟨rfl, rfl⟩ (fp_21_7 _ _ _ _ _) ?_
  refine t_tops (fun s23 es23 => ?_)
  have h := h s23 es23
  exact z_vret C dX10_allowByNotice_26 hr ⟨_, rfl, rfl, h⟩ (Nat.le_of_ble_eq_true rfl) (Nat.le_of_ble_eq_true rfl)
def w_X10_hearSilence (st : zTs) (i : Nat) (a1 : Int32) (P : zTs → Prop) : Prop := ((zgF st 21 i 4) = 2 → ((zgF st 21 i 6) < a1 → ((zgF st 24 (zgP st 21 i 3) 6) = 0 → w_X10_disputeFromDay st i ((zgF st 21 i 6) + 1) (fun (s41 : zTs) => (P s41))) ∧ (¬ (zgF st 24 (zgP st 21 i 3) 6) = 0 → w_X10_allowByNotice st i (fun (s28 : zTs) => (P s28)))) ∧ (¬ (zgF st 21 i 6) < a1 → P st)) ∧ (¬ (zgF st 21 i 4) = 2 → P st)
set_option maxHeartbeats 4000000 in
set_option maxRecDepth 100000 in
theorem c_X10_hearSilence {Z : zZ} {l : Launch} (hfl : l.stackTraces = false) {st : zTs} {i : Nat} {a1 : Int32} {P : zTs → Prop} (h : w_X10_hearSilence st i a1 P) : zN Z l yX10_hearSilence cX10_hearSilence 2 none ({ frames := 2, cells := 0, slots := 0, locals := 33 } : Room) (zh Z zm1 st) [.ref (21 + 256 * i), .int (a1)] (zWv Z zm1 P) := by
  unfold w_X10_hearSilence at h
  refine z_enterN (by decide) (Nat.le_of_ble_eq_true rfl) (lc0 := [some (.ref (21 + 256 * i)), some (.int (a1))]) rfl ?_
  intro p e s m args below meth c ad0 C hr _
  have hn9 : True := trivial
  replace C : zC Z p s m args meth c cX10_hearSilence 2 RX10 := C
  refine z_aload_n C dX10_hearSilence_0 (i := 0) rfl rfl ?_
  refine t_get C dX10_hearSilence_1 fl_X10_57 (k := 21) (i := i) (by decide) rfl (fg_21_4 _ _ _) ?_
  refine z_iconst C dX10_hearSilence_4 (v := 2) (by decide) ?_
  refine z_icmp_ne C dX10_hearSilence_5 (tgt := 16) (by decide) (fun c5 => ?_) (fun c5 => ?_)
  · have h := h.2 c5
    exact z_vret C dX10_hearSilence_16 hr ⟨_, rfl, rfl, h⟩ (Nat.le_of_ble_eq_true rfl) (Nat.le_of_ble_eq_true rfl)
  · have h := h.1 c5
    refine z_iload_n C dX10_hearSilence_8 (i := 1) rfl rfl ?_
    refine z_aload_n C dX10_hearSilence_9 (i := 0) rfl rfl ?_
    refine t_get C dX10_hearSilence_10 fl_X10_15 (k := 21) (i := i) (by decide) rfl (fg_21_6 _ _ _) ?_
    refine z_icmp_gt C dX10_hearSilence_13 (tgt := 17) (by decide) (fun c13 => ?_) (fun c13 => ?_)
    · have h := h.1 c13
      refine z_aload_n C dX10_hearSilence_17 (i := 0) rfl rfl ?_
      refine t_get C dX10_hearSilence_18 fl_X10_53 (k := 21) (i := i) (by decide) rfl (fg_21_3 _ _ _) ?_
      refine t_get C dX10_hearSilence_21 fl_X10_78 (k := 24) (i := zgP st 21 i 3) (by decide) rfl (fg_24_6 _ _ _) ?_
      refine z_if_eq C dX10_hearSilence_24 (tgt := 34) (by decide) (fun c24 => ?_) (fun c24 => ?_)
      · have h := h.1 c24
        refine z_aload_n C dX10_hearSilence_34 (i := 0) rfl rfl ?_
        refine z_aload_n C dX10_hearSilence_35 (i := 0) rfl rfl ?_
        refine t_get C dX10_hearSilence_36 fl_X10_15 (k := 21) (i := i) (by decide) rfl (fg_21_6 _ _ _) ?_
        refine z_iconst C dX10_hearSilence_39 (v := 1) (by decide) ?_
        refine z_iadd C dX10_hearSilence_40 ?_
        refine t_callV C (rest := []) (c2 := 0) (s2 := 0) (kd := 21) (i := i) [.int ((zgF st 21 i 6) + 1)] dX10_hearSilence_41 lk_X10_85 li_X10_disputeFromDay le_X10_disputeFromDay (c_X10_disputeFromDay hfl h) rfl rfl (by decide) rfl ⟨_, rfl⟩ rfl ⟨Nat.le_of_ble_eq_true rfl, Nat.le_of_ble_eq_true rfl⟩ (Nat.le_of_ble_eq_true rfl) ⟨Nat.le_of_ble_eq_true rfl, Nat.le_of_ble_eq_true rfl, Nat.le_of_ble_eq_true rfl, Nat.le_of_ble_eq_true rfl⟩ (k_Wv fun s41 h => ?_)
        exact z_vret C dX10_hearSilence_44 hr ⟨_, rfl, rfl, h⟩ (Nat.le_of_ble_eq_true rfl) (Nat.le_of_ble_eq_true rfl)
      · have h := h.2 c24
        refine z_aload_n C dX10_hearSilence_27 (i := 0) rfl rfl ?_
        refine t_callV C (rest := []) (c2 := 0) (s2 := 0) (kd := 21) (i := i) [] dX10_hearSilence_28 lk_X10_82 li_X10_allowByNotice le_X10_allowByNotice (c_X10_allowByNotice hfl h) rfl rfl (by decide) rfl ⟨_, rfl⟩ rfl ⟨Nat.le_of_ble_eq_true rfl, Nat.le_of_ble_eq_true rfl⟩ (Nat.le_of_ble_eq_true rfl) ⟨Nat.le_of_ble_eq_true rfl, Nat.le_of_ble_eq_true rfl, Nat.le_of_ble_eq_true rfl, Nat.le_of_ble_eq_true rfl⟩ (k_Wv fun s28 h => ?_)
        refine z_goto C dX10_hearSilence_31 (tgt := 44) (by decide) ?_
        exact z_vret C dX10_hearSilence_44 hr ⟨_, rfl, rfl, h⟩ (Nat.le_of_ble_eq_true rfl) (Nat.le_of_ble_eq_true rfl)
    · have h := h.2 c13
      exact z_vret C dX10_hearSilence_16 hr ⟨_, rfl, rfl, h⟩ (Nat.le_of_ble_eq_true rfl) (Nat.le_of_ble_eq_true rfl)
def w_X10_appointBy (st : zTs) (i : Nat) (P : Int32 → Prop) : Prop := w_X5_countFrom st (zgP st 21 i 3) (zgF st 21 i 8) (zgF st 24 (zgP st 21 i 3) 7) (fun (r15 : Int32) => (P r15))
set_option maxHeartbeats 4000000 in
set_option maxRecDepth 100000 in
theorem c_X10_appointBy {Z : zZ} {l : Launch} (hfl : l.stackTraces = false) {st : zTs} {i : Nat} {P : Int32 → Prop} (h : w_X10_appointBy st i P) : zN Z l yX10_appointBy cX10_appointBy 1 (some .int) ({ frames := 3, cells := 0, slots := 0, locals := 58 } : Room) (zh Z zm1 st) [.ref (21 + 256 * i)] (zRi Z st P) := by
  unfold w_X10_appointBy at h
  refine z_enterN (by decide) (Nat.le_of_ble_eq_true rfl) (lc0 := [some (.ref (21 + 256 * i))]) rfl ?_
  intro p e s m args below meth c ad0 C hr _
  have hn9 : True := trivial
  replace C : zC Z p s m args meth c cX10_appointBy 1 RX10 := C
  refine z_aload_n C dX10_appointBy_0 (i := 0) rfl rfl ?_
  refine t_get C dX10_appointBy_1 fl_X10_53 (k := 21) (i := i) (by decide) rfl (fg_21_3 _ _ _) ?_
  refine z_aload_n C dX10_appointBy_4 (i := 0) rfl rfl ?_
  refine t_get C dX10_appointBy_5 fl_X10_21 (k := 21) (i := i) (by decide) rfl (fg_21_8 _ _ _) ?_
  refine z_aload_n C dX10_appointBy_8 (i := 0) rfl rfl ?_
  refine t_get C dX10_appointBy_9 fl_X10_53 (k := 21) (i := i) (by decide) rfl (fg_21_3 _ _ _) ?_
  refine t_get C dX10_appointBy_12 fl_X10_92 (k := 24) (i := zgP st 21 i 3) (by decide) rfl (fg_24_7 _ _ _) ?_
  refine t_callV C (rest := []) (c2 := 0) (s2 := 0) (kd := 24) (i := zgP st 21 i 3) [.int (zgF st 21 i 8), .int (zgF st 24 (zgP st 21 i 3) 7)] dX10_appointBy_15 lk_X10_74 li_X5_countFrom le_X5_countFrom (c_X5_countFrom hfl h) rfl rfl (by decide) rfl ⟨_, rfl⟩ rfl ⟨Nat.le_of_ble_eq_true rfl, Nat.le_of_ble_eq_true rfl⟩ (Nat.le_of_ble_eq_true rfl) ⟨Nat.le_of_ble_eq_true rfl, Nat.le_of_ble_eq_true rfl, Nat.le_of_ble_eq_true rfl, Nat.le_of_ble_eq_true rfl⟩ (k_Ri fun r15 h => ?_)
  exact z_iret C dX10_appointBy_18 hr rfl ⟨rfl, _, rfl, h⟩ (Nat.le_of_ble_eq_true rfl) (Nat.le_of_ble_eq_true rfl)
def w_X10_mayBeAppealed (st : zTs) (i : Nat) (P : Int32 → Prop) : Prop := (zgO st 21 i 10 = none → P 0) ∧ (∀ y4, zgO st 21 i 10 = some y4 → ((zgF st 21 i 4) = 3 → P 1) ∧ (¬ (zgF st 21 i 4) = 3 → ((zgF st 21 i 4) = 5 → P 1) ∧ (¬ (zgF st 21 i 4) = 5 → P 0)))
set_option maxHeartbeats 4000000 in
set_option maxRecDepth 100000 in
theorem c_X10_mayBeAppealed {Z : zZ} {l : Launch} (hfl : l.stackTraces = false) {st : zTs} {i : Nat} {P : Int32 → Prop} (h : w_X10_mayBeAppealed st i P) : zN Z l yX10_mayBeAppealed cX10_mayBeAppealed 1 (some .boolean) ({ frames := 1, cells := 0, slots := 0, locals := 12 } : Room) (zh Z zm1 st) [.ref (21 + 256 * i)] (zRi Z st P) := by
  unfold w_X10_mayBeAppealed at h
  refine z_enterN (by decide) (Nat.le_of_ble_eq_true rfl) (lc0 := [some (.ref (21 + 256 * i))]) rfl ?_
  intro p e s m args below meth c ad0 C hr _
  have hn9 : True := trivial
  replace C : zC Z p s m args meth c cX10_mayBeAppealed 1 RX10 := C
  refine z_aload_n C dX10_mayBeAppealed_0 (i := 0) rfl rfl ?_
  refine t_get C dX10_mayBeAppealed_1 fl_X10_99 (k := 21) (i := i) (by decide) rfl (fg_21_10 _ _ _) ?_
  refine z_ifnull C dX10_mayBeAppealed_4 (tgt := 27) (by decide) (fun c4 => ?_) (fun y4 c4 => ?_)
  · have h := h.1 c4
    refine z_iconst C dX10_mayBeAppealed_27 (v := 0) (by decide) ?_
    exact z_iret C dX10_mayBeAppealed_28 hr rfl ⟨rfl, _, rfl, h⟩ (Nat.le_of_ble_eq_true rfl) (Nat.le_of_ble_eq_true rfl)
  · have h := h.2 y4 c4
    refine z_aload_n C dX10_mayBeAppealed_7 (i := 0) rfl rfl ?_
    refine t_get C dX10_mayBeAppealed_8 fl_X10_57 (k := 21) (i := i) (by decide) rfl (fg_21_4 _ _ _) ?_
    refine z_iconst C dX10_mayBeAppealed_11 (v := 3) (by decide) ?_
    refine z_icmp_eq C dX10_mayBeAppealed_12 (tgt := 23) (by decide) (fun c12 => ?_) (fun c12 => ?_)
    · have h := h.1 c12
      refine z_iconst C dX10_mayBeAppealed_23 (v := 1) (by decide) ?_
      refine z_goto C dX10_mayBeAppealed_24 (tgt := 28) (by decide) ?_
      exact z_iret C dX10_mayBeAppealed_28 hr rfl ⟨rfl, _, rfl, h⟩ (Nat.le_of_ble_eq_true rfl) (Nat.le_of_ble_eq_true rfl)
    · have h := h.2 c12
      refine z_aload_n C dX10_mayBeAppealed_15 (i := 0) rfl rfl ?_
      refine t_get C dX10_mayBeAppealed_16 fl_X10_57 (k := 21) (i := i) (by decide) rfl (fg_21_4 _ _ _) ?_
      refine z_iconst C dX10_mayBeAppealed_19 (v := 5) (by decide) ?_
      refine z_icmp_ne C dX10_mayBeAppealed_20 (tgt := 27) (by decide) (fun c20 => ?_) (fun c20 => ?_)
      · have h := h.2 c20
        refine z_iconst C dX10_mayBeAppealed_27 (v := 0) (by decide) ?_
        exact z_iret C dX10_mayBeAppealed_28 hr rfl ⟨rfl, _, rfl, h⟩ (Nat.le_of_ble_eq_true rfl) (Nat.le_of_ble_eq_true rfl)
      · have h := h.1 c20
        refine z_iconst C dX10_mayBeAppealed_23 (v := 1) (by decide) ?_
        refine z_goto C dX10_mayBeAppealed_24 (tgt := 28) (by decide) ?_
        exact z_iret C dX10_mayBeAppealed_28 hr rfl ⟨rfl, _, rfl, h⟩ (Nat.le_of_ble_eq_true rfl) (Nat.le_of_ble_eq_true rfl)
def w_X10_appealBy (st : zTs) (i : Nat) (P : Int32 → Prop) : Prop := w_X5_countFrom st (zgP st 21 i 3) (zgF st 21 i 11) (zgF st 24 (zgP st 21 i 3) 8) (fun (r15 : Int32) => (P r15))
set_option maxHeartbeats 4000000 in
set_option maxRecDepth 100000 in
theorem c_X10_appealBy {Z : zZ} {l : Launch} (hfl : l.stackTraces = false) {st : zTs} {i : Nat} {P : Int32 → Prop} (h : w_X10_appealBy st i P) : zN Z l yX10_appealBy cX10_appealBy 1 (some .int) ({ frames := 3, cells := 0, slots := 0, locals := 58 } : Room) (zh Z zm1 st) [.ref (21 + 256 * i)] (zRi Z st P) := by
  unfold w_X10_appealBy at h
  refine z_enterN (by decide) (Nat.le_of_ble_eq_true rfl) (lc0 := [some (.ref (21 + 256 * i))]) rfl ?_
  intro p e s m args below meth c ad0 C hr _
  have hn9 : True := trivial
  replace C : zC Z p s m args meth c cX10_appealBy 1 RX10 := C
  refine z_aload_n C dX10_appealBy_0 (i := 0) rfl rfl ?_
  refine t_get C dX10_appealBy_1 fl_X10_53 (k := 21) (i := i) (by decide) rfl (fg_21_3 _ _ _) ?_
  refine z_aload_n C dX10_appealBy_4 (i := 0) rfl rfl ?_
  refine t_get C dX10_appealBy_5 fl_X10_27 (k := 21) (i := i) (by decide) rfl (fg_21_11 _ _ _) ?_
  refine z_aload_n C dX10_appealBy_8 (i := 0) rfl rfl ?_
  refine t_get C dX10_appealBy_9 fl_X10_53 (k := 21) (i := i) (by decide) rfl (fg_21_3 _ _ _) ?_
  refine t_get C dX10_appealBy_12 fl_X10_106 (k := 24) (i := zgP st 21 i 3) (by decide) rfl (fg_24_8 _ _ _) ?_
  refine t_callV C (rest := []) (c2 := 0) (s2 := 0) (kd := 24) (i := zgP st 21 i 3) [.int (zgF st 21 i 11), .int (zgF st 24 (zgP st 21 i 3) 8)] dX10_appealBy_15 lk_X10_74 li_X5_countFrom le_X5_countFrom (c_X5_countFrom hfl h) rfl rfl (by decide) rfl ⟨_, rfl⟩ rfl ⟨Nat.le_of_ble_eq_true rfl, Nat.le_of_ble_eq_true rfl⟩ (Nat.le_of_ble_eq_true rfl) ⟨Nat.le_of_ble_eq_true rfl, Nat.le_of_ble_eq_true rfl, Nat.le_of_ble_eq_true rfl, Nat.le_of_ble_eq_true rfl⟩ (k_Ri fun r15 h => ?_)
  exact z_iret C dX10_appealBy_18 hr rfl ⟨rfl, _, rfl, h⟩ (Nat.le_of_ble_eq_true rfl) (Nat.le_of_ble_eq_true rfl)
def w_X10_undoAward (st : zTs) (i : Nat) (a1 : Int32) (P : zTs → Prop) : Prop := ∀ s2 : zTs, s2 = zuO st 21 i 10 none → (∀ s7 : zTs, s7 = zuF s2 21 i 7 (-1) → (∀ s12 : zTs, s12 = zuF s7 21 i 9 (-1) → (w_X10_disputeFromDay s12 i a1 (fun (s17 : zTs) => (P s17)))))
set_option maxHeartbeats 4000000 in
set_option maxRecDepth 100000 in
theorem c_X10_undoAward {Z : zZ} {l : Launch} (hfl : l.stackTraces = false) {st : zTs} {i : Nat} {a1 : Int32} {P : zTs → Prop} (h : w_X10_undoAward st i a1 P) : zN Z l yX10_undoAward cX10_undoAward 2 none ({ frames := 2, cells := 0, slots := 0, locals := 33 } : Room) (zh Z zm1 st) [.ref (21 + 256 * i), .int (a1)] (zWv Z zm1 P) := by
  unfold w_X10_undoAward at h
  refine z_enterN (by decide) (Nat.le_of_ble_eq_true rfl) (lc0 := [some (.ref (21 + 256 * i)), some (.int (a1))]) rfl ?_
  intro p e s m args below meth c ad0 C hr _
  have hn9 : True := trivial
  replace C : zC Z p s m args meth c cX10_undoAward 2 RX10 := C
  refine z_aload_n C dX10_undoAward_0 (i := 0) rfl rfl ?_
  refine z_aconst_null C dX10_undoAward_1 ?_
  refine t_put C dX10_undoAward_2 fq_X10_99 (Or.inl rfl) (k := 21) (i := i) (by decide) rfl ⟨rfl, rfl⟩ (fp_21_10 _ _ _ _ none) ?_
  refine t_tops (fun s2 es2 => ?_)
  have h := h s2 es2
  refine z_aload_n C dX10_undoAward_5 (i := 0) rfl rfl ?_
  refine z_iconst C dX10_undoAward_6 (v := (-1)) (by decide) ?_
  refine t_put C dX10_undoAward_7 fq_X10_18 (Or.inl rfl) (k := 21) (i := i) (by decide) rfl ⟨rfl, rfl⟩ (fp_21_7 _ _ _ _ _) ?_
  refine t_tops (fun s7 es7 => ?_)
  have h := h s7 es7
  refine z_aload_n C dX10_undoAward_10 (i := 0) rfl rfl ?_
  refine z_iconst C dX10_undoAward_11 (v := (-1)) (by decide) ?_
  refine t_put C dX10_undoAward_12 fq_X10_24 (Or.inl rfl) (k := 21) (i := i) (by decide) rfl ⟨rfl, rfl⟩ (fp_21_9 _ _ _ _ _) ?_
  refine t_tops (fun s12 es12 => ?_)
  have h := h s12 es12
  refine z_aload_n C dX10_undoAward_15 (i := 0) rfl rfl ?_
  refine z_iload_n C dX10_undoAward_16 (i := 1) rfl rfl ?_
  refine t_callV C (rest := []) (c2 := 0) (s2 := 0) (kd := 21) (i := i) [.int (a1)] dX10_undoAward_17 lk_X10_85 li_X10_disputeFromDay le_X10_disputeFromDay (c_X10_disputeFromDay hfl h) rfl rfl (by decide) rfl ⟨_, rfl⟩ rfl ⟨Nat.le_of_ble_eq_true rfl, Nat.le_of_ble_eq_true rfl⟩ (Nat.le_of_ble_eq_true rfl) ⟨Nat.le_of_ble_eq_true rfl, Nat.le_of_ble_eq_true rfl, Nat.le_of_ble_eq_true rfl, Nat.le_of_ble_eq_true rfl⟩ (k_Wv fun s17 h => ?_)
  exact z_vret C dX10_undoAward_20 hr ⟨_, rfl, rfl, h⟩ (Nat.le_of_ble_eq_true rfl) (Nat.le_of_ble_eq_true rfl)
def w_X10_beginOn_41 (P : zTs → Prop)  (st : zTs) (a0 : Nat) (a1 : Int32) (b0 : Int32) (b1 : Nat) : Prop := ∀ s41 : zTs, s41 = zuF st 21 b1 4 b0 → (∀ s46 : zTs, s46 = zuF s41 21 a0 9 a1 → (P s46))
set_option maxHeartbeats 4000000 in
set_option maxRecDepth 100000 in
theorem j_X10_beginOn_41 {P : zTs → Prop}  (hfl : l.stackTraces = false) (C : zC Z p s m args meth c cX10_beginOn 3 RX10) (hr : meth.sig.returnType = none) (hn9 : True)  (st : zTs) (a0 : Nat) (a1 : Int32) (b0 : Int32) (b1 : Nat) (h : w_X10_beginOn_41 P st a0 a1 b0 b1) : zG Z ad0 h0 p l e ({ frames := 1, cells := 0, slots := 0, locals := 12 } : Room) s m args below meth c (MQ below (zQ Z ad0 h0 (zWv Z zm1 P)) args s 0 0 (zA Z)) 0 0 (zh Z zm1 st) 3 41 [some (.ref (21 + 256 * a0)), some (.int (a1)), none] [.int (b0), .ref (21 + 256 * b1)] := by
  unfold w_X10_beginOn_41 at h
  refine t_put C dX10_beginOn_41 fq_X10_57 (Or.inl rfl) (k := 21) (i := b1) (by decide) rfl ⟨rfl, rfl⟩ (fp_21_4 _ _ _ _ _) ?_
  refine t_tops (fun s41 es41 => ?_)
  have h := h s41 es41
  refine z_aload_n C dX10_beginOn_44 (i := 0) rfl rfl ?_
  refine z_iload_n C dX10_beginOn_45 (i := 1) rfl rfl ?_
  refine t_put C dX10_beginOn_46 fq_X10_24 (Or.inl rfl) (k := 21) (i := a0) (by decide) rfl ⟨rfl, rfl⟩ (fp_21_9 _ _ _ _ _) ?_
  refine t_tops (fun s46 es46 => ?_)
  have h := h s46 es46
  exact z_vret C dX10_beginOn_49 hr ⟨_, rfl, rfl, h⟩ (Nat.le_of_ble_eq_true rfl) (Nat.le_of_ble_eq_true rfl)
def w_X10_beginOn_29 (P : zTs → Prop)  (st : zTs) (a0 : Nat) (a1 : Int32) (b0 : Int32) : Prop := (b0 = 0 → w_X10_beginOn_41 P st a0 a1 (6) a0) ∧ (¬ b0 = 0 → w_X10_beginOn_41 P st a0 a1 (5) a0)
set_option maxHeartbeats 4000000 in
set_option maxRecDepth 100000 in
theorem j_X10_beginOn_29 {P : zTs → Prop}  (hfl : l.stackTraces = false) (C : zC Z p s m args meth c cX10_beginOn 3 RX10) (hr : meth.sig.returnType = none) (hn9 : True)  (st : zTs) (a0 : Nat) (a1 : Int32) (b0 : Int32) (h : w_X10_beginOn_29 P st a0 a1 b0) : zG Z ad0 h0 p l e ({ frames := 1, cells := 0, slots := 0, locals := 12 } : Room) s m args below meth c (MQ below (zQ Z ad0 h0 (zWv Z zm1 P)) args s 0 0 (zA Z)) 0 0 (zh Z zm1 st) 3 29 [some (.ref (21 + 256 * a0)), some (.int (a1)), none] [.int (b0)] := by
  unfold w_X10_beginOn_29 at h
  refine z_istore_n C dX10_beginOn_29 (i := 2) (lc' := [some (.ref (21 + 256 * a0)), some (.int (a1)), some (.int (b0))]) rfl (by decide) rfl ?_
  refine z_aload_n C dX10_beginOn_30 (i := 0) rfl rfl ?_
  refine z_iload_n C dX10_beginOn_31 (i := 2) rfl rfl ?_
  refine z_if_eq C dX10_beginOn_32 (tgt := 39) (by decide) (fun c32 => ?_) (fun c32 => ?_)
  · have h := h.1 c32
    refine z_bipush C dX10_beginOn_39 (v := 6) (by decide) ?_
    exact t_drop [true, true, false] rfl (j_X10_beginOn_41 hfl C hr hn9  st a0 a1 (6) a0 h)
  · have h := h.2 c32
    refine z_iconst C dX10_beginOn_35 (v := 5) (by decide) ?_
    refine z_goto C dX10_beginOn_36 (tgt := 41) (by decide) ?_
    exact t_drop [true, true, false] rfl (j_X10_beginOn_41 hfl C hr hn9  st a0 a1 (5) a0 h)
def w_X10_beginOn_28 (P : zTs → Prop)  (st : zTs) (a0 : Nat) (a1 : Int32) : Prop := w_X10_beginOn_29 P st a0 a1 (0)
set_option maxHeartbeats 4000000 in
set_option maxRecDepth 100000 in
theorem j_X10_beginOn_28 {P : zTs → Prop}  (hfl : l.stackTraces = false) (C : zC Z p s m args meth c cX10_beginOn 3 RX10) (hr : meth.sig.returnType = none) (hn9 : True)  (st : zTs) (a0 : Nat) (a1 : Int32) (h : w_X10_beginOn_28 P st a0 a1) : zG Z ad0 h0 p l e ({ frames := 1, cells := 0, slots := 0, locals := 12 } : Room) s m args below meth c (MQ below (zQ Z ad0 h0 (zWv Z zm1 P)) args s 0 0 (zA Z)) 0 0 (zh Z zm1 st) 3 28 [some (.ref (21 + 256 * a0)), some (.int (a1)), none] [] := by
  unfold w_X10_beginOn_28 at h
  refine z_iconst C dX10_beginOn_28 (v := 0) (by decide) ?_
  exact t_drop [true, true, false] rfl (j_X10_beginOn_29 hfl C hr hn9  st a0 a1 (0) h)
def w_X10_beginOn (st : zTs) (i : Nat) (a1 : Int32) (P : zTs → Prop) : Prop := ((zgF st 21 i 4) = 1 → w_X10_beginOn_29 P st i a1 (1)) ∧ (¬ (zgF st 21 i 4) = 1 → ((zgF st 21 i 4) = 3 → (a1 < (zgF st 21 i 7) → w_X10_beginOn_28 P st i a1) ∧ (¬ a1 < (zgF st 21 i 7) → w_X10_beginOn_29 P st i a1 (1))) ∧ (¬ (zgF st 21 i 4) = 3 → w_X10_beginOn_28 P st i a1))
set_option maxHeartbeats 4000000 in
set_option maxRecDepth 100000 in
theorem c_X10_beginOn {Z : zZ} {l : Launch} (hfl : l.stackTraces = false) {st : zTs} {i : Nat} {a1 : Int32} {P : zTs → Prop} (h : w_X10_beginOn st i a1 P) : zN Z l yX10_beginOn cX10_beginOn 3 none ({ frames := 1, cells := 0, slots := 0, locals := 12 } : Room) (zh Z zm1 st) [.ref (21 + 256 * i), .int (a1)] (zWv Z zm1 P) := by
  unfold w_X10_beginOn at h
  refine z_enterN (by decide) (Nat.le_of_ble_eq_true rfl) (lc0 := [some (.ref (21 + 256 * i)), some (.int (a1)), none]) rfl ?_
  intro p e s m args below meth c ad0 C hr _
  have hn9 : True := trivial
  replace C : zC Z p s m args meth c cX10_beginOn 3 RX10 := C
  refine z_aload_n C dX10_beginOn_0 (i := 0) rfl rfl ?_
  refine t_get C dX10_beginOn_1 fl_X10_57 (k := 21) (i := i) (by decide) rfl (fg_21_4 _ _ _) ?_
  refine z_iconst C dX10_beginOn_4 (v := 1) (by decide) ?_
  refine z_icmp_eq C dX10_beginOn_5 (tgt := 24) (by decide) (fun c5 => ?_) (fun c5 => ?_)
  · have h := h.1 c5
    refine z_iconst C dX10_beginOn_24 (v := 1) (by decide) ?_
    refine z_goto C dX10_beginOn_25 (tgt := 29) (by decide) ?_
    exact t_drop [true, true, false] rfl (j_X10_beginOn_29 hfl C hr hn9  st i a1 (1) h)
  · have h := h.2 c5
    refine z_aload_n C dX10_beginOn_8 (i := 0) rfl rfl ?_
    refine t_get C dX10_beginOn_9 fl_X10_57 (k := 21) (i := i) (by decide) rfl (fg_21_4 _ _ _) ?_
    refine z_iconst C dX10_beginOn_12 (v := 3) (by decide) ?_
    refine z_icmp_ne C dX10_beginOn_13 (tgt := 28) (by decide) (fun c13 => ?_) (fun c13 => ?_)
    · have h := h.2 c13
      exact t_drop [true, true, false] rfl (j_X10_beginOn_28 hfl C hr hn9  st i a1 h)
    · have h := h.1 c13
      refine z_iload_n C dX10_beginOn_16 (i := 1) rfl rfl ?_
      refine z_aload_n C dX10_beginOn_17 (i := 0) rfl rfl ?_
      refine t_get C dX10_beginOn_18 fl_X10_18 (k := 21) (i := i) (by decide) rfl (fg_21_7 _ _ _) ?_
      refine z_icmp_lt C dX10_beginOn_21 (tgt := 28) (by decide) (fun c21 => ?_) (fun c21 => ?_)
      · have h := h.1 c21
        exact t_drop [true, true, false] rfl (j_X10_beginOn_28 hfl C hr hn9  st i a1 h)
      · have h := h.2 c21
        refine z_iconst C dX10_beginOn_24 (v := 1) (by decide) ?_
        refine z_goto C dX10_beginOn_25 (tgt := 29) (by decide) ?_
        exact t_drop [true, true, false] rfl (j_X10_beginOn_29 hfl C hr hn9  st i a1 (1) h)
def w_X10_firstHour (st : zTs) (i : Nat) (P : Int32 → Prop) : Prop := (zgO st 21 i 10 = none → P (zgF st 24 (zgP st 21 i 3) 12)) ∧ (∀ y4, zgO st 21 i 10 = some y4 → P ((zgF st 25 y4 1) / 100))
set_option maxHeartbeats 4000000 in
set_option maxRecDepth 100000 in
theorem c_X10_firstHour {Z : zZ} {l : Launch} (hfl : l.stackTraces = false) {st : zTs} {i : Nat} {P : Int32 → Prop} (h : w_X10_firstHour st i P) : zN Z l yX10_firstHour cX10_firstHour 1 (some .int) ({ frames := 1, cells := 0, slots := 0, locals := 12 } : Room) (zh Z zm1 st) [.ref (21 + 256 * i)] (zRi Z st P) := by
  unfold w_X10_firstHour at h
  refine z_enterN (by decide) (Nat.le_of_ble_eq_true rfl) (lc0 := [some (.ref (21 + 256 * i))]) rfl ?_
  intro p e s m args below meth c ad0 C hr _
  have hn9 : True := trivial
  replace C : zC Z p s m args meth c cX10_firstHour 1 RX10 := C
  refine z_aload_n C dX10_firstHour_0 (i := 0) rfl rfl ?_
  refine t_get C dX10_firstHour_1 fl_X10_99 (k := 21) (i := i) (by decide) rfl (fg_21_10 _ _ _) ?_
  refine z_ifnull C dX10_firstHour_4 (tgt := 20) (by decide) (fun c4 => ?_) (fun y4 c4 => ?_)
  · have h := h.1 c4
    refine z_aload_n C dX10_firstHour_20 (i := 0) rfl rfl ?_
    refine t_get C dX10_firstHour_21 fl_X10_53 (k := 21) (i := i) (by decide) rfl (fg_21_3 _ _ _) ?_
    refine t_get C dX10_firstHour_24 fl_X10_123 (k := 24) (i := zgP st 21 i 3) (by decide) rfl (fg_24_12 _ _ _) ?_
    exact z_iret C dX10_firstHour_27 hr rfl ⟨rfl, _, rfl, h⟩ (Nat.le_of_ble_eq_true rfl) (Nat.le_of_ble_eq_true rfl)
  · have h := h.2 y4 c4
    refine z_aload_n C dX10_firstHour_7 (i := 0) rfl rfl ?_
    refine t_get C dX10_firstHour_8 fl_X10_99 (k := 21) (i := i) (by decide) rfl (fg_21_10 _ _ _) ?_
    rw [c4]
    refine t_same (lc' := [some (.ref (21 + 256 * i))]) (stk' := [.ref (25 + 256 * y4)]) rfl rfl ?_
    refine t_get C dX10_firstHour_11 fl_X10_120 (k := 25) (i := y4) (by decide) rfl (fg_25_1 _ _ _) ?_
    refine z_bipush C dX10_firstHour_14 (v := 100) (by decide) ?_
    refine z_idiv C dX10_firstHour_16 (by decide) ?_
    refine z_goto C dX10_firstHour_17 (tgt := 27) (by decide) ?_
    exact z_iret C dX10_firstHour_27 hr rfl ⟨rfl, _, rfl, h⟩ (Nat.le_of_ble_eq_true rfl) (Nat.le_of_ble_eq_true rfl)
def w_X10_endHour (st : zTs) (i : Nat) (P : Int32 → Prop) : Prop := (zgO st 21 i 10 = none → P (zgF st 24 (zgP st 21 i 3) 13)) ∧ (∀ y4, zgO st 21 i 10 = some y4 → P ((zgF st 25 y4 1) - (zgF st 25 y4 1) / 100 * 100))
set_option maxHeartbeats 4000000 in
set_option maxRecDepth 100000 in
theorem c_X10_endHour {Z : zZ} {l : Launch} (hfl : l.stackTraces = false) {st : zTs} {i : Nat} {P : Int32 → Prop} (h : w_X10_endHour st i P) : zN Z l yX10_endHour cX10_endHour 1 (some .int) ({ frames := 1, cells := 0, slots := 0, locals := 12 } : Room) (zh Z zm1 st) [.ref (21 + 256 * i)] (zRi Z st P) := by
  unfold w_X10_endHour at h
  refine z_enterN (by decide) (Nat.le_of_ble_eq_true rfl) (lc0 := [some (.ref (21 + 256 * i))]) rfl ?_
  intro p e s m args below meth c ad0 C hr _
  have hn9 : True := trivial
  replace C : zC Z p s m args meth c cX10_endHour 1 RX10 := C
  refine z_aload_n C dX10_endHour_0 (i := 0) rfl rfl ?_
  refine t_get C dX10_endHour_1 fl_X10_99 (k := 21) (i := i) (by decide) rfl (fg_21_10 _ _ _) ?_
  refine z_ifnull C dX10_endHour_4 (tgt := 20) (by decide) (fun c4 => ?_) (fun y4 c4 => ?_)
  · have h := h.1 c4
    refine z_aload_n C dX10_endHour_20 (i := 0) rfl rfl ?_
    refine t_get C dX10_endHour_21 fl_X10_53 (k := 21) (i := i) (by decide) rfl (fg_21_3 _ _ _) ?_
    refine t_get C dX10_endHour_24 fl_X10_125 (k := 24) (i := zgP st 21 i 3) (by decide) rfl (fg_24_13 _ _ _) ?_
    exact z_iret C dX10_endHour_27 hr rfl ⟨rfl, _, rfl, h⟩ (Nat.le_of_ble_eq_true rfl) (Nat.le_of_ble_eq_true rfl)
  · have h := h.2 y4 c4
    refine z_aload_n C dX10_endHour_7 (i := 0) rfl rfl ?_
    refine t_get C dX10_endHour_8 fl_X10_99 (k := 21) (i := i) (by decide) rfl (fg_21_10 _ _ _) ?_
    rw [c4]
    refine t_same (lc' := [some (.ref (21 + 256 * i))]) (stk' := [.ref (25 + 256 * y4)]) rfl rfl ?_
    refine t_get C dX10_endHour_11 fl_X10_120 (k := 25) (i := y4) (by decide) rfl (fg_25_1 _ _ _) ?_
    refine z_bipush C dX10_endHour_14 (v := 100) (by decide) ?_
    refine z_irem C dX10_endHour_16 (by decide) ?_
    refine z_goto C dX10_endHour_17 (tgt := 27) (by decide) ?_
    exact z_iret C dX10_endHour_27 hr rfl ⟨rfl, _, rfl, h⟩ (Nat.le_of_ble_eq_true rfl) (Nat.le_of_ble_eq_true rfl)
def w_X10_mayBeEntered (st : zTs) (i : Nat) (a1 : Int32) (a2 : Int32) (P : Int32 → Prop) : Prop := w_X5_restsOn st (zgP st 21 i 3) a1 (fun (r5 : Int32) => ((r5 = 0 → w_X10_firstHour st i (fun (r13 : Int32) => ((a2 < r13 → P 0) ∧ (¬ a2 < r13 → w_X10_endHour st i (fun (r21 : Int32) => ((r21 ≤ a2 → P 0) ∧ (¬ r21 ≤ a2 → P 1))))))) ∧ (¬ r5 = 0 → P 0)))
set_option maxHeartbeats 4000000 in
set_option maxRecDepth 100000 in
theorem c_X10_mayBeEntered {Z : zZ} {l : Launch} (hfl : l.stackTraces = false) {st : zTs} {i : Nat} {a1 : Int32} {a2 : Int32} {P : Int32 → Prop} (h : w_X10_mayBeEntered st i a1 a2 P) : zN Z l yX10_mayBeEntered cX10_mayBeEntered 3 (some .boolean) ({ frames := 2, cells := 0, slots := 0, locals := 33 } : Room) (zh Z zm1 st) [.ref (21 + 256 * i), .int (a1), .int (a2)] (zRi Z st P) := by
  unfold w_X10_mayBeEntered at h
  refine z_enterN (by decide) (Nat.le_of_ble_eq_true rfl) (lc0 := [some (.ref (21 + 256 * i)), some (.int (a1)), some (.int (a2))]) rfl ?_
  intro p e s m args below meth c ad0 C hr _
  have hn9 : True := trivial
  replace C : zC Z p s m args meth c cX10_mayBeEntered 3 RX10 := C
  refine z_aload_n C dX10_mayBeEntered_0 (i := 0) rfl rfl ?_
  refine t_get C dX10_mayBeEntered_1 fl_X10_53 (k := 21) (i := i) (by decide) rfl (fg_21_3 _ _ _) ?_
  refine z_iload_n C dX10_mayBeEntered_4 (i := 1) rfl rfl ?_
  refine t_callV C (rest := []) (c2 := 0) (s2 := 0) (kd := 24) (i := zgP st 21 i 3) [.int (a1)] dX10_mayBeEntered_5 lk_X10_109 li_X5_restsOn le_X5_restsOn (c_X5_restsOn hfl h) rfl rfl (by decide) rfl ⟨_, rfl⟩ rfl ⟨Nat.le_of_ble_eq_true rfl, Nat.le_of_ble_eq_true rfl⟩ (Nat.le_of_ble_eq_true rfl) ⟨Nat.le_of_ble_eq_true rfl, Nat.le_of_ble_eq_true rfl, Nat.le_of_ble_eq_true rfl, Nat.le_of_ble_eq_true rfl⟩ (k_Ri fun r5 h => ?_)
  refine z_if_ne C dX10_mayBeEntered_8 (tgt := 31) (by decide) (fun c8 => ?_) (fun c8 => ?_)
  · have h := h.2 c8
    refine z_iconst C dX10_mayBeEntered_31 (v := 0) (by decide) ?_
    exact z_iret C dX10_mayBeEntered_32 hr rfl ⟨rfl, _, rfl, h⟩ (Nat.le_of_ble_eq_true rfl) (Nat.le_of_ble_eq_true rfl)
  · have h := h.1 c8
    refine z_iload_n C dX10_mayBeEntered_11 (i := 2) rfl rfl ?_
    refine z_aload_n C dX10_mayBeEntered_12 (i := 0) rfl rfl ?_
    refine t_callV C (rest := [.int (a2)]) (c2 := 0) (s2 := 0) (kd := 21) (i := i) [] dX10_mayBeEntered_13 lk_X10_113 li_X10_firstHour le_X10_firstHour (c_X10_firstHour hfl h) rfl rfl (by decide) rfl ⟨_, rfl⟩ rfl ⟨Nat.le_of_ble_eq_true rfl, Nat.le_of_ble_eq_true rfl⟩ (Nat.le_of_ble_eq_true rfl) ⟨Nat.le_of_ble_eq_true rfl, Nat.le_of_ble_eq_true rfl, Nat.le_of_ble_eq_true rfl, Nat.le_of_ble_eq_true rfl⟩ (k_Ri fun r13 h => ?_)
    refine z_icmp_lt C dX10_mayBeEntered_16 (tgt := 31) (by decide) (fun c16 => ?_) (fun c16 => ?_)
    · have h := h.1 c16
      refine z_iconst C dX10_mayBeEntered_31 (v := 0) (by decide) ?_
      exact z_iret C dX10_mayBeEntered_32 hr rfl ⟨rfl, _, rfl, h⟩ (Nat.le_of_ble_eq_true rfl) (Nat.le_of_ble_eq_true rfl)
    · have h := h.2 c16
      refine z_iload_n C dX10_mayBeEntered_19 (i := 2) rfl rfl ?_
      refine z_aload_n C dX10_mayBeEntered_20 (i := 0) rfl rfl ?_
      refine t_callV C (rest := [.int (a2)]) (c2 := 0) (s2 := 0) (kd := 21) (i := i) [] dX10_mayBeEntered_21 lk_X10_117 li_X10_endHour le_X10_endHour (c_X10_endHour hfl h) rfl rfl (by decide) rfl ⟨_, rfl⟩ rfl ⟨Nat.le_of_ble_eq_true rfl, Nat.le_of_ble_eq_true rfl⟩ (Nat.le_of_ble_eq_true rfl) ⟨Nat.le_of_ble_eq_true rfl, Nat.le_of_ble_eq_true rfl, Nat.le_of_ble_eq_true rfl, Nat.le_of_ble_eq_true rfl⟩ (k_Ri fun r21 h => ?_)
      refine z_icmp_ge C dX10_mayBeEntered_24 (tgt := 31) (by decide) (fun c24 => ?_) (fun c24 => ?_)
      · have h := h.1 c24
        refine z_iconst C dX10_mayBeEntered_31 (v := 0) (by decide) ?_
        exact z_iret C dX10_mayBeEntered_32 hr rfl ⟨rfl, _, rfl, h⟩ (Nat.le_of_ble_eq_true rfl) (Nat.le_of_ble_eq_true rfl)
      · have h := h.2 c24
        refine z_iconst C dX10_mayBeEntered_27 (v := 1) (by decide) ?_
        refine z_goto C dX10_mayBeEntered_28 (tgt := 32) (by decide) ?_
        exact z_iret C dX10_mayBeEntered_32 hr rfl ⟨rfl, _, rfl, h⟩ (Nat.le_of_ble_eq_true rfl) (Nat.le_of_ble_eq_true rfl)
def w_X10_share (st : zTs) (i : Nat) (P : Int32 → Prop) : Prop := (zgO st 21 i 10 = none → P 100) ∧ (∀ y4, zgO st 21 i 10 = some y4 → P (zgF st 25 y4 2))
set_option maxHeartbeats 4000000 in
set_option maxRecDepth 100000 in
theorem c_X10_share {Z : zZ} {l : Launch} (hfl : l.stackTraces = false) {st : zTs} {i : Nat} {P : Int32 → Prop} (h : w_X10_share st i P) : zN Z l yX10_share cX10_share 1 (some .int) ({ frames := 1, cells := 0, slots := 0, locals := 12 } : Room) (zh Z zm1 st) [.ref (21 + 256 * i)] (zRi Z st P) := by
  unfold w_X10_share at h
  refine z_enterN (by decide) (Nat.le_of_ble_eq_true rfl) (lc0 := [some (.ref (21 + 256 * i))]) rfl ?_
  intro p e s m args below meth c ad0 C hr _
  have hn9 : True := trivial
  replace C : zC Z p s m args meth c cX10_share 1 RX10 := C
  refine z_aload_n C dX10_share_0 (i := 0) rfl rfl ?_
  refine t_get C dX10_share_1 fl_X10_99 (k := 21) (i := i) (by decide) rfl (fg_21_10 _ _ _) ?_
  refine z_ifnull C dX10_share_4 (tgt := 17) (by decide) (fun c4 => ?_) (fun y4 c4 => ?_)
  · have h := h.1 c4
    refine z_bipush C dX10_share_17 (v := 100) (by decide) ?_
    exact z_iret C dX10_share_19 hr rfl ⟨rfl, _, rfl, h⟩ (Nat.le_of_ble_eq_true rfl) (Nat.le_of_ble_eq_true rfl)
  · have h := h.2 y4 c4
    refine z_aload_n C dX10_share_7 (i := 0) rfl rfl ?_
    refine t_get C dX10_share_8 fl_X10_99 (k := 21) (i := i) (by decide) rfl (fg_21_10 _ _ _) ?_
    rw [c4]
    refine t_same (lc' := [some (.ref (21 + 256 * i))]) (stk' := [.ref (25 + 256 * y4)]) rfl rfl ?_
    refine t_get C dX10_share_11 fl_X10_127 (k := 25) (i := y4) (by decide) rfl (fg_25_2 _ _ _) ?_
    refine z_goto C dX10_share_14 (tgt := 19) (by decide) ?_
    exact z_iret C dX10_share_19 hr rfl ⟨rfl, _, rfl, h⟩ (Nat.le_of_ble_eq_true rfl) (Nat.le_of_ble_eq_true rfl)
end
