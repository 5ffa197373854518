section
variable {Z : zZ} {p : Program} {l : Launch} {e : Env} {s : State} {m : MethodId} {args : Array Value} {below : List Frame} {meth : Method} {c : Code} {ad0 : Nat → Nat} {h0 : zH}
set_option maxRecDepth 100000 in
def w_X1_init (st : zTs) (mk : zMk) (P : zTs → Prop) : Prop := zgN st 44 = 0 ∧ (∀ s8 : zTs, s8 = zuV st 44 300 → (zgN s8 45 = 0 ∧ (∀ s17 : zTs, s17 = zuV s8 45 300 → (zgN s17 46 = 0 ∧ (∀ s26 : zTs, s26 = zuV s17 46 300 → (zgN s26 47 = 0 ∧ (∀ s35 : zTs, s35 = zuV s26 47 300 → (zgN s35 48 = 0 ∧ (∀ s43 : zTs, s43 = zuV s35 48 60 → (zgN s43 49 = 0 ∧ (∀ s51 : zTs, s51 = zuV s43 49 60 → (zgN s51 50 = 0 ∧ (∀ s59 : zTs, s59 = zuV s51 50 60 → (P s59))))))))))))))
set_option maxHeartbeats 4000000 in
set_option maxRecDepth 100000 in
theorem c_X1_init {Z : zZ} {l : Launch} (hfl : l.stackTraces = false) {st : zTs} {mk : zMk} {P : zTs → Prop} (h : w_X1_init st mk P) : zN Z l yX1_init cX1_init 1 none ({ frames := 1, cells := 7, slots := 1380, locals := 20 } : Room) (zh Z mk st) [.ref 11] (zWv Z (zms (zms (zms (zms (zms (zms (zms mk 11 0 0) 11 0 1) 11 0 2) 11 0 3) 11 0 5) 11 0 6) 11 0 7) P) := by
  unfold w_X1_init at h
  refine z_enterN (by decide) (Nat.le_of_ble_eq_true rfl) (lc0 := [some (.ref 11)]) rfl ?_
  intro p e s m args below meth c ad0 C hr hin
  have hn9 : True := trivial
  replace C : zC Z p s m args meth c cX1_init 1 RX1 := C
  refine z_aload_n C dX1_init_0 (i := 0) rfl rfl ?_
  refine z_objInit C dX1_init_1 lo_X1_3 lo_inst lo_code ⟨Nat.le_of_ble_eq_true rfl, Nat.le_of_ble_eq_true rfl⟩ ?_
  refine z_aload_n C dX1_init_4 (i := 0) rfl rfl ?_
  refine z_sipush C dX1_init_5 (v := 300) (by decide) ?_
  obtain ⟨g8, h⟩ := h
  refine t_newa C dX1_init_8 la_int rfl (t := 0) rfl (fun _ => rfl) (by decide) (by decide) (Nat.le_of_ble_eq_true rfl) (by decide) nw_44 (c2 := 1) (s2 := 300) ⟨Nat.le_of_ble_eq_true rfl, Nat.le_of_ble_eq_true rfl, Nat.le_of_ble_eq_true rfl, Nat.le_of_ble_eq_true rfl⟩ ?_
  rw [g8]
  refine t_same (lc' := [some (.ref 11)]) (stk' := [.ref 44, .ref 11]) rfl rfl ?_
  refine t_tops (fun s8 es8 => ?_)
  have h := h s8 es8
  refine t_put C dX1_init_10 fq_X1_9 (Or.inr hin) (k := 11) (i := 0) (by decide) rfl ⟨rfl, rfl⟩ (fp_11_0 _ _ _ _) ?_
  refine z_aload_n C dX1_init_13 (i := 0) rfl rfl ?_
  refine z_sipush C dX1_init_14 (v := 300) (by decide) ?_
  obtain ⟨g17, h⟩ := h
  refine t_newa C dX1_init_17 la_int rfl (t := 0) rfl (fun _ => rfl) (by decide) (by decide) (Nat.le_of_ble_eq_true rfl) (by decide) nw_45 (c2 := 2) (s2 := 600) ⟨Nat.le_of_ble_eq_true rfl, Nat.le_of_ble_eq_true rfl, Nat.le_of_ble_eq_true rfl, Nat.le_of_ble_eq_true rfl⟩ ?_
  rw [g17]
  refine t_same (lc' := [some (.ref 11)]) (stk' := [.ref 45, .ref 11]) rfl rfl ?_
  refine t_tops (fun s17 es17 => ?_)
  have h := h s17 es17
  refine t_put C dX1_init_19 fq_X1_15 (Or.inr hin) (k := 11) (i := 0) (by decide) rfl ⟨rfl, rfl⟩ (fp_11_1 _ _ _ _) ?_
  refine z_aload_n C dX1_init_22 (i := 0) rfl rfl ?_
  refine z_sipush C dX1_init_23 (v := 300) (by decide) ?_
  obtain ⟨g26, h⟩ := h
  refine t_newa C dX1_init_26 la_int rfl (t := 0) rfl (fun _ => rfl) (by decide) (by decide) (Nat.le_of_ble_eq_true rfl) (by decide) nw_46 (c2 := 3) (s2 := 900) ⟨Nat.le_of_ble_eq_true rfl, Nat.le_of_ble_eq_true rfl, Nat.le_of_ble_eq_true rfl, Nat.le_of_ble_eq_true rfl⟩ ?_
  rw [g26]
  refine t_same (lc' := [some (.ref 11)]) (stk' := [.ref 46, .ref 11]) rfl rfl ?_
  refine t_tops (fun s26 es26 => ?_)
  have h := h s26 es26
  refine t_put C dX1_init_28 fq_X1_18 (Or.inr hin) (k := 11) (i := 0) (by decide) rfl ⟨rfl, rfl⟩ (fp_11_2 _ _ _ _) ?_
  refine z_aload_n C dX1_init_31 (i := 0) rfl rfl ?_
  refine z_sipush C dX1_init_32 (v := 300) (by decide) ?_
  obtain ⟨g35, h⟩ := h
  refine t_newa C dX1_init_35 la_int rfl (t := 0) rfl (fun _ => rfl) (by decide) (by decide) (Nat.le_of_ble_eq_true rfl) (by decide) nw_47 (c2 := 4) (s2 := 1200) ⟨Nat.le_of_ble_eq_true rfl, Nat.le_of_ble_eq_true rfl, Nat.le_of_ble_eq_true rfl, Nat.le_of_ble_eq_true rfl⟩ ?_
  rw [g35]
  refine t_same (lc' := [some (.ref 11)]) (stk' := [.ref 47, .ref 11]) rfl rfl ?_
  refine t_tops (fun s35 es35 => ?_)
  have h := h s35 es35
  refine t_put C dX1_init_37 fq_X1_21 (Or.inr hin) (k := 11) (i := 0) (by decide) rfl ⟨rfl, rfl⟩ (fp_11_3 _ _ _ _) ?_
  refine z_aload_n C dX1_init_40 (i := 0) rfl rfl ?_
  refine z_bipush C dX1_init_41 (v := 60) (by decide) ?_
  obtain ⟨g43, h⟩ := h
  refine t_newa C dX1_init_43 la_int rfl (t := 0) rfl (fun _ => rfl) (by decide) (by decide) (Nat.le_of_ble_eq_true rfl) (by decide) nw_48 (c2 := 5) (s2 := 1260) ⟨Nat.le_of_ble_eq_true rfl, Nat.le_of_ble_eq_true rfl, Nat.le_of_ble_eq_true rfl, Nat.le_of_ble_eq_true rfl⟩ ?_
  rw [g43]
  refine t_same (lc' := [some (.ref 11)]) (stk' := [.ref 48, .ref 11]) rfl rfl ?_
  refine t_tops (fun s43 es43 => ?_)
  have h := h s43 es43
  refine t_put C dX1_init_45 fq_X1_24 (Or.inr hin) (k := 11) (i := 0) (by decide) rfl ⟨rfl, rfl⟩ (fp_11_5 _ _ _ _) ?_
  refine z_aload_n C dX1_init_48 (i := 0) rfl rfl ?_
  refine z_bipush C dX1_init_49 (v := 60) (by decide) ?_
  obtain ⟨g51, h⟩ := h
  refine t_newa C dX1_init_51 la_int rfl (t := 0) rfl (fun _ => rfl) (by decide) (by decide) (Nat.le_of_ble_eq_true rfl) (by decide) nw_49 (c2 := 6) (s2 := 1320) ⟨Nat.le_of_ble_eq_true rfl, Nat.le_of_ble_eq_true rfl, Nat.le_of_ble_eq_true rfl, Nat.le_of_ble_eq_true rfl⟩ ?_
  rw [g51]
  refine t_same (lc' := [some (.ref 11)]) (stk' := [.ref 49, .ref 11]) rfl rfl ?_
  refine t_tops (fun s51 es51 => ?_)
  have h := h s51 es51
  refine t_put C dX1_init_53 fq_X1_27 (Or.inr hin) (k := 11) (i := 0) (by decide) rfl ⟨rfl, rfl⟩ (fp_11_6 _ _ _ _) ?_
  refine z_aload_n C dX1_init_56 (i := 0) rfl rfl ?_
  refine z_bipush C dX1_init_57 (v := 60) (by decide) ?_
  obtain ⟨g59, h⟩ := h
  refine t_newa C dX1_init_59 la_int rfl (t := 0) rfl (fun _ => rfl) (by decide) (by decide) (Nat.le_of_ble_eq_true rfl) (by decide) nw_50 (c2 := 7) (s2 := 1380) ⟨Nat.le_of_ble_eq_true rfl, Nat.le_of_ble_eq_true rfl, Nat.le_of_ble_eq_true rfl, Nat.le_of_ble_eq_true rfl⟩ ?_
  rw [g59]
  refine t_same (lc' := [some (.ref 11)]) (stk' := [.ref 50, .ref 11]) rfl rfl ?_
  refine t_tops (fun s59 es59 => ?_)
  have h := h s59 es59
  refine t_put C dX1_init_61 fq_X1_30 (Or.inr hin) (k := 11) (i := 0) (by decide) rfl ⟨rfl, rfl⟩ (fp_11_7 _ _ _ _) ?_
  exact z_vret C dX1_init_64 hr ⟨_, rfl, rfl, h⟩ (Nat.le_of_ble_eq_true rfl) (Nat.le_of_ble_eq_true rfl)
set_option maxRecDepth 100000 in
def w_X2_init (st : zTs) (mk : zMk) (i : Nat) (P : zTs → Prop) : Prop := zgN st 64 = i ∧ (∀ s7 : zTs, s7 = zuV st 64 40 → (zgN s7 65 = i ∧ (∀ s15 : zTs, s15 = zuV s7 65 40 → (P s15))))
set_option maxHeartbeats 4000000 in
set_option maxRecDepth 100000 in
theorem c_X2_init {Z : zZ} {l : Launch} (hfl : l.stackTraces = false) {st : zTs} {mk : zMk} {i : Nat} {P : zTs → Prop} (h : w_X2_init st mk i P) : zN Z l yX2_init cX2_init 1 none ({ frames := 1, cells := 2, slots := 80, locals := 20 } : Room) (zh Z mk st) [.ref (23 + 256 * i)] (zWv Z (zms (zms mk 23 i 0) 23 i 1) P) := by
  unfold w_X2_init at h
  refine z_enterN (by decide) (Nat.le_of_ble_eq_true rfl) (lc0 := [some (.ref (23 + 256 * i))]) rfl ?_
  intro p e s m args below meth c ad0 C hr hin
  have hn9 : True := trivial
  replace C : zC Z p s m args meth c cX2_init 1 RX2 := C
  refine z_aload_n C dX2_init_0 (i := 0) rfl rfl ?_
  refine z_objInit C dX2_init_1 lo_X2_3 lo_inst lo_code ⟨Nat.le_of_ble_eq_true rfl, Nat.le_of_ble_eq_true rfl⟩ ?_
  refine z_aload_n C dX2_init_4 (i := 0) rfl rfl ?_
  refine z_bipush C dX2_init_5 (v := 40) (by decide) ?_
  obtain ⟨g7, h⟩ := h
  refine t_newa C dX2_init_7 la_int rfl (t := 0) rfl (fun _ => rfl) (by decide) (by decide) (Nat.le_of_ble_eq_true rfl) (by decide) nw_64 (c2 := 1) (s2 := 40) ⟨Nat.le_of_ble_eq_true rfl, Nat.le_of_ble_eq_true rfl, Nat.le_of_ble_eq_true rfl, Nat.le_of_ble_eq_true rfl⟩ ?_
  rw [g7]
  refine t_tops (fun s7 es7 => ?_)
  have h := h s7 es7
  refine t_put C dX2_init_9 fq_X2_9 (Or.inr hin) (k := 23) (i := i) (by decide) rfl ⟨rfl, rfl⟩ (fp_23_0 _ _ _ _) ?_
  refine z_aload_n C dX2_init_12 (i := 0) rfl rfl ?_
  refine z_bipush C dX2_init_13 (v := 40) (by decide) ?_
  obtain ⟨g15, h⟩ := h
  refine t_newa C dX2_init_15 la_int rfl (t := 0) rfl (fun _ => rfl) (by decide) (by decide) (Nat.le_of_ble_eq_true rfl) (by decide) nw_65 (c2 := 2) (s2 := 80) ⟨Nat.le_of_ble_eq_true rfl, Nat.le_of_ble_eq_true rfl, Nat.le_of_ble_eq_true rfl, Nat.le_of_ble_eq_true rfl⟩ ?_
  rw [g15]
  refine t_tops (fun s15 es15 => ?_)
  have h := h s15 es15
  refine t_put C dX2_init_17 fq_X2_15 (Or.inr hin) (k := 23) (i := i) (by decide) rfl ⟨rfl, rfl⟩ (fp_23_1 _ _ _ _) ?_
  exact z_vret C dX2_init_20 hr ⟨_, rfl, rfl, h⟩ (Nat.le_of_ble_eq_true rfl) (Nat.le_of_ble_eq_true rfl)
set_option maxRecDepth 100000 in
def w_X3_init (st : zTs) (mk : zMk) (P : zTs → Prop) : Prop := zgN st 51 = 0 ∧ (∀ s8 : zTs, s8 = zuV st 51 441 → (zgN s8 52 = 0 ∧ (∀ s17 : zTs, s17 = zuV s8 52 441 → (zgN s17 53 = 0 ∧ (∀ s25 : zTs, s25 = zuV s17 53 20 → (P s25))))))
set_option maxHeartbeats 4000000 in
set_option maxRecDepth 100000 in
theorem c_X3_init {Z : zZ} {l : Launch} (hfl : l.stackTraces = false) {st : zTs} {mk : zMk} {P : zTs → Prop} (h : w_X3_init st mk P) : zN Z l yX3_init cX3_init 1 none ({ frames := 1, cells := 3, slots := 902, locals := 20 } : Room) (zh Z mk st) [.ref 12] (zWv Z (zms (zms (zms mk 12 0 0) 12 0 1) 12 0 2) P) := by
  unfold w_X3_init at h
  refine z_enterN (by decide) (Nat.le_of_ble_eq_true rfl) (lc0 := [some (.ref 12)]) rfl ?_
  intro p e s m args below meth c ad0 C hr hin
  have hn9 : True := trivial
  replace C : zC Z p s m args meth c cX3_init 1 RX3 := C
  refine z_aload_n C dX3_init_0 (i := 0) rfl rfl ?_
  refine z_objInit C dX3_init_1 lo_X3_3 lo_inst lo_code ⟨Nat.le_of_ble_eq_true rfl, Nat.le_of_ble_eq_true rfl⟩ ?_
  refine z_aload_n C dX3_init_4 (i := 0) rfl rfl ?_
  refine z_sipush C dX3_init_5 (v := 441) (by decide) ?_
  obtain ⟨g8, h⟩ := h
  refine t_newa C dX3_init_8 la_int rfl (t := 0) rfl (fun _ => rfl) (by decide) (by decide) (Nat.le_of_ble_eq_true rfl) (by decide) nw_51 (c2 := 1) (s2 := 441) ⟨Nat.le_of_ble_eq_true rfl, Nat.le_of_ble_eq_true rfl, Nat.le_of_ble_eq_true rfl, Nat.le_of_ble_eq_true rfl⟩ ?_
  rw [g8]
  refine t_same (lc' := [some (.ref 12)]) (stk' := [.ref 51, .ref 12]) rfl rfl ?_
  refine t_tops (fun s8 es8 => ?_)
  have h := h s8 es8
  refine t_put C dX3_init_10 fq_X3_11 (Or.inr hin) (k := 12) (i := 0) (by decide) rfl ⟨rfl, rfl⟩ (fp_12_0 _ _ _ _) ?_
  refine z_aload_n C dX3_init_13 (i := 0) rfl rfl ?_
  refine z_sipush C dX3_init_14 (v := 441) (by decide) ?_
  obtain ⟨g17, h⟩ := h
  refine t_newa C dX3_init_17 la_int rfl (t := 0) rfl (fun _ => rfl) (by decide) (by decide) (Nat.le_of_ble_eq_true rfl) (by decide) nw_52 (c2 := 2) (s2 := 882) ⟨Nat.le_of_ble_eq_true rfl, Nat.le_of_ble_eq_true rfl, Nat.le_of_ble_eq_true rfl, Nat.le_of_ble_eq_true rfl⟩ ?_
  rw [g17]
  refine t_same (lc' := [some (.ref 12)]) (stk' := [.ref 52, .ref 12]) rfl rfl ?_
  refine t_tops (fun s17 es17 => ?_)
  have h := h s17 es17
  refine t_put C dX3_init_19 fq_X3_15 (Or.inr hin) (k := 12) (i := 0) (by decide) rfl ⟨rfl, rfl⟩ (fp_12_1 _ _ _ _) ?_
  refine z_aload_n C dX3_init_22 (i := 0) rfl rfl ?_
  refine z_bipush C dX3_init_23 (v := 20) (by decide) ?_
  obtain ⟨g25, h⟩ := h
  refine t_newa C dX3_init_25 la_int rfl (t := 0) rfl (fun _ => rfl) (by decide) (by decide) (Nat.le_of_ble_eq_true rfl) (by decide) nw_53 (c2 := 3) (s2 := 902) ⟨Nat.le_of_ble_eq_true rfl, Nat.le_of_ble_eq_true rfl, Nat.le_of_ble_eq_true rfl, Nat.le_of_ble_eq_true rfl⟩ ?_
  rw [g25]
  refine t_same (lc' := [some (.ref 12)]) (stk' := [.ref 53, .ref 12]) rfl rfl ?_
  refine t_tops (fun s25 es25 => ?_)
  have h := h s25 es25
  refine t_put C dX3_init_27 fq_X3_18 (Or.inr hin) (k := 12) (i := 0) (by decide) rfl ⟨rfl, rfl⟩ (fp_12_2 _ _ _ _) ?_
  exact z_vret C dX3_init_30 hr ⟨_, rfl, rfl, h⟩ (Nat.le_of_ble_eq_true rfl) (Nat.le_of_ble_eq_true rfl)
set_option maxRecDepth 100000 in
def w_X4_init (st : zTs) (mk : zMk) (i : Nat) (a1 : Int32) (a2 : Int32) (a3 : Int32) (P : zTs → Prop) : Prop := ∀ s6 : zTs, s6 = zuF st 25 i 0 a1 → (∀ s11 : zTs, s11 = zuF s6 25 i 1 a2 → (∀ s16 : zTs, s16 = zuF s11 25 i 2 a3 → (P s16)))
set_option maxHeartbeats 4000000 in
set_option maxRecDepth 100000 in
theorem c_X4_init {Z : zZ} {l : Launch} (hfl : l.stackTraces = false) {st : zTs} {mk : zMk} {i : Nat} {a1 : Int32} {a2 : Int32} {a3 : Int32} {P : zTs → Prop} (h : w_X4_init st mk i a1 a2 a3 P) : zN Z l yX4_init cX4_init 4 none ({ frames := 1, cells := 0, slots := 0, locals := 20 } : Room) (zh Z mk st) [.ref (25 + 256 * i), .int (a1), .int (a2), .int (a3)] (zWv Z mk P) := by
  unfold w_X4_init at h
  refine z_enterN (by decide) (Nat.le_of_ble_eq_true rfl) (lc0 := [some (.ref (25 + 256 * i)), some (.int (a1)), some (.int (a2)), some (.int (a3))]) rfl ?_
  intro p e s m args below meth c ad0 C hr hin
  have hn9 : True := trivial
  replace C : zC Z p s m args meth c cX4_init 4 RX4 := C
  refine z_aload_n C dX4_init_0 (i := 0) rfl rfl ?_
  refine z_objInit C dX4_init_1 lo_X4_1 lo_inst lo_code ⟨Nat.le_of_ble_eq_true rfl, Nat.le_of_ble_eq_true rfl⟩ ?_
  refine z_aload_n C dX4_init_4 (i := 0) rfl rfl ?_
  refine z_iload_n C dX4_init_5 (i := 1) rfl rfl ?_
  refine t_put C dX4_init_6 fq_X4_7 (Or.inr hin) (k := 25) (i := i) (by decide) rfl ⟨rfl, rfl⟩ (fp_25_0 _ _ _ _ _) ?_
  refine t_tops (fun s6 es6 => ?_)
  have h := h s6 es6
  refine z_aload_n C dX4_init_9 (i := 0) rfl rfl ?_
  refine z_iload_n C dX4_init_10 (i := 2) rfl rfl ?_
  refine t_put C dX4_init_11 fq_X4_13 (Or.inr hin) (k := 25) (i := i) (by decide) rfl ⟨rfl, rfl⟩ (fp_25_1 _ _ _ _ _) ?_
  refine t_tops (fun s11 es11 => ?_)
  have h := h s11 es11
  refine z_aload_n C dX4_init_14 (i := 0) rfl rfl ?_
  refine z_iload_n C dX4_init_15 (i := 3) rfl rfl ?_
  refine t_put C dX4_init_16 fq_X4_16 (Or.inr hin) (k := 25) (i := i) (by decide) rfl ⟨rfl, rfl⟩ (fp_25_2 _ _ _ _ _) ?_
  refine t_tops (fun s16 es16 => ?_)
  have h := h s16 es16
  exact z_vret C dX4_init_19 hr ⟨_, rfl, rfl, h⟩ (Nat.le_of_ble_eq_true rfl) (Nat.le_of_ble_eq_true rfl)
set_option maxRecDepth 100000 in
def w_X5_init (st : zTs) (mk : zMk) (i : Nat) (P : zTs → Prop) : Prop := zgN st 66 = i ∧ (∀ s6 : zTs, s6 = zuV st 66 4 → (vp_in 0 4 ∧ (∀ s12 : zTs, s12 = zuA s6 66 i (0 : Int32).toNatClampNeg 30 → (vp_in 1 4 ∧ (∀ s17 : zTs, s17 = zuA s12 66 i (1 : Int32).toNatClampNeg 30 → (vp_in 2 4 ∧ (∀ s22 : zTs, s22 = zuA s17 66 i (2 : Int32).toNatClampNeg 30 → (vp_in 3 4 ∧ (∀ s27 : zTs, s27 = zuA s22 66 i (3 : Int32).toNatClampNeg 30 → (zgN s27 68 = i ∧ (∀ s34 : zTs, s34 = zuM s27 → (∀ s44 : zTs, s44 = zuF s34 24 i 5 14 → (∀ s50 : zTs, s50 = zuF s44 24 i 7 10 → (∀ s56 : zTs, s56 = zuF s50 24 i 8 14 → (∀ s62 : zTs, s62 = zuF s56 24 i 10 10 → (∀ s68 : zTs, s68 = zuF s62 24 i 11 50 → (∀ s74 : zTs, s74 = zuF s68 24 i 12 8 → (∀ s80 : zTs, s80 = zuF s74 24 i 13 17 → (P s80)))))))))))))))))))
set_option maxHeartbeats 4000000 in
set_option maxRecDepth 100000 in
theorem c_X5_init {Z : zZ} {l : Launch} (hfl : l.stackTraces = false) {st : zTs} {mk : zMk} {i : Nat} {P : zTs → Prop} (h : w_X5_init st mk i P) : zN Z l yX5_init cX5_init 1 none ({ frames := 1, cells := 6, slots := 8, locals := 20 } : Room) (zh Z mk st) [.ref (24 + 256 * i)] (zWv Z (zms (zms mk 24 i 1) 24 i 2) P) := by
  unfold w_X5_init at h
  refine z_enterN (by decide) (Nat.le_of_ble_eq_true rfl) (lc0 := [some (.ref (24 + 256 * i))]) rfl ?_
  intro p e s m args below meth c ad0 C hr hin
  have hn9 : True := trivial
  replace C : zC Z p s m args meth c cX5_init 1 RX5 := C
  refine z_aload_n C dX5_init_0 (i := 0) rfl rfl ?_
  refine z_objInit C dX5_init_1 lo_X5_3 lo_inst lo_code ⟨Nat.le_of_ble_eq_true rfl, Nat.le_of_ble_eq_true rfl⟩ ?_
  refine z_aload_n C dX5_init_4 (i := 0) rfl rfl ?_
  refine z_iconst C dX5_init_5 (v := 4) (by decide) ?_
  obtain ⟨g6, h⟩ := h
  refine t_newa C dX5_init_6 la_int rfl (t := 0) rfl (fun _ => rfl) (by decide) (by decide) (Nat.le_of_ble_eq_true rfl) (by decide) nw_66 (c2 := 1) (s2 := 4) ⟨Nat.le_of_ble_eq_true rfl, Nat.le_of_ble_eq_true rfl, Nat.le_of_ble_eq_true rfl, Nat.le_of_ble_eq_true rfl⟩ ?_
  rw [g6]
  refine t_tops (fun s6 es6 => ?_)
  have h := h s6 es6
  refine z_dup C dX5_init_8 rfl ?_
  refine z_iconst C dX5_init_9 (v := 0) (by decide) ?_
  refine z_bipush C dX5_init_10 (v := 30) (by decide) ?_
  obtain ⟨g12, h⟩ := h
  refine t_iast C dX5_init_12 (k := 66) (i := i) (by decide) rfl (fun s9 => sh_66 _ _ s9 _) g12 ?_
  refine t_tops (fun s12 es12 => ?_)
  have h := h s12 es12
  refine z_dup C dX5_init_13 rfl ?_
  refine z_iconst C dX5_init_14 (v := 1) (by decide) ?_
  refine z_bipush C dX5_init_15 (v := 30) (by decide) ?_
  obtain ⟨g17, h⟩ := h
  refine t_iast C dX5_init_17 (k := 66) (i := i) (by decide) rfl (fun s9 => sh_66 _ _ s9 _) g17 ?_
  refine t_tops (fun s17 es17 => ?_)
  have h := h s17 es17
  refine z_dup C dX5_init_18 rfl ?_
  refine z_iconst C dX5_init_19 (v := 2) (by decide) ?_
  refine z_bipush C dX5_init_20 (v := 30) (by decide) ?_
  obtain ⟨g22, h⟩ := h
  refine t_iast C dX5_init_22 (k := 66) (i := i) (by decide) rfl (fun s9 => sh_66 _ _ s9 _) g22 ?_
  refine t_tops (fun s22 es22 => ?_)
  have h := h s22 es22
  refine z_dup C dX5_init_23 rfl ?_
  refine z_iconst C dX5_init_24 (v := 3) (by decide) ?_
  refine z_bipush C dX5_init_25 (v := 30) (by decide) ?_
  obtain ⟨g27, h⟩ := h
  refine t_iast C dX5_init_27 (k := 66) (i := i) (by decide) rfl (fun s9 => sh_66 _ _ s9 _) g27 ?_
  refine t_tops (fun s27 es27 => ?_)
  have h := h s27 es27
  refine t_put C dX5_init_28 fq_X5_9 (Or.inr hin) (k := 24) (i := i) (by decide) rfl ⟨rfl, rfl⟩ (fp_24_1 _ _ _ _) ?_
  refine z_aload_n C dX5_init_31 (i := 0) rfl rfl ?_
  refine z_iconst C dX5_init_32 (v := 4) (by decide) ?_
  refine z_iconst C dX5_init_33 (v := 0) (by decide) ?_
  obtain ⟨g34, h⟩ := h
  refine t_multi C dX5_init_34 kl_X5_15 (c2 := 6) (s2 := 8) ⟨Nat.le_of_ble_eq_true rfl, Nat.le_of_ble_eq_true rfl, Nat.le_of_ble_eq_true rfl, Nat.le_of_ble_eq_true rfl⟩ ?_
  rw [g34]
  refine t_tops (fun s34 es34 => ?_)
  have h := h s34 es34
  refine t_put C dX5_init_38 fq_X5_17 (Or.inr hin) (k := 24) (i := i) (by decide) rfl ⟨rfl, rfl⟩ (fp_24_2 _ _ _ _) ?_
  refine z_aload_n C dX5_init_41 (i := 0) rfl rfl ?_
  refine z_bipush C dX5_init_42 (v := 14) (by decide) ?_
  refine t_put C dX5_init_44 fq_X5_20 (Or.inl rfl) (k := 24) (i := i) (by decide) rfl ⟨rfl, rfl⟩ (fp_24_5 _ _ _ _ _) ?_
  refine t_tops (fun s44 es44 => ?_)
  have h := h s44 es44
  refine z_aload_n C dX5_init_47 (i := 0) rfl rfl ?_
  refine z_bipush C dX5_init_48 (v := 10) (by decide) ?_
  refine t_put C dX5_init_50 fq_X5_24 (Or.inl rfl) (k := 24) (i := i) (by decide) rfl ⟨rfl, rfl⟩ (fp_24_7 _ _ _ _ _) ?_
  refine t_tops (fun s50 es50 => ?_)
  have h := h s50 es50
  refine z_aload_n C dX5_init_53 (i := 0) rfl rfl ?_
  refine z_bipush C dX5_init_54 (v := 14) (by decide) ?_
  refine t_put C dX5_init_56 fq_X5_27 (Or.inl rfl) (k := 24) (i := i) (by decide) rfl ⟨rfl, rfl⟩ (fp_24_8 _ _ _ _ _) ?_
  refine t_tops (fun s56 es56 => ?_)
  have h := h s56 es56
  refine z_aload_n C dX5_init_59 (i := 0) rfl rfl ?_
  refine z_bipush C dX5_init_60 (v := 10) (by decide) ?_
  refine t_put C dX5_init_62 fq_X5_30 (Or.inl rfl) (k := 24) (i := i) (by decide) rfl ⟨rfl, rfl⟩ (fp_24_10 _ _ _ _ _) ?_
  refine t_tops (fun s62 es62 => ?_)
  have h := h s62 es62
  refine z_aload_n C dX5_init_65 (i := 0) rfl rfl ?_
  refine z_bipush C dX5_init_66 (v := 50) (by decide) ?_
  refine t_put C dX5_init_68 fq_X5_33 (Or.inl rfl) (k := 24) (i := i) (by decide) rfl ⟨rfl, rfl⟩ (fp_24_11 _ _ _ _ _) ?_
  refine t_tops (fun s68 es68 => ?_)
  have h := h s68 es68
  refine z_aload_n C dX5_init_71 (i := 0) rfl rfl ?_
  refine z_bipush C dX5_init_72 (v := 8) (by decide) ?_
  refine t_put C dX5_init_74 fq_X5_36 (Or.inl rfl) (k := 24) (i := i) (by decide) rfl ⟨rfl, rfl⟩ (fp_24_12 _ _ _ _ _) ?_
  refine t_tops (fun s74 es74 => ?_)
  have h := h s74 es74
  refine z_aload_n C dX5_init_77 (i := 0) rfl rfl ?_
  refine z_bipush C dX5_init_78 (v := 17) (by decide) ?_
  refine t_put C dX5_init_80 fq_X5_39 (Or.inl rfl) (k := 24) (i := i) (by decide) rfl ⟨rfl, rfl⟩ (fp_24_13 _ _ _ _ _) ?_
  refine t_tops (fun s80 es80 => ?_)
  have h := h s80 es80
  exact z_vret C dX5_init_83 hr ⟨_, rfl, rfl, h⟩ (Nat.le_of_ble_eq_true rfl) (Nat.le_of_ble_eq_true rfl)
set_option maxRecDepth 100000 in
def w_X6_init (st : zTs) (mk : zMk) (P : zTs → Prop) : Prop := zgN st 54 = 0 ∧ (∀ s8 : zTs, s8 = zuV st 54 400 → (∀ s17 : zTs, s17 = zuP s8 13 0 6 0 → (∀ s22 : zTs, s22 = zuF s17 13 0 7 (-1) → (∀ s27 : zTs, s27 = zuF s22 13 0 8 0 → (∀ n31 : Nat, n31 = zgN s27 24 → (∀ s31 : zTs, s31 = zuW s27 24 → ((mk 24 n31 1 = true ∧ mk 24 n31 2 = true) ∧ (w_X5_init s31 (zm0 (zms (zms mk 13 0 1) 13 0 6) 24 n31) n31 (fun (s35 : zTs) => (∀ s38 : zTs, s38 = zuP s35 13 0 10 n31 → (∀ s43 : zTs, s43 = zuF s38 13 0 12 (-1) → (P s43))))))))))))
set_option maxHeartbeats 4000000 in
set_option maxRecDepth 100000 in
theorem c_X6_init {Z : zZ} {l : Launch} (hfl : l.stackTraces = false) {st : zTs} {mk : zMk} {P : zTs → Prop} (h : w_X6_init st mk P) : zN Z l yX6_init cX6_init 2 none ({ frames := 2, cells := 8, slots := 422, locals := 40 } : Room) (zh Z mk st) [.ref 13, .ref 43] (zWv Z (zms (zms (zms (zms mk 13 0 1) 13 0 6) 13 0 10) 13 0 0) P) := by
  unfold w_X6_init at h
  refine z_enterN (by decide) (Nat.le_of_ble_eq_true rfl) (lc0 := [some (.ref 13), some (.ref 43)]) rfl ?_
  intro p e s m args below meth c ad0 C hr hin
  have hn9 : True := trivial
  replace C : zC Z p s m args meth c cX6_init 2 RX6 := C
  refine z_aload_n C dX6_init_0 (i := 0) rfl rfl ?_
  refine z_objInit C dX6_init_1 lo_X6_3 lo_inst lo_code ⟨Nat.le_of_ble_eq_true rfl, Nat.le_of_ble_eq_true rfl⟩ ?_
  refine z_aload_n C dX6_init_4 (i := 0) rfl rfl ?_
  refine z_sipush C dX6_init_5 (v := 400) (by decide) ?_
  obtain ⟨g8, h⟩ := h
  refine t_newa C dX6_init_8 la_int rfl (t := 0) rfl (fun _ => rfl) (by decide) (by decide) (Nat.le_of_ble_eq_true rfl) (by decide) nw_54 (c2 := 1) (s2 := 400) ⟨Nat.le_of_ble_eq_true rfl, Nat.le_of_ble_eq_true rfl, Nat.le_of_ble_eq_true rfl, Nat.le_of_ble_eq_true rfl⟩ ?_
  rw [g8]
  refine t_same (lc' := [some (.ref 13), some (.ref 43)]) (stk' := [.ref 54, .ref 13]) rfl rfl ?_
  refine t_tops (fun s8 es8 => ?_)
  have h := h s8 es8
  refine t_put C dX6_init_10 fq_X6_9 (Or.inr hin) (k := 13) (i := 0) (by decide) rfl ⟨rfl, rfl⟩ (fp_13_1 _ _ _ _) ?_
  refine z_aload_n C dX6_init_13 (i := 0) rfl rfl ?_
  refine z_gets C dX6_init_14 (q := 201 + 256 * 0) (by decide) gl_X6_15 (fun z => (z.2.2.2.1.1.1 0 (by decide)).1) ?_
  refine t_put C dX6_init_17 fq_X6_21 (Or.inl rfl) (k := 13) (i := 0) (by decide) rfl ⟨rfl, rfl⟩ (fm_13_6 _ _ _ _ _) ?_
  refine t_tops (fun s17 es17 => ?_)
  have h := h s17 es17
  refine z_aload_n C dX6_init_20 (i := 0) rfl rfl ?_
  refine z_iconst C dX6_init_21 (v := (-1)) (by decide) ?_
  refine t_put C dX6_init_22 fq_X6_24 (Or.inl rfl) (k := 13) (i := 0) (by decide) rfl ⟨rfl, rfl⟩ (fp_13_7 _ _ _ _ _) ?_
  refine t_tops (fun s22 es22 => ?_)
  have h := h s22 es22
  refine z_aload_n C dX6_init_25 (i := 0) rfl rfl ?_
  refine z_iconst C dX6_init_26 (v := 0) (by decide) ?_
  refine t_put C dX6_init_27 fq_X6_28 (Or.inl rfl) (k := 13) (i := 0) (by decide) rfl ⟨rfl, rfl⟩ (fp_13_8 _ _ _ _ _) ?_
  refine t_tops (fun s27 es27 => ?_)
  have h := h s27 es27
  refine z_aload_n C dX6_init_30 (i := 0) rfl rfl ?_
  obtain ⟨n31, g31⟩ : ∃ z : Nat, z = zgN s27 24 := ⟨_, rfl⟩
  have h := h n31 g31
  refine t_new C dX6_init_31 nl_X6_32 rfl (by decide) nw_24 (c2 := 2) (s2 := 414) ⟨Nat.le_of_ble_eq_true rfl, Nat.le_of_ble_eq_true rfl, Nat.le_of_ble_eq_true rfl, Nat.le_of_ble_eq_true rfl⟩ ?_
  rw [← g31]
  refine t_tops (fun s31 es31 => ?_)
  have h := h s31 es31
  refine z_dup C dX6_init_34 rfl ?_
  obtain ⟨⟨gm35_1, gm35_2⟩, h⟩ := h
  refine t_callIN C (rest := [.ref (24 + 256 * n31), .ref 13]) (c2 := 8) (s2 := 422) [] dX6_init_35 (by decide) ln_X5_init lni_X5_init (by decide +kernel) lnm_X5_init rfl (c_X5_init hfl h) rfl rfl ⟨Nat.le_of_ble_eq_true rfl, Nat.le_of_ble_eq_true rfl⟩ (Nat.le_of_ble_eq_true rfl) ⟨Nat.le_of_ble_eq_true rfl, Nat.le_of_ble_eq_true rfl, Nat.le_of_ble_eq_true rfl, Nat.le_of_ble_eq_true rfl⟩ (k_Wv fun s35 h => ?_)
  refine t_mask (mk' := (zms (zms mk 13 0 1) 13 0 6)) (k := 24) (i := n31) (fun k9 i9 g9 => by simp only [zms, zm0, zp2_ne g9]) (nm_24 (g1 := by simp [zms, zm0, zm1, zp2, zp1]) (g2 := by simp [zms, zm0, zm1, zp2, zp1]) (f1 := gm35_1) (f2 := gm35_2)) ?_
  refine t_put C dX6_init_38 fq_X6_35 (Or.inl rfl) (k := 13) (i := 0) (by decide) rfl ⟨rfl, rfl⟩ (fm_13_10 _ _ _ _ _) ?_
  refine t_tops (fun s38 es38 => ?_)
  have h := h s38 es38
  refine z_aload_n C dX6_init_41 (i := 0) rfl rfl ?_
  refine z_iconst C dX6_init_42 (v := (-1)) (by decide) ?_
  refine t_put C dX6_init_43 fq_X6_39 (Or.inl rfl) (k := 13) (i := 0) (by decide) rfl ⟨rfl, rfl⟩ (fp_13_12 _ _ _ _ _) ?_
  refine t_tops (fun s43 es43 => ?_)
  have h := h s43 es43
  refine z_aload_n C dX6_init_46 (i := 0) rfl rfl ?_
  refine z_aload_n C dX6_init_47 (i := 1) rfl rfl ?_
  refine t_put C dX6_init_48 fq_X6_42 (Or.inr hin) (k := 13) (i := 0) (by decide) rfl ⟨rfl, rfl⟩ (fp_13_0 _ _ _ _) ?_
  exact z_vret C dX6_init_51 hr ⟨_, rfl, rfl, h⟩ (Nat.le_of_ble_eq_true rfl) (Nat.le_of_ble_eq_true rfl)
def w_J7_copyOf_59c91_r54i (st : zTs) (a1 : Int32) (P : Nat → zTs → Prop) : Prop := (a1 = 400 → False) ∧ (¬ a1 = 400 → (¬ a1 < 0 ∧ (a1 : Int32).toNatClampNeg ≤ 400) ∧ ∀ n15 : Nat, n15 = zgN st 69 → (∀ s15 : zTs, s15 = zuV st 69 ((a1 : Int32).toNatClampNeg) → (w_J9_min_7cf53 s15 400 a1 (fun (r25 : Int32) => ((¬ r25 < 0 ∧ (r25 : Int32).toNatClampNeg ≤ 400 ∧ (r25 : Int32).toNatClampNeg ≤ zgL s15 69 n15) ∧ (∀ s28 : zTs, s28 = zuB s15 69 n15 (va_cpy (zgA s15 54 0) (zgA s15 69 n15) 0 0 (r25 : Int32).toNatClampNeg) → (P n15 s28)))))))
set_option maxHeartbeats 4000000 in
set_option maxRecDepth 100000 in
theorem c_J7_copyOf_59c91_r54i {Z : zZ} {l : Launch} (hfl : l.stackTraces = false) {st : zTs} {a1 : Int32} {P : Nat → zTs → Prop} (h : w_J7_copyOf_59c91_r54i st a1 P) : zN Z l yJ7_copyOf_59c91 cJ7_copyOf_59c91 3 (some (.array .int)) ({ frames := 2, cells := 1, slots := 400, locals := 33 } : Room) (zh Z zm1 st) [.ref 54, .int (a1)] (zWr Z 69 P) := by
  unfold w_J7_copyOf_59c91_r54i at h
  refine z_enterF (by decide +kernel) (Nat.le_of_ble_eq_true rfl) (lc0 := [some (.ref 54), some (.int (a1)), none]) rfl ?_
  intro p e s m args below meth c ad0 C hr _
  have hn9 : True := trivial
  replace C : zC Z p s m args meth c cJ7_copyOf_59c91 3 RJ7 := C
  refine z_iload_n C dJ7_copyOf_59c91_0 (i := 1) rfl rfl ?_
  refine z_aload_n C dJ7_copyOf_59c91_1 (i := 0) rfl rfl ?_
  refine t_alen C dJ7_copyOf_59c91_2 (k := 54) (i := 0) (t := 0) (by decide) rfl (sh_54 _ _ _ _) rfl (v := 400) (by decide) ?_
  refine z_icmp_ne C dJ7_copyOf_59c91_3 (tgt := 14) (by decide) (fun c3 => ?_) (fun c3 => ?_)
  · have h := h.2 c3
    refine z_iload_n C dJ7_copyOf_59c91_14 (i := 1) rfl rfl ?_
    obtain ⟨⟨g15a, g15b⟩, h⟩ := h
    obtain ⟨n15, g15⟩ : ∃ z : Nat, z = zgN st 69 := ⟨_, rfl⟩
    have h := h n15 g15
    refine t_newa C dJ7_copyOf_59c91_15 la_int rfl (t := 0) rfl (fun _ => rfl) g15a rfl (by show _ * 4 ≤ _; omega) (by decide) nw_69 (c2 := 1) (s2 := 400) ⟨Nat.le_of_ble_eq_true rfl, by omega, Nat.le_of_ble_eq_true rfl, Nat.le_of_ble_eq_true rfl⟩ ?_
    rw [← g15]
    refine t_tops (fun s15 es15 => ?_)
    have h := h s15 es15
    refine z_astore_n C dJ7_copyOf_59c91_17 (i := 2) (lc' := [some (.ref 54), some (.int (a1)), some (.ref (69 + 256 * n15))]) rfl (by decide) rfl ?_
    refine z_aload_n C dJ7_copyOf_59c91_18 (i := 0) rfl rfl ?_
    refine z_iconst C dJ7_copyOf_59c91_19 (v := 0) (by decide) ?_
    refine z_aload_n C dJ7_copyOf_59c91_20 (i := 2) rfl rfl ?_
    refine z_iconst C dJ7_copyOf_59c91_21 (v := 0) (by decide) ?_
    refine z_aload_n C dJ7_copyOf_59c91_22 (i := 0) rfl rfl ?_
    refine t_alen C dJ7_copyOf_59c91_23 (k := 54) (i := 0) (t := 0) (by decide) rfl (sh_54 _ _ _ _) rfl (v := 400) (by decide) ?_
    refine z_iload_n C dJ7_copyOf_59c91_24 (i := 1) rfl rfl ?_
    refine t_callS C (rest := [.int (0), .ref (69 + 256 * n15), .int (0), .ref 54]) (c2 := 1) (s2 := 400) [.int (400), .int (a1)] dJ7_copyOf_59c91_25 lk_J7_304 ls_J9_min_7cf53 (c_J9_min_7cf53 hfl h) rfl rfl ⟨Nat.le_of_ble_eq_true rfl, Nat.le_of_ble_eq_true rfl⟩ (Nat.le_of_ble_eq_true rfl) ⟨Nat.le_of_ble_eq_true rfl, Nat.le_of_ble_eq_true rfl, Nat.le_of_ble_eq_true rfl, Nat.le_of_ble_eq_true rfl⟩ (k_Ri fun r25 h => ?_)
    obtain ⟨⟨q1, q2, q3⟩, h⟩ := h
    refine t_cpI C dJ7_copyOf_59c91_28 lcp_J7_150 (k0 := 54) (i0 := 0) (k1 := 69) (i1 := n15) (by decide) (by decide) rfl rfl (sh_54 _ _ _ _) (fun f9 => sh_69 _ _ _ _) (sh_69 _ _ _ _) (by decide) (by decide) q1 (by show 0 + _ ≤ _; omega) (by show 0 + _ ≤ _; omega) ⟨Nat.le_of_ble_eq_true rfl, Nat.le_of_ble_eq_true rfl⟩ ?_
    refine t_tops (fun s28 es28 => ?_)
    have h := h s28 es28
    refine z_aload_n C dJ7_copyOf_59c91_31 (i := 2) rfl rfl ?_
    exact z_aret C dJ7_copyOf_59c91_32 hr (Or.inr ⟨_, rfl⟩) (Or.inr ⟨_, rfl⟩) ⟨_, _, rfl, rfl, h⟩ (Nat.le_of_ble_eq_true rfl) (Nat.le_of_ble_eq_true rfl)
  · have h := h.1 c3
    refine z_aload_n C dJ7_copyOf_59c91_6 (i := 0) rfl rfl ?_
    exact h.elim
def w_X6_readNotice_53 (P : Int32 → zTs → Prop)  (st : zTs) (a1 : Int32) (a2 : Int32) : Prop := w_J7_copyOf_59c91_r54i st (zgF st 13 0 2) (fun (r69 : Nat) (s69 : zTs) => (vp_in a1 4 ∧ (∀ s72 : zTs, s72 = zuR s69 68 (zgP st 13 0 10) (a1 : Int32).toNatClampNeg (some r69) → ((a2 = 0 ∨ a2 = 1) ∧ (P a2 s72)))))
set_option maxHeartbeats 4000000 in
set_option maxRecDepth 100000 in
theorem j_X6_readNotice_53 {P : Int32 → zTs → Prop}  (hfl : l.stackTraces = false) (C : zC Z p s m args meth c cX6_readNotice 3 RX6) (hr : meth.sig.returnType = (some .boolean)) (hn9 : True)  (st : zTs) (a1 : Int32) (a2 : Int32) (h : w_X6_readNotice_53 P st a1 a2) : zG Z ad0 h0 p l e ({ frames := 41, cells := 1, slots := 400, locals := 934 } : Room) s m args below meth c (MQ below (zQ Z ad0 h0 (zWi Z P)) args s 1 400 (zA Z)) 0 0 (zh Z zm1 st) 3 53 [some (.ref 13), some (.int (a1)), some (.int (a2))] [] := by
  unfold w_X6_readNotice_53 at h
  refine z_aload_n C dX6_readNotice_53 (i := 0) rfl rfl ?_
  refine t_get C dX6_readNotice_54 fl_X6_35 (k := 13) (i := 0) (by decide) rfl (fg_13_10 _ _ _) ?_
  refine t_get C dX6_readNotice_57 fl_X6_180 (k := 24) (i := zgP st 13 0 10) (by decide) rfl (fg_24_2 _ _ _) ?_
  refine z_iload_n C dX6_readNotice_60 (i := 1) rfl rfl ?_
  refine z_aload_n C dX6_readNotice_61 (i := 0) rfl rfl ?_
  refine t_get C dX6_readNotice_62 fl_X6_9 (k := 13) (i := 0) (by decide) rfl (fg_13_1 _ _ _) ?_
  refine z_aload_n C dX6_readNotice_65 (i := 0) rfl rfl ?_
  refine t_get C dX6_readNotice_66 fl_X6_171 (k := 13) (i := 0) (by decide) rfl (fg_13_2 _ _ _) ?_
  refine t_callS C (rest := [.int (a1), .ref (68 + 256 * (zgP st 13 0 10))]) (c2 := 1) (s2 := 400) [.ref 54, .int (zgF st 13 0 2)] dX6_readNotice_69 lk_X6_184 ls_J7_copyOf_59c91 (c_J7_copyOf_59c91_r54i hfl h) rfl rfl ⟨Nat.le_of_ble_eq_true rfl, Nat.le_of_ble_eq_true rfl⟩ (Nat.le_of_ble_eq_true rfl) ⟨Nat.le_of_ble_eq_true rfl, Nat.le_of_ble_eq_true rfl, Nat.le_of_ble_eq_true rfl, Nat.le_of_ble_eq_true rfl⟩ (k_Wr fun r69 s69 h => ?_)
  obtain ⟨g72, h⟩ := h
  refine t_astA C dX6_readNotice_72 (i := zgP st 13 0 10) (y := r69) rfl rfl g72 ?_
  refine t_tops (fun s72 es72 => ?_)
  have h := h s72 es72
  refine z_iload_n C dX6_readNotice_73 (i := 2) rfl rfl ?_
  obtain ⟨g74, h⟩ := h
  exact z_iret C dX6_readNotice_74 hr (zn_bool g74) ⟨_, _, rfl, rfl, h⟩ (Nat.le_of_ble_eq_true rfl) (Nat.le_of_ble_eq_true rfl)
def w_X6_readNotice (st : zTs) (a1 : Int32) (P : Int32 → zTs → Prop) : Prop := w_X6_takeNumber st 0 400 (fun (r5 : Int32) (s5 : zTs) => ((r5 = 0 → P 0 s5) ∧ (¬ r5 = 0 → vp_in a1 4 ∧ (∀ s25 : zTs, s25 = zuA s5 66 (zgP s5 13 0 10) (a1 : Int32).toNatClampNeg (zgF s5 13 0 9) → (∀ s28 : zTs, s28 = zuF s25 13 0 2 0 → ((zgP s28 13 0 6 < 24) ∧ ((((zgP s28 13 0 6) : Nat) = 15 → w_X6_advance s28 (fun (s44 : zTs) => (w_X6_readAnyOf_L0 s44 0 (fun (r49 : Int32) (s49 : zTs) => (w_X6_readNotice_53 P s49 a1 r49))))) ∧ (¬ ((zgP s28 13 0 6) : Nat) = 15 → w_X6_readNotice_53 P s28 a1 (1)))))))))
set_option maxHeartbeats 4000000 in
set_option maxRecDepth 100000 in
theorem c_X6_readNotice {Z : zZ} {l : Launch} (hfl : l.stackTraces = false) {st : zTs} {a1 : Int32} {P : Int32 → zTs → Prop} (h : w_X6_readNotice st a1 P) : zN Z l yX6_readNotice cX6_readNotice 3 (some .boolean) ({ frames := 41, cells := 1, slots := 400, locals := 934 } : Room) (zh Z zm1 st) [.ref 13, .int (a1)] (zWi Z P) := by
  unfold w_X6_readNotice at h
  refine z_enterN (by decide) (Nat.le_of_ble_eq_true rfl) (lc0 := [some (.ref 13), some (.int (a1)), none]) rfl ?_
  intro p e s m args below meth c ad0 C hr _
  have hn9 : True := trivial
  replace C : zC Z p s m args meth c cX6_readNotice 3 RX6 := C
  refine z_aload_n C dX6_readNotice_0 (i := 0) rfl rfl ?_
  refine z_iconst C dX6_readNotice_1 (v := 0) (by decide) ?_
  refine z_sipush C dX6_readNotice_2 (v := 400) (by decide) ?_
  refine t_callV C (rest := []) (c2 := 0) (s2 := 0) (kd := 13) (i := 0) [.int (0), .int (400)] dX6_readNotice_5 lk_X6_125 li_X6_takeNumber le_X6_takeNumber (c_X6_takeNumber hfl h) rfl rfl (by decide) rfl ⟨_, rfl⟩ rfl ⟨Nat.le_of_ble_eq_true rfl, Nat.le_of_ble_eq_true rfl⟩ (Nat.le_of_ble_eq_true rfl) ⟨Nat.le_of_ble_eq_true rfl, Nat.le_of_ble_eq_true rfl, Nat.le_of_ble_eq_true rfl, Nat.le_of_ble_eq_true rfl⟩ (k_Wi fun r5 s5 h => ?_)
  refine z_if_ne C dX6_readNotice_8 (tgt := 13) (by decide) (fun c8 => ?_) (fun c8 => ?_)
  · have h := h.2 c8
    refine z_aload_n C dX6_readNotice_13 (i := 0) rfl rfl ?_
    refine t_get C dX6_readNotice_14 fl_X6_35 (k := 13) (i := 0) (by decide) rfl (fg_13_10 _ _ _) ?_
    refine t_get C dX6_readNotice_17 fl_X6_168 (k := 24) (i := zgP s5 13 0 10) (by decide) rfl (fg_24_1 _ _ _) ?_
    refine z_iload_n C dX6_readNotice_20 (i := 1) rfl rfl ?_
    refine z_aload_n C dX6_readNotice_21 (i := 0) rfl rfl ?_
    refine t_get C dX6_readNotice_22 fl_X6_83 (k := 13) (i := 0) (by decide) rfl (fg_13_9 _ _ _) ?_
    obtain ⟨g25, h⟩ := h
    refine t_iast C dX6_readNotice_25 (k := 66) (i := zgP s5 13 0 10) (by decide) rfl (fun s9 => sh_66 _ _ s9 _) g25 ?_
    refine t_tops (fun s25 es25 => ?_)
    have h := h s25 es25
    refine z_aload_n C dX6_readNotice_26 (i := 0) rfl rfl ?_
    refine z_iconst C dX6_readNotice_27 (v := 0) (by decide) ?_
    refine t_put C dX6_readNotice_28 fq_X6_171 (Or.inl rfl) (k := 13) (i := 0) (by decide) rfl ⟨rfl, rfl⟩ (fp_13_2 _ _ _ _ _) ?_
    refine t_tops (fun s28 es28 => ?_)
    have h := h s28 es28
    refine z_iconst C dX6_readNotice_31 (v := 1) (by decide) ?_
    refine z_istore_n C dX6_readNotice_32 (i := 2) (lc' := [some (.ref 13), some (.int (a1)), some (.int (1))]) rfl (by decide) rfl ?_
    refine z_aload_n C dX6_readNotice_33 (i := 0) rfl rfl ?_
    refine t_get C dX6_readNotice_34 fl_X6_21 (k := 13) (i := 0) (by decide) rfl (fg_13_6 _ _ _) ?_
    refine z_gets C dX6_readNotice_37 (q := 201 + 256 * 15) (by decide) gl_X6_174 (fun z => (z.2.2.2.1.1.1 15 (by decide)).1) ?_
    obtain ⟨g40a, h⟩ := h
    refine z_acmpW_ne C dX6_readNotice_40 (i := (zgP s28 13 0 6)) (j := 15) (tgt := 53) (by decide) g40a (by decide) (fun c40 => ?_) (fun c40 => ?_)
    · have h := h.2 c40
      exact t_drop [true, true, true] rfl (j_X6_readNotice_53 hfl C hr hn9  s28 a1 (1) h)
    · have h := h.1 c40
      refine z_aload_n C dX6_readNotice_43 (i := 0) rfl rfl ?_
      refine t_callV C (rest := []) (c2 := 0) (s2 := 0) (kd := 13) (i := 0) [] dX6_readNotice_44 lk_X6_61 li_X6_advance le_X6_advance (c_X6_advance hfl h) rfl rfl (by decide) rfl ⟨_, rfl⟩ rfl ⟨Nat.le_of_ble_eq_true rfl, Nat.le_of_ble_eq_true rfl⟩ (Nat.le_of_ble_eq_true rfl) ⟨Nat.le_of_ble_eq_true rfl, Nat.le_of_ble_eq_true rfl, Nat.le_of_ble_eq_true rfl, Nat.le_of_ble_eq_true rfl⟩ (k_Wv fun s44 h => ?_)
      refine z_aload_n C dX6_readNotice_47 (i := 0) rfl rfl ?_
      refine z_iconst C dX6_readNotice_48 (v := 0) (by decide) ?_
      refine t_callV C (rest := []) (c2 := 0) (s2 := 0) (kd := 13) (i := 0) [.int (0)] dX6_readNotice_49 lk_X6_177 li_X6_readAnyOf le_X6_readAnyOf (c_X6_readAnyOf_L0 hfl h) rfl rfl (by decide) rfl ⟨_, rfl⟩ rfl ⟨Nat.le_of_ble_eq_true rfl, Nat.le_of_ble_eq_true rfl⟩ (Nat.le_of_ble_eq_true rfl) ⟨Nat.le_of_ble_eq_true rfl, Nat.le_of_ble_eq_true rfl, Nat.le_of_ble_eq_true rfl, Nat.le_of_ble_eq_true rfl⟩ (k_Wi fun r49 s49 h => ?_)
      refine z_istore_n C dX6_readNotice_52 (i := 2) (lc' := [some (.ref 13), some (.int (a1)), some (.int (r49))]) rfl (by decide) rfl ?_
      exact t_drop [true, true, true] rfl (j_X6_readNotice_53 hfl C hr hn9  s49 a1 r49 h)
  · have h := h.1 c8
    refine z_iconst C dX6_readNotice_11 (v := 0) (by decide) ?_
    exact z_iret C dX6_readNotice_12 hr rfl ⟨_, _, rfl, rfl, h⟩ (Nat.le_of_ble_eq_true rfl) (Nat.le_of_ble_eq_true rfl)
def w_X6_readClause_170 (P : Int32 → zTs → Prop)  (st : zTs) (a2 : Int32) : Prop := (a2 = 0 → P 0 st) ∧ (¬ a2 = 0 → w_X6_takeSign st 59 (fun (r177 : Int32) (s177 : zTs) => ((r177 = 0 → P 0 s177) ∧ (¬ r177 = 0 → P 1 s177))))
set_option maxHeartbeats 4000000 in
set_option maxRecDepth 100000 in
theorem j_X6_readClause_170 {P : Int32 → zTs → Prop}  (hfl : l.stackTraces = false) (C : zC Z p s m args meth c cX6_readClause 3 RX6) (hr : meth.sig.returnType = (some .boolean)) (hn9 : True)  (st : zTs) (a2 : Int32) (h : w_X6_readClause_170 P st a2) : zG Z ad0 h0 p l e ({ frames := 42, cells := 1, slots := 400, locals := 956 } : Room) s m args below meth c (MQ below (zQ Z ad0 h0 (zWi Z P)) args s 1 400 (zA Z)) 1 400 (zh Z zm1 st) 3 170 [some (.ref 13), none, some (.int (a2))] [] := by
  unfold w_X6_readClause_170 at h
  refine z_iload_n C dX6_readClause_170 (i := 2) rfl rfl ?_
  refine z_if_eq C dX6_readClause_171 (tgt := 187) (by decide) (fun c171 => ?_) (fun c171 => ?_)
  · have h := h.1 c171
    refine z_iconst C dX6_readClause_187 (v := 0) (by decide) ?_
    exact z_iret C dX6_readClause_188 hr rfl ⟨_, _, rfl, rfl, h⟩ (Nat.le_of_ble_eq_true rfl) (Nat.le_of_ble_eq_true rfl)
  · have h := h.2 c171
    refine z_aload_n C dX6_readClause_174 (i := 0) rfl rfl ?_
    refine z_bipush C dX6_readClause_175 (v := 59) (by decide) ?_
    refine t_callV C (rest := []) (c2 := 1) (s2 := 400) (kd := 13) (i := 0) [.int (59)] dX6_readClause_177 lk_X6_118 li_X6_takeSign le_X6_takeSign (c_X6_takeSign hfl h) rfl rfl (by decide) rfl ⟨_, rfl⟩ rfl ⟨Nat.le_of_ble_eq_true rfl, Nat.le_of_ble_eq_true rfl⟩ (Nat.le_of_ble_eq_true rfl) ⟨Nat.le_of_ble_eq_true rfl, Nat.le_of_ble_eq_true rfl, Nat.le_of_ble_eq_true rfl, Nat.le_of_ble_eq_true rfl⟩ (k_Wi fun r177 s177 h => ?_)
    refine z_if_eq C dX6_readClause_180 (tgt := 187) (by decide) (fun c180 => ?_) (fun c180 => ?_)
    · have h := h.1 c180
      refine z_iconst C dX6_readClause_187 (v := 0) (by decide) ?_
      exact z_iret C dX6_readClause_188 hr rfl ⟨_, _, rfl, rfl, h⟩ (Nat.le_of_ble_eq_true rfl) (Nat.le_of_ble_eq_true rfl)
    · have h := h.2 c180
      refine z_iconst C dX6_readClause_183 (v := 1) (by decide) ?_
      refine z_goto C dX6_readClause_184 (tgt := 188) (by decide) ?_
      exact z_iret C dX6_readClause_188 hr rfl ⟨_, _, rfl, rfl, h⟩ (Nat.le_of_ble_eq_true rfl) (Nat.le_of_ble_eq_true rfl)
def w_X6_readClause (st : zTs)  (P : Int32 → zTs → Prop) : Prop := (zgP st 13 0 6 < 24) ∧ (((zwp.getD (zgP st 13 0 6) 0) = 0 → w_X6_fail st 1 (fun (r14 : Int32) (s14 : zTs) => ((r14 = 0 ∨ r14 = 1) ∧ (P r14 s14)))) ∧ (¬ (zwp.getD (zgP st 13 0 6) 0) = 0 → ((zgF st 24 (zgP st 13 0 10) 0) < 20 → ∀ s46 : zTs, s46 = zuF st 24 (zgP st 13 0 10) 0 ((zgF st 24 (zgP st 13 0 10) 0) + 1) → (w_X6_advance s46 (fun (s50 : zTs) => ((zgP st 13 0 6 < 24) ∧ (w_Jx29ce0_ordinal_8abf5_w s50 (zgP st 13 0 6) (fun (r57 : Int32) => (vp_in r57 24 ∧ (((zsm.getD ((r57 : Int32).toNatClampNeg) 0) = 1 → w_X6_readNotice s50 0 (fun (r106 : Int32) (s106 : zTs) => (w_X6_readClause_170 P s106 r106))) ∧ ((zsm.getD ((r57 : Int32).toNatClampNeg) 0) = 2 → w_X6_readNotice s50 1 (fun (r115 : Int32) (s115 : zTs) => (w_X6_readClause_170 P s115 r115))) ∧ ((zsm.getD ((r57 : Int32).toNatClampNeg) 0) = 3 → w_X6_readNotice s50 2 (fun (r124 : Int32) (s124 : zTs) => (w_X6_readClause_170 P s124 r124))) ∧ ((zsm.getD ((r57 : Int32).toNatClampNeg) 0) = 4 → w_X6_readNotice s50 3 (fun (r133 : Int32) (s133 : zTs) => (w_X6_readClause_170 P s133 r133))) ∧ ((zsm.getD ((r57 : Int32).toNatClampNeg) 0) = 5 → w_X6_readRestDays s50 (fun (r141 : Int32) (s141 : zTs) => (w_X6_readClause_170 P s141 r141))) ∧ ((zsm.getD ((r57 : Int32).toNatClampNeg) 0) = 6 → w_X6_readSilence s50 (fun (r149 : Int32) (s149 : zTs) => (w_X6_readClause_170 P s149 r149))) ∧ ((zsm.getD ((r57 : Int32).toNatClampNeg) 0) = 7 → w_X6_readHours s50 (fun (r157 : Int32) (s157 : zTs) => (w_X6_readClause_170 P s157 r157))) ∧ (¬ (zsm.getD ((r57 : Int32).toNatClampNeg) 0) = 1 ∧ ¬ (zsm.getD ((r57 : Int32).toNatClampNeg) 0) = 2 ∧ ¬ (zsm.getD ((r57 : Int32).toNatClampNeg) 0) = 3 ∧ ¬ (zsm.getD ((r57 : Int32).toNatClampNeg) 0) = 4 ∧ ¬ (zsm.getD ((r57 : Int32).toNatClampNeg) 0) = 5 ∧ ¬ (zsm.getD ((r57 : Int32).toNatClampNeg) 0) = 6 ∧ ¬ (zsm.getD ((r57 : Int32).toNatClampNeg) 0) = 7 → w_X6_readSetting s50 (zgP st 13 0 6) (fun (r166 : Int32) (s166 : zTs) => (w_X6_readClause_170 P s166 r166))))))))))) ∧ (¬ (zgF st 24 (zgP st 13 0 10) 0) < 20 → w_X6_fail st 3 (fun (r32 : Int32) (s32 : zTs) => ((r32 = 0 ∨ r32 = 1) ∧ (P r32 s32))))))
set_option maxHeartbeats 4000000 in
set_option maxRecDepth 100000 in
theorem c_X6_readClause {Z : zZ} {l : Launch} (hfl : l.stackTraces = false) {st : zTs}  {P : Int32 → zTs → Prop} (h : w_X6_readClause st  P) : zN Z l yX6_readClause cX6_readClause 3 (some .boolean) ({ frames := 42, cells := 1, slots := 400, locals := 956 } : Room) (zh Z zm1 st) [.ref 13] (zWi Z P) := by
  unfold w_X6_readClause at h
  refine z_enterN (by decide) (Nat.le_of_ble_eq_true rfl) (lc0 := [some (.ref 13), none, none]) rfl ?_
  intro p e s m args below meth c ad0 C hr _
  have hn9 : True := trivial
  replace C : zC Z p s m args meth c cX6_readClause 3 RX6 := C
  refine z_aload_n C dX6_readClause_0 (i := 0) rfl rfl ?_
  refine t_get C dX6_readClause_1 fl_X6_21 (k := 13) (i := 0) (by decide) rfl (fg_13_6 _ _ _) ?_
  refine z_astore_n C dX6_readClause_4 (i := 1) (lc' := [some (.ref 13), some (.ref (201 + 256 * (zgP st 13 0 6))), none]) rfl (by decide) rfl ?_
  refine z_aload_n C dX6_readClause_5 (i := 1) rfl rfl ?_
  obtain ⟨g6, h⟩ := h
  refine z_kgetNI C dX6_readClause_6 (q := 201 + 256 * (zgP st 13 0 6)) (zk_md201 (zgP st 13 0 6)) (x := zwp.getD (zgP st 13 0 6) 0) (fun z => z.2.2.2.2.2.2.2.2.2.2.1.2) (fun z => (z.2.2.2.1.1.1 (zgP st 13 0 6) g6).2.2 _ zwp_mem) ?_
  refine z_if_ne C dX6_readClause_9 (tgt := 18) (by decide) (fun c9 => ?_) (fun c9 => ?_)
  · have h := h.2 c9
    refine z_aload_n C dX6_readClause_18 (i := 0) rfl rfl ?_
    refine t_get C dX6_readClause_19 fl_X6_35 (k := 13) (i := 0) (by decide) rfl (fg_13_10 _ _ _) ?_
    refine t_get C dX6_readClause_22 fl_X6_90 (k := 24) (i := zgP st 13 0 10) (by decide) rfl (fg_24_0 _ _ _) ?_
    refine z_bipush C dX6_readClause_25 (v := 20) (by decide) ?_
    refine z_icmp_lt C dX6_readClause_27 (tgt := 36) (by decide) (fun c27 => ?_) (fun c27 => ?_)
    · have h := h.1 c27
      refine z_aload_n C dX6_readClause_36 (i := 0) rfl rfl ?_
      refine t_get C dX6_readClause_37 fl_X6_35 (k := 13) (i := 0) (by decide) rfl (fg_13_10 _ _ _) ?_
      refine z_dup C dX6_readClause_40 rfl ?_
      refine t_get C dX6_readClause_41 fl_X6_90 (k := 24) (i := zgP st 13 0 10) (by decide) rfl (fg_24_0 _ _ _) ?_
      refine z_iconst C dX6_readClause_44 (v := 1) (by decide) ?_
      refine z_iadd C dX6_readClause_45 ?_
      refine t_put C dX6_readClause_46 fq_X6_90 (Or.inl rfl) (k := 24) (i := zgP st 13 0 10) (by decide) rfl ⟨rfl, rfl⟩ (fp_24_0 _ _ _ _ _) ?_
      refine t_tops (fun s46 es46 => ?_)
      have h := h s46 es46
      refine z_aload_n C dX6_readClause_49 (i := 0) rfl rfl ?_
      refine t_callV C (rest := []) (c2 := 0) (s2 := 0) (kd := 13) (i := 0) [] dX6_readClause_50 lk_X6_61 li_X6_advance le_X6_advance (c_X6_advance hfl h) rfl rfl (by decide) rfl ⟨_, rfl⟩ rfl ⟨Nat.le_of_ble_eq_true rfl, Nat.le_of_ble_eq_true rfl⟩ (Nat.le_of_ble_eq_true rfl) ⟨Nat.le_of_ble_eq_true rfl, Nat.le_of_ble_eq_true rfl, Nat.le_of_ble_eq_true rfl, Nat.le_of_ble_eq_true rfl⟩ (k_Wv fun s50 h => ?_)
      refine z_gets C dX6_readClause_53 (q := 203) (by decide) gl_X6_93 (fun z => z.2.2.2.2.2.1.1) ?_
      refine z_aload_n C dX6_readClause_56 (i := 1) rfl rfl ?_
      obtain ⟨g57, h⟩ := h
      refine z_kcallU C (rest := [.ref 203]) (b := 201 + 256 * (zgP st 13 0 6)) (av := []) dX6_readClause_57 (zk_ordCU C) (c_Jx29ce0_ordinal_8abf5_w hfl h) rfl rfl (zk_md201 (zgP st 13 0 6)) (zk_recW g57) ⟨Nat.le_of_ble_eq_true rfl, Nat.le_of_ble_eq_true rfl⟩ (Nat.le_of_ble_eq_true rfl) ⟨Nat.le_of_ble_eq_true rfl, Nat.le_of_ble_eq_true rfl⟩ (k_Ri fun r57 h => ?_)
      obtain ⟨g60, h⟩ := h
      refine z_kti C dX6_readClause_60 (q := 203) (n := 24) (f0 := fun j => zsm.getD j 0) (by decide) (fun z => z.2.2.2.2.2.1.2) g60 ?_
      by_cases c61_1 : (zsm.getD ((r57 : Int32).toNatClampNeg) 0) = 1
      · have h := h.1 c61_1
        refine z_tableIn C dX6_readClause_61 (off := 43) (tgt := 104) (by rw [c61_1]; decide) (by rw [c61_1]; decide) (by rw [c61_1]; rfl) (by decide) ?_
        refine z_aload_n C dX6_readClause_104 (i := 0) rfl rfl ?_
        refine z_iconst C dX6_readClause_105 (v := 0) (by decide) ?_
        refine t_callV C (rest := []) (c2 := 1) (s2 := 400) (kd := 13) (i := 0) [.int (0)] dX6_readClause_106 lk_X6_102 li_X6_readNotice le_X6_readNotice (c_X6_readNotice hfl h) rfl rfl (by decide) rfl ⟨_, rfl⟩ rfl ⟨Nat.le_of_ble_eq_true rfl, Nat.le_of_ble_eq_true rfl⟩ (Nat.le_of_ble_eq_true rfl) ⟨Nat.le_of_ble_eq_true rfl, Nat.le_of_ble_eq_true rfl, Nat.le_of_ble_eq_true rfl, Nat.le_of_ble_eq_true rfl⟩ (k_Wi fun r106 s106 h => ?_)
        refine z_istore_n C dX6_readClause_109 (i := 2) (lc' := [some (.ref 13), some (.ref (201 + 256 * (zgP st 13 0 6))), some (.int (r106))]) rfl (by decide) rfl ?_
        refine z_goto C dX6_readClause_110 (tgt := 170) (by decide) ?_
        exact t_drop [true, false, true] rfl (j_X6_readClause_170 hfl C hr hn9  s106 r106 h)
      · by_cases c61_2 : (zsm.getD ((r57 : Int32).toNatClampNeg) 0) = 2
        · have h := h.2.1 c61_2
          refine z_tableIn C dX6_readClause_61 (off := 52) (tgt := 113) (by rw [c61_2]; decide) (by rw [c61_2]; decide) (by rw [c61_2]; rfl) (by decide) ?_
          refine z_aload_n C dX6_readClause_113 (i := 0) rfl rfl ?_
          refine z_iconst C dX6_readClause_114 (v := 1) (by decide) ?_
          refine t_callV C (rest := []) (c2 := 1) (s2 := 400) (kd := 13) (i := 0) [.int (1)] dX6_readClause_115 lk_X6_102 li_X6_readNotice le_X6_readNotice (c_X6_readNotice hfl h) rfl rfl (by decide) rfl ⟨_, rfl⟩ rfl ⟨Nat.le_of_ble_eq_true rfl, Nat.le_of_ble_eq_true rfl⟩ (Nat.le_of_ble_eq_true rfl) ⟨Nat.le_of_ble_eq_true rfl, Nat.le_of_ble_eq_true rfl, Nat.le_of_ble_eq_true rfl, Nat.le_of_ble_eq_true rfl⟩ (k_Wi fun r115 s115 h => ?_)
          refine z_istore_n C dX6_readClause_118 (i := 2) (lc' := [some (.ref 13), some (.ref (201 + 256 * (zgP st 13 0 6))), some (.int (r115))]) rfl (by decide) rfl ?_
          refine z_goto C dX6_readClause_119 (tgt := 170) (by decide) ?_
          exact t_drop [true, false, true] rfl (j_X6_readClause_170 hfl C hr hn9  s115 r115 h)
        · by_cases c61_3 : (zsm.getD ((r57 : Int32).toNatClampNeg) 0) = 3
          · have h := h.2.2.1 c61_3
            refine z_tableIn C dX6_readClause_61 (off := 61) (tgt := 122) (by rw [c61_3]; decide) (by rw [c61_3]; decide) (by rw [c61_3]; rfl) (by decide) ?_
            refine z_aload_n C dX6_readClause_122 (i := 0) rfl rfl ?_
            refine z_iconst C dX6_readClause_123 (v := 2) (by decide) ?_
            refine t_callV C (rest := []) (c2 := 1) (s2 := 400) (kd := 13) (i := 0) [.int (2)] dX6_readClause_124 lk_X6_102 li_X6_readNotice le_X6_readNotice (c_X6_readNotice hfl h) rfl rfl (by decide) rfl ⟨_, rfl⟩ rfl ⟨Nat.le_of_ble_eq_true rfl, Nat.le_of_ble_eq_true rfl⟩ (Nat.le_of_ble_eq_true rfl) ⟨Nat.le_of_ble_eq_true rfl, Nat.le_of_ble_eq_true rfl, Nat.le_of_ble_eq_true rfl, Nat.le_of_ble_eq_true rfl⟩ (k_Wi fun r124 s124 h => ?_)
            refine z_istore_n C dX6_readClause_127 (i := 2) (lc' := [some (.ref 13), some (.ref (201 + 256 * (zgP st 13 0 6))), some (.int (r124))]) rfl (by decide) rfl ?_
            refine z_goto C dX6_readClause_128 (tgt := 170) (by decide) ?_
            exact t_drop [true, false, true] rfl (j_X6_readClause_170 hfl C hr hn9  s124 r124 h)
          · by_cases c61_4 : (zsm.getD ((r57 : Int32).toNatClampNeg) 0) = 4
            · have h := h.2.2.2.1 c61_4
              refine z_tableIn C dX6_readClause_61 (off := 70) (tgt := 131) (by rw [c61_4]; decide) (by rw [c61_4]; decide) (by rw [c61_4]; rfl) (by decide) ?_
              refine z_aload_n C dX6_readClause_131 (i := 0) rfl rfl ?_
              refine z_iconst C dX6_readClause_132 (v := 3) (by decide) ?_
              refine t_callV C (rest := []) (c2 := 1) (s2 := 400) (kd := 13) (i := 0) [.int (3)] dX6_readClause_133 lk_X6_102 li_X6_readNotice le_X6_readNotice (c_X6_readNotice hfl h) rfl rfl (by decide) rfl ⟨_, rfl⟩ rfl ⟨Nat.le_of_ble_eq_true rfl, Nat.le_of_ble_eq_true rfl⟩ (Nat.le_of_ble_eq_true rfl) ⟨Nat.le_of_ble_eq_true rfl, Nat.le_of_ble_eq_true rfl, Nat.le_of_ble_eq_true rfl, Nat.le_of_ble_eq_true rfl⟩ (k_Wi fun r133 s133 h => ?_)
              refine z_istore_n C dX6_readClause_136 (i := 2) (lc' := [some (.ref 13), some (.ref (201 + 256 * (zgP st 13 0 6))), some (.int (r133))]) rfl (by decide) rfl ?_
              refine z_goto C dX6_readClause_137 (tgt := 170) (by decide) ?_
              exact t_drop [true, false, true] rfl (j_X6_readClause_170 hfl C hr hn9  s133 r133 h)
            · by_cases c61_5 : (zsm.getD ((r57 : Int32).toNatClampNeg) 0) = 5
              · have h := h.2.2.2.2.1 c61_5
                refine z_tableIn C dX6_readClause_61 (off := 79) (tgt := 140) (by rw [c61_5]; decide) (by rw [c61_5]; decide) (by rw [c61_5]; rfl) (by decide) ?_
                refine z_aload_n C dX6_readClause_140 (i := 0) rfl rfl ?_
                refine t_callV C (rest := []) (c2 := 0) (s2 := 0) (kd := 13) (i := 0) [] dX6_readClause_141 lk_X6_105 li_X6_readRestDays le_X6_readRestDays (c_X6_readRestDays hfl h) rfl rfl (by decide) rfl ⟨_, rfl⟩ rfl ⟨Nat.le_of_ble_eq_true rfl, Nat.le_of_ble_eq_true rfl⟩ (Nat.le_of_ble_eq_true rfl) ⟨Nat.le_of_ble_eq_true rfl, Nat.le_of_ble_eq_true rfl, Nat.le_of_ble_eq_true rfl, Nat.le_of_ble_eq_true rfl⟩ (k_Wi fun r141 s141 h => ?_)
                refine z_istore_n C dX6_readClause_144 (i := 2) (lc' := [some (.ref 13), some (.ref (201 + 256 * (zgP st 13 0 6))), some (.int (r141))]) rfl (by decide) rfl ?_
                refine z_goto C dX6_readClause_145 (tgt := 170) (by decide) ?_
                refine zG.wide (c2 := 1) (s2 := 400) (Nat.le_of_ble_eq_true rfl) (Nat.le_of_ble_eq_true rfl) ?_
                exact t_drop [true, false, true] rfl (j_X6_readClause_170 hfl C hr hn9  s141 r141 h)
              · by_cases c61_6 : (zsm.getD ((r57 : Int32).toNatClampNeg) 0) = 6
                · have h := h.2.2.2.2.2.1 c61_6
                  refine z_tableIn C dX6_readClause_61 (off := 87) (tgt := 148) (by rw [c61_6]; decide) (by rw [c61_6]; decide) (by rw [c61_6]; rfl) (by decide) ?_
                  refine z_aload_n C dX6_readClause_148 (i := 0) rfl rfl ?_
                  refine t_callV C (rest := []) (c2 := 0) (s2 := 0) (kd := 13) (i := 0) [] dX6_readClause_149 lk_X6_108 li_X6_readSilence le_X6_readSilence (c_X6_readSilence hfl h) rfl rfl (by decide) rfl ⟨_, rfl⟩ rfl ⟨Nat.le_of_ble_eq_true rfl, Nat.le_of_ble_eq_true rfl⟩ (Nat.le_of_ble_eq_true rfl) ⟨Nat.le_of_ble_eq_true rfl, Nat.le_of_ble_eq_true rfl, Nat.le_of_ble_eq_true rfl, Nat.le_of_ble_eq_true rfl⟩ (k_Wi fun r149 s149 h => ?_)
                  refine z_istore_n C dX6_readClause_152 (i := 2) (lc' := [some (.ref 13), some (.ref (201 + 256 * (zgP st 13 0 6))), some (.int (r149))]) rfl (by decide) rfl ?_
                  refine z_goto C dX6_readClause_153 (tgt := 170) (by decide) ?_
                  refine zG.wide (c2 := 1) (s2 := 400) (Nat.le_of_ble_eq_true rfl) (Nat.le_of_ble_eq_true rfl) ?_
                  exact t_drop [true, false, true] rfl (j_X6_readClause_170 hfl C hr hn9  s149 r149 h)
                · by_cases c61_7 : (zsm.getD ((r57 : Int32).toNatClampNeg) 0) = 7
                  · have h := h.2.2.2.2.2.2.1 c61_7
                    refine z_tableIn C dX6_readClause_61 (off := 95) (tgt := 156) (by rw [c61_7]; decide) (by rw [c61_7]; decide) (by rw [c61_7]; rfl) (by decide) ?_
                    refine z_aload_n C dX6_readClause_156 (i := 0) rfl rfl ?_
                    refine t_callV C (rest := []) (c2 := 0) (s2 := 0) (kd := 13) (i := 0) [] dX6_readClause_157 lk_X6_111 li_X6_readHours le_X6_readHours (c_X6_readHours hfl h) rfl rfl (by decide) rfl ⟨_, rfl⟩ rfl ⟨Nat.le_of_ble_eq_true rfl, Nat.le_of_ble_eq_true rfl⟩ (Nat.le_of_ble_eq_true rfl) ⟨Nat.le_of_ble_eq_true rfl, Nat.le_of_ble_eq_true rfl, Nat.le_of_ble_eq_true rfl, Nat.le_of_ble_eq_true rfl⟩ (k_Wi fun r157 s157 h => ?_)
                    refine z_istore_n C dX6_readClause_160 (i := 2) (lc' := [some (.ref 13), some (.ref (201 + 256 * (zgP st 13 0 6))), some (.int (r157))]) rfl (by decide) rfl ?_
                    refine z_goto C dX6_readClause_161 (tgt := 170) (by decide) ?_
                    refine zG.wide (c2 := 1) (s2 := 400) (Nat.le_of_ble_eq_true rfl) (Nat.le_of_ble_eq_true rfl) ?_
                    exact t_drop [true, false, true] rfl (j_X6_readClause_170 hfl C hr hn9  s157 r157 h)
                  · have h := h.2.2.2.2.2.2.2 ⟨c61_1, c61_2, c61_3, c61_4, c61_5, c61_6, c61_7⟩
                    refine z_tableOut C dX6_readClause_61 (tgt := 164) (zsw_all (fun k9 h9 h8 q9 => by rcases (by omega : k9 = 1 ∨ k9 = 2 ∨ k9 = 3 ∨ k9 = 4 ∨ k9 = 5 ∨ k9 = 6 ∨ k9 = 7) with rfl | rfl | rfl | rfl | rfl | rfl | rfl <;> first | exact c61_1 (Int32.toInt_inj.mp (q9.trans (by decide))) | exact c61_2 (Int32.toInt_inj.mp (q9.trans (by decide))) | exact c61_3 (Int32.toInt_inj.mp (q9.trans (by decide))) | exact c61_4 (Int32.toInt_inj.mp (q9.trans (by decide))) | exact c61_5 (Int32.toInt_inj.mp (q9.trans (by decide))) | exact c61_6 (Int32.toInt_inj.mp (q9.trans (by decide))) | exact c61_7 (Int32.toInt_inj.mp (q9.trans (by decide))))) (by decide) ?_
                    refine z_aload_n C dX6_readClause_164 (i := 0) rfl rfl ?_
                    refine z_aload_n C dX6_readClause_165 (i := 1) rfl rfl ?_
                    refine t_callV C (rest := []) (c2 := 0) (s2 := 0) (kd := 13) (i := 0) [.ref (201 + 256 * (zgP st 13 0 6))] dX6_readClause_166 lk_X6_114 li_X6_readSetting le_X6_readSetting (c_X6_readSetting hfl h) rfl rfl (by decide) rfl ⟨_, rfl⟩ rfl ⟨Nat.le_of_ble_eq_true rfl, Nat.le_of_ble_eq_true rfl⟩ (Nat.le_of_ble_eq_true rfl) ⟨Nat.le_of_ble_eq_true rfl, Nat.le_of_ble_eq_true rfl, Nat.le_of_ble_eq_true rfl, Nat.le_of_ble_eq_true rfl⟩ (k_Wi fun r166 s166 h => ?_)
                    refine z_istore_n C dX6_readClause_169 (i := 2) (lc' := [some (.ref 13), some (.ref (201 + 256 * (zgP st 13 0 6))), some (.int (r166))]) rfl (by decide) rfl ?_
                    refine zG.wide (c2 := 1) (s2 := 400) (Nat.le_of_ble_eq_true rfl) (Nat.le_of_ble_eq_true rfl) ?_
                    exact t_drop [true, false, true] rfl (j_X6_readClause_170 hfl C hr hn9  s166 r166 h)
    · have h := h.2 c27
      refine z_aload_n C dX6_readClause_30 (i := 0) rfl rfl ?_
      refine z_iconst C dX6_readClause_31 (v := 3) (by decide) ?_
      refine t_callV C (rest := []) (c2 := 0) (s2 := 0) (kd := 13) (i := 0) [.int (3)] dX6_readClause_32 lk_X6_79 li_X6_fail le_X6_fail (c_X6_fail hfl h) rfl rfl (by decide) rfl ⟨_, rfl⟩ rfl ⟨Nat.le_of_ble_eq_true rfl, Nat.le_of_ble_eq_true rfl⟩ (Nat.le_of_ble_eq_true rfl) ⟨Nat.le_of_ble_eq_true rfl, Nat.le_of_ble_eq_true rfl, Nat.le_of_ble_eq_true rfl, Nat.le_of_ble_eq_true rfl⟩ (k_Wi fun r32 s32 h => ?_)
      obtain ⟨g35, h⟩ := h
      exact z_iret C dX6_readClause_35 hr (zn_bool g35) ⟨_, _, rfl, rfl, h⟩ (Nat.le_of_ble_eq_true rfl) (Nat.le_of_ble_eq_true rfl)
  · have h := h.1 c9
    refine z_aload_n C dX6_readClause_12 (i := 0) rfl rfl ?_
    refine z_iconst C dX6_readClause_13 (v := 1) (by decide) ?_
    refine t_callV C (rest := []) (c2 := 0) (s2 := 0) (kd := 13) (i := 0) [.int (1)] dX6_readClause_14 lk_X6_79 li_X6_fail le_X6_fail (c_X6_fail hfl h) rfl rfl (by decide) rfl ⟨_, rfl⟩ rfl ⟨Nat.le_of_ble_eq_true rfl, Nat.le_of_ble_eq_true rfl⟩ (Nat.le_of_ble_eq_true rfl) ⟨Nat.le_of_ble_eq_true rfl, Nat.le_of_ble_eq_true rfl, Nat.le_of_ble_eq_true rfl, Nat.le_of_ble_eq_true rfl⟩ (k_Wi fun r14 s14 h => ?_)
    obtain ⟨g17, h⟩ := h
    exact z_iret C dX6_readClause_17 hr (zn_bool g17) ⟨_, _, rfl, rfl, h⟩ (Nat.le_of_ble_eq_true rfl) (Nat.le_of_ble_eq_true rfl)
def w_X6_readRule_81 (P : Option Nat → zTs → Prop)  (st : zTs) (a2 : Int32) : Prop := (a2 = 0 → P none st) ∧ (¬ a2 = 0 → P (some (zgP st 13 0 10)) st)
set_option maxHeartbeats 4000000 in
set_option maxRecDepth 100000 in
theorem j_X6_readRule_81 {P : Option Nat → zTs → Prop}  (hfl : l.stackTraces = false) (C : zC Z p s m args meth c cX6_readRule 4 RX6) (hr : meth.sig.returnType = (some (.object "PartyWalls$Rule"))) (hn9 : True)  (st : zTs) (a2 : Int32) (h : w_X6_readRule_81 P st a2) : zG Z ad0 h0 p l e ({ frames := 43, cells := 29, slots := 8822, locals := 978 } : Room) s m args below meth c (MQ below (zQ Z ad0 h0 (zWo Z 24 P)) args s 29 8822 (zA Z)) 29 8822 (zh Z zm1 st) 4 81 [some (.ref 13), none, some (.int (a2)), none] [] := by
  unfold w_X6_readRule_81 at h
  refine z_iload_n C dX6_readRule_81 (i := 2) rfl rfl ?_
  refine z_if_eq C dX6_readRule_82 (tgt := 92) (by decide) (fun c82 => ?_) (fun c82 => ?_)
  · have h := h.1 c82
    refine z_aconst_null C dX6_readRule_92 ?_
    exact z_aret C dX6_readRule_93 hr (Or.inl ⟨_, rfl⟩) (Or.inl rfl) ⟨_, _, rfl, rfl, h⟩ (Nat.le_of_ble_eq_true rfl) (Nat.le_of_ble_eq_true rfl)
  · have h := h.2 c82
    refine z_aload_n C dX6_readRule_85 (i := 0) rfl rfl ?_
    refine t_get C dX6_readRule_86 fl_X6_35 (k := 13) (i := 0) (by decide) rfl (fg_13_10 _ _ _) ?_
    refine z_goto C dX6_readRule_89 (tgt := 93) (by decide) ?_
    exact z_aret C dX6_readRule_93 hr (Or.inl ⟨_, rfl⟩) (Or.inr ⟨_, rfl⟩) ⟨_, _, rfl, rfl, h⟩ (Nat.le_of_ble_eq_true rfl) (Nat.le_of_ble_eq_true rfl)
def w_X6_readRule_47 (P : Option Nat → zTs → Prop)  : Nat → zTs → Int32 → Int32 → Prop
  | 0, _, _, _ => False
  | n9 + 1, st, a2, a3 => ((zgF st 13 0 3) ≤ a3 → w_X6_readRule_81 P st a2) ∧ (¬ (zgF st 13 0 3) ≤ a3 → (a2 = 0 → w_X6_readRule_81 P st a2) ∧ (¬ a2 = 0 → ((zgF st 13 0 3) ≤ (zgF st 13 0 4) → w_X6_readRule_81 P st a2) ∧ (¬ (zgF st 13 0 3) ≤ (zgF st 13 0 4) → w_X6_readClause st (fun (r71 : Int32) (s71 : zTs) => (∀ x75 : Int32, x75 = a3 + 1 → ((w_X6_readRule_47 P n9) s71 r71 x75))))))
set_option maxHeartbeats 4000000 in
set_option maxRecDepth 100000 in
theorem j_X6_readRule_47 {P : Option Nat → zTs → Prop}  (hfl : l.stackTraces = false) (C : zC Z p s m args meth c cX6_readRule 4 RX6) (hr : meth.sig.returnType = (some (.object "PartyWalls$Rule"))) (hn9 : True)  : ∀ (n9 : Nat) (hn : n9 ≤ 22) (st : zTs) (a2 : Int32) (a3 : Int32), w_X6_readRule_47 P n9 st a2 a3 → zG Z ad0 h0 p l e ({ frames := 43, cells := 29, slots := 8822, locals := 978 } : Room) s m args below meth c (MQ below (zQ Z ad0 h0 (zWo Z 24 P)) args s 29 8822 (zA Z)) (7 + (22 - n9) * 1) (22 + (22 - n9) * 400) (zh Z zm1 st) 4 47 [some (.ref 13), none, some (.int (a2)), some (.int (a3))] [] := by
  intro n9
  induction n9 with
  | zero => intro hn st a2 a3 h; exact h.elim
  | succ n9 hK47 =>
    intro hn st a2 a3 h
    rw [w_X6_readRule_47] at h
    refine z_iload_n C dX6_readRule_47 (i := 3) rfl rfl ?_
    refine z_aload_n C dX6_readRule_48 (i := 0) rfl rfl ?_
    refine t_get C dX6_readRule_49 fl_X6_55 (k := 13) (i := 0) (by decide) rfl (fg_13_3 _ _ _) ?_
    refine z_icmp_ge C dX6_readRule_52 (tgt := 81) (by decide) (fun c52 => ?_) (fun c52 => ?_)
    · have h := h.1 c52
      refine zG.wide (c2 := 29) (s2 := 8822) (by omega) (by omega) ?_
      exact t_drop [true, false, true, false] rfl (j_X6_readRule_81 hfl C hr hn9  st a2 h)
    · have h := h.2 c52
      refine z_iload_n C dX6_readRule_55 (i := 2) rfl rfl ?_
      refine z_if_eq C dX6_readRule_56 (tgt := 81) (by decide) (fun c56 => ?_) (fun c56 => ?_)
      · have h := h.1 c56
        refine zG.wide (c2 := 29) (s2 := 8822) (by omega) (by omega) ?_
        exact t_drop [true, false, true, false] rfl (j_X6_readRule_81 hfl C hr hn9  st a2 h)
      · have h := h.2 c56
        refine z_aload_n C dX6_readRule_59 (i := 0) rfl rfl ?_
        refine t_get C dX6_readRule_60 fl_X6_64 (k := 13) (i := 0) (by decide) rfl (fg_13_4 _ _ _) ?_
        refine z_aload_n C dX6_readRule_63 (i := 0) rfl rfl ?_
        refine t_get C dX6_readRule_64 fl_X6_55 (k := 13) (i := 0) (by decide) rfl (fg_13_3 _ _ _) ?_
        refine z_icmp_ge C dX6_readRule_67 (tgt := 81) (by decide) (fun c67 => ?_) (fun c67 => ?_)
        · have h := h.1 c67
          refine zG.wide (c2 := 29) (s2 := 8822) (by omega) (by omega) ?_
          exact t_drop [true, false, true, false] rfl (j_X6_readRule_81 hfl C hr hn9  st a2 h)
        · have h := h.2 c67
          refine z_aload_n C dX6_readRule_70 (i := 0) rfl rfl ?_
          refine t_callV C (rest := []) (c2 := 7 + (22 - n9) * 1) (s2 := 22 + (22 - n9) * 400) (kd := 13) (i := 0) [] dX6_readRule_71 lk_X6_67 li_X6_readClause le_X6_readClause (c_X6_readClause hfl h) rfl rfl (by decide) rfl ⟨_, rfl⟩ rfl ⟨Nat.le_of_ble_eq_true rfl, Nat.le_of_ble_eq_true rfl⟩ (Nat.le_of_ble_eq_true rfl) ⟨by show _ + 1 ≤ _; omega, by show _ + 400 ≤ _; omega, by show _ ≤ 29; omega, by show _ ≤ 8822; omega⟩ (k_Wi fun r71 s71 h => ?_)
          refine z_istore_n C dX6_readRule_74 (i := 2) (lc' := [some (.ref 13), none, some (.int (r71)), some (.int (a3))]) rfl (by decide) rfl ?_
          obtain ⟨x75, ex75⟩ : ∃ z : Int32, z = a3 + 1 := ⟨_, rfl⟩
          have h := h x75 ex75
          refine z_iinc C dX6_readRule_75 (v := x75) (lc' := [some (.ref 13), none, some (.int (r71)), some (.int (x75))]) rfl (by decide) (by rw [ex75]; rfl) rfl ?_
          refine z_goto C dX6_readRule_78 (tgt := 47) (by decide) ?_
          exact t_drop [true, false, true, true] rfl (hK47 (by omega) s71 r71 x75 h)
def w_X6_readRule (st : zTs) (a1 : Int32) (P : Option Nat → zTs → Prop) : Prop := ∀ n1 : Nat, n1 = zgN st 24 → (∀ s1 : zTs, s1 = zuW st 24 → (w_X5_init s1 (zm0 zm1 24 n1) n1 (fun (s5 : zTs) => (∀ s8 : zTs, s8 = zuP s5 13 0 10 n1 → (w_J9_min_7cf53 s8 a1 400 (fun (r18 : Int32) => (∀ s21 : zTs, s21 = zuF s8 13 0 3 r18 → (∀ s26 : zTs, s26 = zuF s21 13 0 5 0 → (∀ s31 : zTs, s31 = zuF s26 13 0 11 0 → (∀ s36 : zTs, s36 = zuF s31 13 0 12 (-1) → (w_X6_advance s36 (fun (s42 : zTs) => (w_X6_readRule_47 P 22 s42 (1) (0))))))))))))))
set_option maxHeartbeats 4000000 in
set_option maxRecDepth 100000 in
theorem c_X6_readRule {Z : zZ} {l : Launch} (hfl : l.stackTraces = false) {st : zTs} {a1 : Int32} {P : Option Nat → zTs → Prop} (h : w_X6_readRule st a1 P) : zN Z l yX6_readRule cX6_readRule 4 (some (.object "PartyWalls$Rule")) ({ frames := 43, cells := 29, slots := 8822, locals := 978 } : Room) (zh Z zm1 st) [.ref 13, .int (a1)] (zWo Z 24 P) := by
  unfold w_X6_readRule at h
  refine z_enterN (by decide) (Nat.le_of_ble_eq_true rfl) (lc0 := [some (.ref 13), some (.int (a1)), none, none]) rfl ?_
  intro p e s m args below meth c ad0 C hr _
  have hn9 : True := trivial
  replace C : zC Z p s m args meth c cX6_readRule 4 RX6 := C
  refine z_aload_n C dX6_readRule_0 (i := 0) rfl rfl ?_
  obtain ⟨n1, g1⟩ : ∃ z : Nat, z = zgN st 24 := ⟨_, rfl⟩
  have h := h n1 g1
  refine t_new C dX6_readRule_1 nl_X6_32 rfl (by decide) nw_24 (c2 := 1) (s2 := 14) ⟨Nat.le_of_ble_eq_true rfl, Nat.le_of_ble_eq_true rfl, Nat.le_of_ble_eq_true rfl, Nat.le_of_ble_eq_true rfl⟩ ?_
  rw [← g1]
  refine t_tops (fun s1 es1 => ?_)
  have h := h s1 es1
  refine z_dup C dX6_readRule_4 rfl ?_
  refine t_callIN C (rest := [.ref (24 + 256 * n1), .ref 13]) (c2 := 7) (s2 := 22) [] dX6_readRule_5 (by decide) ln_X5_init lni_X5_init (by decide +kernel) lnm_X5_init rfl (c_X5_init hfl h) rfl rfl ⟨Nat.le_of_ble_eq_true rfl, Nat.le_of_ble_eq_true rfl⟩ (Nat.le_of_ble_eq_true rfl) ⟨Nat.le_of_ble_eq_true rfl, Nat.le_of_ble_eq_true rfl, Nat.le_of_ble_eq_true rfl, Nat.le_of_ble_eq_true rfl⟩ (k_Wv fun s5 h => ?_)
  refine t_mask (mk' := zm1) (k := 24) (i := n1) (fun k9 i9 g9 => by simp only [zms, zm0, zp2_ne g9]) (nm_24 (g1 := by simp [zms, zm0, zm1, zp2, zp1]) (g2 := by simp [zms, zm0, zm1, zp2, zp1]) (f1 := rfl) (f2 := rfl)) ?_
  refine t_put C dX6_readRule_8 fq_X6_35 (Or.inl rfl) (k := 13) (i := 0) (by decide) rfl ⟨rfl, rfl⟩ (fp_13_10 _ _ _ _) ?_
  refine t_tops (fun s8 es8 => ?_)
  have h := h s8 es8
  refine z_aload_n C dX6_readRule_11 (i := 0) rfl rfl ?_
  refine z_iload_n C dX6_readRule_12 (i := 1) rfl rfl ?_
  refine z_aload_n C dX6_readRule_13 (i := 0) rfl rfl ?_
  refine t_get C dX6_readRule_14 fl_X6_42 (k := 13) (i := 0) (by decide) rfl (fg_13_0 _ _ _) ?_
  refine t_alen C dX6_readRule_17 (k := 43) (i := 0) (t := 1) (by decide) rfl (sh_43 _ _ _ _) rfl (v := 400) (by decide) ?_
  refine t_callS C (rest := [.ref 13]) (c2 := 7) (s2 := 22) [.int (a1), .int (400)] dX6_readRule_18 lk_X6_49 ls_J9_min_7cf53 (c_J9_min_7cf53 hfl h) rfl rfl ⟨Nat.le_of_ble_eq_true rfl, Nat.le_of_ble_eq_true rfl⟩ (Nat.le_of_ble_eq_true rfl) ⟨Nat.le_of_ble_eq_true rfl, Nat.le_of_ble_eq_true rfl, Nat.le_of_ble_eq_true rfl, Nat.le_of_ble_eq_true rfl⟩ (k_Ri fun r18 h => ?_)
  refine t_put C dX6_readRule_21 fq_X6_55 (Or.inl rfl) (k := 13) (i := 0) (by decide) rfl ⟨rfl, rfl⟩ (fp_13_3 _ _ _ _ _) ?_
  refine t_tops (fun s21 es21 => ?_)
  have h := h s21 es21
  refine z_aload_n C dX6_readRule_24 (i := 0) rfl rfl ?_
  refine z_iconst C dX6_readRule_25 (v := 0) (by decide) ?_
  refine t_put C dX6_readRule_26 fq_X6_58 (Or.inl rfl) (k := 13) (i := 0) (by decide) rfl ⟨rfl, rfl⟩ (fp_13_5 _ _ _ _ _) ?_
  refine t_tops (fun s26 es26 => ?_)
  have h := h s26 es26
  refine z_aload_n C dX6_readRule_29 (i := 0) rfl rfl ?_
  refine z_iconst C dX6_readRule_30 (v := 0) (by decide) ?_
  refine t_put C dX6_readRule_31 fq_X6_46 (Or.inl rfl) (k := 13) (i := 0) (by decide) rfl ⟨rfl, rfl⟩ (fp_13_11 _ _ _ _ _) ?_
  refine t_tops (fun s31 es31 => ?_)
  have h := h s31 es31
  refine z_aload_n C dX6_readRule_34 (i := 0) rfl rfl ?_
  refine z_iconst C dX6_readRule_35 (v := (-1)) (by decide) ?_
  refine t_put C dX6_readRule_36 fq_X6_39 (Or.inl rfl) (k := 13) (i := 0) (by decide) rfl ⟨rfl, rfl⟩ (fp_13_12 _ _ _ _ _) ?_
  refine t_tops (fun s36 es36 => ?_)
  have h := h s36 es36
  refine z_iconst C dX6_readRule_39 (v := 1) (by decide) ?_
  refine z_istore_n C dX6_readRule_40 (i := 2) (lc' := [some (.ref 13), some (.int (a1)), some (.int (1)), none]) rfl (by decide) rfl ?_
  refine z_aload_n C dX6_readRule_41 (i := 0) rfl rfl ?_
  refine t_callV C (rest := []) (c2 := 7) (s2 := 22) (kd := 13) (i := 0) [] dX6_readRule_42 lk_X6_61 li_X6_advance le_X6_advance (c_X6_advance hfl h) rfl rfl (by decide) rfl ⟨_, rfl⟩ rfl ⟨Nat.le_of_ble_eq_true rfl, Nat.le_of_ble_eq_true rfl⟩ (Nat.le_of_ble_eq_true rfl) ⟨Nat.le_of_ble_eq_true rfl, Nat.le_of_ble_eq_true rfl, Nat.le_of_ble_eq_true rfl, Nat.le_of_ble_eq_true rfl⟩ (k_Wv fun s42 h => ?_)
  refine z_iconst C dX6_readRule_45 (v := 0) (by decide) ?_
  refine z_istore_n C dX6_readRule_46 (i := 3) (lc' := [some (.ref 13), some (.int (a1)), some (.int (1)), some (.int (0))]) rfl (by decide) rfl ?_
  exact t_drop [true, false, true, true] rfl (j_X6_readRule_47 hfl C hr hn9  22 (by decide) s42 (1) (0) h)
set_option maxRecDepth 100000 in
def w_X7_init (st : zTs) (mk : zMk) (i : Nat) (a1 : Int32) (P : zTs → Prop) : Prop := zgN st 62 = i ∧ (∀ s7 : zTs, s7 = zuV st 62 20 → (zgN s7 63 = i ∧ (∀ s15 : zTs, s15 = zuV s7 63 20 → (∀ s22 : zTs, s22 = zuF s15 22 i 0 a1 → (P s22)))))
set_option maxHeartbeats 4000000 in
set_option maxRecDepth 100000 in
theorem c_X7_init {Z : zZ} {l : Launch} (hfl : l.stackTraces = false) {st : zTs} {mk : zMk} {i : Nat} {a1 : Int32} {P : zTs → Prop} (h : w_X7_init st mk i a1 P) : zN Z l yX7_init cX7_init 2 none ({ frames := 1, cells := 2, slots := 40, locals := 20 } : Room) (zh Z mk st) [.ref (22 + 256 * i), .int (a1)] (zWv Z (zms (zms mk 22 i 1) 22 i 2) P) := by
  unfold w_X7_init at h
  refine z_enterN (by decide) (Nat.le_of_ble_eq_true rfl) (lc0 := [some (.ref (22 + 256 * i)), some (.int (a1))]) rfl ?_
  intro p e s m args below meth c ad0 C hr hin
  have hn9 : True := trivial
  replace C : zC Z p s m args meth c cX7_init 2 RX7 := C
  refine z_aload_n C dX7_init_0 (i := 0) rfl rfl ?_
  refine z_objInit C dX7_init_1 lo_X7_3 lo_inst lo_code ⟨Nat.le_of_ble_eq_true rfl, Nat.le_of_ble_eq_true rfl⟩ ?_
  refine z_aload_n C dX7_init_4 (i := 0) rfl rfl ?_
  refine z_bipush C dX7_init_5 (v := 20) (by decide) ?_
  obtain ⟨g7, h⟩ := h
  refine t_newa C dX7_init_7 la_int rfl (t := 0) rfl (fun _ => rfl) (by decide) (by decide) (Nat.le_of_ble_eq_true rfl) (by decide) nw_62 (c2 := 1) (s2 := 20) ⟨Nat.le_of_ble_eq_true rfl, Nat.le_of_ble_eq_true rfl, Nat.le_of_ble_eq_true rfl, Nat.le_of_ble_eq_true rfl⟩ ?_
  rw [g7]
  refine t_tops (fun s7 es7 => ?_)
  have h := h s7 es7
  refine t_put C dX7_init_9 fq_X7_9 (Or.inr hin) (k := 22) (i := i) (by decide) rfl ⟨rfl, rfl⟩ (fp_22_1 _ _ _ _) ?_
  refine z_aload_n C dX7_init_12 (i := 0) rfl rfl ?_
  refine z_bipush C dX7_init_13 (v := 20) (by decide) ?_
  obtain ⟨g15, h⟩ := h
  refine t_newa C dX7_init_15 la_int rfl (t := 0) rfl (fun _ => rfl) (by decide) (by decide) (Nat.le_of_ble_eq_true rfl) (by decide) nw_63 (c2 := 2) (s2 := 40) ⟨Nat.le_of_ble_eq_true rfl, Nat.le_of_ble_eq_true rfl, Nat.le_of_ble_eq_true rfl, Nat.le_of_ble_eq_true rfl⟩ ?_
  rw [g15]
  refine t_tops (fun s15 es15 => ?_)
  have h := h s15 es15
  refine t_put C dX7_init_17 fq_X7_15 (Or.inr hin) (k := 22) (i := i) (by decide) rfl ⟨rfl, rfl⟩ (fp_22_2 _ _ _ _) ?_
  refine z_aload_n C dX7_init_20 (i := 0) rfl rfl ?_
  refine z_iload_n C dX7_init_21 (i := 1) rfl rfl ?_
  refine t_put C dX7_init_22 fq_X7_18 (Or.inr hin) (k := 22) (i := i) (by decide) rfl ⟨rfl, rfl⟩ (fp_22_0 _ _ _ _ _) ?_
  refine t_tops (fun s22 es22 => ?_)
  have h := h s22 es22
  exact z_vret C dX7_init_25 hr ⟨_, rfl, rfl, h⟩ (Nat.le_of_ble_eq_true rfl) (Nat.le_of_ble_eq_true rfl)
set_option maxRecDepth 100000 in
def w_X8_init (st : zTs) (mk : zMk) (i : Nat) (a1 : Int32) (a2 : Int32) (P : zTs → Prop) : Prop := zgN st 55 = i ∧ (∀ s6 : zTs, s6 = zuV st 55 2 → (zgN s6 56 = i ∧ (∀ s14 : zTs, s14 = zuV s6 56 12 → (zgN s14 57 = i ∧ (∀ s23 : zTs, s23 = zuV s14 57 240 → (zgN s23 58 = i ∧ (∀ s32 : zTs, s32 = zuV s23 58 240 → (zgN s32 59 = i ∧ (∀ s41 : zTs, s41 = zuV s32 59 240 → (zgN s41 60 = i ∧ (∀ s50 : zTs, s50 = zuV s41 60 240 → (vp_in 0 2 ∧ (∀ s61 : zTs, s61 = zuA s50 55 i (0 : Int32).toNatClampNeg a1 → (vp_in 1 2 ∧ (∀ s68 : zTs, s68 = zuA s61 55 i (1 : Int32).toNatClampNeg a2 → (P s68))))))))))))))))
set_option maxHeartbeats 4000000 in
set_option maxRecDepth 100000 in
theorem c_X8_init {Z : zZ} {l : Launch} (hfl : l.stackTraces = false) {st : zTs} {mk : zMk} {i : Nat} {a1 : Int32} {a2 : Int32} {P : zTs → Prop} (h : w_X8_init st mk i a1 a2 P) : zN Z l yX8_init cX8_init 3 none ({ frames := 1, cells := 6, slots := 974, locals := 20 } : Room) (zh Z mk st) [.ref (20 + 256 * i), .int (a1), .int (a2)] (zWv Z (zms (zms (zms (zms (zms (zms mk 20 i 0) 20 i 1) 20 i 2) 20 i 3) 20 i 4) 20 i 5) P) := by
  unfold w_X8_init at h
  refine z_enterN (by decide) (Nat.le_of_ble_eq_true rfl) (lc0 := [some (.ref (20 + 256 * i)), some (.int (a1)), some (.int (a2))]) rfl ?_
  intro p e s m args below meth c ad0 C hr hin
  have hn9 : True := trivial
  replace C : zC Z p s m args meth c cX8_init 3 RX8 := C
  refine z_aload_n C dX8_init_0 (i := 0) rfl rfl ?_
  refine z_objInit C dX8_init_1 lo_X8_3 lo_inst lo_code ⟨Nat.le_of_ble_eq_true rfl, Nat.le_of_ble_eq_true rfl⟩ ?_
  refine z_aload_n C dX8_init_4 (i := 0) rfl rfl ?_
  refine z_iconst C dX8_init_5 (v := 2) (by decide) ?_
  obtain ⟨g6, h⟩ := h
  refine t_newa C dX8_init_6 la_int rfl (t := 0) rfl (fun _ => rfl) (by decide) (by decide) (Nat.le_of_ble_eq_true rfl) (by decide) nw_55 (c2 := 1) (s2 := 2) ⟨Nat.le_of_ble_eq_true rfl, Nat.le_of_ble_eq_true rfl, Nat.le_of_ble_eq_true rfl, Nat.le_of_ble_eq_true rfl⟩ ?_
  rw [g6]
  refine t_tops (fun s6 es6 => ?_)
  have h := h s6 es6
  refine t_put C dX8_init_8 fq_X8_9 (Or.inr hin) (k := 20) (i := i) (by decide) rfl ⟨rfl, rfl⟩ (fp_20_0 _ _ _ _) ?_
  refine z_aload_n C dX8_init_11 (i := 0) rfl rfl ?_
  refine z_bipush C dX8_init_12 (v := 12) (by decide) ?_
  obtain ⟨g14, h⟩ := h
  refine t_newa C dX8_init_14 la_int rfl (t := 0) rfl (fun _ => rfl) (by decide) (by decide) (Nat.le_of_ble_eq_true rfl) (by decide) nw_56 (c2 := 2) (s2 := 14) ⟨Nat.le_of_ble_eq_true rfl, Nat.le_of_ble_eq_true rfl, Nat.le_of_ble_eq_true rfl, Nat.le_of_ble_eq_true rfl⟩ ?_
  rw [g14]
  refine t_tops (fun s14 es14 => ?_)
  have h := h s14 es14
  refine t_put C dX8_init_16 fq_X8_15 (Or.inr hin) (k := 20) (i := i) (by decide) rfl ⟨rfl, rfl⟩ (fp_20_1 _ _ _ _) ?_
  refine z_aload_n C dX8_init_19 (i := 0) rfl rfl ?_
  refine z_sipush C dX8_init_20 (v := 240) (by decide) ?_
  obtain ⟨g23, h⟩ := h
  refine t_newa C dX8_init_23 la_int rfl (t := 0) rfl (fun _ => rfl) (by decide) (by decide) (Nat.le_of_ble_eq_true rfl) (by decide) nw_57 (c2 := 3) (s2 := 254) ⟨Nat.le_of_ble_eq_true rfl, Nat.le_of_ble_eq_true rfl, Nat.le_of_ble_eq_true rfl, Nat.le_of_ble_eq_true rfl⟩ ?_
  rw [g23]
  refine t_tops (fun s23 es23 => ?_)
  have h := h s23 es23
  refine t_put C dX8_init_25 fq_X8_18 (Or.inr hin) (k := 20) (i := i) (by decide) rfl ⟨rfl, rfl⟩ (fp_20_2 _ _ _ _) ?_
  refine z_aload_n C dX8_init_28 (i := 0) rfl rfl ?_
  refine z_sipush C dX8_init_29 (v := 240) (by decide) ?_
  obtain ⟨g32, h⟩ := h
  refine t_newa C dX8_init_32 la_int rfl (t := 0) rfl (fun _ => rfl) (by decide) (by decide) (Nat.le_of_ble_eq_true rfl) (by decide) nw_58 (c2 := 4) (s2 := 494) ⟨Nat.le_of_ble_eq_true rfl, Nat.le_of_ble_eq_true rfl, Nat.le_of_ble_eq_true rfl, Nat.le_of_ble_eq_true rfl⟩ ?_
  rw [g32]
  refine t_tops (fun s32 es32 => ?_)
  have h := h s32 es32
  refine t_put C dX8_init_34 fq_X8_21 (Or.inr hin) (k := 20) (i := i) (by decide) rfl ⟨rfl, rfl⟩ (fp_20_3 _ _ _ _) ?_
  refine z_aload_n C dX8_init_37 (i := 0) rfl rfl ?_
  refine z_sipush C dX8_init_38 (v := 240) (by decide) ?_
  obtain ⟨g41, h⟩ := h
  refine t_newa C dX8_init_41 la_int rfl (t := 0) rfl (fun _ => rfl) (by decide) (by decide) (Nat.le_of_ble_eq_true rfl) (by decide) nw_59 (c2 := 5) (s2 := 734) ⟨Nat.le_of_ble_eq_true rfl, Nat.le_of_ble_eq_true rfl, Nat.le_of_ble_eq_true rfl, Nat.le_of_ble_eq_true rfl⟩ ?_
  rw [g41]
  refine t_tops (fun s41 es41 => ?_)
  have h := h s41 es41
  refine t_put C dX8_init_43 fq_X8_24 (Or.inr hin) (k := 20) (i := i) (by decide) rfl ⟨rfl, rfl⟩ (fp_20_4 _ _ _ _) ?_
  refine z_aload_n C dX8_init_46 (i := 0) rfl rfl ?_
  refine z_sipush C dX8_init_47 (v := 240) (by decide) ?_
  obtain ⟨g50, h⟩ := h
  refine t_newa C dX8_init_50 la_int rfl (t := 0) rfl (fun _ => rfl) (by decide) (by decide) (Nat.le_of_ble_eq_true rfl) (by decide) nw_60 (c2 := 6) (s2 := 974) ⟨Nat.le_of_ble_eq_true rfl, Nat.le_of_ble_eq_true rfl, Nat.le_of_ble_eq_true rfl, Nat.le_of_ble_eq_true rfl⟩ ?_
  rw [g50]
  refine t_tops (fun s50 es50 => ?_)
  have h := h s50 es50
  refine t_put C dX8_init_52 fq_X8_27 (Or.inr hin) (k := 20) (i := i) (by decide) rfl ⟨rfl, rfl⟩ (fp_20_5 _ _ _ _) ?_
  refine z_aload_n C dX8_init_55 (i := 0) rfl rfl ?_
  refine t_get C dX8_init_56 fl_X8_9 (k := 20) (i := i) (by decide) rfl ⟨_, rfl, congrArg some (if_pos (by simp [zms, zm0, zm1, zp2, zp1]))⟩ ?_
  refine z_iconst C dX8_init_59 (v := 0) (by decide) ?_
  refine z_iload_n C dX8_init_60 (i := 1) rfl rfl ?_
  obtain ⟨g61, h⟩ := h
  refine t_iast C dX8_init_61 (k := 55) (i := i) (by decide) rfl (fun s9 => sh_55 _ _ s9 _) g61 ?_
  refine t_tops (fun s61 es61 => ?_)
  have h := h s61 es61
  refine z_aload_n C dX8_init_62 (i := 0) rfl rfl ?_
  refine t_get C dX8_init_63 fl_X8_9 (k := 20) (i := i) (by decide) rfl ⟨_, rfl, congrArg some (if_pos (by simp [zms, zm0, zm1, zp2, zp1]))⟩ ?_
  refine z_iconst C dX8_init_66 (v := 1) (by decide) ?_
  refine z_iload_n C dX8_init_67 (i := 2) rfl rfl ?_
  obtain ⟨g68, h⟩ := h
  refine t_iast C dX8_init_68 (k := 55) (i := i) (by decide) rfl (fun s9 => sh_55 _ _ s9 _) g68 ?_
  refine t_tops (fun s68 es68 => ?_)
  have h := h s68 es68
  exact z_vret C dX8_init_69 hr ⟨_, rfl, rfl, h⟩ (Nat.le_of_ble_eq_true rfl) (Nat.le_of_ble_eq_true rfl)
set_option maxRecDepth 100000 in
def w_X10_init (st : zTs) (mk : zMk) (i : Nat) (a1 : Nat) (a2 : Int32) (a3 : Int32) (a4 : Nat) (a5 : Int32) (P : zTs → Prop) : Prop := ∀ s6 : zTs, s6 = zuF st 21 i 5 (-1) → (∀ s11 : zTs, s11 = zuF s6 21 i 6 (-1) → (∀ s16 : zTs, s16 = zuF s11 21 i 7 (-1) → (∀ s21 : zTs, s21 = zuF s16 21 i 8 (-1) → (∀ s26 : zTs, s26 = zuF s21 21 i 9 (-1) → (∀ s31 : zTs, s31 = zuF s26 21 i 11 (-1) → (zgN s31 67 = i ∧ (∀ s36 : zTs, s36 = zuU s31 67 3 → (zgN s36 61 = i ∧ (∀ s44 : zTs, s44 = zuV s36 61 3 → (vp_in 0 3 ∧ (∀ s49 : zTs, s49 = zuA s44 61 i (0 : Int32).toNatClampNeg (-1) → (vp_in 1 3 ∧ (∀ s53 : zTs, s53 = zuA s49 61 i (1 : Int32).toNatClampNeg (-1) → (vp_in 2 3 ∧ (∀ s57 : zTs, s57 = zuA s53 61 i (2 : Int32).toNatClampNeg (-1) → (∀ s63 : zTs, s63 = zuF s57 21 i 16 (-1) → (∀ s68 : zTs, s68 = zuP s63 21 i 0 a1 → (∀ s73 : zTs, s73 = zuF s68 21 i 1 a2 → (∀ s78 : zTs, s78 = zuF s73 21 i 2 a3 → (∀ s84 : zTs, s84 = zuP s78 21 i 3 a4 → ((a5 = 0 → ∀ s98 : zTs, s98 = zuF s84 21 i 4 1 → (P s98)) ∧ (¬ a5 = 0 → ∀ s98 : zTs, s98 = zuF s84 21 i 4 0 → (P s98)))))))))))))))))))))))
set_option maxHeartbeats 4000000 in
set_option maxRecDepth 100000 in
theorem c_X10_init {Z : zZ} {l : Launch} (hfl : l.stackTraces = false) {st : zTs} {mk : zMk} {i : Nat} {a1 : Nat} {a2 : Int32} {a3 : Int32} {a4 : Nat} {a5 : Int32} {P : zTs → Prop} (h : w_X10_init st mk i a1 a2 a3 a4 a5 P) : zN Z l yX10_init cX10_init 6 none ({ frames := 1, cells := 2, slots := 6, locals := 20 } : Room) (zh Z mk st) [.ref (21 + 256 * i), .ref (20 + 256 * a1), .int (a2), .int (a3), .ref (24 + 256 * a4), .int (a5)] (zWv Z (zms (zms (zms (zms mk 21 i 12) 21 i 13) 21 i 0) 21 i 3) P) := by
  unfold w_X10_init at h
  refine z_enterN (by decide) (Nat.le_of_ble_eq_true rfl) (lc0 := [some (.ref (21 + 256 * i)), some (.ref (20 + 256 * a1)), some (.int (a2)), some (.int (a3)), some (.ref (24 + 256 * a4)), some (.int (a5))]) rfl ?_
  intro p e s m args below meth c ad0 C hr hin
  have hn9 : True := trivial
  replace C : zC Z p s m args meth c cX10_init 6 RX10 := C
  refine z_aload_n C dX10_init_0 (i := 0) rfl rfl ?_
  refine z_objInit C dX10_init_1 lo_X10_3 lo_inst lo_code ⟨Nat.le_of_ble_eq_true rfl, Nat.le_of_ble_eq_true rfl⟩ ?_
  refine z_aload_n C dX10_init_4 (i := 0) rfl rfl ?_
  refine z_iconst C dX10_init_5 (v := (-1)) (by decide) ?_
  refine t_put C dX10_init_6 fq_X10_9 (Or.inl rfl) (k := 21) (i := i) (by decide) rfl ⟨rfl, rfl⟩ (fp_21_5 _ _ _ _ _) ?_
  refine t_tops (fun s6 es6 => ?_)
  have h := h s6 es6
  refine z_aload_n C dX10_init_9 (i := 0) rfl rfl ?_
  refine z_iconst C dX10_init_10 (v := (-1)) (by decide) ?_
  refine t_put C dX10_init_11 fq_X10_15 (Or.inl rfl) (k := 21) (i := i) (by decide) rfl ⟨rfl, rfl⟩ (fp_21_6 _ _ _ _ _) ?_
  refine t_tops (fun s11 es11 => ?_)
  have h := h s11 es11
  refine z_aload_n C dX10_init_14 (i := 0) rfl rfl ?_
  refine z_iconst C dX10_init_15 (v := (-1)) (by decide) ?_
  refine t_put C dX10_init_16 fq_X10_18 (Or.inl rfl) (k := 21) (i := i) (by decide) rfl ⟨rfl, rfl⟩ (fp_21_7 _ _ _ _ _) ?_
  refine t_tops (fun s16 es16 => ?_)
  have h := h s16 es16
  refine z_aload_n C dX10_init_19 (i := 0) rfl rfl ?_
  refine z_iconst C dX10_init_20 (v := (-1)) (by decide) ?_
  refine t_put C dX10_init_21 fq_X10_21 (Or.inl rfl) (k := 21) (i := i) (by decide) rfl ⟨rfl, rfl⟩ (fp_21_8 _ _ _ _ _) ?_
  refine t_tops (fun s21 es21 => ?_)
  have h := h s21 es21
  refine z_aload_n C dX10_init_24 (i := 0) rfl rfl ?_
  refine z_iconst C dX10_init_25 (v := (-1)) (by decide) ?_
  refine t_put C dX10_init_26 fq_X10_24 (Or.inl rfl) (k := 21) (i := i) (by decide) rfl ⟨rfl, rfl⟩ (fp_21_9 _ _ _ _ _) ?_
  refine t_tops (fun s26 es26 => ?_)
  have h := h s26 es26
  refine z_aload_n C dX10_init_29 (i := 0) rfl rfl ?_
  refine z_iconst C dX10_init_30 (v := (-1)) (by decide) ?_
  refine t_put C dX10_init_31 fq_X10_27 (Or.inl rfl) (k := 21) (i := i) (by decide) rfl ⟨rfl, rfl⟩ (fp_21_11 _ _ _ _ _) ?_
  refine t_tops (fun s31 es31 => ?_)
  have h := h s31 es31
  refine z_aload_n C dX10_init_34 (i := 0) rfl rfl ?_
  refine z_iconst C dX10_init_35 (v := 3) (by decide) ?_
  obtain ⟨g36, h⟩ := h
  refine t_newq C dX10_init_36 kl_X10_30 (zC_AO2 C) (t := 5) (k := 67) rfl (by decide) (by decide) (Nat.le_of_ble_eq_true rfl) (by decide) zN_U zo_U nw_67 (c2 := 1) (s2 := 3) ⟨Nat.le_of_ble_eq_true rfl, Nat.le_of_ble_eq_true rfl, Nat.le_of_ble_eq_true rfl, Nat.le_of_ble_eq_true rfl⟩ ?_
  rw [g36]
  refine t_tops (fun s36 es36 => ?_)
  have h := h s36 es36
  refine t_put C dX10_init_39 fq_X10_32 (Or.inr hin) (k := 21) (i := i) (by decide) rfl ⟨rfl, rfl⟩ (fp_21_12 _ _ _ _) ?_
  refine z_aload_n C dX10_init_42 (i := 0) rfl rfl ?_
  refine z_iconst C dX10_init_43 (v := 3) (by decide) ?_
  obtain ⟨g44, h⟩ := h
  refine t_newa C dX10_init_44 la_int rfl (t := 0) rfl (fun _ => rfl) (by decide) (by decide) (Nat.le_of_ble_eq_true rfl) (by decide) nw_61 (c2 := 2) (s2 := 6) ⟨Nat.le_of_ble_eq_true rfl, Nat.le_of_ble_eq_true rfl, Nat.le_of_ble_eq_true rfl, Nat.le_of_ble_eq_true rfl⟩ ?_
  rw [g44]
  refine t_tops (fun s44 es44 => ?_)
  have h := h s44 es44
  refine z_dup C dX10_init_46 rfl ?_
  refine z_iconst C dX10_init_47 (v := 0) (by decide) ?_
  refine z_iconst C dX10_init_48 (v := (-1)) (by decide) ?_
  obtain ⟨g49, h⟩ := h
  refine t_iast C dX10_init_49 (k := 61) (i := i) (by decide) rfl (fun s9 => sh_61 _ _ s9 _) g49 ?_
  refine t_tops (fun s49 es49 => ?_)
  have h := h s49 es49
  refine z_dup C dX10_init_50 rfl ?_
  refine z_iconst C dX10_init_51 (v := 1) (by decide) ?_
  refine z_iconst C dX10_init_52 (v := (-1)) (by decide) ?_
  obtain ⟨g53, h⟩ := h
  refine t_iast C dX10_init_53 (k := 61) (i := i) (by decide) rfl (fun s9 => sh_61 _ _ s9 _) g53 ?_
  refine t_tops (fun s53 es53 => ?_)
  have h := h s53 es53
  refine z_dup C dX10_init_54 rfl ?_
  refine z_iconst C dX10_init_55 (v := 2) (by decide) ?_
  refine z_iconst C dX10_init_56 (v := (-1)) (by decide) ?_
  obtain ⟨g57, h⟩ := h
  refine t_iast C dX10_init_57 (k := 61) (i := i) (by decide) rfl (fun s9 => sh_61 _ _ s9 _) g57 ?_
  refine t_tops (fun s57 es57 => ?_)
  have h := h s57 es57
  refine t_put C dX10_init_58 fq_X10_36 (Or.inr hin) (k := 21) (i := i) (by decide) rfl ⟨rfl, rfl⟩ (fp_21_13 _ _ _ _) ?_
  refine z_aload_n C dX10_init_61 (i := 0) rfl rfl ?_
  refine z_iconst C dX10_init_62 (v := (-1)) (by decide) ?_
  refine t_put C dX10_init_63 fq_X10_40 (Or.inl rfl) (k := 21) (i := i) (by decide) rfl ⟨rfl, rfl⟩ (fp_21_16 _ _ _ _ _) ?_
  refine t_tops (fun s63 es63 => ?_)
  have h := h s63 es63
  refine z_aload_n C dX10_init_66 (i := 0) rfl rfl ?_
  refine z_aload_n C dX10_init_67 (i := 1) rfl rfl ?_
  refine t_put C dX10_init_68 fq_X10_43 (Or.inr hin) (k := 21) (i := i) (by decide) rfl ⟨rfl, rfl⟩ (fm_21_0 _ _ _ _ _) ?_
  refine t_tops (fun s68 es68 => ?_)
  have h := h s68 es68
  refine z_aload_n C dX10_init_71 (i := 0) rfl rfl ?_
  refine z_iload_n C dX10_init_72 (i := 2) rfl rfl ?_
  refine t_put C dX10_init_73 fq_X10_47 (Or.inr hin) (k := 21) (i := i) (by decide) rfl ⟨rfl, rfl⟩ (fp_21_1 _ _ _ _ _) ?_
  refine t_tops (fun s73 es73 => ?_)
  have h := h s73 es73
  refine z_aload_n C dX10_init_76 (i := 0) rfl rfl ?_
  refine z_iload_n C dX10_init_77 (i := 3) rfl rfl ?_
  refine t_put C dX10_init_78 fq_X10_50 (Or.inr hin) (k := 21) (i := i) (by decide) rfl ⟨rfl, rfl⟩ (fp_21_2 _ _ _ _ _) ?_
  refine t_tops (fun s78 es78 => ?_)
  have h := h s78 es78
  refine z_aload_n C dX10_init_81 (i := 0) rfl rfl ?_
  refine z_aload C dX10_init_82 rfl ?_
  refine t_put C dX10_init_84 fq_X10_53 (Or.inr hin) (k := 21) (i := i) (by decide) rfl ⟨rfl, rfl⟩ (fm_21_3 _ _ _ _ _) ?_
  refine t_tops (fun s84 es84 => ?_)
  have h := h s84 es84
  refine z_aload_n C dX10_init_87 (i := 0) rfl rfl ?_
  refine z_iload C dX10_init_88 rfl ?_
  refine z_if_eq C dX10_init_90 (tgt := 97) (by decide) (fun c90 => ?_) (fun c90 => ?_)
  · have h := h.1 c90
    refine z_iconst C dX10_init_97 (v := 1) (by decide) ?_
    refine t_put C dX10_init_98 fq_X10_57 (Or.inl rfl) (k := 21) (i := i) (by decide) rfl ⟨rfl, rfl⟩ (fp_21_4 _ _ _ _ _) ?_
    refine t_tops (fun s98 es98 => ?_)
    have h := h s98 es98
    exact z_vret C dX10_init_101 hr ⟨_, rfl, rfl, h⟩ (Nat.le_of_ble_eq_true rfl) (Nat.le_of_ble_eq_true rfl)
  · have h := h.2 c90
    refine z_iconst C dX10_init_93 (v := 0) (by decide) ?_
    refine z_goto C dX10_init_94 (tgt := 98) (by decide) ?_
    refine t_put C dX10_init_98 fq_X10_57 (Or.inl rfl) (k := 21) (i := i) (by decide) rfl ⟨rfl, rfl⟩ (fp_21_4 _ _ _ _ _) ?_
    refine t_tops (fun s98 es98 => ?_)
    have h := h s98 es98
    exact z_vret C dX10_init_101 hr ⟨_, rfl, rfl, h⟩ (Nat.le_of_ble_eq_true rfl) (Nat.le_of_ble_eq_true rfl)
set_option maxRecDepth 100000 in
def w_Jxa1e45_init_da8c8_r30 (st : zTs) (mk : zMk) (P : zTs → Prop) : Prop := P st
set_option maxHeartbeats 4000000 in
set_option maxRecDepth 100000 in
theorem c_Jxa1e45_init_da8c8_r30 {Z : zZ} {l : Launch} (hfl : l.stackTraces = false) {st : zTs} {mk : zMk} {P : zTs → Prop} (h : w_Jxa1e45_init_da8c8_r30 st mk P) : zN Z l yJxa1e45_init_da8c8 cJxa1e45_init_da8c8 1 none ({ frames := 1, cells := 0, slots := 0, locals := 20 } : Room) (zh Z mk st) [.ref 30] (zWv Z mk P) := by
  unfold w_Jxa1e45_init_da8c8_r30 at h
  refine z_enterF (by decide +kernel) (Nat.le_of_ble_eq_true rfl) (lc0 := [some (.ref 30)]) rfl ?_
  intro p e s m args below meth c ad0 C hr hin
  have hn9 : True := trivial
  replace C : zC Z p s m args meth c cJxa1e45_init_da8c8 1 RJxa1e45 := C
  refine z_aload_n C dJxa1e45_init_da8c8_0 (i := 0) rfl rfl ?_
  refine z_objInit C dJxa1e45_init_da8c8_1 lo_Jxa1e45_1 lo_inst lo_code ⟨Nat.le_of_ble_eq_true rfl, Nat.le_of_ble_eq_true rfl⟩ ?_
  exact z_vret C dJxa1e45_init_da8c8_4 hr ⟨_, rfl, rfl, h⟩ (Nat.le_of_ble_eq_true rfl) (Nat.le_of_ble_eq_true rfl)
set_option maxRecDepth 100000 in
def w_Jxc12de_init_da8c8_r30 (st : zTs) (mk : zMk) (P : zTs → Prop) : Prop := w_Jxa1e45_init_da8c8_r30 st mk (fun (s1 : zTs) => (∀ s6 : zTs, s6 = zuF s1 30 0 0 0 → (P s6)))
set_option maxHeartbeats 4000000 in
set_option maxRecDepth 100000 in
theorem c_Jxc12de_init_da8c8_r30 {Z : zZ} {l : Launch} (hfl : l.stackTraces = false) {st : zTs} {mk : zMk} {P : zTs → Prop} (h : w_Jxc12de_init_da8c8_r30 st mk P) : zN Z l yJxc12de_init_da8c8 cJxc12de_init_da8c8 1 none ({ frames := 2, cells := 0, slots := 0, locals := 40 } : Room) (zh Z mk st) [.ref 30] (zWv Z mk P) := by
  unfold w_Jxc12de_init_da8c8_r30 at h
  refine z_enterF (by decide +kernel) (Nat.le_of_ble_eq_true rfl) (lc0 := [some (.ref 30)]) rfl ?_
  intro p e s m args below meth c ad0 C hr hin
  have hn9 : True := trivial
  replace C : zC Z p s m args meth c cJxc12de_init_da8c8 1 RJxc12de := C
  refine z_aload_n C dJxc12de_init_da8c8_0 (i := 0) rfl rfl ?_
  refine t_callI C (rest := []) (c2 := 0) (s2 := 0) [] dJxc12de_init_da8c8_1 lk_Jxc12de_1 lnm_Jxa1e45_init_da8c8 rfl (c_Jxa1e45_init_da8c8_r30 hfl h) rfl rfl ⟨Nat.le_of_ble_eq_true rfl, Nat.le_of_ble_eq_true rfl⟩ (Nat.le_of_ble_eq_true rfl) ⟨Nat.le_of_ble_eq_true rfl, Nat.le_of_ble_eq_true rfl, Nat.le_of_ble_eq_true rfl, Nat.le_of_ble_eq_true rfl⟩ (k_Wv fun s1 h => ?_)
  refine z_aload_n C dJxc12de_init_da8c8_4 (i := 0) rfl rfl ?_
  refine z_iconst C dJxc12de_init_da8c8_5 (v := 0) (by decide) ?_
  refine t_put C dJxc12de_init_da8c8_6 fq_Jxc12de_7 (Or.inl rfl) (k := 30) (i := 0) (by decide) rfl ⟨rfl, rfl⟩ (fp_30_0 _ _ _ _ _) ?_
  refine t_tops (fun s6 es6 => ?_)
  have h := h s6 es6
  exact z_vret C dJxc12de_init_da8c8_9 hr ⟨_, rfl, rfl, h⟩ (Nat.le_of_ble_eq_true rfl) (Nat.le_of_ble_eq_true rfl)
set_option maxRecDepth 100000 in
def w_Jx4a65c_init_da8c8_r30 (st : zTs) (mk : zMk) (P : zTs → Prop) : Prop := w_Jxc12de_init_da8c8_r30 st mk (fun (s1 : zTs) => (∀ s8 : zTs, s8 = zuP s1 30 0 1 204 → (P s8)))
set_option maxHeartbeats 4000000 in
set_option maxRecDepth 100000 in
theorem c_Jx4a65c_init_da8c8_r30 {Z : zZ} {l : Launch} (hfl : l.stackTraces = false) {st : zTs} {mk : zMk} {P : zTs → Prop} (h : w_Jx4a65c_init_da8c8_r30 st mk P) : zN Z l yJx4a65c_init_da8c8 cJx4a65c_init_da8c8 1 none ({ frames := 3, cells := 0, slots := 0, locals := 60 } : Room) (zh Z mk st) [.ref 30] (zWv Z (zms mk 30 0 1) P) := by
  unfold w_Jx4a65c_init_da8c8_r30 at h
  refine z_enterF (by decide +kernel) (Nat.le_of_ble_eq_true rfl) (lc0 := [some (.ref 30)]) rfl ?_
  intro p e s m args below meth c ad0 C hr hin
  have hn9 : True := trivial
  replace C : zC Z p s m args meth c cJx4a65c_init_da8c8 1 RJx4a65c := C
  refine z_aload_n C dJx4a65c_init_da8c8_0 (i := 0) rfl rfl ?_
  refine t_callI C (rest := []) (c2 := 0) (s2 := 0) [] dJx4a65c_init_da8c8_1 lk_Jx4a65c_1 lnm_Jxc12de_init_da8c8 rfl (c_Jxc12de_init_da8c8_r30 hfl h) rfl rfl ⟨Nat.le_of_ble_eq_true rfl, Nat.le_of_ble_eq_true rfl⟩ (Nat.le_of_ble_eq_true rfl) ⟨Nat.le_of_ble_eq_true rfl, Nat.le_of_ble_eq_true rfl, Nat.le_of_ble_eq_true rfl, Nat.le_of_ble_eq_true rfl⟩ (k_Wv fun s1 h => ?_)
  refine z_aload_n C dJx4a65c_init_da8c8_4 (i := 0) rfl rfl ?_
  refine z_gets C dJx4a65c_init_da8c8_5 (q := 204) (by decide) gl_Jx4a65c_39 (fun z => z.2.2.2.2.2.2.1.1) ?_
  refine t_put C dJx4a65c_init_da8c8_8 fq_Jx4a65c_9 (Or.inl rfl) (k := 30) (i := 0) (by decide) rfl ⟨rfl, rfl⟩ (fm_30_1 _ _ _ _ _) ?_
  refine t_tops (fun s8 es8 => ?_)
  have h := h s8 es8
  exact z_vret C dJx4a65c_init_da8c8_11 hr ⟨_, rfl, rfl, h⟩ (Nat.le_of_ble_eq_true rfl) (Nat.le_of_ble_eq_true rfl)
set_option maxRecDepth 100000 in
def w_Jxa1e45_init_da8c8_r31 (st : zTs) (mk : zMk) (P : zTs → Prop) : Prop := P st
set_option maxHeartbeats 4000000 in
set_option maxRecDepth 100000 in
theorem c_Jxa1e45_init_da8c8_r31 {Z : zZ} {l : Launch} (hfl : l.stackTraces = false) {st : zTs} {mk : zMk} {P : zTs → Prop} (h : w_Jxa1e45_init_da8c8_r31 st mk P) : zN Z l yJxa1e45_init_da8c8 cJxa1e45_init_da8c8 1 none ({ frames := 1, cells := 0, slots := 0, locals := 20 } : Room) (zh Z mk st) [.ref 31] (zWv Z mk P) := by
  unfold w_Jxa1e45_init_da8c8_r31 at h
  refine z_enterF (by decide +kernel) (Nat.le_of_ble_eq_true rfl) (lc0 := [some (.ref 31)]) rfl ?_
  intro p e s m args below meth c ad0 C hr hin
  have hn9 : True := trivial
  replace C : zC Z p s m args meth c cJxa1e45_init_da8c8 1 RJxa1e45 := C
  refine z_aload_n C dJxa1e45_init_da8c8_0 (i := 0) rfl rfl ?_
  refine z_objInit C dJxa1e45_init_da8c8_1 lo_Jxa1e45_1 lo_inst lo_code ⟨Nat.le_of_ble_eq_true rfl, Nat.le_of_ble_eq_true rfl⟩ ?_
  exact z_vret C dJxa1e45_init_da8c8_4 hr ⟨_, rfl, rfl, h⟩ (Nat.le_of_ble_eq_true rfl) (Nat.le_of_ble_eq_true rfl)
set_option maxRecDepth 100000 in
def w_Jxc12de_init_da8c8_r31 (st : zTs) (mk : zMk) (P : zTs → Prop) : Prop := w_Jxa1e45_init_da8c8_r31 st mk (fun (s1 : zTs) => (∀ s6 : zTs, s6 = zuF s1 31 0 0 0 → (P s6)))
set_option maxHeartbeats 4000000 in
set_option maxRecDepth 100000 in
theorem c_Jxc12de_init_da8c8_r31 {Z : zZ} {l : Launch} (hfl : l.stackTraces = false) {st : zTs} {mk : zMk} {P : zTs → Prop} (h : w_Jxc12de_init_da8c8_r31 st mk P) : zN Z l yJxc12de_init_da8c8 cJxc12de_init_da8c8 1 none ({ frames := 2, cells := 0, slots := 0, locals := 40 } : Room) (zh Z mk st) [.ref 31] (zWv Z mk P) := by
  unfold w_Jxc12de_init_da8c8_r31 at h
  refine z_enterF (by decide +kernel) (Nat.le_of_ble_eq_true rfl) (lc0 := [some (.ref 31)]) rfl ?_
  intro p e s m args below meth c ad0 C hr hin
  have hn9 : True := trivial
  replace C : zC Z p s m args meth c cJxc12de_init_da8c8 1 RJxc12de := C
  refine z_aload_n C dJxc12de_init_da8c8_0 (i := 0) rfl rfl ?_
  refine t_callI C (rest := []) (c2 := 0) (s2 := 0) [] dJxc12de_init_da8c8_1 lk_Jxc12de_1 lnm_Jxa1e45_init_da8c8 rfl (c_Jxa1e45_init_da8c8_r31 hfl h) rfl rfl ⟨Nat.le_of_ble_eq_true rfl, Nat.le_of_ble_eq_true rfl⟩ (Nat.le_of_ble_eq_true rfl) ⟨Nat.le_of_ble_eq_true rfl, Nat.le_of_ble_eq_true rfl, Nat.le_of_ble_eq_true rfl, Nat.le_of_ble_eq_true rfl⟩ (k_Wv fun s1 h => ?_)
  refine z_aload_n C dJxc12de_init_da8c8_4 (i := 0) rfl rfl ?_
  refine z_iconst C dJxc12de_init_da8c8_5 (v := 0) (by decide) ?_
  refine t_put C dJxc12de_init_da8c8_6 fq_Jxc12de_7 (Or.inl rfl) (k := 31) (i := 0) (by decide) rfl ⟨rfl, rfl⟩ (fp_31_0 _ _ _ _ _) ?_
  refine t_tops (fun s6 es6 => ?_)
  have h := h s6 es6
  exact z_vret C dJxc12de_init_da8c8_9 hr ⟨_, rfl, rfl, h⟩ (Nat.le_of_ble_eq_true rfl) (Nat.le_of_ble_eq_true rfl)
set_option maxRecDepth 100000 in
def w_Jx4a65c_init_da8c8_r31 (st : zTs) (mk : zMk) (P : zTs → Prop) : Prop := w_Jxc12de_init_da8c8_r31 st mk (fun (s1 : zTs) => (∀ s8 : zTs, s8 = zuP s1 31 0 1 204 → (P s8)))
set_option maxHeartbeats 4000000 in
set_option maxRecDepth 100000 in
theorem c_Jx4a65c_init_da8c8_r31 {Z : zZ} {l : Launch} (hfl : l.stackTraces = false) {st : zTs} {mk : zMk} {P : zTs → Prop} (h : w_Jx4a65c_init_da8c8_r31 st mk P) : zN Z l yJx4a65c_init_da8c8 cJx4a65c_init_da8c8 1 none ({ frames := 3, cells := 0, slots := 0, locals := 60 } : Room) (zh Z mk st) [.ref 31] (zWv Z (zms mk 31 0 1) P) := by
  unfold w_Jx4a65c_init_da8c8_r31 at h
  refine z_enterF (by decide +kernel) (Nat.le_of_ble_eq_true rfl) (lc0 := [some (.ref 31)]) rfl ?_
  intro p e s m args below meth c ad0 C hr hin
  have hn9 : True := trivial
  replace C : zC Z p s m args meth c cJx4a65c_init_da8c8 1 RJx4a65c := C
  refine z_aload_n C dJx4a65c_init_da8c8_0 (i := 0) rfl rfl ?_
  refine t_callI C (rest := []) (c2 := 0) (s2 := 0) [] dJx4a65c_init_da8c8_1 lk_Jx4a65c_1 lnm_Jxc12de_init_da8c8 rfl (c_Jxc12de_init_da8c8_r31 hfl h) rfl rfl ⟨Nat.le_of_ble_eq_true rfl, Nat.le_of_ble_eq_true rfl⟩ (Nat.le_of_ble_eq_true rfl) ⟨Nat.le_of_ble_eq_true rfl, Nat.le_of_ble_eq_true rfl, Nat.le_of_ble_eq_true rfl, Nat.le_of_ble_eq_true rfl⟩ (k_Wv fun s1 h => ?_)
  refine z_aload_n C dJx4a65c_init_da8c8_4 (i := 0) rfl rfl ?_
  refine z_gets C dJx4a65c_init_da8c8_5 (q := 204) (by decide) gl_Jx4a65c_39 (fun z => z.2.2.2.2.2.2.1.1) ?_
  refine t_put C dJx4a65c_init_da8c8_8 fq_Jx4a65c_9 (Or.inl rfl) (k := 31) (i := 0) (by decide) rfl ⟨rfl, rfl⟩ (fm_31_1 _ _ _ _ _) ?_
  refine t_tops (fun s8 es8 => ?_)
  have h := h s8 es8
  exact z_vret C dJx4a65c_init_da8c8_11 hr ⟨_, rfl, rfl, h⟩ (Nat.le_of_ble_eq_true rfl) (Nat.le_of_ble_eq_true rfl)
set_option maxRecDepth 100000 in
def w_Jxa1e45_init_da8c8_r32 (st : zTs) (mk : zMk) (P : zTs → Prop) : Prop := P st
set_option maxHeartbeats 4000000 in
set_option maxRecDepth 100000 in
theorem c_Jxa1e45_init_da8c8_r32 {Z : zZ} {l : Launch} (hfl : l.stackTraces = false) {st : zTs} {mk : zMk} {P : zTs → Prop} (h : w_Jxa1e45_init_da8c8_r32 st mk P) : zN Z l yJxa1e45_init_da8c8 cJxa1e45_init_da8c8 1 none ({ frames := 1, cells := 0, slots := 0, locals := 20 } : Room) (zh Z mk st) [.ref 32] (zWv Z mk P) := by
  unfold w_Jxa1e45_init_da8c8_r32 at h
  refine z_enterF (by decide +kernel) (Nat.le_of_ble_eq_true rfl) (lc0 := [some (.ref 32)]) rfl ?_
  intro p e s m args below meth c ad0 C hr hin
  have hn9 : True := trivial
  replace C : zC Z p s m args meth c cJxa1e45_init_da8c8 1 RJxa1e45 := C
  refine z_aload_n C dJxa1e45_init_da8c8_0 (i := 0) rfl rfl ?_
  refine z_objInit C dJxa1e45_init_da8c8_1 lo_Jxa1e45_1 lo_inst lo_code ⟨Nat.le_of_ble_eq_true rfl, Nat.le_of_ble_eq_true rfl⟩ ?_
  exact z_vret C dJxa1e45_init_da8c8_4 hr ⟨_, rfl, rfl, h⟩ (Nat.le_of_ble_eq_true rfl) (Nat.le_of_ble_eq_true rfl)
set_option maxRecDepth 100000 in
def w_Jxc12de_init_da8c8_r32 (st : zTs) (mk : zMk) (P : zTs → Prop) : Prop := w_Jxa1e45_init_da8c8_r32 st mk (fun (s1 : zTs) => (∀ s6 : zTs, s6 = zuF s1 32 0 0 0 → (P s6)))
set_option maxHeartbeats 4000000 in
set_option maxRecDepth 100000 in
theorem c_Jxc12de_init_da8c8_r32 {Z : zZ} {l : Launch} (hfl : l.stackTraces = false) {st : zTs} {mk : zMk} {P : zTs → Prop} (h : w_Jxc12de_init_da8c8_r32 st mk P) : zN Z l yJxc12de_init_da8c8 cJxc12de_init_da8c8 1 none ({ frames := 2, cells := 0, slots := 0, locals := 40 } : Room) (zh Z mk st) [.ref 32] (zWv Z mk P) := by
  unfold w_Jxc12de_init_da8c8_r32 at h
  refine z_enterF (by decide +kernel) (Nat.le_of_ble_eq_true rfl) (lc0 := [some (.ref 32)]) rfl ?_
  intro p e s m args below meth c ad0 C hr hin
  have hn9 : True := trivial
  replace C : zC Z p s m args meth c cJxc12de_init_da8c8 1 RJxc12de := C
  refine z_aload_n C dJxc12de_init_da8c8_0 (i := 0) rfl rfl ?_
  refine t_callI C (rest := []) (c2 := 0) (s2 := 0) [] dJxc12de_init_da8c8_1 lk_Jxc12de_1 lnm_Jxa1e45_init_da8c8 rfl (c_Jxa1e45_init_da8c8_r32 hfl h) rfl rfl ⟨Nat.le_of_ble_eq_true rfl, Nat.le_of_ble_eq_true rfl⟩ (Nat.le_of_ble_eq_true rfl) ⟨Nat.le_of_ble_eq_true rfl, Nat.le_of_ble_eq_true rfl, Nat.le_of_ble_eq_true rfl, Nat.le_of_ble_eq_true rfl⟩ (k_Wv fun s1 h => ?_)
  refine z_aload_n C dJxc12de_init_da8c8_4 (i := 0) rfl rfl ?_
  refine z_iconst C dJxc12de_init_da8c8_5 (v := 0) (by decide) ?_
  refine t_put C dJxc12de_init_da8c8_6 fq_Jxc12de_7 (Or.inl rfl) (k := 32) (i := 0) (by decide) rfl ⟨rfl, rfl⟩ (fp_32_0 _ _ _ _ _) ?_
  refine t_tops (fun s6 es6 => ?_)
  have h := h s6 es6
  exact z_vret C dJxc12de_init_da8c8_9 hr ⟨_, rfl, rfl, h⟩ (Nat.le_of_ble_eq_true rfl) (Nat.le_of_ble_eq_true rfl)
set_option maxRecDepth 100000 in
def w_Jx4a65c_init_da8c8_r32 (st : zTs) (mk : zMk) (P : zTs → Prop) : Prop := w_Jxc12de_init_da8c8_r32 st mk (fun (s1 : zTs) => (∀ s8 : zTs, s8 = zuP s1 32 0 1 204 → (P s8)))
set_option maxHeartbeats 4000000 in
set_option maxRecDepth 100000 in
theorem c_Jx4a65c_init_da8c8_r32 {Z : zZ} {l : Launch} (hfl : l.stackTraces = false) {st : zTs} {mk : zMk} {P : zTs → Prop} (h : w_Jx4a65c_init_da8c8_r32 st mk P) : zN Z l yJx4a65c_init_da8c8 cJx4a65c_init_da8c8 1 none ({ frames := 3, cells := 0, slots := 0, locals := 60 } : Room) (zh Z mk st) [.ref 32] (zWv Z (zms mk 32 0 1) P) := by
  unfold w_Jx4a65c_init_da8c8_r32 at h
  refine z_enterF (by decide +kernel) (Nat.le_of_ble_eq_true rfl) (lc0 := [some (.ref 32)]) rfl ?_
  intro p e s m args below meth c ad0 C hr hin
  have hn9 : True := trivial
  replace C : zC Z p s m args meth c cJx4a65c_init_da8c8 1 RJx4a65c := C
  refine z_aload_n C dJx4a65c_init_da8c8_0 (i := 0) rfl rfl ?_
  refine t_callI C (rest := []) (c2 := 0) (s2 := 0) [] dJx4a65c_init_da8c8_1 lk_Jx4a65c_1 lnm_Jxc12de_init_da8c8 rfl (c_Jxc12de_init_da8c8_r32 hfl h) rfl rfl ⟨Nat.le_of_ble_eq_true rfl, Nat.le_of_ble_eq_true rfl⟩ (Nat.le_of_ble_eq_true rfl) ⟨Nat.le_of_ble_eq_true rfl, Nat.le_of_ble_eq_true rfl, Nat.le_of_ble_eq_true rfl, Nat.le_of_ble_eq_true rfl⟩ (k_Wv fun s1 h => ?_)
  refine z_aload_n C dJx4a65c_init_da8c8_4 (i := 0) rfl rfl ?_
  refine z_gets C dJx4a65c_init_da8c8_5 (q := 204) (by decide) gl_Jx4a65c_39 (fun z => z.2.2.2.2.2.2.1.1) ?_
  refine t_put C dJx4a65c_init_da8c8_8 fq_Jx4a65c_9 (Or.inl rfl) (k := 32) (i := 0) (by decide) rfl ⟨rfl, rfl⟩ (fm_32_1 _ _ _ _ _) ?_
  refine t_tops (fun s8 es8 => ?_)
  have h := h s8 es8
  exact z_vret C dJx4a65c_init_da8c8_11 hr ⟨_, rfl, rfl, h⟩ (Nat.le_of_ble_eq_true rfl) (Nat.le_of_ble_eq_true rfl)
set_option maxRecDepth 100000 in
def w_Jxa1e45_init_da8c8_r33 (st : zTs) (mk : zMk) (P : zTs → Prop) : Prop := P st
set_option maxHeartbeats 4000000 in
set_option maxRecDepth 100000 in
theorem c_Jxa1e45_init_da8c8_r33 {Z : zZ} {l : Launch} (hfl : l.stackTraces = false) {st : zTs} {mk : zMk} {P : zTs → Prop} (h : w_Jxa1e45_init_da8c8_r33 st mk P) : zN Z l yJxa1e45_init_da8c8 cJxa1e45_init_da8c8 1 none ({ frames := 1, cells := 0, slots := 0, locals := 20 } : Room) (zh Z mk st) [.ref 33] (zWv Z mk P) := by
  unfold w_Jxa1e45_init_da8c8_r33 at h
  refine z_enterF (by decide +kernel) (Nat.le_of_ble_eq_true rfl) (lc0 := [some (.ref 33)]) rfl ?_
  intro p e s m args below meth c ad0 C hr hin
  have hn9 : True := trivial
  replace C : zC Z p s m args meth c cJxa1e45_init_da8c8 1 RJxa1e45 := C
  refine z_aload_n C dJxa1e45_init_da8c8_0 (i := 0) rfl rfl ?_
  refine z_objInit C dJxa1e45_init_da8c8_1 lo_Jxa1e45_1 lo_inst lo_code ⟨Nat.le_of_ble_eq_true rfl, Nat.le_of_ble_eq_true rfl⟩ ?_
  exact z_vret C dJxa1e45_init_da8c8_4 hr ⟨_, rfl, rfl, h⟩ (Nat.le_of_ble_eq_true rfl) (Nat.le_of_ble_eq_true rfl)
set_option maxRecDepth 100000 in
def w_Jxc12de_init_da8c8_r33 (st : zTs) (mk : zMk) (P : zTs → Prop) : Prop := w_Jxa1e45_init_da8c8_r33 st mk (fun (s1 : zTs) => (∀ s6 : zTs, s6 = zuF s1 33 0 0 0 → (P s6)))
set_option maxHeartbeats 4000000 in
set_option maxRecDepth 100000 in
theorem c_Jxc12de_init_da8c8_r33 {Z : zZ} {l : Launch} (hfl : l.stackTraces = false) {st : zTs} {mk : zMk} {P : zTs → Prop} (h : w_Jxc12de_init_da8c8_r33 st mk P) : zN Z l yJxc12de_init_da8c8 cJxc12de_init_da8c8 1 none ({ frames := 2, cells := 0, slots := 0, locals := 40 } : Room) (zh Z mk st) [.ref 33] (zWv Z mk P) := by
  unfold w_Jxc12de_init_da8c8_r33 at h
  refine z_enterF (by decide +kernel) (Nat.le_of_ble_eq_true rfl) (lc0 := [some (.ref 33)]) rfl ?_
  intro p e s m args below meth c ad0 C hr hin
  have hn9 : True := trivial
  replace C : zC Z p s m args meth c cJxc12de_init_da8c8 1 RJxc12de := C
  refine z_aload_n C dJxc12de_init_da8c8_0 (i := 0) rfl rfl ?_
  refine t_callI C (rest := []) (c2 := 0) (s2 := 0) [] dJxc12de_init_da8c8_1 lk_Jxc12de_1 lnm_Jxa1e45_init_da8c8 rfl (c_Jxa1e45_init_da8c8_r33 hfl h) rfl rfl ⟨Nat.le_of_ble_eq_true rfl, Nat.le_of_ble_eq_true rfl⟩ (Nat.le_of_ble_eq_true rfl) ⟨Nat.le_of_ble_eq_true rfl, Nat.le_of_ble_eq_true rfl, Nat.le_of_ble_eq_true rfl, Nat.le_of_ble_eq_true rfl⟩ (k_Wv fun s1 h => ?_)
  refine z_aload_n C dJxc12de_init_da8c8_4 (i := 0) rfl rfl ?_
  refine z_iconst C dJxc12de_init_da8c8_5 (v := 0) (by decide) ?_
  refine t_put C dJxc12de_init_da8c8_6 fq_Jxc12de_7 (Or.inl rfl) (k := 33) (i := 0) (by decide) rfl ⟨rfl, rfl⟩ (fp_33_0 _ _ _ _ _) ?_
  refine t_tops (fun s6 es6 => ?_)
  have h := h s6 es6
  exact z_vret C dJxc12de_init_da8c8_9 hr ⟨_, rfl, rfl, h⟩ (Nat.le_of_ble_eq_true rfl) (Nat.le_of_ble_eq_true rfl)
set_option maxRecDepth 100000 in
def w_Jx4a65c_init_da8c8_r33 (st : zTs) (mk : zMk) (P : zTs → Prop) : Prop := w_Jxc12de_init_da8c8_r33 st mk (fun (s1 : zTs) => (∀ s8 : zTs, s8 = zuP s1 33 0 1 204 → (P s8)))
set_option maxHeartbeats 4000000 in
set_option maxRecDepth 100000 in
theorem c_Jx4a65c_init_da8c8_r33 {Z : zZ} {l : Launch} (hfl : l.stackTraces = false) {st : zTs} {mk : zMk} {P : zTs → Prop} (h : w_Jx4a65c_init_da8c8_r33 st mk P) : zN Z l yJx4a65c_init_da8c8 cJx4a65c_init_da8c8 1 none ({ frames := 3, cells := 0, slots := 0, locals := 60 } : Room) (zh Z mk st) [.ref 33] (zWv Z (zms mk 33 0 1) P) := by
  unfold w_Jx4a65c_init_da8c8_r33 at h
  refine z_enterF (by decide +kernel) (Nat.le_of_ble_eq_true rfl) (lc0 := [some (.ref 33)]) rfl ?_
  intro p e s m args below meth c ad0 C hr hin
  have hn9 : True := trivial
  replace C : zC Z p s m args meth c cJx4a65c_init_da8c8 1 RJx4a65c := C
  refine z_aload_n C dJx4a65c_init_da8c8_0 (i := 0) rfl rfl ?_
  refine t_callI C (rest := []) (c2 := 0) (s2 := 0) [] dJx4a65c_init_da8c8_1 lk_Jx4a65c_1 lnm_Jxc12de_init_da8c8 rfl (c_Jxc12de_init_da8c8_r33 hfl h) rfl rfl ⟨Nat.le_of_ble_eq_true rfl, Nat.le_of_ble_eq_true rfl⟩ (Nat.le_of_ble_eq_true rfl) ⟨Nat.le_of_ble_eq_true rfl, Nat.le_of_ble_eq_true rfl, Nat.le_of_ble_eq_true rfl, Nat.le_of_ble_eq_true rfl⟩ (k_Wv fun s1 h => ?_)
  refine z_aload_n C dJx4a65c_init_da8c8_4 (i := 0) rfl rfl ?_
  refine z_gets C dJx4a65c_init_da8c8_5 (q := 204) (by decide) gl_Jx4a65c_39 (fun z => z.2.2.2.2.2.2.1.1) ?_
  refine t_put C dJx4a65c_init_da8c8_8 fq_Jx4a65c_9 (Or.inl rfl) (k := 33) (i := 0) (by decide) rfl ⟨rfl, rfl⟩ (fm_33_1 _ _ _ _ _) ?_
  refine t_tops (fun s8 es8 => ?_)
  have h := h s8 es8
  exact z_vret C dJx4a65c_init_da8c8_11 hr ⟨_, rfl, rfl, h⟩ (Nat.le_of_ble_eq_true rfl) (Nat.le_of_ble_eq_true rfl)
set_option maxRecDepth 100000 in
def w_X11_init (st : zTs) (mk : zMk) (P : zTs → Prop) : Prop := zgN st 30 = 0 ∧ (∀ s5 : zTs, s5 = zuW st 30 → ((mk 30 0 1 = true) ∧ (w_Jx4a65c_init_da8c8_r30 s5 (zm0 mk 30 0) (fun (s9 : zTs) => (zgN s9 31 = 0 ∧ (∀ s16 : zTs, s16 = zuW s9 31 → ((mk 31 0 1 = true) ∧ (w_Jx4a65c_init_da8c8_r31 s16 (zm0 (zms mk 10 0 0) 31 0) (fun (s20 : zTs) => (zgN s20 32 = 0 ∧ (∀ s27 : zTs, s27 = zuW s20 32 → ((mk 32 0 1 = true) ∧ (w_Jx4a65c_init_da8c8_r32 s27 (zm0 (zms (zms mk 10 0 0) 10 0 1) 32 0) (fun (s31 : zTs) => (zgN s31 33 = 0 ∧ (∀ s38 : zTs, s38 = zuW s31 33 → ((mk 33 0 1 = true) ∧ (w_Jx4a65c_init_da8c8_r33 s38 (zm0 (zms (zms (zms mk 10 0 0) 10 0 1) 10 0 2) 33 0) (fun (s42 : zTs) => (zgN s42 40 = 0 ∧ (∀ s51 : zTs, s51 = zuV s42 40 12 → (zgN s51 41 = 0 ∧ (∀ s59 : zTs, s59 = zuV s51 41 12 → (zgN s59 42 = 0 ∧ (∀ s66 : zTs, s66 = zuV s59 42 5 → (zgN s66 11 = 0 ∧ (∀ s72 : zTs, s72 = zuW s66 11 → ((mk 11 0 0 = true ∧ mk 11 0 1 = true ∧ mk 11 0 2 = true ∧ mk 11 0 3 = true ∧ mk 11 0 5 = true ∧ mk 11 0 6 = true ∧ mk 11 0 7 = true) ∧ (w_X1_init s72 (zm0 (zms (zms (zms (zms (zms (zms (zms mk 10 0 0) 10 0 1) 10 0 2) 10 0 3) 10 0 4) 10 0 5) 10 0 6) 11 0) (fun (s76 : zTs) => (zgN s76 12 = 0 ∧ (∀ s83 : zTs, s83 = zuW s76 12 → ((mk 12 0 0 = true ∧ mk 12 0 1 = true ∧ mk 12 0 2 = true) ∧ (w_X3_init s83 (zm0 (zms (zms (zms (zms (zms (zms (zms (zms mk 10 0 0) 10 0 1) 10 0 2) 10 0 3) 10 0 4) 10 0 5) 10 0 6) 10 0 7) 12 0) (fun (s87 : zTs) => (zgN s87 43 = 0 ∧ (∀ s97 : zTs, s97 = zuV s87 43 400 → (zgN s97 13 = 0 ∧ (∀ s103 : zTs, s103 = zuW s97 13 → ((mk 13 0 0 = true ∧ mk 13 0 1 = true ∧ mk 13 0 6 = true ∧ mk 13 0 10 = true) ∧ (w_X6_init s103 (zm0 (zms (zms (zms (zms (zms (zms (zms (zms (zms (zms mk 10 0 0) 10 0 1) 10 0 2) 10 0 3) 10 0 4) 10 0 5) 10 0 6) 10 0 7) 10 0 8) 10 0 9) 13 0) (fun (s111 : zTs) => (∀ n118 : Nat, n118 = zgN s111 24 → (∀ s118 : zTs, s118 = zuW s111 24 → ((mk 24 n118 1 = true ∧ mk 24 n118 2 = true) ∧ (w_X5_init s118 (zm0 (zms (zms (zms (zms (zms (zms (zms (zms (zms (zms (zms mk 10 0 0) 10 0 1) 10 0 2) 10 0 3) 10 0 4) 10 0 5) 10 0 6) 10 0 7) 10 0 8) 10 0 9) 10 0 10) 24 n118) n118 (fun (s122 : zTs) => (∀ s125 : zTs, s125 = zuP s122 10 0 16 n118 → (P s125)))))))))))))))))))))))))))))))))))))))))))))))))
set_option maxHeartbeats 4000000 in
set_option maxRecDepth 100000 in
theorem c_X11_init {Z : zZ} {l : Launch} (hfl : l.stackTraces = false) {st : zTs} {mk : zMk} {P : zTs → Prop} (h : w_X11_init st mk P) : zN Z l yX11_init cX11_init 1 none ({ frames := 4, cells := 36, slots := 3193, locals := 80 } : Room) (zh Z mk st) [.ref 10] (zWv Z (zms (zms (zms (zms (zms (zms (zms (zms (zms (zms (zms (zms mk 10 0 0) 10 0 1) 10 0 2) 10 0 3) 10 0 4) 10 0 5) 10 0 6) 10 0 7) 10 0 8) 10 0 9) 10 0 10) 10 0 16) P) := by
  unfold w_X11_init at h
  refine z_enterN (by decide) (Nat.le_of_ble_eq_true rfl) (lc0 := [some (.ref 10)]) rfl ?_
  intro p e s m args below meth c ad0 C hr hin
  have hn9 : True := trivial
  replace C : zC Z p s m args meth c cX11_init 1 RX11 := C
  refine z_aload_n C dX11_init_0 (i := 0) rfl rfl ?_
  refine z_objInit C dX11_init_1 lo_X11_1 lo_inst lo_code ⟨Nat.le_of_ble_eq_true rfl, Nat.le_of_ble_eq_true rfl⟩ ?_
  refine z_aload_n C dX11_init_4 (i := 0) rfl rfl ?_
  obtain ⟨g5, h⟩ := h
  refine t_new C dX11_init_5 nl_X11_7 rfl (by decide) nw_30 (c2 := 1) (s2 := 3) ⟨Nat.le_of_ble_eq_true rfl, Nat.le_of_ble_eq_true rfl, Nat.le_of_ble_eq_true rfl, Nat.le_of_ble_eq_true rfl⟩ ?_
  rw [g5]
  refine t_same (lc' := [some (.ref 10)]) (stk' := [.ref 30, .ref 10]) rfl rfl ?_
  refine t_tops (fun s5 es5 => ?_)
  have h := h s5 es5
  refine z_dup C dX11_init_8 rfl ?_
  obtain ⟨gm9_1, h⟩ := h
  refine t_callI C (rest := [.ref 30, .ref 10]) (c2 := 1) (s2 := 3) [] dX11_init_9 lk_X11_9 lnm_Jx4a65c_init_da8c8 rfl (c_Jx4a65c_init_da8c8_r30 hfl h) rfl rfl ⟨Nat.le_of_ble_eq_true rfl, Nat.le_of_ble_eq_true rfl⟩ (Nat.le_of_ble_eq_true rfl) ⟨Nat.le_of_ble_eq_true rfl, Nat.le_of_ble_eq_true rfl, Nat.le_of_ble_eq_true rfl, Nat.le_of_ble_eq_true rfl⟩ (k_Wv fun s9 h => ?_)
  refine t_mask (mk' := mk) (k := 30) (i := 0) (fun k9 i9 g9 => by simp only [zms, zm0, zp2_ne g9]) (nm_30 (g1 := rfl) (f1 := gm9_1)) ?_
  refine t_put C dX11_init_12 fq_X11_10 (Or.inr hin) (k := 10) (i := 0) (by decide) rfl ⟨rfl, rfl⟩ (fp_10_0 _ _ _ _) ?_
  refine z_aload_n C dX11_init_15 (i := 0) rfl rfl ?_
  obtain ⟨g16, h⟩ := h
  refine t_new C dX11_init_16 nl_X11_7 rfl (by decide) nw_31 (c2 := 2) (s2 := 6) ⟨Nat.le_of_ble_eq_true rfl, Nat.le_of_ble_eq_true rfl, Nat.le_of_ble_eq_true rfl, Nat.le_of_ble_eq_true rfl⟩ ?_
  rw [g16]
  refine t_same (lc' := [some (.ref 10)]) (stk' := [.ref 31, .ref 10]) rfl rfl ?_
  refine t_tops (fun s16 es16 => ?_)
  have h := h s16 es16
  refine z_dup C dX11_init_19 rfl ?_
  obtain ⟨gm20_1, h⟩ := h
  refine t_callI C (rest := [.ref 31, .ref 10]) (c2 := 2) (s2 := 6) [] dX11_init_20 lk_X11_9 lnm_Jx4a65c_init_da8c8 rfl (c_Jx4a65c_init_da8c8_r31 hfl h) rfl rfl ⟨Nat.le_of_ble_eq_true rfl, Nat.le_of_ble_eq_true rfl⟩ (Nat.le_of_ble_eq_true rfl) ⟨Nat.le_of_ble_eq_true rfl, Nat.le_of_ble_eq_true rfl, Nat.le_of_ble_eq_true rfl, Nat.le_of_ble_eq_true rfl⟩ (k_Wv fun s20 h => ?_)
  refine t_mask (mk' := (zms mk 10 0 0)) (k := 31) (i := 0) (fun k9 i9 g9 => by simp only [zms, zm0, zp2_ne g9]) (nm_31 (g1 := rfl) (f1 := gm20_1)) ?_
  refine t_put C dX11_init_23 fq_X11_16 (Or.inr hin) (k := 10) (i := 0) (by decide) rfl ⟨rfl, rfl⟩ (fp_10_1 _ _ _ _) ?_
  refine z_aload_n C dX11_init_26 (i := 0) rfl rfl ?_
  obtain ⟨g27, h⟩ := h
  refine t_new C dX11_init_27 nl_X11_7 rfl (by decide) nw_32 (c2 := 3) (s2 := 9) ⟨Nat.le_of_ble_eq_true rfl, Nat.le_of_ble_eq_true rfl, Nat.le_of_ble_eq_true rfl, Nat.le_of_ble_eq_true rfl⟩ ?_
  rw [g27]
  refine t_same (lc' := [some (.ref 10)]) (stk' := [.ref 32, .ref 10]) rfl rfl ?_
  refine t_tops (fun s27 es27 => ?_)
  have h := h s27 es27
  refine z_dup C dX11_init_30 rfl ?_
  obtain ⟨gm31_1, h⟩ := h
  refine t_callI C (rest := [.ref 32, .ref 10]) (c2 := 3) (s2 := 9) [] dX11_init_31 lk_X11_9 lnm_Jx4a65c_init_da8c8 rfl (c_Jx4a65c_init_da8c8_r32 hfl h) rfl rfl ⟨Nat.le_of_ble_eq_true rfl, Nat.le_of_ble_eq_true rfl⟩ (Nat.le_of_ble_eq_true rfl) ⟨Nat.le_of_ble_eq_true rfl, Nat.le_of_ble_eq_true rfl, Nat.le_of_ble_eq_true rfl, Nat.le_of_ble_eq_true rfl⟩ (k_Wv fun s31 h => ?_)
  refine t_mask (mk' := (zms (zms mk 10 0 0) 10 0 1)) (k := 32) (i := 0) (fun k9 i9 g9 => by simp only [zms, zm0, zp2_ne g9]) (nm_32 (g1 := rfl) (f1 := gm31_1)) ?_
  refine t_put C dX11_init_34 fq_X11_19 (Or.inr hin) (k := 10) (i := 0) (by decide) rfl ⟨rfl, rfl⟩ (fp_10_2 _ _ _ _) ?_
  refine z_aload_n C dX11_init_37 (i := 0) rfl rfl ?_
  obtain ⟨g38, h⟩ := h
  refine t_new C dX11_init_38 nl_X11_7 rfl (by decide) nw_33 (c2 := 4) (s2 := 12) ⟨Nat.le_of_ble_eq_true rfl, Nat.le_of_ble_eq_true rfl, Nat.le_of_ble_eq_true rfl, Nat.le_of_ble_eq_true rfl⟩ ?_
  rw [g38]
  refine t_same (lc' := [some (.ref 10)]) (stk' := [.ref 33, .ref 10]) rfl rfl ?_
  refine t_tops (fun s38 es38 => ?_)
  have h := h s38 es38
  refine z_dup C dX11_init_41 rfl ?_
  obtain ⟨gm42_1, h⟩ := h
  refine t_callI C (rest := [.ref 33, .ref 10]) (c2 := 4) (s2 := 12) [] dX11_init_42 lk_X11_9 lnm_Jx4a65c_init_da8c8 rfl (c_Jx4a65c_init_da8c8_r33 hfl h) rfl rfl ⟨Nat.le_of_ble_eq_true rfl, Nat.le_of_ble_eq_true rfl⟩ (Nat.le_of_ble_eq_true rfl) ⟨Nat.le_of_ble_eq_true rfl, Nat.le_of_ble_eq_true rfl, Nat.le_of_ble_eq_true rfl, Nat.le_of_ble_eq_true rfl⟩ (k_Wv fun s42 h => ?_)
  refine t_mask (mk' := (zms (zms (zms mk 10 0 0) 10 0 1) 10 0 2)) (k := 33) (i := 0) (fun k9 i9 g9 => by simp only [zms, zm0, zp2_ne g9]) (nm_33 (g1 := rfl) (f1 := gm42_1)) ?_
  refine t_put C dX11_init_45 fq_X11_22 (Or.inr hin) (k := 10) (i := 0) (by decide) rfl ⟨rfl, rfl⟩ (fp_10_3 _ _ _ _) ?_
  refine z_aload_n C dX11_init_48 (i := 0) rfl rfl ?_
  refine z_bipush C dX11_init_49 (v := 12) (by decide) ?_
  obtain ⟨g51, h⟩ := h
  refine t_newa C dX11_init_51 la_int rfl (t := 0) rfl (fun _ => rfl) (by decide) (by decide) (Nat.le_of_ble_eq_true rfl) (by decide) nw_40 (c2 := 5) (s2 := 24) ⟨Nat.le_of_ble_eq_true rfl, Nat.le_of_ble_eq_true rfl, Nat.le_of_ble_eq_true rfl, Nat.le_of_ble_eq_true rfl⟩ ?_
  rw [g51]
  refine t_same (lc' := [some (.ref 10)]) (stk' := [.ref 40, .ref 10]) rfl rfl ?_
  refine t_tops (fun s51 es51 => ?_)
  have h := h s51 es51
  refine t_put C dX11_init_53 fq_X11_25 (Or.inr hin) (k := 10) (i := 0) (by decide) rfl ⟨rfl, rfl⟩ (fp_10_4 _ _ _ _) ?_
  refine z_aload_n C dX11_init_56 (i := 0) rfl rfl ?_
  refine z_bipush C dX11_init_57 (v := 12) (by decide) ?_
  obtain ⟨g59, h⟩ := h
  refine t_newa C dX11_init_59 la_int rfl (t := 0) rfl (fun _ => rfl) (by decide) (by decide) (Nat.le_of_ble_eq_true rfl) (by decide) nw_41 (c2 := 6) (s2 := 36) ⟨Nat.le_of_ble_eq_true rfl, Nat.le_of_ble_eq_true rfl, Nat.le_of_ble_eq_true rfl, Nat.le_of_ble_eq_true rfl⟩ ?_
  rw [g59]
  refine t_same (lc' := [some (.ref 10)]) (stk' := [.ref 41, .ref 10]) rfl rfl ?_
  refine t_tops (fun s59 es59 => ?_)
  have h := h s59 es59
  refine t_put C dX11_init_61 fq_X11_29 (Or.inr hin) (k := 10) (i := 0) (by decide) rfl ⟨rfl, rfl⟩ (fp_10_5 _ _ _ _) ?_
  refine z_aload_n C dX11_init_64 (i := 0) rfl rfl ?_
  refine z_iconst C dX11_init_65 (v := 5) (by decide) ?_
  obtain ⟨g66, h⟩ := h
  refine t_newa C dX11_init_66 la_int rfl (t := 0) rfl (fun _ => rfl) (by decide) (by decide) (Nat.le_of_ble_eq_true rfl) (by decide) nw_42 (c2 := 7) (s2 := 41) ⟨Nat.le_of_ble_eq_true rfl, Nat.le_of_ble_eq_true rfl, Nat.le_of_ble_eq_true rfl, Nat.le_of_ble_eq_true rfl⟩ ?_
  rw [g66]
  refine t_same (lc' := [some (.ref 10)]) (stk' := [.ref 42, .ref 10]) rfl rfl ?_
  refine t_tops (fun s66 es66 => ?_)
  have h := h s66 es66
  refine t_put C dX11_init_68 fq_X11_32 (Or.inr hin) (k := 10) (i := 0) (by decide) rfl ⟨rfl, rfl⟩ (fp_10_6 _ _ _ _) ?_
  refine z_aload_n C dX11_init_71 (i := 0) rfl rfl ?_
  obtain ⟨g72, h⟩ := h
  refine t_new C dX11_init_72 nl_X11_35 rfl (by decide) nw_11 (c2 := 8) (s2 := 50) ⟨Nat.le_of_ble_eq_true rfl, Nat.le_of_ble_eq_true rfl, Nat.le_of_ble_eq_true rfl, Nat.le_of_ble_eq_true rfl⟩ ?_
  rw [g72]
  refine t_same (lc' := [some (.ref 10)]) (stk' := [.ref 11, .ref 10]) rfl rfl ?_
  refine t_tops (fun s72 es72 => ?_)
  have h := h s72 es72
  refine z_dup C dX11_init_75 rfl ?_
  obtain ⟨⟨gm76_0, gm76_1, gm76_2, gm76_3, gm76_5, gm76_6, gm76_7⟩, h⟩ := h
  refine t_callIN C (rest := [.ref 11, .ref 10]) (c2 := 15) (s2 := 1430) [] dX11_init_76 (by decide) ln_X1_init lni_X1_init (by decide +kernel) lnm_X1_init rfl (c_X1_init hfl h) rfl rfl ⟨Nat.le_of_ble_eq_true rfl, Nat.le_of_ble_eq_true rfl⟩ (Nat.le_of_ble_eq_true rfl) ⟨Nat.le_of_ble_eq_true rfl, Nat.le_of_ble_eq_true rfl, Nat.le_of_ble_eq_true rfl, Nat.le_of_ble_eq_true rfl⟩ (k_Wv fun s76 h => ?_)
  refine t_mask (mk' := (zms (zms (zms (zms (zms (zms (zms mk 10 0 0) 10 0 1) 10 0 2) 10 0 3) 10 0 4) 10 0 5) 10 0 6)) (k := 11) (i := 0) (fun k9 i9 g9 => by simp only [zms, zm0, zp2_ne g9]) (nm_11 (g0 := rfl) (g1 := rfl) (g2 := rfl) (g3 := rfl) (g5 := rfl) (g6 := rfl) (g7 := rfl) (f0 := gm76_0) (f1 := gm76_1) (f2 := gm76_2) (f3 := gm76_3) (f5 := gm76_5) (f6 := gm76_6) (f7 := gm76_7)) ?_
  refine t_put C dX11_init_79 fq_X11_38 (Or.inr hin) (k := 10) (i := 0) (by decide) rfl ⟨rfl, rfl⟩ (fp_10_7 _ _ _ _) ?_
  refine z_aload_n C dX11_init_82 (i := 0) rfl rfl ?_
  obtain ⟨g83, h⟩ := h
  refine t_new C dX11_init_83 nl_X11_42 rfl (by decide) nw_12 (c2 := 16) (s2 := 1434) ⟨Nat.le_of_ble_eq_true rfl, Nat.le_of_ble_eq_true rfl, Nat.le_of_ble_eq_true rfl, Nat.le_of_ble_eq_true rfl⟩ ?_
  rw [g83]
  refine t_same (lc' := [some (.ref 10)]) (stk' := [.ref 12, .ref 10]) rfl rfl ?_
  refine t_tops (fun s83 es83 => ?_)
  have h := h s83 es83
  refine z_dup C dX11_init_86 rfl ?_
  obtain ⟨⟨gm87_0, gm87_1, gm87_2⟩, h⟩ := h
  refine t_callIN C (rest := [.ref 12, .ref 10]) (c2 := 19) (s2 := 2336) [] dX11_init_87 (by decide) ln_X3_init lni_X3_init (by decide +kernel) lnm_X3_init rfl (c_X3_init hfl h) rfl rfl ⟨Nat.le_of_ble_eq_true rfl, Nat.le_of_ble_eq_true rfl⟩ (Nat.le_of_ble_eq_true rfl) ⟨Nat.le_of_ble_eq_true rfl, Nat.le_of_ble_eq_true rfl, Nat.le_of_ble_eq_true rfl, Nat.le_of_ble_eq_true rfl⟩ (k_Wv fun s87 h => ?_)
  refine t_mask (mk' := (zms (zms (zms (zms (zms (zms (zms (zms mk 10 0 0) 10 0 1) 10 0 2) 10 0 3) 10 0 4) 10 0 5) 10 0 6) 10 0 7)) (k := 12) (i := 0) (fun k9 i9 g9 => by simp only [zms, zm0, zp2_ne g9]) (nm_12 (g0 := rfl) (g1 := rfl) (g2 := rfl) (f0 := gm87_0) (f1 := gm87_1) (f2 := gm87_2)) ?_
  refine t_put C dX11_init_90 fq_X11_45 (Or.inr hin) (k := 10) (i := 0) (by decide) rfl ⟨rfl, rfl⟩ (fp_10_8 _ _ _ _) ?_
  refine z_aload_n C dX11_init_93 (i := 0) rfl rfl ?_
  refine z_sipush C dX11_init_94 (v := 400) (by decide) ?_
  obtain ⟨g97, h⟩ := h
  refine t_newa C dX11_init_97 la_byte rfl (t := 1) rfl (fun _ => rfl) (by decide) (by decide) (Nat.le_of_ble_eq_true rfl) (by decide) nw_43 (c2 := 20) (s2 := 2736) ⟨Nat.le_of_ble_eq_true rfl, Nat.le_of_ble_eq_true rfl, Nat.le_of_ble_eq_true rfl, Nat.le_of_ble_eq_true rfl⟩ ?_
  rw [g97]
  refine t_same (lc' := [some (.ref 10)]) (stk' := [.ref 43, .ref 10]) rfl rfl ?_
  refine t_tops (fun s97 es97 => ?_)
  have h := h s97 es97
  refine t_put C dX11_init_99 fq_X11_49 (Or.inr hin) (k := 10) (i := 0) (by decide) rfl ⟨rfl, rfl⟩ (fp_10_9 _ _ _ _) ?_
  refine z_aload_n C dX11_init_102 (i := 0) rfl rfl ?_
  obtain ⟨g103, h⟩ := h
  refine t_new C dX11_init_103 nl_X11_53 rfl (by decide) nw_13 (c2 := 21) (s2 := 2749) ⟨Nat.le_of_ble_eq_true rfl, Nat.le_of_ble_eq_true rfl, Nat.le_of_ble_eq_true rfl, Nat.le_of_ble_eq_true rfl⟩ ?_
  rw [g103]
  refine t_same (lc' := [some (.ref 10)]) (stk' := [.ref 13, .ref 10]) rfl rfl ?_
  refine t_tops (fun s103 es103 => ?_)
  have h := h s103 es103
  refine z_dup C dX11_init_106 rfl ?_
  refine z_aload_n C dX11_init_107 (i := 0) rfl rfl ?_
  refine t_get C dX11_init_108 fl_X11_49 (k := 10) (i := 0) (by decide) rfl ⟨_, rfl, congrArg some (if_pos (by simp [zms, zm0, zm1, zp2, zp1]))⟩ ?_
  obtain ⟨⟨gm111_0, gm111_1, gm111_6, gm111_10⟩, h⟩ := h
  refine t_callI C (rest := [.ref 13, .ref 10]) (c2 := 29) (s2 := 3171) [.ref 43] dX11_init_111 lk_X11_55 lnm_X6_init rfl (c_X6_init hfl h) rfl rfl ⟨Nat.le_of_ble_eq_true rfl, Nat.le_of_ble_eq_true rfl⟩ (Nat.le_of_ble_eq_true rfl) ⟨Nat.le_of_ble_eq_true rfl, Nat.le_of_ble_eq_true rfl, Nat.le_of_ble_eq_true rfl, Nat.le_of_ble_eq_true rfl⟩ (k_Wv fun s111 h => ?_)
  refine t_mask (mk' := (zms (zms (zms (zms (zms (zms (zms (zms (zms (zms mk 10 0 0) 10 0 1) 10 0 2) 10 0 3) 10 0 4) 10 0 5) 10 0 6) 10 0 7) 10 0 8) 10 0 9)) (k := 13) (i := 0) (fun k9 i9 g9 => by simp only [zms, zm0, zp2_ne g9]) (nm_13 (g0 := rfl) (g1 := rfl) (g6 := rfl) (g10 := rfl) (f0 := gm111_0) (f1 := gm111_1) (f6 := gm111_6) (f10 := gm111_10)) ?_
  refine t_put C dX11_init_114 fq_X11_58 (Or.inr hin) (k := 10) (i := 0) (by decide) rfl ⟨rfl, rfl⟩ (fp_10_10 _ _ _ _) ?_
  refine z_aload_n C dX11_init_117 (i := 0) rfl rfl ?_
  obtain ⟨n118, g118⟩ : ∃ z : Nat, z = zgN s111 24 := ⟨_, rfl⟩
  have h := h n118 g118
  refine t_new C dX11_init_118 nl_X11_62 rfl (by decide) nw_24 (c2 := 30) (s2 := 3185) ⟨Nat.le_of_ble_eq_true rfl, Nat.le_of_ble_eq_true rfl, Nat.le_of_ble_eq_true rfl, Nat.le_of_ble_eq_true rfl⟩ ?_
  rw [← g118]
  refine t_tops (fun s118 es118 => ?_)
  have h := h s118 es118
  refine z_dup C dX11_init_121 rfl ?_
  obtain ⟨⟨gm122_1, gm122_2⟩, h⟩ := h
  refine t_callIN C (rest := [.ref (24 + 256 * n118), .ref 10]) (c2 := 36) (s2 := 3193) [] dX11_init_122 (by decide) ln_X5_init lni_X5_init (by decide +kernel) lnm_X5_init rfl (c_X5_init hfl h) rfl rfl ⟨Nat.le_of_ble_eq_true rfl, Nat.le_of_ble_eq_true rfl⟩ (Nat.le_of_ble_eq_true rfl) ⟨Nat.le_of_ble_eq_true rfl, Nat.le_of_ble_eq_true rfl, Nat.le_of_ble_eq_true rfl, Nat.le_of_ble_eq_true rfl⟩ (k_Wv fun s122 h => ?_)
  refine t_mask (mk' := (zms (zms (zms (zms (zms (zms (zms (zms (zms (zms (zms mk 10 0 0) 10 0 1) 10 0 2) 10 0 3) 10 0 4) 10 0 5) 10 0 6) 10 0 7) 10 0 8) 10 0 9) 10 0 10)) (k := 24) (i := n118) (fun k9 i9 g9 => by simp only [zms, zm0, zp2_ne g9]) (nm_24 (g1 := by simp [zms, zm0, zm1, zp2, zp1]) (g2 := by simp [zms, zm0, zm1, zp2, zp1]) (f1 := gm122_1) (f2 := gm122_2)) ?_
  refine t_put C dX11_init_125 fq_X11_65 (Or.inl rfl) (k := 10) (i := 0) (by decide) rfl ⟨rfl, rfl⟩ (fm_10_16 _ _ _ _ _) ?_
  refine t_tops (fun s125 es125 => ?_)
  have h := h s125 es125
  exact z_vret C dX11_init_128 hr ⟨_, rfl, rfl, h⟩ (Nat.le_of_ble_eq_true rfl) (Nat.le_of_ble_eq_true rfl)
def w_J8_newLength_cabcc_iii_21 (P : Int32 → zTs → Prop)  (st : zTs) (a0 : Int32) (a1 : Int32) : Prop := False
set_option maxHeartbeats 4000000 in
set_option maxRecDepth 100000 in
theorem j_J8_newLength_cabcc_iii_21 {P : Int32 → zTs → Prop}  (hfl : l.stackTraces = false) (C : zC Z p s m args meth c cJ8_newLength_cabcc 4 RJ8) (hr : meth.sig.returnType = (some .int)) (hn9 : True)  (st : zTs) (a0 : Int32) (a1 : Int32) (h : w_J8_newLength_cabcc_iii_21 P st a0 a1) : zG Z ad0 h0 p l e ({ frames := 2, cells := 0, slots := 0, locals := 33 } : Room) s m args below meth c (MQ below (zQ Z ad0 h0 (zWi Z P)) args s 0 0 (zA Z)) 0 0 (zh Z zm1 st) 4 21 [some (.int (a0)), some (.int (a1)), none, none] [] := by
  unfold w_J8_newLength_cabcc_iii_21 at h
  refine z_iload_n C dJ8_newLength_cabcc_21 (i := 0) rfl rfl ?_
  refine z_iload_n C dJ8_newLength_cabcc_22 (i := 1) rfl rfl ?_
  exact h.elim
def w_J8_newLength_cabcc_iii (st : zTs) (a0 : Int32) (a1 : Int32) (a2 : Int32) (P : Int32 → zTs → Prop) : Prop := w_J9_max_7cf53 st a1 a2 (fun (r3 : Int32) => (∀ x7 : Int32, x7 = a0 + r3 → ((x7 ≤ 0 → w_J8_newLength_cabcc_iii_21 P st a0 a1) ∧ (¬ x7 ≤ 0 → (2147483639 < x7 → w_J8_newLength_cabcc_iii_21 P st a0 a1) ∧ (¬ 2147483639 < x7 → P x7 st)))))
set_option maxHeartbeats 4000000 in
set_option maxRecDepth 100000 in
theorem c_J8_newLength_cabcc_iii {Z : zZ} {l : Launch} (hfl : l.stackTraces = false) {st : zTs} {a0 : Int32} {a1 : Int32} {a2 : Int32} {P : Int32 → zTs → Prop} (h : w_J8_newLength_cabcc_iii st a0 a1 a2 P) : zN Z l yJ8_newLength_cabcc cJ8_newLength_cabcc 4 (some .int) ({ frames := 2, cells := 0, slots := 0, locals := 33 } : Room) (zh Z zm1 st) [.int (a0), .int (a1), .int (a2)] (zWi Z P) := by
  unfold w_J8_newLength_cabcc_iii at h
  refine z_enterF (by decide +kernel) (Nat.le_of_ble_eq_true rfl) (lc0 := [some (.int (a0)), some (.int (a1)), some (.int (a2)), none]) rfl ?_
  intro p e s m args below meth c ad0 C hr _
  have hn9 : True := trivial
  replace C : zC Z p s m args meth c cJ8_newLength_cabcc 4 RJ8 := C
  refine z_iload_n C dJ8_newLength_cabcc_0 (i := 0) rfl rfl ?_
  refine z_iload_n C dJ8_newLength_cabcc_1 (i := 1) rfl rfl ?_
  refine z_iload_n C dJ8_newLength_cabcc_2 (i := 2) rfl rfl ?_
  refine t_callS C (rest := [.int (a0)]) (c2 := 0) (s2 := 0) [.int (a1), .int (a2)] dJ8_newLength_cabcc_3 lk_J8_194 ls_J9_max_7cf53 (c_J9_max_7cf53 hfl h) rfl rfl ⟨Nat.le_of_ble_eq_true rfl, Nat.le_of_ble_eq_true rfl⟩ (Nat.le_of_ble_eq_true rfl) ⟨Nat.le_of_ble_eq_true rfl, Nat.le_of_ble_eq_true rfl, Nat.le_of_ble_eq_true rfl, Nat.le_of_ble_eq_true rfl⟩ (k_Ri fun r3 h => ?_)
  refine z_iadd C dJ8_newLength_cabcc_6 ?_
  refine t_topi (fun x7 ex7 => ?_)
  have h := h x7 ex7
  refine z_istore_n C dJ8_newLength_cabcc_7 (i := 3) (lc' := [some (.int (a0)), some (.int (a1)), some (.int (a2)), some (.int (x7))]) rfl (by decide) rfl ?_
  refine z_iconst C dJ8_newLength_cabcc_8 (v := 0) (by decide) ?_
  refine z_iload_n C dJ8_newLength_cabcc_9 (i := 3) rfl rfl ?_
  refine z_icmp_ge C dJ8_newLength_cabcc_10 (tgt := 21) (by decide) (fun c10 => ?_) (fun c10 => ?_)
  · have h := h.1 c10
    exact t_drop [true, true, false, false] rfl (j_J8_newLength_cabcc_iii_21 hfl C hr hn9  st a0 a1 h)
  · have h := h.2 c10
    refine z_iload_n C dJ8_newLength_cabcc_13 (i := 3) rfl rfl ?_
    refine z_ldc C dJ8_newLength_cabcc_14 kc_J8_200 ?_
    refine z_icmp_gt C dJ8_newLength_cabcc_16 (tgt := 21) (by decide) (fun c16 => ?_) (fun c16 => ?_)
    · have h := h.1 c16
      exact t_drop [true, true, false, false] rfl (j_J8_newLength_cabcc_iii_21 hfl C hr hn9  st a0 a1 h)
    · have h := h.2 c16
      refine z_iload_n C dJ8_newLength_cabcc_19 (i := 3) rfl rfl ?_
      exact z_iret C dJ8_newLength_cabcc_20 hr rfl ⟨_, _, rfl, rfl, h⟩ (Nat.le_of_ble_eq_true rfl) (Nat.le_of_ble_eq_true rfl)
def w_J7_copyOf_6403c_v34ic207_24 (P : Nat → zTs → Prop)  (st : zTs) (a0 : Nat) (a1 : Int32) (b0 : Nat) : Prop := (a0 = 204 ∨ a0 % 256 = 34) ∧ ∀ x30 : Int32, x30 = (if a0 = 204 then 0 else Int32.ofNat (zgP st 34 (a0 / 256) 0)) → (w_J9_min_7cf53 st x30 a1 (fun (r32 : Int32) => ((a0 % 256 = 34 ∧ b0 % 256 = 34 ∧ (¬ a0 / 256 = b0 / 256) ∧ ¬ r32 < 0 ∧ (r32 : Int32).toNatClampNeg ≤ zgP st 34 (a0 / 256) 0 ∧ (r32 : Int32).toNatClampNeg ≤ zgP st 34 (b0 / 256) 0 ∧ zgL st 34 (a0 / 256) ≤ (r32 : Int32).toNatClampNeg ∧ zgL st 34 (b0 / 256) = 0 ∧ zgL st 34 (a0 / 256) ≤ zgN st 20) ∧ (∀ s35 : zTs, s35 = zuL st 34 (b0 / 256) (zgL st 34 (a0 / 256)) → (P b0 s35)))))
set_option maxHeartbeats 4000000 in
set_option maxRecDepth 100000 in
theorem j_J7_copyOf_6403c_v34ic207_24 {P : Nat → zTs → Prop}  (hfl : l.stackTraces = false) (C : zC Z p s m args meth c cJ7_copyOf_6403c 4 RJ7) (hr : meth.sig.returnType = (some (.array (.object "java/lang/Object")))) (hn9 : True)  (st : zTs) (a0 : Nat) (a1 : Int32) (b0 : Nat) (h : w_J7_copyOf_6403c_v34ic207_24 P st a0 a1 b0) : zG Z ad0 h0 p l e ({ frames := 2, cells := 1, slots := 40, locals := 33 } : Room) s m args below meth c (MQ below (zQ Z ad0 h0 (zWV Z P)) args s 1 40 (zA Z)) 1 40 (zh Z zm1 st) 4 24 [some (.ref (a0)), some (.int (a1)), none, none] [.ref (b0)] := by
  unfold w_J7_copyOf_6403c_v34ic207_24 at h
  refine z_astore_n C dJ7_copyOf_6403c_24 (i := 3) (lc' := [some (.ref (a0)), some (.int (a1)), none, some (.ref (b0))]) rfl (by decide) rfl ?_
  refine z_aload_n C dJ7_copyOf_6403c_25 (i := 0) rfl rfl ?_
  refine z_iconst C dJ7_copyOf_6403c_26 (v := 0) (by decide) ?_
  refine z_aload_n C dJ7_copyOf_6403c_27 (i := 3) rfl rfl ?_
  refine z_iconst C dJ7_copyOf_6403c_28 (v := 0) (by decide) ?_
  refine z_aload_n C dJ7_copyOf_6403c_29 (i := 0) rfl rfl ?_
  obtain ⟨g30, h⟩ := h
  refine t_lenV C dJ7_copyOf_6403c_30 (by decide) (fun _ => sh_34) g30 (fun x30 ex30 => ?_)
  have h := h x30 ex30
  refine z_iload_n C dJ7_copyOf_6403c_31 (i := 1) rfl rfl ?_
  refine t_callS C (rest := [.int (0), .ref (b0), .int (0), .ref (a0)]) (c2 := 1) (s2 := 40) [.int (x30), .int (a1)] dJ7_copyOf_6403c_32 lk_J7_304 ls_J9_min_7cf53 (c_J9_min_7cf53 hfl h) rfl rfl ⟨Nat.le_of_ble_eq_true rfl, Nat.le_of_ble_eq_true rfl⟩ (Nat.le_of_ble_eq_true rfl) ⟨Nat.le_of_ble_eq_true rfl, Nat.le_of_ble_eq_true rfl, Nat.le_of_ble_eq_true rfl, Nat.le_of_ble_eq_true rfl⟩ (k_Ri fun r32 h => ?_)
  obtain ⟨⟨q1, q2, q3, q4, q5, q6, q7, q8, q9⟩, h⟩ := h
  refine t_cpQ C dJ7_copyOf_6403c_35 lcp_J7_150 (k0 := 34) (el := 20) (by decide) (by decide) q1 q2 q3 (fun _ _ => sh_34) rfl rfl (fun _ => ⟨_, rfl⟩) rfl (by decide) (fun y hy => by omega) q4 q5 q6 q7 q8 ⟨Nat.le_of_ble_eq_true rfl, Nat.le_of_ble_eq_true rfl⟩ ?_
  refine t_tops (fun s35 es35 => ?_)
  have h := h s35 es35
  refine z_aload_n C dJ7_copyOf_6403c_38 (i := 3) rfl rfl ?_
  exact z_aret C dJ7_copyOf_6403c_39 hr (Or.inr ⟨_, rfl⟩) (Or.inr ⟨_, rfl⟩) ⟨_, _, rfl, rfl, h⟩ (Nat.le_of_ble_eq_true rfl) (Nat.le_of_ble_eq_true rfl)
def w_J7_copyOf_6403c_v34ic207 (st : zTs) (a0 : Nat) (a1 : Int32) (P : Nat → zTs → Prop) : Prop := (¬ a1 < 0 ∧ (a1 : Int32).toNatClampNeg ≤ 40) ∧ ∀ n7 : Nat, n7 = zgN st 34 → (∀ s7 : zTs, s7 = zuX st 34 (a1 : Int32).toNatClampNeg → (w_J7_copyOf_6403c_v34ic207_24 P s7 a0 a1 (34 + 256 * n7)))
set_option maxHeartbeats 4000000 in
set_option maxRecDepth 100000 in
theorem c_J7_copyOf_6403c_v34ic207 {Z : zZ} {l : Launch} (hfl : l.stackTraces = false) {st : zTs} {a0 : Nat} {a1 : Int32} {P : Nat → zTs → Prop} (h : w_J7_copyOf_6403c_v34ic207 st a0 a1 P) : zN Z l yJ7_copyOf_6403c cJ7_copyOf_6403c 4 (some (.array (.object "java/lang/Object"))) ({ frames := 2, cells := 1, slots := 40, locals := 33 } : Room) (zh Z zm1 st) [.ref (a0), .int (a1), .ref 207] (zWV Z P) := by
  unfold w_J7_copyOf_6403c_v34ic207 at h
  refine z_enterF (by decide +kernel) (Nat.le_of_ble_eq_true rfl) (lc0 := [some (.ref (a0)), some (.int (a1)), some (.ref 207), none]) rfl ?_
  intro p e s m args below meth c ad0 C hr _
  have hn9 : True := trivial
  replace C : zC Z p s m args meth c cJ7_copyOf_6403c 4 RJ7 := C
  refine z_aload_n C dJ7_copyOf_6403c_0 (i := 2) rfl rfl ?_
  refine z_ldcM C dJ7_copyOf_6403c_1 kl_J7_110 ?_
  refine z_acmpR_ne C dJ7_copyOf_6403c_3 (tgt := 13) (by decide) ?_
  refine z_iload_n C dJ7_copyOf_6403c_6 (i := 1) rfl rfl ?_
  obtain ⟨⟨g7a, g7b⟩, h⟩ := h
  obtain ⟨n7, g7⟩ : ∃ z : Nat, z = zgN st 34 := ⟨_, rfl⟩
  have h := h n7 g7
  refine t_newq C dJ7_copyOf_6403c_7 kl_J7_2 (zC_AO1 C) (t := 4) (k := 34) rfl g7a rfl (by omega) (by decide) zN_X zo_X nw_34 (c2 := 1) (s2 := 40) ⟨Nat.le_of_ble_eq_true rfl, by omega, Nat.le_of_ble_eq_true rfl, Nat.le_of_ble_eq_true rfl⟩ ?_
  rw [← g7]
  refine t_tops (fun s7 es7 => ?_)
  have h := h s7 es7
  refine z_goto C dJ7_copyOf_6403c_10 (tgt := 24) (by decide) ?_
  exact t_drop [true, true, false, false] rfl (j_J7_copyOf_6403c_v34ic207_24 hfl C hr hn9  s7 a0 a1 (34 + 256 * n7) h)
def w_J7_copyOf_1904c_v34i (st : zTs) (a0 : Nat) (a1 : Int32) (P : Nat → zTs → Prop) : Prop := (a0 % 256 = 34) ∧ (w_J7_copyOf_6403c_v34ic207 st a0 a1 (fun (r6 : Nat) (s6 : zTs) => (P r6 s6)))
set_option maxHeartbeats 4000000 in
set_option maxRecDepth 100000 in
theorem c_J7_copyOf_1904c_v34i {Z : zZ} {l : Launch} (hfl : l.stackTraces = false) {st : zTs} {a0 : Nat} {a1 : Int32} {P : Nat → zTs → Prop} (h : w_J7_copyOf_1904c_v34i st a0 a1 P) : zN Z l yJ7_copyOf_1904c cJ7_copyOf_1904c 2 (some (.array (.object "java/lang/Object"))) ({ frames := 3, cells := 1, slots := 40, locals := 56 } : Room) (zh Z zm1 st) [.ref (a0), .int (a1)] (zWV Z P) := by
  unfold w_J7_copyOf_1904c_v34i at h
  refine z_enterF (by decide +kernel) (Nat.le_of_ble_eq_true rfl) (lc0 := [some (.ref (a0)), some (.int (a1))]) rfl ?_
  intro p e s m args below meth c ad0 C hr _
  have hn9 : True := trivial
  replace C : zC Z p s m args meth c cJ7_copyOf_1904c 2 RJ7 := C
  refine z_aload_n C dJ7_copyOf_1904c_0 (i := 0) rfl rfl ?_
  refine z_iload_n C dJ7_copyOf_1904c_1 (i := 1) rfl rfl ?_
  refine z_aload_n C dJ7_copyOf_1904c_2 (i := 0) rfl rfl ?_
  obtain ⟨g3, h⟩ := h
  refine t_getC C dJ7_copyOf_1904c_3 lgc_1 lgc_2 lgc_3 lgc_4 (by decide) g3 sh_34 ⟨Nat.le_of_ble_eq_true rfl, Nat.le_of_ble_eq_true rfl⟩ ?_
  refine t_callS C (rest := []) (c2 := 1) (s2 := 40) [.ref (a0), .int (a1), .ref 207] dJ7_copyOf_1904c_6 lk_J7_300 ls_J7_copyOf_6403c (c_J7_copyOf_6403c_v34ic207 hfl h) rfl rfl ⟨Nat.le_of_ble_eq_true rfl, Nat.le_of_ble_eq_true rfl⟩ (Nat.le_of_ble_eq_true rfl) ⟨Nat.le_of_ble_eq_true rfl, Nat.le_of_ble_eq_true rfl, Nat.le_of_ble_eq_true rfl, Nat.le_of_ble_eq_true rfl⟩ (k_WV fun r6 s6 h => ?_)
  exact z_aret C dJ7_copyOf_1904c_9 hr (Or.inr ⟨_, rfl⟩) (Or.inr ⟨_, rfl⟩) ⟨_, _, rfl, rfl, h⟩ (Nat.le_of_ble_eq_true rfl) (Nat.le_of_ble_eq_true rfl)
def w_Jx4a65c_grow_92f84_r30i_20 (P : Nat → zTs → Prop)  (st : zTs) (a1 : Int32) (a2 : Int32) : Prop := w_J8_newLength_cabcc_iii st a2 (a1 - a2) (a2 >>> (1 &&& 31)) (fun (r27 : Int32) (s27 : zTs) => (w_J7_copyOf_1904c_v34i s27 (zgP s27 30 0 1) r27 (fun (r37 : Nat) (s37 : zTs) => (∀ s41 : zTs, s41 = zuP s37 30 0 1 r37 → (P r37 s41)))))
set_option maxHeartbeats 4000000 in
set_option maxRecDepth 100000 in
theorem j_Jx4a65c_grow_92f84_r30i_20 {P : Nat → zTs → Prop}  (hfl : l.stackTraces = false) (C : zC Z p s m args meth c cJx4a65c_grow_92f84 4 RJx4a65c) (hr : meth.sig.returnType = (some (.array (.object "java/lang/Object")))) (hn9 : True)  (st : zTs) (a1 : Int32) (a2 : Int32) (h : w_Jx4a65c_grow_92f84_r30i_20 P st a1 a2) : zG Z ad0 h0 p l e ({ frames := 4, cells := 1, slots := 40, locals := 77 } : Room) s m args below meth c (MQ below (zQ Z ad0 h0 (zWV Z P)) args s 1 40 (zA Z)) 0 0 (zh Z zm1 st) 4 20 [some (.ref 30), some (.int (a1)), some (.int (a2)), none] [] := by
  unfold w_Jx4a65c_grow_92f84_r30i_20 at h
  refine z_iload_n C dJx4a65c_grow_92f84_20 (i := 2) rfl rfl ?_
  refine z_iload_n C dJx4a65c_grow_92f84_21 (i := 1) rfl rfl ?_
  refine z_iload_n C dJx4a65c_grow_92f84_22 (i := 2) rfl rfl ?_
  refine z_isub C dJx4a65c_grow_92f84_23 ?_
  refine z_iload_n C dJx4a65c_grow_92f84_24 (i := 2) rfl rfl ?_
  refine z_iconst C dJx4a65c_grow_92f84_25 (v := 1) (by decide) ?_
  refine z_ishr C dJx4a65c_grow_92f84_26 ?_
  refine t_callS C (rest := []) (c2 := 0) (s2 := 0) [.int (a2), .int (a1 - a2), .int (a2 >>> (1 &&& 31))] dJx4a65c_grow_92f84_27 lk_Jx4a65c_73 ls_J8_newLength_cabcc (c_J8_newLength_cabcc_iii hfl h) rfl rfl ⟨Nat.le_of_ble_eq_true rfl, Nat.le_of_ble_eq_true rfl⟩ (Nat.le_of_ble_eq_true rfl) ⟨Nat.le_of_ble_eq_true rfl, Nat.le_of_ble_eq_true rfl, Nat.le_of_ble_eq_true rfl, Nat.le_of_ble_eq_true rfl⟩ (k_Wi fun r27 s27 h => ?_)
  refine z_istore_n C dJx4a65c_grow_92f84_30 (i := 3) (lc' := [some (.ref 30), some (.int (a1)), some (.int (a2)), some (.int (r27))]) rfl (by decide) rfl ?_
  refine z_aload_n C dJx4a65c_grow_92f84_31 (i := 0) rfl rfl ?_
  refine z_aload_n C dJx4a65c_grow_92f84_32 (i := 0) rfl rfl ?_
  refine t_get C dJx4a65c_grow_92f84_33 fl_Jx4a65c_9 (k := 30) (i := 0) (by decide) rfl (fg_30_1 _ _ _) ?_
  refine z_iload_n C dJx4a65c_grow_92f84_36 (i := 3) rfl rfl ?_
  refine t_callS C (rest := [.ref 30]) (c2 := 1) (s2 := 40) [.ref (zgP s27 30 0 1), .int (r27)] dJx4a65c_grow_92f84_37 lk_Jx4a65c_66 ls_J7_copyOf_1904c (c_J7_copyOf_1904c_v34i hfl h) rfl rfl ⟨Nat.le_of_ble_eq_true rfl, Nat.le_of_ble_eq_true rfl⟩ (Nat.le_of_ble_eq_true rfl) ⟨Nat.le_of_ble_eq_true rfl, Nat.le_of_ble_eq_true rfl, Nat.le_of_ble_eq_true rfl, Nat.le_of_ble_eq_true rfl⟩ (k_WV fun r37 s37 h => ?_)
  refine z_dup_x1 C dJx4a65c_grow_92f84_40 rfl rfl ?_
  refine t_put C dJx4a65c_grow_92f84_41 fq_Jx4a65c_9 (Or.inl rfl) (k := 30) (i := 0) (by decide) rfl ⟨rfl, rfl⟩ (fp_30_1 _ _ _ _) ?_
  refine t_tops (fun s41 es41 => ?_)
  have h := h s41 es41
  exact z_aret C dJx4a65c_grow_92f84_44 hr (Or.inr ⟨_, rfl⟩) (Or.inr ⟨_, rfl⟩) ⟨_, _, rfl, rfl, h⟩ (Nat.le_of_ble_eq_true rfl) (Nat.le_of_ble_eq_true rfl)
def w_Jx4a65c_grow_92f84_r30i (st : zTs) (a1 : Int32) (P : Nat → zTs → Prop) : Prop := ((zgP st 30 0 1) = 204 ∨ (zgP st 30 0 1) % 256 = 34) ∧ ∀ x4 : Int32, x4 = (if (zgP st 30 0 1) = 204 then 0 else Int32.ofNat (zgP st 34 ((zgP st 30 0 1) / 256) 0)) → ((0 < x4 → w_Jx4a65c_grow_92f84_r30i_20 P st a1 x4) ∧ (¬ 0 < x4 → (zgP st 30 0 1 = 204) ∧ (w_J9_max_7cf53 st 10 a1 (fun (r49 : Int32) => ((¬ r49 < 0 ∧ (r49 : Int32).toNatClampNeg ≤ 40) ∧ ∀ n52 : Nat, n52 = zgN st 34 → (∀ s52 : zTs, s52 = zuX st 34 (r49 : Int32).toNatClampNeg → (∀ s56 : zTs, s56 = zuP s52 30 0 1 (34 + 256 * n52) → (P (34 + 256 * n52) s56))))))))
set_option maxHeartbeats 4000000 in
set_option maxRecDepth 100000 in
theorem c_Jx4a65c_grow_92f84_r30i {Z : zZ} {l : Launch} (hfl : l.stackTraces = false) {st : zTs} {a1 : Int32} {P : Nat → zTs → Prop} (h : w_Jx4a65c_grow_92f84_r30i st a1 P) : zN Z l yJx4a65c_grow_92f84 cJx4a65c_grow_92f84 4 (some (.array (.object "java/lang/Object"))) ({ frames := 4, cells := 1, slots := 40, locals := 77 } : Room) (zh Z zm1 st) [.ref 30, .int (a1)] (zWV Z P) := by
  unfold w_Jx4a65c_grow_92f84_r30i at h
  refine z_enterF (by decide +kernel) (Nat.le_of_ble_eq_true rfl) (lc0 := [some (.ref 30), some (.int (a1)), none, none]) rfl ?_
  intro p e s m args below meth c ad0 C hr _
  have hn9 : True := trivial
  replace C : zC Z p s m args meth c cJx4a65c_grow_92f84 4 RJx4a65c := C
  refine z_aload_n C dJx4a65c_grow_92f84_0 (i := 0) rfl rfl ?_
  refine t_get C dJx4a65c_grow_92f84_1 fl_Jx4a65c_9 (k := 30) (i := 0) (by decide) rfl (fg_30_1 _ _ _) ?_
  obtain ⟨g4, h⟩ := h
  refine t_lenV C dJx4a65c_grow_92f84_4 (by decide) (fun _ => sh_34) g4 (fun x4 ex4 => ?_)
  have h := h x4 ex4
  refine z_istore_n C dJx4a65c_grow_92f84_5 (i := 2) (lc' := [some (.ref 30), some (.int (a1)), some (.int (x4)), none]) rfl (by decide) rfl ?_
  refine z_iload_n C dJx4a65c_grow_92f84_6 (i := 2) rfl rfl ?_
  refine z_if_gt C dJx4a65c_grow_92f84_7 (tgt := 20) (by decide) (fun c7 => ?_) (fun c7 => ?_)
  · have h := h.1 c7
    exact t_drop [true, true, true, false] rfl (j_Jx4a65c_grow_92f84_r30i_20 hfl C hr hn9  st a1 x4 h)
  · have h := h.2 c7
    refine z_aload_n C dJx4a65c_grow_92f84_10 (i := 0) rfl rfl ?_
    refine t_get C dJx4a65c_grow_92f84_11 fl_Jx4a65c_9 (k := 30) (i := 0) (by decide) rfl (fg_30_1 _ _ _) ?_
    refine z_gets C dJx4a65c_grow_92f84_14 (q := 204) (by decide) gl_Jx4a65c_39 (fun z => z.2.2.2.2.2.2.1.1) ?_
    obtain ⟨g17, h⟩ := h
    rw [g17]
    refine z_acmpR_eq C dJx4a65c_grow_92f84_17 (tgt := 45) (by decide) ?_
    refine z_aload_n C dJx4a65c_grow_92f84_45 (i := 0) rfl rfl ?_
    refine z_bipush C dJx4a65c_grow_92f84_46 (v := 10) (by decide) ?_
    refine z_iload_n C dJx4a65c_grow_92f84_48 (i := 1) rfl rfl ?_
    refine t_callS C (rest := [.ref 30]) (c2 := 0) (s2 := 0) [.int (10), .int (a1)] dJx4a65c_grow_92f84_49 lk_Jx4a65c_79 ls_J9_max_7cf53 (c_J9_max_7cf53 hfl h) rfl rfl ⟨Nat.le_of_ble_eq_true rfl, Nat.le_of_ble_eq_true rfl⟩ (Nat.le_of_ble_eq_true rfl) ⟨Nat.le_of_ble_eq_true rfl, Nat.le_of_ble_eq_true rfl, Nat.le_of_ble_eq_true rfl, Nat.le_of_ble_eq_true rfl⟩ (k_Ri fun r49 h => ?_)
    obtain ⟨⟨g52a, g52b⟩, h⟩ := h
    obtain ⟨n52, g52⟩ : ∃ z : Nat, z = zgN st 34 := ⟨_, rfl⟩
    have h := h n52 g52
    refine t_newq C dJx4a65c_grow_92f84_52 kl_Jx4a65c_7 (zC_AO1 C) (t := 4) (k := 34) rfl g52a rfl (by omega) (by decide) zN_X zo_X nw_34 (c2 := 1) (s2 := 40) ⟨Nat.le_of_ble_eq_true rfl, by omega, Nat.le_of_ble_eq_true rfl, Nat.le_of_ble_eq_true rfl⟩ ?_
    rw [← g52]
    refine t_tops (fun s52 es52 => ?_)
    have h := h s52 es52
    refine z_dup_x1 C dJx4a65c_grow_92f84_55 rfl rfl ?_
    refine t_put C dJx4a65c_grow_92f84_56 fq_Jx4a65c_9 (Or.inl rfl) (k := 30) (i := 0) (by decide) rfl ⟨rfl, rfl⟩ (fp_30_1 _ _ _ _) ?_
    refine t_tops (fun s56 es56 => ?_)
    have h := h s56 es56
    exact z_aret C dJx4a65c_grow_92f84_59 hr (Or.inr ⟨_, rfl⟩) (Or.inr ⟨_, rfl⟩) ⟨_, _, rfl, rfl, h⟩ (Nat.le_of_ble_eq_true rfl) (Nat.le_of_ble_eq_true rfl)
def w_Jx4a65c_grow_d5877_r30 (st : zTs)  (P : Nat → zTs → Prop) : Prop := w_Jx4a65c_grow_92f84_r30i st ((zgF st 30 0 2) + 1) (fun (r7 : Nat) (s7 : zTs) => (P r7 s7))
set_option maxHeartbeats 4000000 in
set_option maxRecDepth 100000 in
theorem c_Jx4a65c_grow_d5877_r30 {Z : zZ} {l : Launch} (hfl : l.stackTraces = false) {st : zTs}  {P : Nat → zTs → Prop} (h : w_Jx4a65c_grow_d5877_r30 st  P) : zN Z l yJx4a65c_grow_d5877 cJx4a65c_grow_d5877 1 (some (.array (.object "java/lang/Object"))) ({ frames := 5, cells := 1, slots := 40, locals := 100 } : Room) (zh Z zm1 st) [.ref 30] (zWV Z P) := by
  unfold w_Jx4a65c_grow_d5877_r30 at h
  refine z_enterF (by decide +kernel) (Nat.le_of_ble_eq_true rfl) (lc0 := [some (.ref 30)]) rfl ?_
  intro p e s m args below meth c ad0 C hr _
  have hn9 : True := trivial
  replace C : zC Z p s m args meth c cJx4a65c_grow_d5877 1 RJx4a65c := C
  refine z_aload_n C dJx4a65c_grow_d5877_0 (i := 0) rfl rfl ?_
  refine z_aload_n C dJx4a65c_grow_d5877_1 (i := 0) rfl rfl ?_
  refine t_get C dJx4a65c_grow_d5877_2 fl_Jx4a65c_48 (k := 30) (i := 0) (by decide) rfl (fg_30_2 _ _ _) ?_
  refine z_iconst C dJx4a65c_grow_d5877_5 (v := 1) (by decide) ?_
  refine z_iadd C dJx4a65c_grow_d5877_6 ?_
  refine t_callV C (rest := []) (c2 := 1) (s2 := 40) (kd := 30) (i := 0) [.int ((zgF st 30 0 2) + 1)] dJx4a65c_grow_d5877_7 lk_Jx4a65c_69 li_Jx4a65c_grow_92f84 le_Jx4a65c_grow_92f84 (c_Jx4a65c_grow_92f84_r30i hfl h) rfl rfl (by decide) rfl ⟨_, rfl⟩ rfl ⟨Nat.le_of_ble_eq_true rfl, Nat.le_of_ble_eq_true rfl⟩ (Nat.le_of_ble_eq_true rfl) ⟨Nat.le_of_ble_eq_true rfl, Nat.le_of_ble_eq_true rfl, Nat.le_of_ble_eq_true rfl, Nat.le_of_ble_eq_true rfl⟩ (k_WV fun r7 s7 h => ?_)
  exact z_aret C dJx4a65c_grow_d5877_10 hr (Or.inr ⟨_, rfl⟩) (Or.inr ⟨_, rfl⟩) ⟨_, _, rfl, rfl, h⟩ (Nat.le_of_ble_eq_true rfl) (Nat.le_of_ble_eq_true rfl)
def w_Jx4a65c_add_72be8_r30r20v34i_11 (P : zTs → Prop)  (st : zTs) (a1 : Nat) (a2 : Nat) (a3 : Int32) : Prop := (a2 % 256 = 34 ∧ vp_in a3 (zgP st 34 (a2 / 256) 0) ∧ (a3 : Int32).toNatClampNeg = zgL st 34 (a2 / 256) ∧ a1 = zgL st 34 (a2 / 256)) ∧ (∀ s14 : zTs, s14 = zuL st 34 (a2 / 256) (zgL st 34 (a2 / 256) + 1) → (∀ s19 : zTs, s19 = zuF s14 30 0 2 (a3 + 1) → (P s19)))
set_option maxHeartbeats 4000000 in
set_option maxRecDepth 100000 in
theorem j_Jx4a65c_add_72be8_r30r20v34i_11 {P : zTs → Prop}  (hfl : l.stackTraces = false) (C : zC Z p s m args meth c cJx4a65c_add_72be8 4 RJx4a65c) (hr : meth.sig.returnType = none) (hn9 : True)  (st : zTs) (a1 : Nat) (a2 : Nat) (a3 : Int32) (h : w_Jx4a65c_add_72be8_r30r20v34i_11 P st a1 a2 a3) : zG Z ad0 h0 p l e ({ frames := 6, cells := 1, slots := 40, locals := 120 } : Room) s m args below meth c (MQ below (zQ Z ad0 h0 (zWv Z zm1 P)) args s 1 40 (zA Z)) 1 40 (zh Z zm1 st) 4 11 [some (.ref 30), some (.ref (20 + 256 * a1)), some (.ref (a2)), some (.int (a3))] [] := by
  unfold w_Jx4a65c_add_72be8_r30r20v34i_11 at h
  refine z_aload_n C dJx4a65c_add_72be8_11 (i := 2) rfl rfl ?_
  refine z_iload_n C dJx4a65c_add_72be8_12 (i := 3) rfl rfl ?_
  refine z_aload_n C dJx4a65c_add_72be8_13 (i := 1) rfl rfl ?_
  obtain ⟨⟨g14, g14b, g14c, g14d⟩, h⟩ := h
  refine t_astdO C dJx4a65c_add_72be8_14 (k0 := 34) (el := 20) (by decide) (by decide) g14 (fun s9 e9 => by rw [sh_34, e9]) rfl ⟨_, rfl⟩ rfl (by decide) g14b g14c g14d ?_
  refine t_tops (fun s14 es14 => ?_)
  have h := h s14 es14
  refine z_aload_n C dJx4a65c_add_72be8_15 (i := 0) rfl rfl ?_
  refine z_iload_n C dJx4a65c_add_72be8_16 (i := 3) rfl rfl ?_
  refine z_iconst C dJx4a65c_add_72be8_17 (v := 1) (by decide) ?_
  refine z_iadd C dJx4a65c_add_72be8_18 ?_
  refine t_put C dJx4a65c_add_72be8_19 fq_Jx4a65c_48 (Or.inl rfl) (k := 30) (i := 0) (by decide) rfl ⟨rfl, rfl⟩ (fp_30_2 _ _ _ _ _) ?_
  refine t_tops (fun s19 es19 => ?_)
  have h := h s19 es19
  exact z_vret C dJx4a65c_add_72be8_22 hr ⟨_, rfl, rfl, h⟩ (Nat.le_of_ble_eq_true rfl) (Nat.le_of_ble_eq_true rfl)
def w_Jx4a65c_add_72be8_r30r20v34i (st : zTs) (a1 : Nat) (a2 : Nat) (a3 : Int32) (P : zTs → Prop) : Prop := (a2 = 204 ∨ a2 % 256 = 34) ∧ ∀ x2 : Int32, x2 = (if a2 = 204 then 0 else Int32.ofNat (zgP st 34 (a2 / 256) 0)) → ((a3 = x2 → w_Jx4a65c_grow_d5877_r30 st (fun (r7 : Nat) (s7 : zTs) => (w_Jx4a65c_add_72be8_r30r20v34i_11 P s7 a1 r7 a3))) ∧ (¬ a3 = x2 → w_Jx4a65c_add_72be8_r30r20v34i_11 P st a1 a2 a3))
set_option maxHeartbeats 4000000 in
set_option maxRecDepth 100000 in
theorem c_Jx4a65c_add_72be8_r30r20v34i {Z : zZ} {l : Launch} (hfl : l.stackTraces = false) {st : zTs} {a1 : Nat} {a2 : Nat} {a3 : Int32} {P : zTs → Prop} (h : w_Jx4a65c_add_72be8_r30r20v34i st a1 a2 a3 P) : zN Z l yJx4a65c_add_72be8 cJx4a65c_add_72be8 4 none ({ frames := 6, cells := 1, slots := 40, locals := 120 } : Room) (zh Z zm1 st) [.ref 30, .ref (20 + 256 * a1), .ref (a2), .int (a3)] (zWv Z zm1 P) := by
  unfold w_Jx4a65c_add_72be8_r30r20v34i at h
  refine z_enterF (by decide +kernel) (Nat.le_of_ble_eq_true rfl) (lc0 := [some (.ref 30), some (.ref (20 + 256 * a1)), some (.ref (a2)), some (.int (a3))]) rfl ?_
  intro p e s m args below meth c ad0 C hr _
  have hn9 : True := trivial
  replace C : zC Z p s m args meth c cJx4a65c_add_72be8 4 RJx4a65c := C
  refine z_iload_n C dJx4a65c_add_72be8_0 (i := 3) rfl rfl ?_
  refine z_aload_n C dJx4a65c_add_72be8_1 (i := 2) rfl rfl ?_
  obtain ⟨g2, h⟩ := h
  refine t_lenV C dJx4a65c_add_72be8_2 (by decide) (fun _ => sh_34) g2 (fun x2 ex2 => ?_)
  have h := h x2 ex2
  refine z_icmp_ne C dJx4a65c_add_72be8_3 (tgt := 11) (by decide) (fun c3 => ?_) (fun c3 => ?_)
  · have h := h.2 c3
    refine zG.wide (c2 := 1) (s2 := 40) (Nat.le_of_ble_eq_true rfl) (Nat.le_of_ble_eq_true rfl) ?_
    exact t_drop [true, true, true, true] rfl (j_Jx4a65c_add_72be8_r30r20v34i_11 hfl C hr hn9  st a1 a2 a3 h)
  · have h := h.1 c3
    refine z_aload_n C dJx4a65c_add_72be8_6 (i := 0) rfl rfl ?_
    refine t_callV C (rest := []) (c2 := 1) (s2 := 40) (kd := 30) (i := 0) [] dJx4a65c_add_72be8_7 lk_Jx4a65c_129 li_Jx4a65c_grow_d5877 le_Jx4a65c_grow_d5877 (c_Jx4a65c_grow_d5877_r30 hfl h) rfl rfl (by decide) rfl ⟨_, rfl⟩ rfl ⟨Nat.le_of_ble_eq_true rfl, Nat.le_of_ble_eq_true rfl⟩ (Nat.le_of_ble_eq_true rfl) ⟨Nat.le_of_ble_eq_true rfl, Nat.le_of_ble_eq_true rfl, Nat.le_of_ble_eq_true rfl, Nat.le_of_ble_eq_true rfl⟩ (k_WV fun r7 s7 h => ?_)
    refine z_astore_n C dJx4a65c_add_72be8_10 (i := 2) (lc' := [some (.ref 30), some (.ref (20 + 256 * a1)), some (.ref (r7)), some (.int (a3))]) rfl (by decide) rfl ?_
    exact t_drop [true, true, true, true] rfl (j_Jx4a65c_add_72be8_r30r20v34i_11 hfl C hr hn9  s7 a1 r7 a3 h)
def w_Jx4a65c_add_9ea2d_r30r20 (st : zTs) (a1 : Nat) (P : Int32 → zTs → Prop) : Prop := ∀ s7 : zTs, s7 = zuF st 30 0 0 ((zgF st 30 0 0) + 1) → (w_Jx4a65c_add_72be8_r30r20v34i s7 a1 (zgP s7 30 0 1) (zgF s7 30 0 2) (fun (s20 : zTs) => (P 1 s20)))
set_option maxHeartbeats 4000000 in
set_option maxRecDepth 100000 in
theorem c_Jx4a65c_add_9ea2d_r30r20 {Z : zZ} {l : Launch} (hfl : l.stackTraces = false) {st : zTs} {a1 : Nat} {P : Int32 → zTs → Prop} (h : w_Jx4a65c_add_9ea2d_r30r20 st a1 P) : zN Z l yJx4a65c_add_9ea2d cJx4a65c_add_9ea2d 2 (some .boolean) ({ frames := 7, cells := 1, slots := 40, locals := 143 } : Room) (zh Z zm1 st) [.ref 30, .ref (20 + 256 * a1)] (zWi Z P) := by
  unfold w_Jx4a65c_add_9ea2d_r30r20 at h
  refine z_enterF (by decide +kernel) (Nat.le_of_ble_eq_true rfl) (lc0 := [some (.ref 30), some (.ref (20 + 256 * a1))]) rfl ?_
  intro p e s m args below meth c ad0 C hr _
  have hn9 : True := trivial
  replace C : zC Z p s m args meth c cJx4a65c_add_9ea2d 2 RJx4a65c := C
  refine z_aload_n C dJx4a65c_add_9ea2d_0 (i := 0) rfl rfl ?_
  refine z_dup C dJx4a65c_add_9ea2d_1 rfl ?_
  refine t_getS C dJx4a65c_add_9ea2d_2 fz_Jx4a65c_63 (k := 30) (i := 0) (by decide) rfl (fg_30_0 _ _ _) ?_
  refine z_iconst C dJx4a65c_add_9ea2d_5 (v := 1) (by decide) ?_
  refine z_iadd C dJx4a65c_add_9ea2d_6 ?_
  refine t_putS C dJx4a65c_add_9ea2d_7 fz_Jx4a65c_63 (k := 30) (i := 0) (by decide) rfl (fp_30_0 _ _ _ _ _) ?_
  refine t_tops (fun s7 es7 => ?_)
  have h := h s7 es7
  refine z_aload_n C dJx4a65c_add_9ea2d_10 (i := 0) rfl rfl ?_
  refine z_aload_n C dJx4a65c_add_9ea2d_11 (i := 1) rfl rfl ?_
  refine z_aload_n C dJx4a65c_add_9ea2d_12 (i := 0) rfl rfl ?_
  refine t_get C dJx4a65c_add_9ea2d_13 fl_Jx4a65c_9 (k := 30) (i := 0) (by decide) rfl (fg_30_1 _ _ _) ?_
  refine z_aload_n C dJx4a65c_add_9ea2d_16 (i := 0) rfl rfl ?_
  refine t_get C dJx4a65c_add_9ea2d_17 fl_Jx4a65c_48 (k := 30) (i := 0) (by decide) rfl (fg_30_2 _ _ _) ?_
  refine t_callV C (rest := []) (c2 := 1) (s2 := 40) (kd := 30) (i := 0) [.ref (20 + 256 * a1), .ref (zgP s7 30 0 1), .int (zgF s7 30 0 2)] dJx4a65c_add_9ea2d_20 lk_Jx4a65c_131 li_Jx4a65c_add_72be8 le_Jx4a65c_add_72be8 (c_Jx4a65c_add_72be8_r30r20v34i hfl h) rfl rfl (by decide) rfl ⟨_, rfl⟩ rfl ⟨Nat.le_of_ble_eq_true rfl, Nat.le_of_ble_eq_true rfl⟩ (Nat.le_of_ble_eq_true rfl) ⟨Nat.le_of_ble_eq_true rfl, Nat.le_of_ble_eq_true rfl, Nat.le_of_ble_eq_true rfl, Nat.le_of_ble_eq_true rfl⟩ (k_Wv fun s20 h => ?_)
  refine z_iconst C dJx4a65c_add_9ea2d_23 (v := 1) (by decide) ?_
  exact z_iret C dJx4a65c_add_9ea2d_24 hr rfl ⟨_, _, rfl, rfl, h⟩ (Nat.le_of_ble_eq_true rfl) (Nat.le_of_ble_eq_true rfl)
def w_X11_wall (st : zTs) (a1 : Int32) (a2 : Int32) (X : Nat → zTs → Prop) (P : Int32 → zTs → Prop) : Prop := w_X11_checkIndex st a1 (zgF st 10 0 12) (fun k9 => X k9 st) ((w_X11_checkIndex st a2 (zgF st 10 0 12) (fun k9 => X k9 st) ((w_Jx4a65c_size_8abf5_r30 st (fun (r20 : Int32) => (w_X11_checkRoom st r20 6 (fun k9 => X k9 st) ((∀ n32 : Nat, n32 = zgN st 20 → (∀ s32 : zTs, s32 = zuW st 20 → (w_X8_init s32 (zm0 zm1 20 n32) n32 a1 a2 (fun (s38 : zTs) => (w_Jx4a65c_add_9ea2d_r30r20 s38 n32 (fun (r41 : Int32) (s41 : zTs) => (w_Jx4a65c_size_8abf5_r30 s41 (fun (r49 : Int32) => (P (r49 - 1) s41))))))))))))))))
set_option maxHeartbeats 4000000 in
set_option maxRecDepth 100000 in
theorem c_X11_wall {Z : zZ} {l : Launch} (hfl : l.stackTraces = false) {st : zTs} {a1 : Int32} {a2 : Int32} {X : Nat → zTs → Prop} {P : Int32 → zTs → Prop} (h : w_X11_wall st a1 a2 X P) : zM Z l yX11_wall cX11_wall 3 (some .int) ({ frames := 9, cells := 11, slots := 1038, locals := 164 } : Room) (zh Z zm1 st) [.ref 10, .int (a1), .int (a2)] (zWi Z P) (zXs Z X) := by
  unfold w_X11_wall at h
  refine z_enterM (by decide) (Nat.le_of_ble_eq_true rfl) (lc0 := [some (.ref 10), some (.int (a1)), some (.int (a2))]) rfl ?_
  intro p e s m args below meth c ad0 C hr hex
  replace C : zC Z p s m args meth c cX11_wall 3 RX11 := C
  refine z_iload_n C dX11_wall_0 (i := 1) rfl rfl ?_
  refine z_aload_n C dX11_wall_1 (i := 0) rfl rfl ?_
  refine t_get C dX11_wall_2 fl_X11_69 (k := 10) (i := 0) (by decide) rfl (fg_10_12 _ _ _) ?_
  refine t_callSM C hex (rest := []) (c2 := 1) (s2 := 6) [.int (a1), .int (zgF st 10 0 12)] dX11_wall_5 lk_X11_77 ls_X11_checkIndex (c_X11_checkIndex hfl h) rfl rfl ⟨Nat.le_of_ble_eq_true rfl, Nat.le_of_ble_eq_true rfl⟩ (Nat.le_of_ble_eq_true rfl) ⟨Nat.le_of_ble_eq_true rfl, Nat.le_of_ble_eq_true rfl, Nat.le_of_ble_eq_true rfl, Nat.le_of_ble_eq_true rfl⟩ (fun _ _ q => ⟨_, q.1, q.2⟩) ⟨Nat.le_of_ble_eq_true rfl, Nat.le_of_ble_eq_true rfl⟩ (k_Rv fun h => ?_)
  refine z_iload_n C dX11_wall_8 (i := 2) rfl rfl ?_
  refine z_aload_n C dX11_wall_9 (i := 0) rfl rfl ?_
  refine t_get C dX11_wall_10 fl_X11_69 (k := 10) (i := 0) (by decide) rfl (fg_10_12 _ _ _) ?_
  refine t_callSM C hex (rest := []) (c2 := 2) (s2 := 12) [.int (a2), .int (zgF st 10 0 12)] dX11_wall_13 lk_X11_77 ls_X11_checkIndex (c_X11_checkIndex hfl h) rfl rfl ⟨Nat.le_of_ble_eq_true rfl, Nat.le_of_ble_eq_true rfl⟩ (Nat.le_of_ble_eq_true rfl) ⟨Nat.le_of_ble_eq_true rfl, Nat.le_of_ble_eq_true rfl, Nat.le_of_ble_eq_true rfl, Nat.le_of_ble_eq_true rfl⟩ (fun _ _ q => ⟨_, q.1, q.2⟩) ⟨Nat.le_of_ble_eq_true rfl, Nat.le_of_ble_eq_true rfl⟩ (k_Rv fun h => ?_)
  refine z_aload_n C dX11_wall_16 (i := 0) rfl rfl ?_
  refine t_get C dX11_wall_17 fl_X11_10 (k := 10) (i := 0) (by decide) rfl (fg_10_0 _ _ _) ?_
  refine t_callV C (rest := []) (c2 := 2) (s2 := 12) (kd := 30) (i := 0) [] dX11_wall_20 lk_X11_80 li_Jx4a65c_size_8abf5 le_Jx4a65c_size_8abf5 (c_Jx4a65c_size_8abf5_r30 hfl h) rfl rfl (by decide) rfl ⟨_, rfl⟩ rfl ⟨Nat.le_of_ble_eq_true rfl, Nat.le_of_ble_eq_true rfl⟩ (Nat.le_of_ble_eq_true rfl) ⟨Nat.le_of_ble_eq_true rfl, Nat.le_of_ble_eq_true rfl, Nat.le_of_ble_eq_true rfl, Nat.le_of_ble_eq_true rfl⟩ (k_Ri fun r20 h => ?_)
  refine z_bipush C dX11_wall_23 (v := 6) (by decide) ?_
  refine t_callSM C hex (rest := []) (c2 := 3) (s2 := 18) [.int (r20), .int (6)] dX11_wall_25 lk_X11_73 ls_X11_checkRoom (c_X11_checkRoom hfl h) rfl rfl ⟨Nat.le_of_ble_eq_true rfl, Nat.le_of_ble_eq_true rfl⟩ (Nat.le_of_ble_eq_true rfl) ⟨Nat.le_of_ble_eq_true rfl, Nat.le_of_ble_eq_true rfl, Nat.le_of_ble_eq_true rfl, Nat.le_of_ble_eq_true rfl⟩ (fun _ _ q => ⟨_, q.1, q.2⟩) ⟨Nat.le_of_ble_eq_true rfl, Nat.le_of_ble_eq_true rfl⟩ (k_Rv fun h => ?_)
  refine z_aload_n C dX11_wall_28 (i := 0) rfl rfl ?_
  refine t_get C dX11_wall_29 fl_X11_10 (k := 10) (i := 0) (by decide) rfl (fg_10_0 _ _ _) ?_
  obtain ⟨n32, g32⟩ : ∃ z : Nat, z = zgN st 20 := ⟨_, rfl⟩
  have h := h n32 g32
  refine t_new C dX11_wall_32 nl_X11_84 rfl (by decide) nw_20 (c2 := 4) (s2 := 24) ⟨Nat.le_of_ble_eq_true rfl, Nat.le_of_ble_eq_true rfl, Nat.le_of_ble_eq_true rfl, Nat.le_of_ble_eq_true rfl⟩ ?_
  rw [← g32]
  refine t_tops (fun s32 es32 => ?_)
  have h := h s32 es32
  refine z_dup C dX11_wall_35 rfl ?_
  refine z_iload_n C dX11_wall_36 (i := 1) rfl rfl ?_
  refine z_iload_n C dX11_wall_37 (i := 2) rfl rfl ?_
  refine t_callI C (rest := [.ref (20 + 256 * n32), .ref 30]) (c2 := 10) (s2 := 998) [.int (a1), .int (a2)] dX11_wall_38 lk_X11_86 lnm_X8_init rfl (c_X8_init hfl h) rfl rfl ⟨Nat.le_of_ble_eq_true rfl, Nat.le_of_ble_eq_true rfl⟩ (Nat.le_of_ble_eq_true rfl) ⟨Nat.le_of_ble_eq_true rfl, Nat.le_of_ble_eq_true rfl, Nat.le_of_ble_eq_true rfl, Nat.le_of_ble_eq_true rfl⟩ (k_Wv fun s38 h => ?_)
  refine t_mask (mk' := zm1) (k := 20) (i := n32) (fun k9 i9 g9 => by simp only [zms, zm0, zp2_ne g9]) (nm_20 (g0 := by simp [zms, zm0, zm1, zp2, zp1]) (g1 := by simp [zms, zm0, zm1, zp2, zp1]) (g2 := by simp [zms, zm0, zm1, zp2, zp1]) (g3 := by simp [zms, zm0, zm1, zp2, zp1]) (g4 := by simp [zms, zm0, zm1, zp2, zp1]) (g5 := by simp [zms, zm0, zm1, zp2, zp1]) (f0 := rfl) (f1 := rfl) (f2 := rfl) (f3 := rfl) (f4 := rfl) (f5 := rfl)) ?_
  refine t_callV C (rest := []) (c2 := 11) (s2 := 1038) (kd := 30) (i := 0) [.ref (20 + 256 * n32)] dX11_wall_41 lk_X11_88 li_Jx4a65c_add_9ea2d le_Jx4a65c_add_9ea2d (c_Jx4a65c_add_9ea2d_r30r20 hfl h) rfl rfl (by decide) rfl ⟨_, rfl⟩ rfl ⟨Nat.le_of_ble_eq_true rfl, Nat.le_of_ble_eq_true rfl⟩ (Nat.le_of_ble_eq_true rfl) ⟨Nat.le_of_ble_eq_true rfl, Nat.le_of_ble_eq_true rfl, Nat.le_of_ble_eq_true rfl, Nat.le_of_ble_eq_true rfl⟩ (k_Wi fun r41 s41 h => ?_)
  refine z_pop C dX11_wall_44 rfl ?_
  refine z_aload_n C dX11_wall_45 (i := 0) rfl rfl ?_
  refine t_get C dX11_wall_46 fl_X11_10 (k := 10) (i := 0) (by decide) rfl (fg_10_0 _ _ _) ?_
  refine t_callV C (rest := []) (c2 := 11) (s2 := 1038) (kd := 30) (i := 0) [] dX11_wall_49 lk_X11_80 li_Jx4a65c_size_8abf5 le_Jx4a65c_size_8abf5 (c_Jx4a65c_size_8abf5_r30 hfl h) rfl rfl (by decide) rfl ⟨_, rfl⟩ rfl ⟨Nat.le_of_ble_eq_true rfl, Nat.le_of_ble_eq_true rfl⟩ (Nat.le_of_ble_eq_true rfl) ⟨Nat.le_of_ble_eq_true rfl, Nat.le_of_ble_eq_true rfl, Nat.le_of_ble_eq_true rfl, Nat.le_of_ble_eq_true rfl⟩ (k_Ri fun r49 h => ?_)
  refine z_iconst C dX11_wall_52 (v := 1) (by decide) ?_
  refine z_isub C dX11_wall_53 ?_
  exact zG.up (z_iret C dX11_wall_54 hr rfl ⟨_, _, rfl, rfl, h⟩ (Nat.le_of_ble_eq_true rfl) (Nat.le_of_ble_eq_true rfl))
def w_X11_rule (st : zTs) (a1 : Int32) (X : Nat → zTs → Prop) (P : Int32 → zTs → Prop) : Prop := w_X11_checkRange st a1 0 (zgF st 10 0 11) (fun k9 => X k9 st) ((∀ s11 : zTs, s11 = zuF st 10 0 11 0 → (w_X6_readRule s11 a1 (fun (r19 : Option Nat) (s19 : zTs) => ((r19 = none → w_X6_faultKind s19 (fun (r31 : Int32) => (P (r31 - 10) s19))) ∧ (∀ y24, r19 = some y24 → ∀ s40 : zTs, s40 = zuP s19 10 0 16 y24 → (P (zgF s40 24 y24 0) s40)))))))
set_option maxHeartbeats 4000000 in
set_option maxRecDepth 100000 in
theorem c_X11_rule {Z : zZ} {l : Launch} (hfl : l.stackTraces = false) {st : zTs} {a1 : Int32} {X : Nat → zTs → Prop} {P : Int32 → zTs → Prop} (h : w_X11_rule st a1 X P) : zM Z l yX11_rule cX11_rule 3 (some .int) ({ frames := 44, cells := 30, slots := 8828, locals := 1001 } : Room) (zh Z zm1 st) [.ref 10, .int (a1)] (zWi Z P) (zXs Z X) := by
  unfold w_X11_rule at h
  refine z_enterM (by decide) (Nat.le_of_ble_eq_true rfl) (lc0 := [some (.ref 10), some (.int (a1)), none]) rfl ?_
  intro p e s m args below meth c ad0 C hr hex
  replace C : zC Z p s m args meth c cX11_rule 3 RX11 := C
  refine z_iload_n C dX11_rule_0 (i := 1) rfl rfl ?_
  refine z_iconst C dX11_rule_1 (v := 0) (by decide) ?_
  refine z_aload_n C dX11_rule_2 (i := 0) rfl rfl ?_
  refine t_get C dX11_rule_3 fl_X11_122 (k := 10) (i := 0) (by decide) rfl (fg_10_11 _ _ _) ?_
  refine t_callSM C hex (rest := []) (c2 := 1) (s2 := 6) [.int (a1), .int (0), .int (zgF st 10 0 11)] dX11_rule_6 lk_X11_107 ls_X11_checkRange (c_X11_checkRange hfl h) rfl rfl ⟨Nat.le_of_ble_eq_true rfl, Nat.le_of_ble_eq_true rfl⟩ (Nat.le_of_ble_eq_true rfl) ⟨Nat.le_of_ble_eq_true rfl, Nat.le_of_ble_eq_true rfl, Nat.le_of_ble_eq_true rfl, Nat.le_of_ble_eq_true rfl⟩ (fun _ _ q => ⟨_, q.1, q.2⟩) ⟨Nat.le_of_ble_eq_true rfl, Nat.le_of_ble_eq_true rfl⟩ (k_Rv fun h => ?_)
  refine z_aload_n C dX11_rule_9 (i := 0) rfl rfl ?_
  refine z_iconst C dX11_rule_10 (v := 0) (by decide) ?_
  refine t_put C dX11_rule_11 fq_X11_122 (Or.inl rfl) (k := 10) (i := 0) (by decide) rfl ⟨rfl, rfl⟩ (fp_10_11 _ _ _ _ _) ?_
  refine t_tops (fun s11 es11 => ?_)
  have h := h s11 es11
  refine z_aload_n C dX11_rule_14 (i := 0) rfl rfl ?_
  refine t_get C dX11_rule_15 fl_X11_58 (k := 10) (i := 0) (by decide) rfl (fg_10_10 _ _ _) ?_
  refine z_iload_n C dX11_rule_18 (i := 1) rfl rfl ?_
  refine t_callV C (rest := []) (c2 := 30) (s2 := 8828) (kd := 13) (i := 0) [.int (a1)] dX11_rule_19 lk_X11_128 li_X6_readRule le_X6_readRule (c_X6_readRule hfl h) rfl rfl (by decide) rfl ⟨_, rfl⟩ rfl ⟨Nat.le_of_ble_eq_true rfl, Nat.le_of_ble_eq_true rfl⟩ (Nat.le_of_ble_eq_true rfl) ⟨Nat.le_of_ble_eq_true rfl, Nat.le_of_ble_eq_true rfl, Nat.le_of_ble_eq_true rfl, Nat.le_of_ble_eq_true rfl⟩ (k_Wo fun r19 s19 h => ?_)
  refine z_astore_nq C dX11_rule_22 (i := 2) (lc' := [some (.ref 10), some (.int (a1)), some (va_rf ((r19).map fun y => 24 + 256 * y))]) rfl (by decide) (by cases r19 <;> rfl) ?_
  refine z_aload_nq C dX11_rule_23 (i := 2) rfl rfl ?_
  refine z_ifnonnull C dX11_rule_24 (tgt := 38) (by decide) (fun c24 => ?_) (fun y24 c24 => ?_)
  · have z24 := h.1 c24
    subst c24
    have h := z24
    refine t_same (lc' := [some (.ref 10), some (.int (a1)), some (.null)]) (stk' := []) rfl rfl ?_
    refine z_aload_n C dX11_rule_27 (i := 0) rfl rfl ?_
    refine t_get C dX11_rule_28 fl_X11_58 (k := 10) (i := 0) (by decide) rfl (fg_10_10 _ _ _) ?_
    refine t_callV C (rest := []) (c2 := 30) (s2 := 8828) (kd := 13) (i := 0) [] dX11_rule_31 lk_X11_132 li_X6_faultKind le_X6_faultKind (c_X6_faultKind hfl h) rfl rfl (by decide) rfl ⟨_, rfl⟩ rfl ⟨Nat.le_of_ble_eq_true rfl, Nat.le_of_ble_eq_true rfl⟩ (Nat.le_of_ble_eq_true rfl) ⟨Nat.le_of_ble_eq_true rfl, Nat.le_of_ble_eq_true rfl, Nat.le_of_ble_eq_true rfl, Nat.le_of_ble_eq_true rfl⟩ (k_Ri fun r31 h => ?_)
    refine z_bipush C dX11_rule_34 (v := 10) (by decide) ?_
    refine z_isub C dX11_rule_36 ?_
    exact zG.up (z_iret C dX11_rule_37 hr rfl ⟨_, _, rfl, rfl, h⟩ (Nat.le_of_ble_eq_true rfl) (Nat.le_of_ble_eq_true rfl))
  · have z24 := h.2 y24 c24
    subst c24
    have h := z24
    refine t_same (lc' := [some (.ref 10), some (.int (a1)), some (.ref (24 + 256 * y24))]) (stk' := []) rfl rfl ?_
    refine z_aload_n C dX11_rule_38 (i := 0) rfl rfl ?_
    refine z_aload_n C dX11_rule_39 (i := 2) rfl rfl ?_
    refine t_put C dX11_rule_40 fq_X11_65 (Or.inl rfl) (k := 10) (i := 0) (by decide) rfl ⟨rfl, rfl⟩ (fp_10_16 _ _ _ _) ?_
    refine t_tops (fun s40 es40 => ?_)
    have h := h s40 es40
    refine z_aload_n C dX11_rule_43 (i := 2) rfl rfl ?_
    refine t_get C dX11_rule_44 fl_X11_135 (k := 24) (i := y24) (by decide) rfl (fg_24_0 _ _ _) ?_
    exact zG.up (z_iret C dX11_rule_47 hr rfl ⟨_, _, rfl, rfl, h⟩ (Nat.le_of_ble_eq_true rfl) (Nat.le_of_ble_eq_true rfl))
def w_J7_copyOf_6403c_v35ic207_24 (P : Nat → zTs → Prop)  (st : zTs) (a0 : Nat) (a1 : Int32) (b0 : Nat) : Prop := (a0 = 204 ∨ a0 % 256 = 35) ∧ ∀ x30 : Int32, x30 = (if a0 = 204 then 0 else Int32.ofNat (zgP st 35 (a0 / 256) 0)) → (w_J9_min_7cf53 st x30 a1 (fun (r32 : Int32) => ((a0 % 256 = 35 ∧ b0 % 256 = 35 ∧ (¬ a0 / 256 = b0 / 256) ∧ ¬ r32 < 0 ∧ (r32 : Int32).toNatClampNeg ≤ zgP st 35 (a0 / 256) 0 ∧ (r32 : Int32).toNatClampNeg ≤ zgP st 35 (b0 / 256) 0 ∧ zgL st 35 (a0 / 256) ≤ (r32 : Int32).toNatClampNeg ∧ zgL st 35 (b0 / 256) = 0 ∧ zgL st 35 (a0 / 256) ≤ zgN st 21) ∧ (∀ s35 : zTs, s35 = zuL st 35 (b0 / 256) (zgL st 35 (a0 / 256)) → (P b0 s35)))))
set_option maxHeartbeats 4000000 in
set_option maxRecDepth 100000 in
theorem j_J7_copyOf_6403c_v35ic207_24 {P : Nat → zTs → Prop}  (hfl : l.stackTraces = false) (C : zC Z p s m args meth c cJ7_copyOf_6403c 4 RJ7) (hr : meth.sig.returnType = (some (.array (.object "java/lang/Object")))) (hn9 : True)  (st : zTs) (a0 : Nat) (a1 : Int32) (b0 : Nat) (h : w_J7_copyOf_6403c_v35ic207_24 P st a0 a1 b0) : zG Z ad0 h0 p l e ({ frames := 2, cells := 1, slots := 40, locals := 33 } : Room) s m args below meth c (MQ below (zQ Z ad0 h0 (zWV Z P)) args s 1 40 (zA Z)) 1 40 (zh Z zm1 st) 4 24 [some (.ref (a0)), some (.int (a1)), none, none] [.ref (b0)] := by
  unfold w_J7_copyOf_6403c_v35ic207_24 at h
  refine z_astore_n C dJ7_copyOf_6403c_24 (i := 3) (lc' := [some (.ref (a0)), some (.int (a1)), none, some (.ref (b0))]) rfl (by decide) rfl ?_
  refine z_aload_n C dJ7_copyOf_6403c_25 (i := 0) rfl rfl ?_
  refine z_iconst C dJ7_copyOf_6403c_26 (v := 0) (by decide) ?_
  refine z_aload_n C dJ7_copyOf_6403c_27 (i := 3) rfl rfl ?_
  refine z_iconst C dJ7_copyOf_6403c_28 (v := 0) (by decide) ?_
  refine z_aload_n C dJ7_copyOf_6403c_29 (i := 0) rfl rfl ?_
  obtain ⟨g30, h⟩ := h
  refine t_lenV C dJ7_copyOf_6403c_30 (by decide) (fun _ => sh_35) g30 (fun x30 ex30 => ?_)
  have h := h x30 ex30
  refine z_iload_n C dJ7_copyOf_6403c_31 (i := 1) rfl rfl ?_
  refine t_callS C (rest := [.int (0), .ref (b0), .int (0), .ref (a0)]) (c2 := 1) (s2 := 40) [.int (x30), .int (a1)] dJ7_copyOf_6403c_32 lk_J7_304 ls_J9_min_7cf53 (c_J9_min_7cf53 hfl h) rfl rfl ⟨Nat.le_of_ble_eq_true rfl, Nat.le_of_ble_eq_true rfl⟩ (Nat.le_of_ble_eq_true rfl) ⟨Nat.le_of_ble_eq_true rfl, Nat.le_of_ble_eq_true rfl, Nat.le_of_ble_eq_true rfl, Nat.le_of_ble_eq_true rfl⟩ (k_Ri fun r32 h => ?_)
  obtain ⟨⟨q1, q2, q3, q4, q5, q6, q7, q8, q9⟩, h⟩ := h
  refine t_cpQ C dJ7_copyOf_6403c_35 lcp_J7_150 (k0 := 35) (el := 21) (by decide) (by decide) q1 q2 q3 (fun _ _ => sh_35) rfl rfl (fun _ => ⟨_, rfl⟩) rfl (by decide) (fun y hy => by omega) q4 q5 q6 q7 q8 ⟨Nat.le_of_ble_eq_true rfl, Nat.le_of_ble_eq_true rfl⟩ ?_
  refine t_tops (fun s35 es35 => ?_)
  have h := h s35 es35
  refine z_aload_n C dJ7_copyOf_6403c_38 (i := 3) rfl rfl ?_
  exact z_aret C dJ7_copyOf_6403c_39 hr (Or.inr ⟨_, rfl⟩) (Or.inr ⟨_, rfl⟩) ⟨_, _, rfl, rfl, h⟩ (Nat.le_of_ble_eq_true rfl) (Nat.le_of_ble_eq_true rfl)
def w_J7_copyOf_6403c_v35ic207 (st : zTs) (a0 : Nat) (a1 : Int32) (P : Nat → zTs → Prop) : Prop := (¬ a1 < 0 ∧ (a1 : Int32).toNatClampNeg ≤ 40) ∧ ∀ n7 : Nat, n7 = zgN st 35 → (∀ s7 : zTs, s7 = zuX st 35 (a1 : Int32).toNatClampNeg → (w_J7_copyOf_6403c_v35ic207_24 P s7 a0 a1 (35 + 256 * n7)))
set_option maxHeartbeats 4000000 in
set_option maxRecDepth 100000 in
theorem c_J7_copyOf_6403c_v35ic207 {Z : zZ} {l : Launch} (hfl : l.stackTraces = false) {st : zTs} {a0 : Nat} {a1 : Int32} {P : Nat → zTs → Prop} (h : w_J7_copyOf_6403c_v35ic207 st a0 a1 P) : zN Z l yJ7_copyOf_6403c cJ7_copyOf_6403c 4 (some (.array (.object "java/lang/Object"))) ({ frames := 2, cells := 1, slots := 40, locals := 33 } : Room) (zh Z zm1 st) [.ref (a0), .int (a1), .ref 207] (zWV Z P) := by
  unfold w_J7_copyOf_6403c_v35ic207 at h
  refine z_enterF (by decide +kernel) (Nat.le_of_ble_eq_true rfl) (lc0 := [some (.ref (a0)), some (.int (a1)), some (.ref 207), none]) rfl ?_
  intro p e s m args below meth c ad0 C hr _
  have hn9 : True := trivial
  replace C : zC Z p s m args meth c cJ7_copyOf_6403c 4 RJ7 := C
  refine z_aload_n C dJ7_copyOf_6403c_0 (i := 2) rfl rfl ?_
  refine z_ldcM C dJ7_copyOf_6403c_1 kl_J7_110 ?_
  refine z_acmpR_ne C dJ7_copyOf_6403c_3 (tgt := 13) (by decide) ?_
  refine z_iload_n C dJ7_copyOf_6403c_6 (i := 1) rfl rfl ?_
  obtain ⟨⟨g7a, g7b⟩, h⟩ := h
  obtain ⟨n7, g7⟩ : ∃ z : Nat, z = zgN st 35 := ⟨_, rfl⟩
  have h := h n7 g7
  refine t_newq C dJ7_copyOf_6403c_7 kl_J7_2 (zC_AO1 C) (t := 4) (k := 35) rfl g7a rfl (by omega) (by decide) zN_X zo_X nw_35 (c2 := 1) (s2 := 40) ⟨Nat.le_of_ble_eq_true rfl, by omega, Nat.le_of_ble_eq_true rfl, Nat.le_of_ble_eq_true rfl⟩ ?_
  rw [← g7]
  refine t_tops (fun s7 es7 => ?_)
  have h := h s7 es7
  refine z_goto C dJ7_copyOf_6403c_10 (tgt := 24) (by decide) ?_
  exact t_drop [true, true, false, false] rfl (j_J7_copyOf_6403c_v35ic207_24 hfl C hr hn9  s7 a0 a1 (35 + 256 * n7) h)
def w_J7_copyOf_1904c_v35i (st : zTs) (a0 : Nat) (a1 : Int32) (P : Nat → zTs → Prop) : Prop := (a0 % 256 = 35) ∧ (w_J7_copyOf_6403c_v35ic207 st a0 a1 (fun (r6 : Nat) (s6 : zTs) => (P r6 s6)))
set_option maxHeartbeats 4000000 in
set_option maxRecDepth 100000 in
theorem c_J7_copyOf_1904c_v35i {Z : zZ} {l : Launch} (hfl : l.stackTraces = false) {st : zTs} {a0 : Nat} {a1 : Int32} {P : Nat → zTs → Prop} (h : w_J7_copyOf_1904c_v35i st a0 a1 P) : zN Z l yJ7_copyOf_1904c cJ7_copyOf_1904c 2 (some (.array (.object "java/lang/Object"))) ({ frames := 3, cells := 1, slots := 40, locals := 56 } : Room) (zh Z zm1 st) [.ref (a0), .int (a1)] (zWV Z P) := by
  unfold w_J7_copyOf_1904c_v35i at h
  refine z_enterF (by decide +kernel) (Nat.le_of_ble_eq_true rfl) (lc0 := [some (.ref (a0)), some (.int (a1))]) rfl ?_
  intro p e s m args below meth c ad0 C hr _
  have hn9 : True := trivial
  replace C : zC Z p s m args meth c cJ7_copyOf_1904c 2 RJ7 := C
  refine z_aload_n C dJ7_copyOf_1904c_0 (i := 0) rfl rfl ?_
  refine z_iload_n C dJ7_copyOf_1904c_1 (i := 1) rfl rfl ?_
  refine z_aload_n C dJ7_copyOf_1904c_2 (i := 0) rfl rfl ?_
  obtain ⟨g3, h⟩ := h
  refine t_getC C dJ7_copyOf_1904c_3 lgc_1 lgc_2 lgc_3 lgc_4 (by decide) g3 sh_35 ⟨Nat.le_of_ble_eq_true rfl, Nat.le_of_ble_eq_true rfl⟩ ?_
  refine t_callS C (rest := []) (c2 := 1) (s2 := 40) [.ref (a0), .int (a1), .ref 207] dJ7_copyOf_1904c_6 lk_J7_300 ls_J7_copyOf_6403c (c_J7_copyOf_6403c_v35ic207 hfl h) rfl rfl ⟨Nat.le_of_ble_eq_true rfl, Nat.le_of_ble_eq_true rfl⟩ (Nat.le_of_ble_eq_true rfl) ⟨Nat.le_of_ble_eq_true rfl, Nat.le_of_ble_eq_true rfl, Nat.le_of_ble_eq_true rfl, Nat.le_of_ble_eq_true rfl⟩ (k_WV fun r6 s6 h => ?_)
  exact z_aret C dJ7_copyOf_1904c_9 hr (Or.inr ⟨_, rfl⟩) (Or.inr ⟨_, rfl⟩) ⟨_, _, rfl, rfl, h⟩ (Nat.le_of_ble_eq_true rfl) (Nat.le_of_ble_eq_true rfl)
def w_Jx4a65c_grow_92f84_r31i_20 (P : Nat → zTs → Prop)  (st : zTs) (a1 : Int32) (a2 : Int32) : Prop := w_J8_newLength_cabcc_iii st a2 (a1 - a2) (a2 >>> (1 &&& 31)) (fun (r27 : Int32) (s27 : zTs) => (w_J7_copyOf_1904c_v35i s27 (zgP s27 31 0 1) r27 (fun (r37 : Nat) (s37 : zTs) => (∀ s41 : zTs, s41 = zuP s37 31 0 1 r37 → (P r37 s41)))))
set_option maxHeartbeats 4000000 in
set_option maxRecDepth 100000 in
theorem j_Jx4a65c_grow_92f84_r31i_20 {P : Nat → zTs → Prop}  (hfl : l.stackTraces = false) (C : zC Z p s m args meth c cJx4a65c_grow_92f84 4 RJx4a65c) (hr : meth.sig.returnType = (some (.array (.object "java/lang/Object")))) (hn9 : True)  (st : zTs) (a1 : Int32) (a2 : Int32) (h : w_Jx4a65c_grow_92f84_r31i_20 P st a1 a2) : zG Z ad0 h0 p l e ({ frames := 4, cells := 1, slots := 40, locals := 77 } : Room) s m args below meth c (MQ below (zQ Z ad0 h0 (zWV Z P)) args s 1 40 (zA Z)) 0 0 (zh Z zm1 st) 4 20 [some (.ref 31), some (.int (a1)), some (.int (a2)), none] [] := by
  unfold w_Jx4a65c_grow_92f84_r31i_20 at h
  refine z_iload_n C dJx4a65c_grow_92f84_20 (i := 2) rfl rfl ?_
  refine z_iload_n C dJx4a65c_grow_92f84_21 (i := 1) rfl rfl ?_
  refine z_iload_n C dJx4a65c_grow_92f84_22 (i := 2) rfl rfl ?_
  refine z_isub C dJx4a65c_grow_92f84_23 ?_
  refine z_iload_n C dJx4a65c_grow_92f84_24 (i := 2) rfl rfl ?_
  refine z_iconst C dJx4a65c_grow_92f84_25 (v := 1) (by decide) ?_
  refine z_ishr C dJx4a65c_grow_92f84_26 ?_
  refine t_callS C (rest := []) (c2 := 0) (s2 := 0) [.int (a2), .int (a1 - a2), .int (a2 >>> (1 &&& 31))] dJx4a65c_grow_92f84_27 lk_Jx4a65c_73 ls_J8_newLength_cabcc (c_J8_newLength_cabcc_iii hfl h) rfl rfl ⟨Nat.le_of_ble_eq_true rfl, Nat.le_of_ble_eq_true rfl⟩ (Nat.le_of_ble_eq_true rfl) ⟨Nat.le_of_ble_eq_true rfl, Nat.le_of_ble_eq_true rfl, Nat.le_of_ble_eq_true rfl, Nat.le_of_ble_eq_true rfl⟩ (k_Wi fun r27 s27 h => ?_)
  refine z_istore_n C dJx4a65c_grow_92f84_30 (i := 3) (lc' := [some (.ref 31), some (.int (a1)), some (.int (a2)), some (.int (r27))]) rfl (by decide) rfl ?_
  refine z_aload_n C dJx4a65c_grow_92f84_31 (i := 0) rfl rfl ?_
  refine z_aload_n C dJx4a65c_grow_92f84_32 (i := 0) rfl rfl ?_
  refine t_get C dJx4a65c_grow_92f84_33 fl_Jx4a65c_9 (k := 31) (i := 0) (by decide) rfl (fg_31_1 _ _ _) ?_
  refine z_iload_n C dJx4a65c_grow_92f84_36 (i := 3) rfl rfl ?_
  refine t_callS C (rest := [.ref 31]) (c2 := 1) (s2 := 40) [.ref (zgP s27 31 0 1), .int (r27)] dJx4a65c_grow_92f84_37 lk_Jx4a65c_66 ls_J7_copyOf_1904c (c_J7_copyOf_1904c_v35i hfl h) rfl rfl ⟨Nat.le_of_ble_eq_true rfl, Nat.le_of_ble_eq_true rfl⟩ (Nat.le_of_ble_eq_true rfl) ⟨Nat.le_of_ble_eq_true rfl, Nat.le_of_ble_eq_true rfl, Nat.le_of_ble_eq_true rfl, Nat.le_of_ble_eq_true rfl⟩ (k_WV fun r37 s37 h => ?_)
  refine z_dup_x1 C dJx4a65c_grow_92f84_40 rfl rfl ?_
  refine t_put C dJx4a65c_grow_92f84_41 fq_Jx4a65c_9 (Or.inl rfl) (k := 31) (i := 0) (by decide) rfl ⟨rfl, rfl⟩ (fp_31_1 _ _ _ _) ?_
  refine t_tops (fun s41 es41 => ?_)
  have h := h s41 es41
  exact z_aret C dJx4a65c_grow_92f84_44 hr (Or.inr ⟨_, rfl⟩) (Or.inr ⟨_, rfl⟩) ⟨_, _, rfl, rfl, h⟩ (Nat.le_of_ble_eq_true rfl) (Nat.le_of_ble_eq_true rfl)
def w_Jx4a65c_grow_92f84_r31i (st : zTs) (a1 : Int32) (P : Nat → zTs → Prop) : Prop := ((zgP st 31 0 1) = 204 ∨ (zgP st 31 0 1) % 256 = 35) ∧ ∀ x4 : Int32, x4 = (if (zgP st 31 0 1) = 204 then 0 else Int32.ofNat (zgP st 35 ((zgP st 31 0 1) / 256) 0)) → ((0 < x4 → w_Jx4a65c_grow_92f84_r31i_20 P st a1 x4) ∧ (¬ 0 < x4 → (zgP st 31 0 1 = 204) ∧ (w_J9_max_7cf53 st 10 a1 (fun (r49 : Int32) => ((¬ r49 < 0 ∧ (r49 : Int32).toNatClampNeg ≤ 40) ∧ ∀ n52 : Nat, n52 = zgN st 35 → (∀ s52 : zTs, s52 = zuX st 35 (r49 : Int32).toNatClampNeg → (∀ s56 : zTs, s56 = zuP s52 31 0 1 (35 + 256 * n52) → (P (35 + 256 * n52) s56))))))))
set_option maxHeartbeats 4000000 in
set_option maxRecDepth 100000 in
theorem c_Jx4a65c_grow_92f84_r31i {Z : zZ} {l : Launch} (hfl : l.stackTraces = false) {st : zTs} {a1 : Int32} {P : Nat → zTs → Prop} (h : w_Jx4a65c_grow_92f84_r31i st a1 P) : zN Z l yJx4a65c_grow_92f84 cJx4a65c_grow_92f84 4 (some (.array (.object "java/lang/Object"))) ({ frames := 4, cells := 1, slots := 40, locals := 77 } : Room) (zh Z zm1 st) [.ref 31, .int (a1)] (zWV Z P) := by
  unfold w_Jx4a65c_grow_92f84_r31i at h
  refine z_enterF (by decide +kernel) (Nat.le_of_ble_eq_true rfl) (lc0 := [some (.ref 31), some (.int (a1)), none, none]) rfl ?_
  intro p e s m args below meth c ad0 C hr _
  have hn9 : True := trivial
  replace C : zC Z p s m args meth c cJx4a65c_grow_92f84 4 RJx4a65c := C
  refine z_aload_n C dJx4a65c_grow_92f84_0 (i := 0) rfl rfl ?_
  refine t_get C dJx4a65c_grow_92f84_1 fl_Jx4a65c_9 (k := 31) (i := 0) (by decide) rfl (fg_31_1 _ _ _) ?_
  obtain ⟨g4, h⟩ := h
  refine t_lenV C dJx4a65c_grow_92f84_4 (by decide) (fun _ => sh_35) g4 (fun x4 ex4 => ?_)
  have h := h x4 ex4
  refine z_istore_n C dJx4a65c_grow_92f84_5 (i := 2) (lc' := [some (.ref 31), some (.int (a1)), some (.int (x4)), none]) rfl (by decide) rfl ?_
  refine z_iload_n C dJx4a65c_grow_92f84_6 (i := 2) rfl rfl ?_
  refine z_if_gt C dJx4a65c_grow_92f84_7 (tgt := 20) (by decide) (fun c7 => ?_) (fun c7 => ?_)
  · have h := h.1 c7
    exact t_drop [true, true, true, false] rfl (j_Jx4a65c_grow_92f84_r31i_20 hfl C hr hn9  st a1 x4 h)
  · have h := h.2 c7
    refine z_aload_n C dJx4a65c_grow_92f84_10 (i := 0) rfl rfl ?_
    refine t_get C dJx4a65c_grow_92f84_11 fl_Jx4a65c_9 (k := 31) (i := 0) (by decide) rfl (fg_31_1 _ _ _) ?_
    refine z_gets C dJx4a65c_grow_92f84_14 (q := 204) (by decide) gl_Jx4a65c_39 (fun z => z.2.2.2.2.2.2.1.1) ?_
    obtain ⟨g17, h⟩ := h
    rw [g17]
    refine z_acmpR_eq C dJx4a65c_grow_92f84_17 (tgt := 45) (by decide) ?_
    refine z_aload_n C dJx4a65c_grow_92f84_45 (i := 0) rfl rfl ?_
    refine z_bipush C dJx4a65c_grow_92f84_46 (v := 10) (by decide) ?_
    refine z_iload_n C dJx4a65c_grow_92f84_48 (i := 1) rfl rfl ?_
    refine t_callS C (rest := [.ref 31]) (c2 := 0) (s2 := 0) [.int (10), .int (a1)] dJx4a65c_grow_92f84_49 lk_Jx4a65c_79 ls_J9_max_7cf53 (c_J9_max_7cf53 hfl h) rfl rfl ⟨Nat.le_of_ble_eq_true rfl, Nat.le_of_ble_eq_true rfl⟩ (Nat.le_of_ble_eq_true rfl) ⟨Nat.le_of_ble_eq_true rfl, Nat.le_of_ble_eq_true rfl, Nat.le_of_ble_eq_true rfl, Nat.le_of_ble_eq_true rfl⟩ (k_Ri fun r49 h => ?_)
    obtain ⟨⟨g52a, g52b⟩, h⟩ := h
    obtain ⟨n52, g52⟩ : ∃ z : Nat, z = zgN st 35 := ⟨_, rfl⟩
    have h := h n52 g52
    refine t_newq C dJx4a65c_grow_92f84_52 kl_Jx4a65c_7 (zC_AO1 C) (t := 4) (k := 35) rfl g52a rfl (by omega) (by decide) zN_X zo_X nw_35 (c2 := 1) (s2 := 40) ⟨Nat.le_of_ble_eq_true rfl, by omega, Nat.le_of_ble_eq_true rfl, Nat.le_of_ble_eq_true rfl⟩ ?_
    rw [← g52]
    refine t_tops (fun s52 es52 => ?_)
    have h := h s52 es52
    refine z_dup_x1 C dJx4a65c_grow_92f84_55 rfl rfl ?_
    refine t_put C dJx4a65c_grow_92f84_56 fq_Jx4a65c_9 (Or.inl rfl) (k := 31) (i := 0) (by decide) rfl ⟨rfl, rfl⟩ (fp_31_1 _ _ _ _) ?_
    refine t_tops (fun s56 es56 => ?_)
    have h := h s56 es56
    exact z_aret C dJx4a65c_grow_92f84_59 hr (Or.inr ⟨_, rfl⟩) (Or.inr ⟨_, rfl⟩) ⟨_, _, rfl, rfl, h⟩ (Nat.le_of_ble_eq_true rfl) (Nat.le_of_ble_eq_true rfl)
def w_Jx4a65c_grow_d5877_r31 (st : zTs)  (P : Nat → zTs → Prop) : Prop := w_Jx4a65c_grow_92f84_r31i st ((zgF st 31 0 2) + 1) (fun (r7 : Nat) (s7 : zTs) => (P r7 s7))
set_option maxHeartbeats 4000000 in
set_option maxRecDepth 100000 in
theorem c_Jx4a65c_grow_d5877_r31 {Z : zZ} {l : Launch} (hfl : l.stackTraces = false) {st : zTs}  {P : Nat → zTs → Prop} (h : w_Jx4a65c_grow_d5877_r31 st  P) : zN Z l yJx4a65c_grow_d5877 cJx4a65c_grow_d5877 1 (some (.array (.object "java/lang/Object"))) ({ frames := 5, cells := 1, slots := 40, locals := 100 } : Room) (zh Z zm1 st) [.ref 31] (zWV Z P) := by
  unfold w_Jx4a65c_grow_d5877_r31 at h
  refine z_enterF (by decide +kernel) (Nat.le_of_ble_eq_true rfl) (lc0 := [some (.ref 31)]) rfl ?_
  intro p e s m args below meth c ad0 C hr _
  have hn9 : True := trivial
  replace C : zC Z p s m args meth c cJx4a65c_grow_d5877 1 RJx4a65c := C
  refine z_aload_n C dJx4a65c_grow_d5877_0 (i := 0) rfl rfl ?_
  refine z_aload_n C dJx4a65c_grow_d5877_1 (i := 0) rfl rfl ?_
  refine t_get C dJx4a65c_grow_d5877_2 fl_Jx4a65c_48 (k := 31) (i := 0) (by decide) rfl (fg_31_2 _ _ _) ?_
  refine z_iconst C dJx4a65c_grow_d5877_5 (v := 1) (by decide) ?_
  refine z_iadd C dJx4a65c_grow_d5877_6 ?_
  refine t_callV C (rest := []) (c2 := 1) (s2 := 40) (kd := 31) (i := 0) [.int ((zgF st 31 0 2) + 1)] dJx4a65c_grow_d5877_7 lk_Jx4a65c_69 li_Jx4a65c_grow_92f84 le_Jx4a65c_grow_92f84 (c_Jx4a65c_grow_92f84_r31i hfl h) rfl rfl (by decide) rfl ⟨_, rfl⟩ rfl ⟨Nat.le_of_ble_eq_true rfl, Nat.le_of_ble_eq_true rfl⟩ (Nat.le_of_ble_eq_true rfl) ⟨Nat.le_of_ble_eq_true rfl, Nat.le_of_ble_eq_true rfl, Nat.le_of_ble_eq_true rfl, Nat.le_of_ble_eq_true rfl⟩ (k_WV fun r7 s7 h => ?_)
  exact z_aret C dJx4a65c_grow_d5877_10 hr (Or.inr ⟨_, rfl⟩) (Or.inr ⟨_, rfl⟩) ⟨_, _, rfl, rfl, h⟩ (Nat.le_of_ble_eq_true rfl) (Nat.le_of_ble_eq_true rfl)
def w_Jx4a65c_add_72be8_r31r21v35i_11 (P : zTs → Prop)  (st : zTs) (a1 : Nat) (a2 : Nat) (a3 : Int32) : Prop := (a2 % 256 = 35 ∧ vp_in a3 (zgP st 35 (a2 / 256) 0) ∧ (a3 : Int32).toNatClampNeg = zgL st 35 (a2 / 256) ∧ a1 = zgL st 35 (a2 / 256)) ∧ (∀ s14 : zTs, s14 = zuL st 35 (a2 / 256) (zgL st 35 (a2 / 256) + 1) → (∀ s19 : zTs, s19 = zuF s14 31 0 2 (a3 + 1) → (P s19)))
set_option maxHeartbeats 4000000 in
set_option maxRecDepth 100000 in
theorem j_Jx4a65c_add_72be8_r31r21v35i_11 {P : zTs → Prop}  (hfl : l.stackTraces = false) (C : zC Z p s m args meth c cJx4a65c_add_72be8 4 RJx4a65c) (hr : meth.sig.returnType = none) (hn9 : True)  (st : zTs) (a1 : Nat) (a2 : Nat) (a3 : Int32) (h : w_Jx4a65c_add_72be8_r31r21v35i_11 P st a1 a2 a3) : zG Z ad0 h0 p l e ({ frames := 6, cells := 1, slots := 40, locals := 120 } : Room) s m args below meth c (MQ below (zQ Z ad0 h0 (zWv Z zm1 P)) args s 1 40 (zA Z)) 1 40 (zh Z zm1 st) 4 11 [some (.ref 31), some (.ref (21 + 256 * a1)), some (.ref (a2)), some (.int (a3))] [] := by
  unfold w_Jx4a65c_add_72be8_r31r21v35i_11 at h
  refine z_aload_n C dJx4a65c_add_72be8_11 (i := 2) rfl rfl ?_
  refine z_iload_n C dJx4a65c_add_72be8_12 (i := 3) rfl rfl ?_
  refine z_aload_n C dJx4a65c_add_72be8_13 (i := 1) rfl rfl ?_
  obtain ⟨⟨g14, g14b, g14c, g14d⟩, h⟩ := h
  refine t_astdO C dJx4a65c_add_72be8_14 (k0 := 35) (el := 21) (by decide) (by decide) g14 (fun s9 e9 => by rw [sh_35, e9]) rfl ⟨_, rfl⟩ rfl (by decide) g14b g14c g14d ?_
  refine t_tops (fun s14 es14 => ?_)
  have h := h s14 es14
  refine z_aload_n C dJx4a65c_add_72be8_15 (i := 0) rfl rfl ?_
  refine z_iload_n C dJx4a65c_add_72be8_16 (i := 3) rfl rfl ?_
  refine z_iconst C dJx4a65c_add_72be8_17 (v := 1) (by decide) ?_
  refine z_iadd C dJx4a65c_add_72be8_18 ?_
  refine t_put C dJx4a65c_add_72be8_19 fq_Jx4a65c_48 (Or.inl rfl) (k := 31) (i := 0) (by decide) rfl ⟨rfl, rfl⟩ (fp_31_2 _ _ _ _ _) ?_
  refine t_tops (fun s19 es19 => ?_)
  have h := h s19 es19
  exact z_vret C dJx4a65c_add_72be8_22 hr ⟨_, rfl, rfl, h⟩ (Nat.le_of_ble_eq_true rfl) (Nat.le_of_ble_eq_true rfl)
def w_Jx4a65c_add_72be8_r31r21v35i (st : zTs) (a1 : Nat) (a2 : Nat) (a3 : Int32) (P : zTs → Prop) : Prop := (a2 = 204 ∨ a2 % 256 = 35) ∧ ∀ x2 : Int32, x2 = (if a2 = 204 then 0 else Int32.ofNat (zgP st 35 (a2 / 256) 0)) → ((a3 = x2 → w_Jx4a65c_grow_d5877_r31 st (fun (r7 : Nat) (s7 : zTs) => (w_Jx4a65c_add_72be8_r31r21v35i_11 P s7 a1 r7 a3))) ∧ (¬ a3 = x2 → w_Jx4a65c_add_72be8_r31r21v35i_11 P st a1 a2 a3))
set_option maxHeartbeats 4000000 in
set_option maxRecDepth 100000 in
theorem c_Jx4a65c_add_72be8_r31r21v35i {Z : zZ} {l : Launch} (hfl : l.stackTraces = false) {st : zTs} {a1 : Nat} {a2 : Nat} {a3 : Int32} {P : zTs → Prop} (h : w_Jx4a65c_add_72be8_r31r21v35i st a1 a2 a3 P) : zN Z l yJx4a65c_add_72be8 cJx4a65c_add_72be8 4 none ({ frames := 6, cells := 1, slots := 40, locals := 120 } : Room) (zh Z zm1 st) [.ref 31, .ref (21 + 256 * a1), .ref (a2), .int (a3)] (zWv Z zm1 P) := by
  unfold w_Jx4a65c_add_72be8_r31r21v35i at h
  refine z_enterF (by decide +kernel) (Nat.le_of_ble_eq_true rfl) (lc0 := [some (.ref 31), some (.ref (21 + 256 * a1)), some (.ref (a2)), some (.int (a3))]) rfl ?_
  intro p e s m args below meth c ad0 C hr _
  have hn9 : True := trivial
  replace C : zC Z p s m args meth c cJx4a65c_add_72be8 4 RJx4a65c := C
  refine z_iload_n C dJx4a65c_add_72be8_0 (i := 3) rfl rfl ?_
  refine z_aload_n C dJx4a65c_add_72be8_1 (i := 2) rfl rfl ?_
  obtain ⟨g2, h⟩ := h
  refine t_lenV C dJx4a65c_add_72be8_2 (by decide) (fun _ => sh_35) g2 (fun x2 ex2 => ?_)
  have h := h x2 ex2
  refine z_icmp_ne C dJx4a65c_add_72be8_3 (tgt := 11) (by decide) (fun c3 => ?_) (fun c3 => ?_)
  · have h := h.2 c3
    refine zG.wide (c2 := 1) (s2 := 40) (Nat.le_of_ble_eq_true rfl) (Nat.le_of_ble_eq_true rfl) ?_
    exact t_drop [true, true, true, true] rfl (j_Jx4a65c_add_72be8_r31r21v35i_11 hfl C hr hn9  st a1 a2 a3 h)
  · have h := h.1 c3
    refine z_aload_n C dJx4a65c_add_72be8_6 (i := 0) rfl rfl ?_
    refine t_callV C (rest := []) (c2 := 1) (s2 := 40) (kd := 31) (i := 0) [] dJx4a65c_add_72be8_7 lk_Jx4a65c_129 li_Jx4a65c_grow_d5877 le_Jx4a65c_grow_d5877 (c_Jx4a65c_grow_d5877_r31 hfl h) rfl rfl (by decide) rfl ⟨_, rfl⟩ rfl ⟨Nat.le_of_ble_eq_true rfl, Nat.le_of_ble_eq_true rfl⟩ (Nat.le_of_ble_eq_true rfl) ⟨Nat.le_of_ble_eq_true rfl, Nat.le_of_ble_eq_true rfl, Nat.le_of_ble_eq_true rfl, Nat.le_of_ble_eq_true rfl⟩ (k_WV fun r7 s7 h => ?_)
    refine z_astore_n C dJx4a65c_add_72be8_10 (i := 2) (lc' := [some (.ref 31), some (.ref (21 + 256 * a1)), some (.ref (r7)), some (.int (a3))]) rfl (by decide) rfl ?_
    exact t_drop [true, true, true, true] rfl (j_Jx4a65c_add_72be8_r31r21v35i_11 hfl C hr hn9  s7 a1 r7 a3 h)
def w_Jx4a65c_add_9ea2d_r31r21 (st : zTs) (a1 : Nat) (P : Int32 → zTs → Prop) : Prop := ∀ s7 : zTs, s7 = zuF st 31 0 0 ((zgF st 31 0 0) + 1) → (w_Jx4a65c_add_72be8_r31r21v35i s7 a1 (zgP s7 31 0 1) (zgF s7 31 0 2) (fun (s20 : zTs) => (P 1 s20)))
set_option maxHeartbeats 4000000 in
set_option maxRecDepth 100000 in
theorem c_Jx4a65c_add_9ea2d_r31r21 {Z : zZ} {l : Launch} (hfl : l.stackTraces = false) {st : zTs} {a1 : Nat} {P : Int32 → zTs → Prop} (h : w_Jx4a65c_add_9ea2d_r31r21 st a1 P) : zN Z l yJx4a65c_add_9ea2d cJx4a65c_add_9ea2d 2 (some .boolean) ({ frames := 7, cells := 1, slots := 40, locals := 143 } : Room) (zh Z zm1 st) [.ref 31, .ref (21 + 256 * a1)] (zWi Z P) := by
  unfold w_Jx4a65c_add_9ea2d_r31r21 at h
  refine z_enterF (by decide +kernel) (Nat.le_of_ble_eq_true rfl) (lc0 := [some (.ref 31), some (.ref (21 + 256 * a1))]) rfl ?_
  intro p e s m args below meth c ad0 C hr _
  have hn9 : True := trivial
  replace C : zC Z p s m args meth c cJx4a65c_add_9ea2d 2 RJx4a65c := C
  refine z_aload_n C dJx4a65c_add_9ea2d_0 (i := 0) rfl rfl ?_
  refine z_dup C dJx4a65c_add_9ea2d_1 rfl ?_
  refine t_getS C dJx4a65c_add_9ea2d_2 fz_Jx4a65c_63 (k := 31) (i := 0) (by decide) rfl (fg_31_0 _ _ _) ?_
  refine z_iconst C dJx4a65c_add_9ea2d_5 (v := 1) (by decide) ?_
  refine z_iadd C dJx4a65c_add_9ea2d_6 ?_
  refine t_putS C dJx4a65c_add_9ea2d_7 fz_Jx4a65c_63 (k := 31) (i := 0) (by decide) rfl (fp_31_0 _ _ _ _ _) ?_
  refine t_tops (fun s7 es7 => ?_)
  have h := h s7 es7
  refine z_aload_n C dJx4a65c_add_9ea2d_10 (i := 0) rfl rfl ?_
  refine z_aload_n C dJx4a65c_add_9ea2d_11 (i := 1) rfl rfl ?_
  refine z_aload_n C dJx4a65c_add_9ea2d_12 (i := 0) rfl rfl ?_
  refine t_get C dJx4a65c_add_9ea2d_13 fl_Jx4a65c_9 (k := 31) (i := 0) (by decide) rfl (fg_31_1 _ _ _) ?_
  refine z_aload_n C dJx4a65c_add_9ea2d_16 (i := 0) rfl rfl ?_
  refine t_get C dJx4a65c_add_9ea2d_17 fl_Jx4a65c_48 (k := 31) (i := 0) (by decide) rfl (fg_31_2 _ _ _) ?_
  refine t_callV C (rest := []) (c2 := 1) (s2 := 40) (kd := 31) (i := 0) [.ref (21 + 256 * a1), .ref (zgP s7 31 0 1), .int (zgF s7 31 0 2)] dJx4a65c_add_9ea2d_20 lk_Jx4a65c_131 li_Jx4a65c_add_72be8 le_Jx4a65c_add_72be8 (c_Jx4a65c_add_72be8_r31r21v35i hfl h) rfl rfl (by decide) rfl ⟨_, rfl⟩ rfl ⟨Nat.le_of_ble_eq_true rfl, Nat.le_of_ble_eq_true rfl⟩ (Nat.le_of_ble_eq_true rfl) ⟨Nat.le_of_ble_eq_true rfl, Nat.le_of_ble_eq_true rfl, Nat.le_of_ble_eq_true rfl, Nat.le_of_ble_eq_true rfl⟩ (k_Wv fun s20 h => ?_)
  refine z_iconst C dJx4a65c_add_9ea2d_23 (v := 1) (by decide) ?_
  exact z_iret C dJx4a65c_add_9ea2d_24 hr rfl ⟨_, _, rfl, rfl, h⟩ (Nat.le_of_ble_eq_true rfl) (Nat.le_of_ble_eq_true rfl)
def w_X11_work (st : zTs) (a1 : Int32) (a2 : Int32) (a3 : Int32) (a4 : Int32) (a5 : Int32) (a6 : Int32) (X : Nat → zTs → Prop) (P : Int32 → zTs → Prop) : Prop := w_X11_wallAt st a1 (fun k9 => X k9 st) (fun (r2 : Nat) => (w_X11_checkSide st a2 (fun k9 => X k9 st) ((w_X11_checkRange st a3 0 3 (fun k9 => X k9 st) ((w_X11_checkRange st a4 0 9999 (fun k9 => X k9 st) ((w_X11_checkRange st a5 0 9999 (fun k9 => X k9 st) ((w_X11_checkRange st a6 0 9999 (fun k9 => X k9 st) ((w_Jx4a65c_size_8abf5_r31 st (fun (r48 : Int32) => (w_X11_checkRoom st r48 30 (fun k9 => X k9 st) ((w_X5_restsAlways st (zgP st 10 0 16) (fun (r60 : Int32) => ((r60 = 0 → w_X5_needsNotice st (zgP st 10 0 16) a3 a4 a5 a6 (fun (r87 : Int32) => (∀ n96 : Nat, n96 = zgN st 21 → (∀ s96 : zTs, s96 = zuW st 21 → (w_X10_init s96 (zm0 zm1 21 n96) n96 r2 a2 a3 (zgP s96 10 0 16) r87 (fun (s110 : zTs) => (w_Jx4a65c_add_9ea2d_r31r21 s110 n96 (fun (r113 : Int32) (s113 : zTs) => (w_Jx4a65c_size_8abf5_r31 s113 (fun (r121 : Int32) => (P (r121 - 1) s113))))))))))) ∧ (¬ r60 = 0 → X 2 st)))))))))))))))))))
set_option maxHeartbeats 4000000 in
set_option maxRecDepth 100000 in
theorem c_X11_work {Z : zZ} {l : Launch} (hfl : l.stackTraces = false) {st : zTs} {a1 : Int32} {a2 : Int32} {a3 : Int32} {a4 : Int32} {a5 : Int32} {a6 : Int32} {X : Nat → zTs → Prop} {P : Int32 → zTs → Prop} (h : w_X11_work st a1 a2 a3 a4 a5 a6 X P) : zM Z l yX11_work cX11_work 9 (some .int) ({ frames := 10, cells := 11, slots := 106, locals := 164 } : Room) (zh Z zm1 st) [.ref 10, .int (a1), .int (a2), .int (a3), .int (a4), .int (a5), .int (a6)] (zWi Z P) (zXs Z X) := by
  unfold w_X11_work at h
  refine z_enterM (by decide) (Nat.le_of_ble_eq_true rfl) (lc0 := [some (.ref 10), some (.int (a1)), some (.int (a2)), some (.int (a3)), some (.int (a4)), some (.int (a5)), some (.int (a6)), none, none]) rfl ?_
  intro p e s m args below meth c ad0 C hr hex
  replace C : zC Z p s m args meth c cX11_work 9 RX11 := C
  refine z_aload_n C dX11_work_0 (i := 0) rfl rfl ?_
  refine z_iload_n C dX11_work_1 (i := 1) rfl rfl ?_
  refine t_callVM C hex (rest := []) (c2 := 1) (s2 := 6) (kd := 10) (i := 0) [.int (a1)] dX11_work_2 lk_X11_92 li_X11_wallAt le_X11_wallAt (c_X11_wallAt hfl h) rfl rfl (by decide) rfl ⟨_, rfl⟩ rfl ⟨Nat.le_of_ble_eq_true rfl, Nat.le_of_ble_eq_true rfl⟩ (Nat.le_of_ble_eq_true rfl) ⟨Nat.le_of_ble_eq_true rfl, Nat.le_of_ble_eq_true rfl, Nat.le_of_ble_eq_true rfl, Nat.le_of_ble_eq_true rfl⟩ (fun _ _ q => ⟨_, q.1, q.2⟩) ⟨Nat.le_of_ble_eq_true rfl, Nat.le_of_ble_eq_true rfl⟩ (k_Rr fun r2 h => ?_)
  refine z_astore C dX11_work_5 (lc' := [some (.ref 10), some (.int (a1)), some (.int (a2)), some (.int (a3)), some (.int (a4)), some (.int (a5)), some (.int (a6)), some (.ref (20 + 256 * r2)), none]) (by decide) rfl ?_
  refine z_iload_n C dX11_work_7 (i := 2) rfl rfl ?_
  refine t_callSM C hex (rest := []) (c2 := 2) (s2 := 12) [.int (a2)] dX11_work_8 lk_X11_96 ls_X11_checkSide (c_X11_checkSide hfl h) rfl rfl ⟨Nat.le_of_ble_eq_true rfl, Nat.le_of_ble_eq_true rfl⟩ (Nat.le_of_ble_eq_true rfl) ⟨Nat.le_of_ble_eq_true rfl, Nat.le_of_ble_eq_true rfl, Nat.le_of_ble_eq_true rfl, Nat.le_of_ble_eq_true rfl⟩ (fun _ _ q => ⟨_, q.1, q.2⟩) ⟨Nat.le_of_ble_eq_true rfl, Nat.le_of_ble_eq_true rfl⟩ (k_Rv fun h => ?_)
  refine z_iload_n C dX11_work_11 (i := 3) rfl rfl ?_
  refine z_iconst C dX11_work_12 (v := 0) (by decide) ?_
  refine z_iconst C dX11_work_13 (v := 3) (by decide) ?_
  refine t_callSM C hex (rest := []) (c2 := 3) (s2 := 18) [.int (a3), .int (0), .int (3)] dX11_work_14 lk_X11_107 ls_X11_checkRange (c_X11_checkRange hfl h) rfl rfl ⟨Nat.le_of_ble_eq_true rfl, Nat.le_of_ble_eq_true rfl⟩ (Nat.le_of_ble_eq_true rfl) ⟨Nat.le_of_ble_eq_true rfl, Nat.le_of_ble_eq_true rfl, Nat.le_of_ble_eq_true rfl, Nat.le_of_ble_eq_true rfl⟩ (fun _ _ q => ⟨_, q.1, q.2⟩) ⟨Nat.le_of_ble_eq_true rfl, Nat.le_of_ble_eq_true rfl⟩ (k_Rv fun h => ?_)
  refine z_iload C dX11_work_17 rfl ?_
  refine z_iconst C dX11_work_19 (v := 0) (by decide) ?_
  refine z_sipush C dX11_work_20 (v := 9999) (by decide) ?_
  refine t_callSM C hex (rest := []) (c2 := 4) (s2 := 24) [.int (a4), .int (0), .int (9999)] dX11_work_23 lk_X11_107 ls_X11_checkRange (c_X11_checkRange hfl h) rfl rfl ⟨Nat.le_of_ble_eq_true rfl, Nat.le_of_ble_eq_true rfl⟩ (Nat.le_of_ble_eq_true rfl) ⟨Nat.le_of_ble_eq_true rfl, Nat.le_of_ble_eq_true rfl, Nat.le_of_ble_eq_true rfl, Nat.le_of_ble_eq_true rfl⟩ (fun _ _ q => ⟨_, q.1, q.2⟩) ⟨Nat.le_of_ble_eq_true rfl, Nat.le_of_ble_eq_true rfl⟩ (k_Rv fun h => ?_)
  refine z_iload C dX11_work_26 rfl ?_
  refine z_iconst C dX11_work_28 (v := 0) (by decide) ?_
  refine z_sipush C dX11_work_29 (v := 9999) (by decide) ?_
  refine t_callSM C hex (rest := []) (c2 := 5) (s2 := 30) [.int (a5), .int (0), .int (9999)] dX11_work_32 lk_X11_107 ls_X11_checkRange (c_X11_checkRange hfl h) rfl rfl ⟨Nat.le_of_ble_eq_true rfl, Nat.le_of_ble_eq_true rfl⟩ (Nat.le_of_ble_eq_true rfl) ⟨Nat.le_of_ble_eq_true rfl, Nat.le_of_ble_eq_true rfl, Nat.le_of_ble_eq_true rfl, Nat.le_of_ble_eq_true rfl⟩ (fun _ _ q => ⟨_, q.1, q.2⟩) ⟨Nat.le_of_ble_eq_true rfl, Nat.le_of_ble_eq_true rfl⟩ (k_Rv fun h => ?_)
  refine z_iload C dX11_work_35 rfl ?_
  refine z_iconst C dX11_work_37 (v := 0) (by decide) ?_
  refine z_sipush C dX11_work_38 (v := 9999) (by decide) ?_
  refine t_callSM C hex (rest := []) (c2 := 6) (s2 := 36) [.int (a6), .int (0), .int (9999)] dX11_work_41 lk_X11_107 ls_X11_checkRange (c_X11_checkRange hfl h) rfl rfl ⟨Nat.le_of_ble_eq_true rfl, Nat.le_of_ble_eq_true rfl⟩ (Nat.le_of_ble_eq_true rfl) ⟨Nat.le_of_ble_eq_true rfl, Nat.le_of_ble_eq_true rfl, Nat.le_of_ble_eq_true rfl, Nat.le_of_ble_eq_true rfl⟩ (fun _ _ q => ⟨_, q.1, q.2⟩) ⟨Nat.le_of_ble_eq_true rfl, Nat.le_of_ble_eq_true rfl⟩ (k_Rv fun h => ?_)
  refine z_aload_n C dX11_work_44 (i := 0) rfl rfl ?_
  refine t_get C dX11_work_45 fl_X11_16 (k := 10) (i := 0) (by decide) rfl (fg_10_1 _ _ _) ?_
  refine t_callV C (rest := []) (c2 := 6) (s2 := 36) (kd := 31) (i := 0) [] dX11_work_48 lk_X11_80 li_Jx4a65c_size_8abf5 le_Jx4a65c_size_8abf5 (c_Jx4a65c_size_8abf5_r31 hfl h) rfl rfl (by decide) rfl ⟨_, rfl⟩ rfl ⟨Nat.le_of_ble_eq_true rfl, Nat.le_of_ble_eq_true rfl⟩ (Nat.le_of_ble_eq_true rfl) ⟨Nat.le_of_ble_eq_true rfl, Nat.le_of_ble_eq_true rfl, Nat.le_of_ble_eq_true rfl, Nat.le_of_ble_eq_true rfl⟩ (k_Ri fun r48 h => ?_)
  refine z_bipush C dX11_work_51 (v := 30) (by decide) ?_
  refine t_callSM C hex (rest := []) (c2 := 7) (s2 := 42) [.int (r48), .int (30)] dX11_work_53 lk_X11_73 ls_X11_checkRoom (c_X11_checkRoom hfl h) rfl rfl ⟨Nat.le_of_ble_eq_true rfl, Nat.le_of_ble_eq_true rfl⟩ (Nat.le_of_ble_eq_true rfl) ⟨Nat.le_of_ble_eq_true rfl, Nat.le_of_ble_eq_true rfl, Nat.le_of_ble_eq_true rfl, Nat.le_of_ble_eq_true rfl⟩ (fun _ _ q => ⟨_, q.1, q.2⟩) ⟨Nat.le_of_ble_eq_true rfl, Nat.le_of_ble_eq_true rfl⟩ (k_Rv fun h => ?_)
  refine z_aload_n C dX11_work_56 (i := 0) rfl rfl ?_
  refine t_get C dX11_work_57 fl_X11_65 (k := 10) (i := 0) (by decide) rfl (fg_10_16 _ _ _) ?_
  refine t_callV C (rest := []) (c2 := 7) (s2 := 42) (kd := 24) (i := zgP st 10 0 16) [] dX11_work_60 lk_X11_141 li_X5_restsAlways le_X5_restsAlways (c_X5_restsAlways hfl h) rfl rfl (by decide) rfl ⟨_, rfl⟩ rfl ⟨Nat.le_of_ble_eq_true rfl, Nat.le_of_ble_eq_true rfl⟩ (Nat.le_of_ble_eq_true rfl) ⟨Nat.le_of_ble_eq_true rfl, Nat.le_of_ble_eq_true rfl, Nat.le_of_ble_eq_true rfl, Nat.le_of_ble_eq_true rfl⟩ (k_Ri fun r60 h => ?_)
  refine z_if_eq C dX11_work_63 (tgt := 76) (by decide) (fun c63 => ?_) (fun c63 => ?_)
  · have h := h.1 c63
    refine z_aload_n C dX11_work_76 (i := 0) rfl rfl ?_
    refine t_get C dX11_work_77 fl_X11_65 (k := 10) (i := 0) (by decide) rfl (fg_10_16 _ _ _) ?_
    refine z_iload_n C dX11_work_80 (i := 3) rfl rfl ?_
    refine z_iload C dX11_work_81 rfl ?_
    refine z_iload C dX11_work_83 rfl ?_
    refine z_iload C dX11_work_85 rfl ?_
    refine t_callV C (rest := []) (c2 := 7) (s2 := 42) (kd := 24) (i := zgP st 10 0 16) [.int (a3), .int (a4), .int (a5), .int (a6)] dX11_work_87 lk_X11_151 li_X5_needsNotice le_X5_needsNotice (c_X5_needsNotice hfl h) rfl rfl (by decide) rfl ⟨_, rfl⟩ rfl ⟨Nat.le_of_ble_eq_true rfl, Nat.le_of_ble_eq_true rfl⟩ (Nat.le_of_ble_eq_true rfl) ⟨Nat.le_of_ble_eq_true rfl, Nat.le_of_ble_eq_true rfl, Nat.le_of_ble_eq_true rfl, Nat.le_of_ble_eq_true rfl⟩ (k_Ri fun r87 h => ?_)
    refine z_istore C dX11_work_90 (lc' := [some (.ref 10), some (.int (a1)), some (.int (a2)), some (.int (a3)), some (.int (a4)), some (.int (a5)), some (.int (a6)), some (.ref (20 + 256 * r2)), some (.int (r87))]) (by decide) rfl ?_
    refine z_aload_n C dX11_work_92 (i := 0) rfl rfl ?_
    refine t_get C dX11_work_93 fl_X11_16 (k := 10) (i := 0) (by decide) rfl (fg_10_1 _ _ _) ?_
    obtain ⟨n96, g96⟩ : ∃ z : Nat, z = zgN st 21 := ⟨_, rfl⟩
    have h := h n96 g96
    refine t_new C dX11_work_96 nl_X11_155 rfl (by decide) nw_21 (c2 := 8) (s2 := 60) ⟨Nat.le_of_ble_eq_true rfl, Nat.le_of_ble_eq_true rfl, Nat.le_of_ble_eq_true rfl, Nat.le_of_ble_eq_true rfl⟩ ?_
    rw [← g96]
    refine t_tops (fun s96 es96 => ?_)
    have h := h s96 es96
    refine z_dup C dX11_work_99 rfl ?_
    refine z_aload C dX11_work_100 rfl ?_
    refine z_iload_n C dX11_work_102 (i := 2) rfl rfl ?_
    refine z_iload_n C dX11_work_103 (i := 3) rfl rfl ?_
    refine z_aload_n C dX11_work_104 (i := 0) rfl rfl ?_
    refine t_get C dX11_work_105 fl_X11_65 (k := 10) (i := 0) (by decide) rfl ⟨_, rfl, congrArg some (if_pos (by simp [zms, zm0, zm1, zp2, zp1]))⟩ ?_
    refine z_iload C dX11_work_108 rfl ?_
    refine t_callI C (rest := [.ref (21 + 256 * n96), .ref 31]) (c2 := 10) (s2 := 66) [.ref (20 + 256 * r2), .int (a2), .int (a3), .ref (24 + 256 * (zgP s96 10 0 16)), .int (r87)] dX11_work_110 lk_X11_157 lnm_X10_init rfl (c_X10_init hfl h) rfl rfl ⟨Nat.le_of_ble_eq_true rfl, Nat.le_of_ble_eq_true rfl⟩ (Nat.le_of_ble_eq_true rfl) ⟨Nat.le_of_ble_eq_true rfl, Nat.le_of_ble_eq_true rfl, Nat.le_of_ble_eq_true rfl, Nat.le_of_ble_eq_true rfl⟩ (k_Wv fun s110 h => ?_)
    refine t_mask (mk' := zm1) (k := 21) (i := n96) (fun k9 i9 g9 => by simp only [zms, zm0, zp2_ne g9]) (nm_21 (g0 := by simp [zms, zm0, zm1, zp2, zp1]) (g3 := by simp [zms, zm0, zm1, zp2, zp1]) (g12 := by simp [zms, zm0, zm1, zp2, zp1]) (g13 := by simp [zms, zm0, zm1, zp2, zp1]) (f0 := rfl) (f3 := rfl) (f12 := rfl) (f13 := rfl)) ?_
    refine t_callV C (rest := []) (c2 := 11) (s2 := 106) (kd := 31) (i := 0) [.ref (21 + 256 * n96)] dX11_work_113 lk_X11_88 li_Jx4a65c_add_9ea2d le_Jx4a65c_add_9ea2d (c_Jx4a65c_add_9ea2d_r31r21 hfl h) rfl rfl (by decide) rfl ⟨_, rfl⟩ rfl ⟨Nat.le_of_ble_eq_true rfl, Nat.le_of_ble_eq_true rfl⟩ (Nat.le_of_ble_eq_true rfl) ⟨Nat.le_of_ble_eq_true rfl, Nat.le_of_ble_eq_true rfl, Nat.le_of_ble_eq_true rfl, Nat.le_of_ble_eq_true rfl⟩ (k_Wi fun r113 s113 h => ?_)
    refine z_pop C dX11_work_116 rfl ?_
    refine z_aload_n C dX11_work_117 (i := 0) rfl rfl ?_
    refine t_get C dX11_work_118 fl_X11_16 (k := 10) (i := 0) (by decide) rfl (fg_10_1 _ _ _) ?_
    refine t_callV C (rest := []) (c2 := 11) (s2 := 106) (kd := 31) (i := 0) [] dX11_work_121 lk_X11_80 li_Jx4a65c_size_8abf5 le_Jx4a65c_size_8abf5 (c_Jx4a65c_size_8abf5_r31 hfl h) rfl rfl (by decide) rfl ⟨_, rfl⟩ rfl ⟨Nat.le_of_ble_eq_true rfl, Nat.le_of_ble_eq_true rfl⟩ (Nat.le_of_ble_eq_true rfl) ⟨Nat.le_of_ble_eq_true rfl, Nat.le_of_ble_eq_true rfl, Nat.le_of_ble_eq_true rfl, Nat.le_of_ble_eq_true rfl⟩ (k_Ri fun r121 h => ?_)
    refine z_iconst C dX11_work_124 (v := 1) (by decide) ?_
    refine z_isub C dX11_work_125 ?_
    exact zG.up (z_iret C dX11_work_126 hr rfl ⟨_, _, rfl, rfl, h⟩ (Nat.le_of_ble_eq_true rfl) (Nat.le_of_ble_eq_true rfl))
  · have h := h.2 c63
    exact z_throw C hfl hex (six := 25) (text := "all DAYS of the week are of rest") 2 (by decide) tw_2 (by decide +kernel) dX11_work_66 dX11_work_69 dX11_work_70 dX11_work_72 dX11_work_75 ⟨Nat.le_of_ble_eq_true rfl, Nat.le_of_ble_eq_true rfl, Nat.le_of_ble_eq_true rfl, Nat.le_of_ble_eq_true rfl⟩ ⟨Nat.le_of_ble_eq_true rfl, Nat.le_of_ble_eq_true rfl⟩ ⟨_, rfl, h⟩
def w_X11_propose (st : zTs) (a1 : Int32) (a2 : Int32) (a3 : Int32) (a4 : Int32) (a5 : Int32) (X : Nat → zTs → Prop) (P : Int32 → zTs → Prop) : Prop := w_X11_workAt st a1 X (fun (r2 : Nat) (s2 : zTs) => (w_X11_checkRange s2 a2 0 2 (fun k9 => X k9 s2) ((w_X11_checkLeast s2 a3 (zgF s2 10 0 15) (fun k9 => X k9 s2) ((w_X11_checkRange s2 a4 0 2324 (fun k9 => X k9 s2) ((w_X11_checkRange s2 (a4 - a4 / 100 * 100) ((a4 / 100) + 1) 24 (fun k9 => X k9 s2) ((w_X11_checkRange s2 a5 0 100 (fun k9 => X k9 s2) ((((zgF s2 21 r2 4) = 4 → vp_in a2 3 ∧ (((zgA s2 61 r2 (a2 : Int32).toNatClampNeg) = (-1) → P (-2) s2) ∧ (¬ (zgA s2 61 r2 (a2 : Int32).toNatClampNeg) = (-1) → ∀ n80 : Nat, n80 = zgN s2 25 → (∀ s80 : zTs, s80 = zuW s2 25 → (w_X4_init s80 (zm0 zm1 25 n80) n80 a3 a4 a5 (fun (s89 : zTs) => (w_X10_hasAlike s89 r2 a2 n80 (fun (r99 : Int32) => ((r99 = 0 → vp_in a2 3 ∧ (∀ s126 : zTs, s126 = zuR s89 67 r2 (a2 : Int32).toNatClampNeg (some n80) → (P 0 s126))) ∧ (¬ r99 = 0 → w_X10_awardAs s89 r2 n80 (zgF s89 10 0 15) (fun (s113 : zTs) => (P 1 s113)))))))))))) ∧ (¬ (zgF s2 21 r2 4) = 4 → P (-1) s2)))))))))))))
set_option maxHeartbeats 4000000 in
set_option maxRecDepth 100000 in
theorem c_X11_propose {Z : zZ} {l : Launch} (hfl : l.stackTraces = false) {st : zTs} {a1 : Int32} {a2 : Int32} {a3 : Int32} {a4 : Int32} {a5 : Int32} {X : Nat → zTs → Prop} {P : Int32 → zTs → Prop} (h : w_X11_propose st a1 a2 a3 a4 a5 X P) : zM Z l yX11_propose cX11_propose 8 (some .int) ({ frames := 9, cells := 7, slots := 39, locals := 122 } : Room) (zh Z zm1 st) [.ref 10, .int (a1), .int (a2), .int (a3), .int (a4), .int (a5)] (zWi Z P) (zXs Z X) := by
  unfold w_X11_propose at h
  refine z_enterM (by decide) (Nat.le_of_ble_eq_true rfl) (lc0 := [some (.ref 10), some (.int (a1)), some (.int (a2)), some (.int (a3)), some (.int (a4)), some (.int (a5)), none, none]) rfl ?_
  intro p e s m args below meth c ad0 C hr hex
  replace C : zC Z p s m args meth c cX11_propose 8 RX11 := C
  refine z_aload_n C dX11_propose_0 (i := 0) rfl rfl ?_
  refine z_iload_n C dX11_propose_1 (i := 1) rfl rfl ?_
  refine t_callVM C hex (rest := []) (c2 := 1) (s2 := 6) (kd := 10) (i := 0) [.int (a1)] dX11_propose_2 lk_X11_160 li_X11_workAt le_X11_workAt (c_X11_workAt hfl h) rfl rfl (by decide) rfl ⟨_, rfl⟩ rfl ⟨Nat.le_of_ble_eq_true rfl, Nat.le_of_ble_eq_true rfl⟩ (Nat.le_of_ble_eq_true rfl) ⟨Nat.le_of_ble_eq_true rfl, Nat.le_of_ble_eq_true rfl, Nat.le_of_ble_eq_true rfl, Nat.le_of_ble_eq_true rfl⟩ (fun _ _ q => q) ⟨Nat.le_of_ble_eq_true rfl, Nat.le_of_ble_eq_true rfl⟩ (k_Wr fun r2 s2 h => ?_)
  refine z_astore C dX11_propose_5 (lc' := [some (.ref 10), some (.int (a1)), some (.int (a2)), some (.int (a3)), some (.int (a4)), some (.int (a5)), some (.ref (21 + 256 * r2)), none]) (by decide) rfl ?_
  refine z_iload_n C dX11_propose_7 (i := 2) rfl rfl ?_
  refine z_iconst C dX11_propose_8 (v := 0) (by decide) ?_
  refine z_iconst C dX11_propose_9 (v := 2) (by decide) ?_
  refine t_callSM C hex (rest := []) (c2 := 2) (s2 := 12) [.int (a2), .int (0), .int (2)] dX11_propose_10 lk_X11_107 ls_X11_checkRange (c_X11_checkRange hfl h) rfl rfl ⟨Nat.le_of_ble_eq_true rfl, Nat.le_of_ble_eq_true rfl⟩ (Nat.le_of_ble_eq_true rfl) ⟨Nat.le_of_ble_eq_true rfl, Nat.le_of_ble_eq_true rfl, Nat.le_of_ble_eq_true rfl, Nat.le_of_ble_eq_true rfl⟩ (fun _ _ q => ⟨_, q.1, q.2⟩) ⟨Nat.le_of_ble_eq_true rfl, Nat.le_of_ble_eq_true rfl⟩ (k_Rv fun h => ?_)
  refine z_iload_n C dX11_propose_13 (i := 3) rfl rfl ?_
  refine z_aload_n C dX11_propose_14 (i := 0) rfl rfl ?_
  refine t_get C dX11_propose_15 fl_X11_111 (k := 10) (i := 0) (by decide) rfl (fg_10_15 _ _ _) ?_
  refine t_callSM C hex (rest := []) (c2 := 3) (s2 := 18) [.int (a3), .int (zgF s2 10 0 15)] dX11_propose_18 lk_X11_226 ls_X11_checkLeast (c_X11_checkLeast hfl h) rfl rfl ⟨Nat.le_of_ble_eq_true rfl, Nat.le_of_ble_eq_true rfl⟩ (Nat.le_of_ble_eq_true rfl) ⟨Nat.le_of_ble_eq_true rfl, Nat.le_of_ble_eq_true rfl, Nat.le_of_ble_eq_true rfl, Nat.le_of_ble_eq_true rfl⟩ (fun _ _ q => ⟨_, q.1, q.2⟩) ⟨Nat.le_of_ble_eq_true rfl, Nat.le_of_ble_eq_true rfl⟩ (k_Rv fun h => ?_)
  refine z_iload C dX11_propose_21 rfl ?_
  refine z_iconst C dX11_propose_23 (v := 0) (by decide) ?_
  refine z_sipush C dX11_propose_24 (v := 2324) (by decide) ?_
  refine t_callSM C hex (rest := []) (c2 := 4) (s2 := 24) [.int (a4), .int (0), .int (2324)] dX11_propose_27 lk_X11_107 ls_X11_checkRange (c_X11_checkRange hfl h) rfl rfl ⟨Nat.le_of_ble_eq_true rfl, Nat.le_of_ble_eq_true rfl⟩ (Nat.le_of_ble_eq_true rfl) ⟨Nat.le_of_ble_eq_true rfl, Nat.le_of_ble_eq_true rfl, Nat.le_of_ble_eq_true rfl, Nat.le_of_ble_eq_true rfl⟩ (fun _ _ q => ⟨_, q.1, q.2⟩) ⟨Nat.le_of_ble_eq_true rfl, Nat.le_of_ble_eq_true rfl⟩ (k_Rv fun h => ?_)
  refine z_iload C dX11_propose_30 rfl ?_
  refine z_bipush C dX11_propose_32 (v := 100) (by decide) ?_
  refine z_irem C dX11_propose_34 (by decide) ?_
  refine z_iload C dX11_propose_35 rfl ?_
  refine z_bipush C dX11_propose_37 (v := 100) (by decide) ?_
  refine z_idiv C dX11_propose_39 (by decide) ?_
  refine z_iconst C dX11_propose_40 (v := 1) (by decide) ?_
  refine z_iadd C dX11_propose_41 ?_
  refine z_bipush C dX11_propose_42 (v := 24) (by decide) ?_
  refine t_callSM C hex (rest := []) (c2 := 5) (s2 := 30) [.int (a4 - a4 / 100 * 100), .int ((a4 / 100) + 1), .int (24)] dX11_propose_44 lk_X11_107 ls_X11_checkRange (c_X11_checkRange hfl h) rfl rfl ⟨Nat.le_of_ble_eq_true rfl, Nat.le_of_ble_eq_true rfl⟩ (Nat.le_of_ble_eq_true rfl) ⟨Nat.le_of_ble_eq_true rfl, Nat.le_of_ble_eq_true rfl, Nat.le_of_ble_eq_true rfl, Nat.le_of_ble_eq_true rfl⟩ (fun _ _ q => ⟨_, q.1, q.2⟩) ⟨Nat.le_of_ble_eq_true rfl, Nat.le_of_ble_eq_true rfl⟩ (k_Rv fun h => ?_)
  refine z_iload C dX11_propose_47 rfl ?_
  refine z_iconst C dX11_propose_49 (v := 0) (by decide) ?_
  refine z_bipush C dX11_propose_50 (v := 100) (by decide) ?_
  refine t_callSM C hex (rest := []) (c2 := 6) (s2 := 36) [.int (a5), .int (0), .int (100)] dX11_propose_52 lk_X11_107 ls_X11_checkRange (c_X11_checkRange hfl h) rfl rfl ⟨Nat.le_of_ble_eq_true rfl, Nat.le_of_ble_eq_true rfl⟩ (Nat.le_of_ble_eq_true rfl) ⟨Nat.le_of_ble_eq_true rfl, Nat.le_of_ble_eq_true rfl, Nat.le_of_ble_eq_true rfl, Nat.le_of_ble_eq_true rfl⟩ (fun _ _ q => ⟨_, q.1, q.2⟩) ⟨Nat.le_of_ble_eq_true rfl, Nat.le_of_ble_eq_true rfl⟩ (k_Rv fun h => ?_)
  refine z_aload C dX11_propose_55 rfl ?_
  refine t_get C dX11_propose_57 fl_X11_164 (k := 21) (i := r2) (by decide) rfl (fg_21_4 _ _ _) ?_
  refine z_iconst C dX11_propose_60 (v := 4) (by decide) ?_
  refine z_icmp_eq C dX11_propose_61 (tgt := 66) (by decide) (fun c61 => ?_) (fun c61 => ?_)
  · have h := h.1 c61
    refine z_aload C dX11_propose_66 rfl ?_
    refine t_get C dX11_propose_68 fl_X11_209 (k := 21) (i := r2) (by decide) rfl (fg_21_13 _ _ _) ?_
    refine z_iload_n C dX11_propose_71 (i := 2) rfl rfl ?_
    obtain ⟨g72, h⟩ := h
    refine t_iald C dX11_propose_72 (k := 61) (i := r2) (by decide) rfl (sh_61 _ _ _ _) g72 ?_
    refine z_iconst C dX11_propose_73 (v := (-1)) (by decide) ?_
    refine z_icmp_ne C dX11_propose_74 (tgt := 80) (by decide) (fun c74 => ?_) (fun c74 => ?_)
    · have h := h.2 c74
      obtain ⟨n80, g80⟩ : ∃ z : Nat, z = zgN s2 25 := ⟨_, rfl⟩
      have h := h n80 g80
      refine t_new C dX11_propose_80 nl_X11_229 rfl (by decide) nw_25 (c2 := 7) (s2 := 39) ⟨Nat.le_of_ble_eq_true rfl, Nat.le_of_ble_eq_true rfl, Nat.le_of_ble_eq_true rfl, Nat.le_of_ble_eq_true rfl⟩ ?_
      rw [← g80]
      refine t_tops (fun s80 es80 => ?_)
      have h := h s80 es80
      refine z_dup C dX11_propose_83 rfl ?_
      refine z_iload_n C dX11_propose_84 (i := 3) rfl rfl ?_
      refine z_iload C dX11_propose_85 rfl ?_
      refine z_iload C dX11_propose_87 rfl ?_
      refine t_callI C (rest := [.ref (25 + 256 * n80)]) (c2 := 7) (s2 := 39) [.int (a3), .int (a4), .int (a5)] dX11_propose_89 lk_X11_231 lnm_X4_init rfl (c_X4_init hfl h) rfl rfl ⟨Nat.le_of_ble_eq_true rfl, Nat.le_of_ble_eq_true rfl⟩ (Nat.le_of_ble_eq_true rfl) ⟨Nat.le_of_ble_eq_true rfl, Nat.le_of_ble_eq_true rfl, Nat.le_of_ble_eq_true rfl, Nat.le_of_ble_eq_true rfl⟩ (k_Wv fun s89 h => ?_)
      refine t_mask (mk' := zm1) (k := 25) (i := n80) (fun k9 i9 g9 => by simp only [zms, zm0, zp2_ne g9]) (nm_25  ) ?_
      refine z_astore C dX11_propose_92 (lc' := [some (.ref 10), some (.int (a1)), some (.int (a2)), some (.int (a3)), some (.int (a4)), some (.int (a5)), some (.ref (21 + 256 * r2)), some (.ref (25 + 256 * n80))]) (by decide) rfl ?_
      refine z_aload C dX11_propose_94 rfl ?_
      refine z_iload_n C dX11_propose_96 (i := 2) rfl rfl ?_
      refine z_aload C dX11_propose_97 rfl ?_
      refine t_callV C (rest := []) (c2 := 7) (s2 := 39) (kd := 21) (i := r2) [.int (a2), .ref (25 + 256 * n80)] dX11_propose_99 lk_X11_233 li_X10_hasAlike le_X10_hasAlike (c_X10_hasAlike hfl h) rfl rfl (by decide) rfl ⟨_, rfl⟩ rfl ⟨Nat.le_of_ble_eq_true rfl, Nat.le_of_ble_eq_true rfl⟩ (Nat.le_of_ble_eq_true rfl) ⟨Nat.le_of_ble_eq_true rfl, Nat.le_of_ble_eq_true rfl, Nat.le_of_ble_eq_true rfl, Nat.le_of_ble_eq_true rfl⟩ (k_Ri fun r99 h => ?_)
      refine z_if_eq C dX11_propose_102 (tgt := 118) (by decide) (fun c102 => ?_) (fun c102 => ?_)
      · have h := h.1 c102
        refine z_aload C dX11_propose_118 rfl ?_
        refine t_get C dX11_propose_120 fl_X11_241 (k := 21) (i := r2) (by decide) rfl (fg_21_12 _ _ _) ?_
        refine z_iload_n C dX11_propose_123 (i := 2) rfl rfl ?_
        refine z_aload C dX11_propose_124 rfl ?_
        obtain ⟨g126, h⟩ := h
        refine t_astq C dX11_propose_126 (k0 := 67) (i := r2) (y := n80) (by decide) (by decide) rfl rfl (fun _ => sh_67) ⟨_, rfl⟩ rfl rfl g126 ?_
        refine t_tops (fun s126 es126 => ?_)
        have h := h s126 es126
        refine z_iconst C dX11_propose_127 (v := 0) (by decide) ?_
        exact zG.up (z_iret C dX11_propose_128 hr rfl ⟨_, _, rfl, rfl, h⟩ (Nat.le_of_ble_eq_true rfl) (Nat.le_of_ble_eq_true rfl))
      · have h := h.2 c102
        refine z_aload C dX11_propose_105 rfl ?_
        refine z_aload C dX11_propose_107 rfl ?_
        refine z_aload_n C dX11_propose_109 (i := 0) rfl rfl ?_
        refine t_get C dX11_propose_110 fl_X11_111 (k := 10) (i := 0) (by decide) rfl (fg_10_15 _ _ _) ?_
        refine t_callV C (rest := []) (c2 := 7) (s2 := 39) (kd := 21) (i := r2) [.ref (25 + 256 * n80), .int (zgF s89 10 0 15)] dX11_propose_113 lk_X11_237 li_X10_awardAs le_X10_awardAs (c_X10_awardAs hfl h) rfl rfl (by decide) rfl ⟨_, rfl⟩ rfl ⟨Nat.le_of_ble_eq_true rfl, Nat.le_of_ble_eq_true rfl⟩ (Nat.le_of_ble_eq_true rfl) ⟨Nat.le_of_ble_eq_true rfl, Nat.le_of_ble_eq_true rfl, Nat.le_of_ble_eq_true rfl, Nat.le_of_ble_eq_true rfl⟩ (k_Wv fun s113 h => ?_)
        refine z_iconst C dX11_propose_116 (v := 1) (by decide) ?_
        exact zG.up (z_iret C dX11_propose_117 hr rfl ⟨_, _, rfl, rfl, h⟩ (Nat.le_of_ble_eq_true rfl) (Nat.le_of_ble_eq_true rfl))
    · have h := h.1 c74
      refine z_bipush C dX11_propose_77 (v := (-2)) (by decide) ?_
      exact zG.up (z_iret C dX11_propose_79 hr rfl ⟨_, _, rfl, rfl, h⟩ (Nat.le_of_ble_eq_true rfl) (Nat.le_of_ble_eq_true rfl))
  · have h := h.2 c61
    refine z_iconst C dX11_propose_64 (v := (-1)) (by decide) ?_
    exact zG.up (z_iret C dX11_propose_65 hr rfl ⟨_, _, rfl, rfl, h⟩ (Nat.le_of_ble_eq_true rfl) (Nat.le_of_ble_eq_true rfl))
def w_J7_copyOf_6403c_v36ic207_24 (P : Nat → zTs → Prop)  (st : zTs) (a0 : Nat) (a1 : Int32) (b0 : Nat) : Prop := (a0 = 204 ∨ a0 % 256 = 36) ∧ ∀ x30 : Int32, x30 = (if a0 = 204 then 0 else Int32.ofNat (zgP st 36 (a0 / 256) 0)) → (w_J9_min_7cf53 st x30 a1 (fun (r32 : Int32) => ((a0 % 256 = 36 ∧ b0 % 256 = 36 ∧ (¬ a0 / 256 = b0 / 256) ∧ ¬ r32 < 0 ∧ (r32 : Int32).toNatClampNeg ≤ zgP st 36 (a0 / 256) 0 ∧ (r32 : Int32).toNatClampNeg ≤ zgP st 36 (b0 / 256) 0 ∧ zgL st 36 (a0 / 256) ≤ (r32 : Int32).toNatClampNeg ∧ zgL st 36 (b0 / 256) = 0 ∧ zgL st 36 (a0 / 256) ≤ zgN st 22) ∧ (∀ s35 : zTs, s35 = zuL st 36 (b0 / 256) (zgL st 36 (a0 / 256)) → (P b0 s35)))))
set_option maxHeartbeats 4000000 in
set_option maxRecDepth 100000 in
theorem j_J7_copyOf_6403c_v36ic207_24 {P : Nat → zTs → Prop}  (hfl : l.stackTraces = false) (C : zC Z p s m args meth c cJ7_copyOf_6403c 4 RJ7) (hr : meth.sig.returnType = (some (.array (.object "java/lang/Object")))) (hn9 : True)  (st : zTs) (a0 : Nat) (a1 : Int32) (b0 : Nat) (h : w_J7_copyOf_6403c_v36ic207_24 P st a0 a1 b0) : zG Z ad0 h0 p l e ({ frames := 2, cells := 1, slots := 40, locals := 33 } : Room) s m args below meth c (MQ below (zQ Z ad0 h0 (zWV Z P)) args s 1 40 (zA Z)) 1 40 (zh Z zm1 st) 4 24 [some (.ref (a0)), some (.int (a1)), none, none] [.ref (b0)] := by
  unfold w_J7_copyOf_6403c_v36ic207_24 at h
  refine z_astore_n C dJ7_copyOf_6403c_24 (i := 3) (lc' := [some (.ref (a0)), some (.int (a1)), none, some (.ref (b0))]) rfl (by decide) rfl ?_
  refine z_aload_n C dJ7_copyOf_6403c_25 (i := 0) rfl rfl ?_
  refine z_iconst C dJ7_copyOf_6403c_26 (v := 0) (by decide) ?_
  refine z_aload_n C dJ7_copyOf_6403c_27 (i := 3) rfl rfl ?_
  refine z_iconst C dJ7_copyOf_6403c_28 (v := 0) (by decide) ?_
  refine z_aload_n C dJ7_copyOf_6403c_29 (i := 0) rfl rfl ?_
  obtain ⟨g30, h⟩ := h
  refine t_lenV C dJ7_copyOf_6403c_30 (by decide) (fun _ => sh_36) g30 (fun x30 ex30 => ?_)
  have h := h x30 ex30
  refine z_iload_n C dJ7_copyOf_6403c_31 (i := 1) rfl rfl ?_
  refine t_callS C (rest := [.int (0), .ref (b0), .int (0), .ref (a0)]) (c2 := 1) (s2 := 40) [.int (x30), .int (a1)] dJ7_copyOf_6403c_32 lk_J7_304 ls_J9_min_7cf53 (c_J9_min_7cf53 hfl h) rfl rfl ⟨Nat.le_of_ble_eq_true rfl, Nat.le_of_ble_eq_true rfl⟩ (Nat.le_of_ble_eq_true rfl) ⟨Nat.le_of_ble_eq_true rfl, Nat.le_of_ble_eq_true rfl, Nat.le_of_ble_eq_true rfl, Nat.le_of_ble_eq_true rfl⟩ (k_Ri fun r32 h => ?_)
  obtain ⟨⟨q1, q2, q3, q4, q5, q6, q7, q8, q9⟩, h⟩ := h
  refine t_cpQ C dJ7_copyOf_6403c_35 lcp_J7_150 (k0 := 36) (el := 22) (by decide) (by decide) q1 q2 q3 (fun _ _ => sh_36) rfl rfl (fun _ => ⟨_, rfl⟩) rfl (by decide) (fun y hy => by omega) q4 q5 q6 q7 q8 ⟨Nat.le_of_ble_eq_true rfl, Nat.le_of_ble_eq_true rfl⟩ ?_
  refine t_tops (fun s35 es35 => ?_)
  have h := h s35 es35
  refine z_aload_n C dJ7_copyOf_6403c_38 (i := 3) rfl rfl ?_
  exact z_aret C dJ7_copyOf_6403c_39 hr (Or.inr ⟨_, rfl⟩) (Or.inr ⟨_, rfl⟩) ⟨_, _, rfl, rfl, h⟩ (Nat.le_of_ble_eq_true rfl) (Nat.le_of_ble_eq_true rfl)
def w_J7_copyOf_6403c_v36ic207 (st : zTs) (a0 : Nat) (a1 : Int32) (P : Nat → zTs → Prop) : Prop := (¬ a1 < 0 ∧ (a1 : Int32).toNatClampNeg ≤ 40) ∧ ∀ n7 : Nat, n7 = zgN st 36 → (∀ s7 : zTs, s7 = zuX st 36 (a1 : Int32).toNatClampNeg → (w_J7_copyOf_6403c_v36ic207_24 P s7 a0 a1 (36 + 256 * n7)))
set_option maxHeartbeats 4000000 in
set_option maxRecDepth 100000 in
theorem c_J7_copyOf_6403c_v36ic207 {Z : zZ} {l : Launch} (hfl : l.stackTraces = false) {st : zTs} {a0 : Nat} {a1 : Int32} {P : Nat → zTs → Prop} (h : w_J7_copyOf_6403c_v36ic207 st a0 a1 P) : zN Z l yJ7_copyOf_6403c cJ7_copyOf_6403c 4 (some (.array (.object "java/lang/Object"))) ({ frames := 2, cells := 1, slots := 40, locals := 33 } : Room) (zh Z zm1 st) [.ref (a0), .int (a1), .ref 207] (zWV Z P) := by
  unfold w_J7_copyOf_6403c_v36ic207 at h
  refine z_enterF (by decide +kernel) (Nat.le_of_ble_eq_true rfl) (lc0 := [some (.ref (a0)), some (.int (a1)), some (.ref 207), none]) rfl ?_
  intro p e s m args below meth c ad0 C hr _
  have hn9 : True := trivial
  replace C : zC Z p s m args meth c cJ7_copyOf_6403c 4 RJ7 := C
  refine z_aload_n C dJ7_copyOf_6403c_0 (i := 2) rfl rfl ?_
  refine z_ldcM C dJ7_copyOf_6403c_1 kl_J7_110 ?_
  refine z_acmpR_ne C dJ7_copyOf_6403c_3 (tgt := 13) (by decide) ?_
  refine z_iload_n C dJ7_copyOf_6403c_6 (i := 1) rfl rfl ?_
  obtain ⟨⟨g7a, g7b⟩, h⟩ := h
  obtain ⟨n7, g7⟩ : ∃ z : Nat, z = zgN st 36 := ⟨_, rfl⟩
  have h := h n7 g7
  refine t_newq C dJ7_copyOf_6403c_7 kl_J7_2 (zC_AO1 C) (t := 4) (k := 36) rfl g7a rfl (by omega) (by decide) zN_X zo_X nw_36 (c2 := 1) (s2 := 40) ⟨Nat.le_of_ble_eq_true rfl, by omega, Nat.le_of_ble_eq_true rfl, Nat.le_of_ble_eq_true rfl⟩ ?_
  rw [← g7]
  refine t_tops (fun s7 es7 => ?_)
  have h := h s7 es7
  refine z_goto C dJ7_copyOf_6403c_10 (tgt := 24) (by decide) ?_
  exact t_drop [true, true, false, false] rfl (j_J7_copyOf_6403c_v36ic207_24 hfl C hr hn9  s7 a0 a1 (36 + 256 * n7) h)
def w_J7_copyOf_1904c_v36i (st : zTs) (a0 : Nat) (a1 : Int32) (P : Nat → zTs → Prop) : Prop := (a0 % 256 = 36) ∧ (w_J7_copyOf_6403c_v36ic207 st a0 a1 (fun (r6 : Nat) (s6 : zTs) => (P r6 s6)))
set_option maxHeartbeats 4000000 in
set_option maxRecDepth 100000 in
theorem c_J7_copyOf_1904c_v36i {Z : zZ} {l : Launch} (hfl : l.stackTraces = false) {st : zTs} {a0 : Nat} {a1 : Int32} {P : Nat → zTs → Prop} (h : w_J7_copyOf_1904c_v36i st a0 a1 P) : zN Z l yJ7_copyOf_1904c cJ7_copyOf_1904c 2 (some (.array (.object "java/lang/Object"))) ({ frames := 3, cells := 1, slots := 40, locals := 56 } : Room) (zh Z zm1 st) [.ref (a0), .int (a1)] (zWV Z P) := by
  unfold w_J7_copyOf_1904c_v36i at h
  refine z_enterF (by decide +kernel) (Nat.le_of_ble_eq_true rfl) (lc0 := [some (.ref (a0)), some (.int (a1))]) rfl ?_
  intro p e s m args below meth c ad0 C hr _
  have hn9 : True := trivial
  replace C : zC Z p s m args meth c cJ7_copyOf_1904c 2 RJ7 := C
  refine z_aload_n C dJ7_copyOf_1904c_0 (i := 0) rfl rfl ?_
  refine z_iload_n C dJ7_copyOf_1904c_1 (i := 1) rfl rfl ?_
  refine z_aload_n C dJ7_copyOf_1904c_2 (i := 0) rfl rfl ?_
  obtain ⟨g3, h⟩ := h
  refine t_getC C dJ7_copyOf_1904c_3 lgc_1 lgc_2 lgc_3 lgc_4 (by decide) g3 sh_36 ⟨Nat.le_of_ble_eq_true rfl, Nat.le_of_ble_eq_true rfl⟩ ?_
  refine t_callS C (rest := []) (c2 := 1) (s2 := 40) [.ref (a0), .int (a1), .ref 207] dJ7_copyOf_1904c_6 lk_J7_300 ls_J7_copyOf_6403c (c_J7_copyOf_6403c_v36ic207 hfl h) rfl rfl ⟨Nat.le_of_ble_eq_true rfl, Nat.le_of_ble_eq_true rfl⟩ (Nat.le_of_ble_eq_true rfl) ⟨Nat.le_of_ble_eq_true rfl, Nat.le_of_ble_eq_true rfl, Nat.le_of_ble_eq_true rfl, Nat.le_of_ble_eq_true rfl⟩ (k_WV fun r6 s6 h => ?_)
  exact z_aret C dJ7_copyOf_1904c_9 hr (Or.inr ⟨_, rfl⟩) (Or.inr ⟨_, rfl⟩) ⟨_, _, rfl, rfl, h⟩ (Nat.le_of_ble_eq_true rfl) (Nat.le_of_ble_eq_true rfl)
def w_Jx4a65c_grow_92f84_r32i_20 (P : Nat → zTs → Prop)  (st : zTs) (a1 : Int32) (a2 : Int32) : Prop := w_J8_newLength_cabcc_iii st a2 (a1 - a2) (a2 >>> (1 &&& 31)) (fun (r27 : Int32) (s27 : zTs) => (w_J7_copyOf_1904c_v36i s27 (zgP s27 32 0 1) r27 (fun (r37 : Nat) (s37 : zTs) => (∀ s41 : zTs, s41 = zuP s37 32 0 1 r37 → (P r37 s41)))))
set_option maxHeartbeats 4000000 in
set_option maxRecDepth 100000 in
theorem j_Jx4a65c_grow_92f84_r32i_20 {P : Nat → zTs → Prop}  (hfl : l.stackTraces = false) (C : zC Z p s m args meth c cJx4a65c_grow_92f84 4 RJx4a65c) (hr : meth.sig.returnType = (some (.array (.object "java/lang/Object")))) (hn9 : True)  (st : zTs) (a1 : Int32) (a2 : Int32) (h : w_Jx4a65c_grow_92f84_r32i_20 P st a1 a2) : zG Z ad0 h0 p l e ({ frames := 4, cells := 1, slots := 40, locals := 77 } : Room) s m args below meth c (MQ below (zQ Z ad0 h0 (zWV Z P)) args s 1 40 (zA Z)) 0 0 (zh Z zm1 st) 4 20 [some (.ref 32), some (.int (a1)), some (.int (a2)), none] [] := by
  unfold w_Jx4a65c_grow_92f84_r32i_20 at h
  refine z_iload_n C dJx4a65c_grow_92f84_20 (i := 2) rfl rfl ?_
  refine z_iload_n C dJx4a65c_grow_92f84_21 (i := 1) rfl rfl ?_
  refine z_iload_n C dJx4a65c_grow_92f84_22 (i := 2) rfl rfl ?_
  refine z_isub C dJx4a65c_grow_92f84_23 ?_
  refine z_iload_n C dJx4a65c_grow_92f84_24 (i := 2) rfl rfl ?_
  refine z_iconst C dJx4a65c_grow_92f84_25 (v := 1) (by decide) ?_
  refine z_ishr C dJx4a65c_grow_92f84_26 ?_
  refine t_callS C (rest := []) (c2 := 0) (s2 := 0) [.int (a2), .int (a1 - a2), .int (a2 >>> (1 &&& 31))] dJx4a65c_grow_92f84_27 lk_Jx4a65c_73 ls_J8_newLength_cabcc (c_J8_newLength_cabcc_iii hfl h) rfl rfl ⟨Nat.le_of_ble_eq_true rfl, Nat.le_of_ble_eq_true rfl⟩ (Nat.le_of_ble_eq_true rfl) ⟨Nat.le_of_ble_eq_true rfl, Nat.le_of_ble_eq_true rfl, Nat.le_of_ble_eq_true rfl, Nat.le_of_ble_eq_true rfl⟩ (k_Wi fun r27 s27 h => ?_)
  refine z_istore_n C dJx4a65c_grow_92f84_30 (i := 3) (lc' := [some (.ref 32), some (.int (a1)), some (.int (a2)), some (.int (r27))]) rfl (by decide) rfl ?_
  refine z_aload_n C dJx4a65c_grow_92f84_31 (i := 0) rfl rfl ?_
  refine z_aload_n C dJx4a65c_grow_92f84_32 (i := 0) rfl rfl ?_
  refine t_get C dJx4a65c_grow_92f84_33 fl_Jx4a65c_9 (k := 32) (i := 0) (by decide) rfl (fg_32_1 _ _ _) ?_
  refine z_iload_n C dJx4a65c_grow_92f84_36 (i := 3) rfl rfl ?_
  refine t_callS C (rest := [.ref 32]) (c2 := 1) (s2 := 40) [.ref (zgP s27 32 0 1), .int (r27)] dJx4a65c_grow_92f84_37 lk_Jx4a65c_66 ls_J7_copyOf_1904c (c_J7_copyOf_1904c_v36i hfl h) rfl rfl ⟨Nat.le_of_ble_eq_true rfl, Nat.le_of_ble_eq_true rfl⟩ (Nat.le_of_ble_eq_true rfl) ⟨Nat.le_of_ble_eq_true rfl, Nat.le_of_ble_eq_true rfl, Nat.le_of_ble_eq_true rfl, Nat.le_of_ble_eq_true rfl⟩ (k_WV fun r37 s37 h => ?_)
  refine z_dup_x1 C dJx4a65c_grow_92f84_40 rfl rfl ?_
  refine t_put C dJx4a65c_grow_92f84_41 fq_Jx4a65c_9 (Or.inl rfl) (k := 32) (i := 0) (by decide) rfl ⟨rfl, rfl⟩ (fp_32_1 _ _ _ _) ?_
  refine t_tops (fun s41 es41 => ?_)
  have h := h s41 es41
  exact z_aret C dJx4a65c_grow_92f84_44 hr (Or.inr ⟨_, rfl⟩) (Or.inr ⟨_, rfl⟩) ⟨_, _, rfl, rfl, h⟩ (Nat.le_of_ble_eq_true rfl) (Nat.le_of_ble_eq_true rfl)
def w_Jx4a65c_grow_92f84_r32i (st : zTs) (a1 : Int32) (P : Nat → zTs → Prop) : Prop := ((zgP st 32 0 1) = 204 ∨ (zgP st 32 0 1) % 256 = 36) ∧ ∀ x4 : Int32, x4 = (if (zgP st 32 0 1) = 204 then 0 else Int32.ofNat (zgP st 36 ((zgP st 32 0 1) / 256) 0)) → ((0 < x4 → w_Jx4a65c_grow_92f84_r32i_20 P st a1 x4) ∧ (¬ 0 < x4 → (zgP st 32 0 1 = 204) ∧ (w_J9_max_7cf53 st 10 a1 (fun (r49 : Int32) => ((¬ r49 < 0 ∧ (r49 : Int32).toNatClampNeg ≤ 40) ∧ ∀ n52 : Nat, n52 = zgN st 36 → (∀ s52 : zTs, s52 = zuX st 36 (r49 : Int32).toNatClampNeg → (∀ s56 : zTs, s56 = zuP s52 32 0 1 (36 + 256 * n52) → (P (36 + 256 * n52) s56))))))))
set_option maxHeartbeats 4000000 in
set_option maxRecDepth 100000 in
theorem c_Jx4a65c_grow_92f84_r32i {Z : zZ} {l : Launch} (hfl : l.stackTraces = false) {st : zTs} {a1 : Int32} {P : Nat → zTs → Prop} (h : w_Jx4a65c_grow_92f84_r32i st a1 P) : zN Z l yJx4a65c_grow_92f84 cJx4a65c_grow_92f84 4 (some (.array (.object "java/lang/Object"))) ({ frames := 4, cells := 1, slots := 40, locals := 77 } : Room) (zh Z zm1 st) [.ref 32, .int (a1)] (zWV Z P) := by
  unfold w_Jx4a65c_grow_92f84_r32i at h
  refine z_enterF (by decide +kernel) (Nat.le_of_ble_eq_true rfl) (lc0 := [some (.ref 32), some (.int (a1)), none, none]) rfl ?_
  intro p e s m args below meth c ad0 C hr _
  have hn9 : True := trivial
  replace C : zC Z p s m args meth c cJx4a65c_grow_92f84 4 RJx4a65c := C
  refine z_aload_n C dJx4a65c_grow_92f84_0 (i := 0) rfl rfl ?_
  refine t_get C dJx4a65c_grow_92f84_1 fl_Jx4a65c_9 (k := 32) (i := 0) (by decide) rfl (fg_32_1 _ _ _) ?_
  obtain ⟨g4, h⟩ := h
  refine t_lenV C dJx4a65c_grow_92f84_4 (by decide) (fun _ => sh_36) g4 (fun x4 ex4 => ?_)
  have h := h x4 ex4
  refine z_istore_n C dJx4a65c_grow_92f84_5 (i := 2) (lc' := [some (.ref 32), some (.int (a1)), some (.int (x4)), none]) rfl (by decide) rfl ?_
  refine z_iload_n C dJx4a65c_grow_92f84_6 (i := 2) rfl rfl ?_
  refine z_if_gt C dJx4a65c_grow_92f84_7 (tgt := 20) (by decide) (fun c7 => ?_) (fun c7 => ?_)
  · have h := h.1 c7
    exact t_drop [true, true, true, false] rfl (j_Jx4a65c_grow_92f84_r32i_20 hfl C hr hn9  st a1 x4 h)
  · have h := h.2 c7
    refine z_aload_n C dJx4a65c_grow_92f84_10 (i := 0) rfl rfl ?_
    refine t_get C dJx4a65c_grow_92f84_11 fl_Jx4a65c_9 (k := 32) (i := 0) (by decide) rfl (fg_32_1 _ _ _) ?_
    refine z_gets C dJx4a65c_grow_92f84_14 (q := 204) (by decide) gl_Jx4a65c_39 (fun z => z.2.2.2.2.2.2.1.1) ?_
    obtain ⟨g17, h⟩ := h
    rw [g17]
    refine z_acmpR_eq C dJx4a65c_grow_92f84_17 (tgt := 45) (by decide) ?_
    refine z_aload_n C dJx4a65c_grow_92f84_45 (i := 0) rfl rfl ?_
    refine z_bipush C dJx4a65c_grow_92f84_46 (v := 10) (by decide) ?_
    refine z_iload_n C dJx4a65c_grow_92f84_48 (i := 1) rfl rfl ?_
    refine t_callS C (rest := [.ref 32]) (c2 := 0) (s2 := 0) [.int (10), .int (a1)] dJx4a65c_grow_92f84_49 lk_Jx4a65c_79 ls_J9_max_7cf53 (c_J9_max_7cf53 hfl h) rfl rfl ⟨Nat.le_of_ble_eq_true rfl, Nat.le_of_ble_eq_true rfl⟩ (Nat.le_of_ble_eq_true rfl) ⟨Nat.le_of_ble_eq_true rfl, Nat.le_of_ble_eq_true rfl, Nat.le_of_ble_eq_true rfl, Nat.le_of_ble_eq_true rfl⟩ (k_Ri fun r49 h => ?_)
    obtain ⟨⟨g52a, g52b⟩, h⟩ := h
    obtain ⟨n52, g52⟩ : ∃ z : Nat, z = zgN st 36 := ⟨_, rfl⟩
    have h := h n52 g52
    refine t_newq C dJx4a65c_grow_92f84_52 kl_Jx4a65c_7 (zC_AO1 C) (t := 4) (k := 36) rfl g52a rfl (by omega) (by decide) zN_X zo_X nw_36 (c2 := 1) (s2 := 40) ⟨Nat.le_of_ble_eq_true rfl, by omega, Nat.le_of_ble_eq_true rfl, Nat.le_of_ble_eq_true rfl⟩ ?_
    rw [← g52]
    refine t_tops (fun s52 es52 => ?_)
    have h := h s52 es52
    refine z_dup_x1 C dJx4a65c_grow_92f84_55 rfl rfl ?_
    refine t_put C dJx4a65c_grow_92f84_56 fq_Jx4a65c_9 (Or.inl rfl) (k := 32) (i := 0) (by decide) rfl ⟨rfl, rfl⟩ (fp_32_1 _ _ _ _) ?_
    refine t_tops (fun s56 es56 => ?_)
    have h := h s56 es56
    exact z_aret C dJx4a65c_grow_92f84_59 hr (Or.inr ⟨_, rfl⟩) (Or.inr ⟨_, rfl⟩) ⟨_, _, rfl, rfl, h⟩ (Nat.le_of_ble_eq_true rfl) (Nat.le_of_ble_eq_true rfl)
def w_Jx4a65c_grow_d5877_r32 (st : zTs)  (P : Nat → zTs → Prop) : Prop := w_Jx4a65c_grow_92f84_r32i st ((zgF st 32 0 2) + 1) (fun (r7 : Nat) (s7 : zTs) => (P r7 s7))
set_option maxHeartbeats 4000000 in
set_option maxRecDepth 100000 in
theorem c_Jx4a65c_grow_d5877_r32 {Z : zZ} {l : Launch} (hfl : l.stackTraces = false) {st : zTs}  {P : Nat → zTs → Prop} (h : w_Jx4a65c_grow_d5877_r32 st  P) : zN Z l yJx4a65c_grow_d5877 cJx4a65c_grow_d5877 1 (some (.array (.object "java/lang/Object"))) ({ frames := 5, cells := 1, slots := 40, locals := 100 } : Room) (zh Z zm1 st) [.ref 32] (zWV Z P) := by
  unfold w_Jx4a65c_grow_d5877_r32 at h
  refine z_enterF (by decide +kernel) (Nat.le_of_ble_eq_true rfl) (lc0 := [some (.ref 32)]) rfl ?_
  intro p e s m args below meth c ad0 C hr _
  have hn9 : True := trivial
  replace C : zC Z p s m args meth c cJx4a65c_grow_d5877 1 RJx4a65c := C
  refine z_aload_n C dJx4a65c_grow_d5877_0 (i := 0) rfl rfl ?_
  refine z_aload_n C dJx4a65c_grow_d5877_1 (i := 0) rfl rfl ?_
  refine t_get C dJx4a65c_grow_d5877_2 fl_Jx4a65c_48 (k := 32) (i := 0) (by decide) rfl (fg_32_2 _ _ _) ?_
  refine z_iconst C dJx4a65c_grow_d5877_5 (v := 1) (by decide) ?_
  refine z_iadd C dJx4a65c_grow_d5877_6 ?_
  refine t_callV C (rest := []) (c2 := 1) (s2 := 40) (kd := 32) (i := 0) [.int ((zgF st 32 0 2) + 1)] dJx4a65c_grow_d5877_7 lk_Jx4a65c_69 li_Jx4a65c_grow_92f84 le_Jx4a65c_grow_92f84 (c_Jx4a65c_grow_92f84_r32i hfl h) rfl rfl (by decide) rfl ⟨_, rfl⟩ rfl ⟨Nat.le_of_ble_eq_true rfl, Nat.le_of_ble_eq_true rfl⟩ (Nat.le_of_ble_eq_true rfl) ⟨Nat.le_of_ble_eq_true rfl, Nat.le_of_ble_eq_true rfl, Nat.le_of_ble_eq_true rfl, Nat.le_of_ble_eq_true rfl⟩ (k_WV fun r7 s7 h => ?_)
  exact z_aret C dJx4a65c_grow_d5877_10 hr (Or.inr ⟨_, rfl⟩) (Or.inr ⟨_, rfl⟩) ⟨_, _, rfl, rfl, h⟩ (Nat.le_of_ble_eq_true rfl) (Nat.le_of_ble_eq_true rfl)
def w_Jx4a65c_add_72be8_r32r22v36i_11 (P : zTs → Prop)  (st : zTs) (a1 : Nat) (a2 : Nat) (a3 : Int32) : Prop := (a2 % 256 = 36 ∧ vp_in a3 (zgP st 36 (a2 / 256) 0) ∧ (a3 : Int32).toNatClampNeg = zgL st 36 (a2 / 256) ∧ a1 = zgL st 36 (a2 / 256)) ∧ (∀ s14 : zTs, s14 = zuL st 36 (a2 / 256) (zgL st 36 (a2 / 256) + 1) → (∀ s19 : zTs, s19 = zuF s14 32 0 2 (a3 + 1) → (P s19)))
set_option maxHeartbeats 4000000 in
set_option maxRecDepth 100000 in
theorem j_Jx4a65c_add_72be8_r32r22v36i_11 {P : zTs → Prop}  (hfl : l.stackTraces = false) (C : zC Z p s m args meth c cJx4a65c_add_72be8 4 RJx4a65c) (hr : meth.sig.returnType = none) (hn9 : True)  (st : zTs) (a1 : Nat) (a2 : Nat) (a3 : Int32) (h : w_Jx4a65c_add_72be8_r32r22v36i_11 P st a1 a2 a3) : zG Z ad0 h0 p l e ({ frames := 6, cells := 1, slots := 40, locals := 120 } : Room) s m args below meth c (MQ below (zQ Z ad0 h0 (zWv Z zm1 P)) args s 1 40 (zA Z)) 1 40 (zh Z zm1 st) 4 11 [some (.ref 32), some (.ref (22 + 256 * a1)), some (.ref (a2)), some (.int (a3))] [] := by
  unfold w_Jx4a65c_add_72be8_r32r22v36i_11 at h
  refine z_aload_n C dJx4a65c_add_72be8_11 (i := 2) rfl rfl ?_
  refine z_iload_n C dJx4a65c_add_72be8_12 (i := 3) rfl rfl ?_
  refine z_aload_n C dJx4a65c_add_72be8_13 (i := 1) rfl rfl ?_
  obtain ⟨⟨g14, g14b, g14c, g14d⟩, h⟩ := h
  refine t_astdO C dJx4a65c_add_72be8_14 (k0 := 36) (el := 22) (by decide) (by decide) g14 (fun s9 e9 => by rw [sh_36, e9]) rfl ⟨_, rfl⟩ rfl (by decide) g14b g14c g14d ?_
  refine t_tops (fun s14 es14 => ?_)
  have h := h s14 es14
  refine z_aload_n C dJx4a65c_add_72be8_15 (i := 0) rfl rfl ?_
  refine z_iload_n C dJx4a65c_add_72be8_16 (i := 3) rfl rfl ?_
  refine z_iconst C dJx4a65c_add_72be8_17 (v := 1) (by decide) ?_
  refine z_iadd C dJx4a65c_add_72be8_18 ?_
  refine t_put C dJx4a65c_add_72be8_19 fq_Jx4a65c_48 (Or.inl rfl) (k := 32) (i := 0) (by decide) rfl ⟨rfl, rfl⟩ (fp_32_2 _ _ _ _ _) ?_
  refine t_tops (fun s19 es19 => ?_)
  have h := h s19 es19
  exact z_vret C dJx4a65c_add_72be8_22 hr ⟨_, rfl, rfl, h⟩ (Nat.le_of_ble_eq_true rfl) (Nat.le_of_ble_eq_true rfl)
def w_Jx4a65c_add_72be8_r32r22v36i (st : zTs) (a1 : Nat) (a2 : Nat) (a3 : Int32) (P : zTs → Prop) : Prop := (a2 = 204 ∨ a2 % 256 = 36) ∧ ∀ x2 : Int32, x2 = (if a2 = 204 then 0 else Int32.ofNat (zgP st 36 (a2 / 256) 0)) → ((a3 = x2 → w_Jx4a65c_grow_d5877_r32 st (fun (r7 : Nat) (s7 : zTs) => (w_Jx4a65c_add_72be8_r32r22v36i_11 P s7 a1 r7 a3))) ∧ (¬ a3 = x2 → w_Jx4a65c_add_72be8_r32r22v36i_11 P st a1 a2 a3))
set_option maxHeartbeats 4000000 in
set_option maxRecDepth 100000 in
theorem c_Jx4a65c_add_72be8_r32r22v36i {Z : zZ} {l : Launch} (hfl : l.stackTraces = false) {st : zTs} {a1 : Nat} {a2 : Nat} {a3 : Int32} {P : zTs → Prop} (h : w_Jx4a65c_add_72be8_r32r22v36i st a1 a2 a3 P) : zN Z l yJx4a65c_add_72be8 cJx4a65c_add_72be8 4 none ({ frames := 6, cells := 1, slots := 40, locals := 120 } : Room) (zh Z zm1 st) [.ref 32, .ref (22 + 256 * a1), .ref (a2), .int (a3)] (zWv Z zm1 P) := by
  unfold w_Jx4a65c_add_72be8_r32r22v36i at h
  refine z_enterF (by decide +kernel) (Nat.le_of_ble_eq_true rfl) (lc0 := [some (.ref 32), some (.ref (22 + 256 * a1)), some (.ref (a2)), some (.int (a3))]) rfl ?_
  intro p e s m args below meth c ad0 C hr _
  have hn9 : True := trivial
  replace C : zC Z p s m args meth c cJx4a65c_add_72be8 4 RJx4a65c := C
  refine z_iload_n C dJx4a65c_add_72be8_0 (i := 3) rfl rfl ?_
  refine z_aload_n C dJx4a65c_add_72be8_1 (i := 2) rfl rfl ?_
  obtain ⟨g2, h⟩ := h
  refine t_lenV C dJx4a65c_add_72be8_2 (by decide) (fun _ => sh_36) g2 (fun x2 ex2 => ?_)
  have h := h x2 ex2
  refine z_icmp_ne C dJx4a65c_add_72be8_3 (tgt := 11) (by decide) (fun c3 => ?_) (fun c3 => ?_)
  · have h := h.2 c3
    refine zG.wide (c2 := 1) (s2 := 40) (Nat.le_of_ble_eq_true rfl) (Nat.le_of_ble_eq_true rfl) ?_
    exact t_drop [true, true, true, true] rfl (j_Jx4a65c_add_72be8_r32r22v36i_11 hfl C hr hn9  st a1 a2 a3 h)
  · have h := h.1 c3
    refine z_aload_n C dJx4a65c_add_72be8_6 (i := 0) rfl rfl ?_
    refine t_callV C (rest := []) (c2 := 1) (s2 := 40) (kd := 32) (i := 0) [] dJx4a65c_add_72be8_7 lk_Jx4a65c_129 li_Jx4a65c_grow_d5877 le_Jx4a65c_grow_d5877 (c_Jx4a65c_grow_d5877_r32 hfl h) rfl rfl (by decide) rfl ⟨_, rfl⟩ rfl ⟨Nat.le_of_ble_eq_true rfl, Nat.le_of_ble_eq_true rfl⟩ (Nat.le_of_ble_eq_true rfl) ⟨Nat.le_of_ble_eq_true rfl, Nat.le_of_ble_eq_true rfl, Nat.le_of_ble_eq_true rfl, Nat.le_of_ble_eq_true rfl⟩ (k_WV fun r7 s7 h => ?_)
    refine z_astore_n C dJx4a65c_add_72be8_10 (i := 2) (lc' := [some (.ref 32), some (.ref (22 + 256 * a1)), some (.ref (r7)), some (.int (a3))]) rfl (by decide) rfl ?_
    exact t_drop [true, true, true, true] rfl (j_Jx4a65c_add_72be8_r32r22v36i_11 hfl C hr hn9  s7 a1 r7 a3 h)
def w_Jx4a65c_add_9ea2d_r32r22 (st : zTs) (a1 : Nat) (P : Int32 → zTs → Prop) : Prop := ∀ s7 : zTs, s7 = zuF st 32 0 0 ((zgF st 32 0 0) + 1) → (w_Jx4a65c_add_72be8_r32r22v36i s7 a1 (zgP s7 32 0 1) (zgF s7 32 0 2) (fun (s20 : zTs) => (P 1 s20)))
set_option maxHeartbeats 4000000 in
set_option maxRecDepth 100000 in
theorem c_Jx4a65c_add_9ea2d_r32r22 {Z : zZ} {l : Launch} (hfl : l.stackTraces = false) {st : zTs} {a1 : Nat} {P : Int32 → zTs → Prop} (h : w_Jx4a65c_add_9ea2d_r32r22 st a1 P) : zN Z l yJx4a65c_add_9ea2d cJx4a65c_add_9ea2d 2 (some .boolean) ({ frames := 7, cells := 1, slots := 40, locals := 143 } : Room) (zh Z zm1 st) [.ref 32, .ref (22 + 256 * a1)] (zWi Z P) := by
  unfold w_Jx4a65c_add_9ea2d_r32r22 at h
  refine z_enterF (by decide +kernel) (Nat.le_of_ble_eq_true rfl) (lc0 := [some (.ref 32), some (.ref (22 + 256 * a1))]) rfl ?_
  intro p e s m args below meth c ad0 C hr _
  have hn9 : True := trivial
  replace C : zC Z p s m args meth c cJx4a65c_add_9ea2d 2 RJx4a65c := C
  refine z_aload_n C dJx4a65c_add_9ea2d_0 (i := 0) rfl rfl ?_
  refine z_dup C dJx4a65c_add_9ea2d_1 rfl ?_
  refine t_getS C dJx4a65c_add_9ea2d_2 fz_Jx4a65c_63 (k := 32) (i := 0) (by decide) rfl (fg_32_0 _ _ _) ?_
  refine z_iconst C dJx4a65c_add_9ea2d_5 (v := 1) (by decide) ?_
  refine z_iadd C dJx4a65c_add_9ea2d_6 ?_
  refine t_putS C dJx4a65c_add_9ea2d_7 fz_Jx4a65c_63 (k := 32) (i := 0) (by decide) rfl (fp_32_0 _ _ _ _ _) ?_
  refine t_tops (fun s7 es7 => ?_)
  have h := h s7 es7
  refine z_aload_n C dJx4a65c_add_9ea2d_10 (i := 0) rfl rfl ?_
  refine z_aload_n C dJx4a65c_add_9ea2d_11 (i := 1) rfl rfl ?_
  refine z_aload_n C dJx4a65c_add_9ea2d_12 (i := 0) rfl rfl ?_
  refine t_get C dJx4a65c_add_9ea2d_13 fl_Jx4a65c_9 (k := 32) (i := 0) (by decide) rfl (fg_32_1 _ _ _) ?_
  refine z_aload_n C dJx4a65c_add_9ea2d_16 (i := 0) rfl rfl ?_
  refine t_get C dJx4a65c_add_9ea2d_17 fl_Jx4a65c_48 (k := 32) (i := 0) (by decide) rfl (fg_32_2 _ _ _) ?_
  refine t_callV C (rest := []) (c2 := 1) (s2 := 40) (kd := 32) (i := 0) [.ref (22 + 256 * a1), .ref (zgP s7 32 0 1), .int (zgF s7 32 0 2)] dJx4a65c_add_9ea2d_20 lk_Jx4a65c_131 li_Jx4a65c_add_72be8 le_Jx4a65c_add_72be8 (c_Jx4a65c_add_72be8_r32r22v36i hfl h) rfl rfl (by decide) rfl ⟨_, rfl⟩ rfl ⟨Nat.le_of_ble_eq_true rfl, Nat.le_of_ble_eq_true rfl⟩ (Nat.le_of_ble_eq_true rfl) ⟨Nat.le_of_ble_eq_true rfl, Nat.le_of_ble_eq_true rfl, Nat.le_of_ble_eq_true rfl, Nat.le_of_ble_eq_true rfl⟩ (k_Wv fun s20 h => ?_)
  refine z_iconst C dJx4a65c_add_9ea2d_23 (v := 1) (by decide) ?_
  exact z_iret C dJx4a65c_add_9ea2d_24 hr rfl ⟨_, _, rfl, rfl, h⟩ (Nat.le_of_ble_eq_true rfl) (Nat.le_of_ble_eq_true rfl)
def w_X11_survey (st : zTs) (a1 : Int32) (X : Nat → zTs → Prop) (P : Int32 → zTs → Prop) : Prop := w_X11_checkIndex st a1 (zgF st 10 0 14) (fun k9 => X k9 st) ((w_Jx4a65c_size_8abf5_r32 st (fun (r12 : Int32) => (w_X11_checkRoom st r12 10 (fun k9 => X k9 st) ((∀ n24 : Nat, n24 = zgN st 22 → (∀ s24 : zTs, s24 = zuW st 22 → (vp_in a1 5 ∧ (w_X7_init s24 (zm0 zm1 22 n24) n24 (zgA s24 42 0 (a1 : Int32).toNatClampNeg) (fun (s34 : zTs) => (w_Jx4a65c_add_9ea2d_r32r22 s34 n24 (fun (r37 : Int32) (s37 : zTs) => (w_Jx4a65c_size_8abf5_r32 s37 (fun (r45 : Int32) => (P (r45 - 1) s37)))))))))))))))
set_option maxHeartbeats 4000000 in
set_option maxRecDepth 100000 in
theorem c_X11_survey {Z : zZ} {l : Launch} (hfl : l.stackTraces = false) {st : zTs} {a1 : Int32} {X : Nat → zTs → Prop} {P : Int32 → zTs → Prop} (h : w_X11_survey st a1 X P) : zM Z l yX11_survey cX11_survey 2 (some .int) ({ frames := 9, cells := 6, slots := 96, locals := 164 } : Room) (zh Z zm1 st) [.ref 10, .int (a1)] (zWi Z P) (zXs Z X) := by
  unfold w_X11_survey at h
  refine z_enterM (by decide) (Nat.le_of_ble_eq_true rfl) (lc0 := [some (.ref 10), some (.int (a1))]) rfl ?_
  intro p e s m args below meth c ad0 C hr hex
  replace C : zC Z p s m args meth c cX11_survey 2 RX11 := C
  refine z_iload_n C dX11_survey_0 (i := 1) rfl rfl ?_
  refine z_aload_n C dX11_survey_1 (i := 0) rfl rfl ?_
  refine t_get C dX11_survey_2 fl_X11_361 (k := 10) (i := 0) (by decide) rfl (fg_10_14 _ _ _) ?_
  refine t_callSM C hex (rest := []) (c2 := 1) (s2 := 6) [.int (a1), .int (zgF st 10 0 14)] dX11_survey_5 lk_X11_77 ls_X11_checkIndex (c_X11_checkIndex hfl h) rfl rfl ⟨Nat.le_of_ble_eq_true rfl, Nat.le_of_ble_eq_true rfl⟩ (Nat.le_of_ble_eq_true rfl) ⟨Nat.le_of_ble_eq_true rfl, Nat.le_of_ble_eq_true rfl, Nat.le_of_ble_eq_true rfl, Nat.le_of_ble_eq_true rfl⟩ (fun _ _ q => ⟨_, q.1, q.2⟩) ⟨Nat.le_of_ble_eq_true rfl, Nat.le_of_ble_eq_true rfl⟩ (k_Rv fun h => ?_)
  refine z_aload_n C dX11_survey_8 (i := 0) rfl rfl ?_
  refine t_get C dX11_survey_9 fl_X11_19 (k := 10) (i := 0) (by decide) rfl (fg_10_2 _ _ _) ?_
  refine t_callV C (rest := []) (c2 := 1) (s2 := 6) (kd := 32) (i := 0) [] dX11_survey_12 lk_X11_80 li_Jx4a65c_size_8abf5 le_Jx4a65c_size_8abf5 (c_Jx4a65c_size_8abf5_r32 hfl h) rfl rfl (by decide) rfl ⟨_, rfl⟩ rfl ⟨Nat.le_of_ble_eq_true rfl, Nat.le_of_ble_eq_true rfl⟩ (Nat.le_of_ble_eq_true rfl) ⟨Nat.le_of_ble_eq_true rfl, Nat.le_of_ble_eq_true rfl, Nat.le_of_ble_eq_true rfl, Nat.le_of_ble_eq_true rfl⟩ (k_Ri fun r12 h => ?_)
  refine z_bipush C dX11_survey_15 (v := 10) (by decide) ?_
  refine t_callSM C hex (rest := []) (c2 := 2) (s2 := 12) [.int (r12), .int (10)] dX11_survey_17 lk_X11_73 ls_X11_checkRoom (c_X11_checkRoom hfl h) rfl rfl ⟨Nat.le_of_ble_eq_true rfl, Nat.le_of_ble_eq_true rfl⟩ (Nat.le_of_ble_eq_true rfl) ⟨Nat.le_of_ble_eq_true rfl, Nat.le_of_ble_eq_true rfl, Nat.le_of_ble_eq_true rfl, Nat.le_of_ble_eq_true rfl⟩ (fun _ _ q => ⟨_, q.1, q.2⟩) ⟨Nat.le_of_ble_eq_true rfl, Nat.le_of_ble_eq_true rfl⟩ (k_Rv fun h => ?_)
  refine z_aload_n C dX11_survey_20 (i := 0) rfl rfl ?_
  refine t_get C dX11_survey_21 fl_X11_19 (k := 10) (i := 0) (by decide) rfl (fg_10_2 _ _ _) ?_
  obtain ⟨n24, g24⟩ : ∃ z : Nat, z = zgN st 22 := ⟨_, rfl⟩
  have h := h n24 g24
  refine t_new C dX11_survey_24 nl_X11_364 rfl (by decide) nw_22 (c2 := 3) (s2 := 16) ⟨Nat.le_of_ble_eq_true rfl, Nat.le_of_ble_eq_true rfl, Nat.le_of_ble_eq_true rfl, Nat.le_of_ble_eq_true rfl⟩ ?_
  rw [← g24]
  refine t_tops (fun s24 es24 => ?_)
  have h := h s24 es24
  refine z_dup C dX11_survey_27 rfl ?_
  refine z_aload_n C dX11_survey_28 (i := 0) rfl rfl ?_
  refine t_get C dX11_survey_29 fl_X11_32 (k := 10) (i := 0) (by decide) rfl ⟨_, rfl, congrArg some (if_pos (by simp [zms, zm0, zm1, zp2, zp1]))⟩ ?_
  refine z_iload_n C dX11_survey_32 (i := 1) rfl rfl ?_
  obtain ⟨g33, h⟩ := h
  refine t_iald C dX11_survey_33 (k := 42) (i := 0) (by decide) rfl (sh_42 _ _ _ _) g33 ?_
  refine t_callI C (rest := [.ref (22 + 256 * n24), .ref 32]) (c2 := 5) (s2 := 56) [.int (zgA s24 42 0 (a1 : Int32).toNatClampNeg)] dX11_survey_34 lk_X11_366 lnm_X7_init rfl (c_X7_init hfl h) rfl rfl ⟨Nat.le_of_ble_eq_true rfl, Nat.le_of_ble_eq_true rfl⟩ (Nat.le_of_ble_eq_true rfl) ⟨Nat.le_of_ble_eq_true rfl, Nat.le_of_ble_eq_true rfl, Nat.le_of_ble_eq_true rfl, Nat.le_of_ble_eq_true rfl⟩ (k_Wv fun s34 h => ?_)
  refine t_mask (mk' := zm1) (k := 22) (i := n24) (fun k9 i9 g9 => by simp only [zms, zm0, zp2_ne g9]) (nm_22 (g1 := by simp [zms, zm0, zm1, zp2, zp1]) (g2 := by simp [zms, zm0, zm1, zp2, zp1]) (f1 := rfl) (f2 := rfl)) ?_
  refine t_callV C (rest := []) (c2 := 6) (s2 := 96) (kd := 32) (i := 0) [.ref (22 + 256 * n24)] dX11_survey_37 lk_X11_88 li_Jx4a65c_add_9ea2d le_Jx4a65c_add_9ea2d (c_Jx4a65c_add_9ea2d_r32r22 hfl h) rfl rfl (by decide) rfl ⟨_, rfl⟩ rfl ⟨Nat.le_of_ble_eq_true rfl, Nat.le_of_ble_eq_true rfl⟩ (Nat.le_of_ble_eq_true rfl) ⟨Nat.le_of_ble_eq_true rfl, Nat.le_of_ble_eq_true rfl, Nat.le_of_ble_eq_true rfl, Nat.le_of_ble_eq_true rfl⟩ (k_Wi fun r37 s37 h => ?_)
  refine z_pop C dX11_survey_40 rfl ?_
  refine z_aload_n C dX11_survey_41 (i := 0) rfl rfl ?_
  refine t_get C dX11_survey_42 fl_X11_19 (k := 10) (i := 0) (by decide) rfl (fg_10_2 _ _ _) ?_
  refine t_callV C (rest := []) (c2 := 6) (s2 := 96) (kd := 32) (i := 0) [] dX11_survey_45 lk_X11_80 li_Jx4a65c_size_8abf5 le_Jx4a65c_size_8abf5 (c_Jx4a65c_size_8abf5_r32 hfl h) rfl rfl (by decide) rfl ⟨_, rfl⟩ rfl ⟨Nat.le_of_ble_eq_true rfl, Nat.le_of_ble_eq_true rfl⟩ (Nat.le_of_ble_eq_true rfl) ⟨Nat.le_of_ble_eq_true rfl, Nat.le_of_ble_eq_true rfl, Nat.le_of_ble_eq_true rfl, Nat.le_of_ble_eq_true rfl⟩ (k_Ri fun r45 h => ?_)
  refine z_iconst C dX11_survey_48 (v := 1) (by decide) ?_
  refine z_isub C dX11_survey_49 ?_
  exact zG.up (z_iret C dX11_survey_50 hr rfl ⟨_, _, rfl, rfl, h⟩ (Nat.le_of_ble_eq_true rfl) (Nat.le_of_ble_eq_true rfl))
def w_J7_copyOf_6403c_v37ic207_24 (P : Nat → zTs → Prop)  (st : zTs) (a0 : Nat) (a1 : Int32) (b0 : Nat) : Prop := (a0 = 204 ∨ a0 % 256 = 37) ∧ ∀ x30 : Int32, x30 = (if a0 = 204 then 0 else Int32.ofNat (zgP st 37 (a0 / 256) 0)) → (w_J9_min_7cf53 st x30 a1 (fun (r32 : Int32) => ((a0 % 256 = 37 ∧ b0 % 256 = 37 ∧ (¬ a0 / 256 = b0 / 256) ∧ ¬ r32 < 0 ∧ (r32 : Int32).toNatClampNeg ≤ zgP st 37 (a0 / 256) 0 ∧ (r32 : Int32).toNatClampNeg ≤ zgP st 37 (b0 / 256) 0 ∧ zgL st 37 (a0 / 256) ≤ (r32 : Int32).toNatClampNeg ∧ zgL st 37 (b0 / 256) = 0 ∧ zgL st 37 (a0 / 256) ≤ zgN st 23) ∧ (∀ s35 : zTs, s35 = zuL st 37 (b0 / 256) (zgL st 37 (a0 / 256)) → (P b0 s35)))))
set_option maxHeartbeats 4000000 in
set_option maxRecDepth 100000 in
theorem j_J7_copyOf_6403c_v37ic207_24 {P : Nat → zTs → Prop}  (hfl : l.stackTraces = false) (C : zC Z p s m args meth c cJ7_copyOf_6403c 4 RJ7) (hr : meth.sig.returnType = (some (.array (.object "java/lang/Object")))) (hn9 : True)  (st : zTs) (a0 : Nat) (a1 : Int32) (b0 : Nat) (h : w_J7_copyOf_6403c_v37ic207_24 P st a0 a1 b0) : zG Z ad0 h0 p l e ({ frames := 2, cells := 1, slots := 40, locals := 33 } : Room) s m args below meth c (MQ below (zQ Z ad0 h0 (zWV Z P)) args s 1 40 (zA Z)) 1 40 (zh Z zm1 st) 4 24 [some (.ref (a0)), some (.int (a1)), none, none] [.ref (b0)] := by
  unfold w_J7_copyOf_6403c_v37ic207_24 at h
  refine z_astore_n C dJ7_copyOf_6403c_24 (i := 3) (lc' := [some (.ref (a0)), some (.int (a1)), none, some (.ref (b0))]) rfl (by decide) rfl ?_
  refine z_aload_n C dJ7_copyOf_6403c_25 (i := 0) rfl rfl ?_
  refine z_iconst C dJ7_copyOf_6403c_26 (v := 0) (by decide) ?_
  refine z_aload_n C dJ7_copyOf_6403c_27 (i := 3) rfl rfl ?_
  refine z_iconst C dJ7_copyOf_6403c_28 (v := 0) (by decide) ?_
  refine z_aload_n C dJ7_copyOf_6403c_29 (i := 0) rfl rfl ?_
  obtain ⟨g30, h⟩ := h
  refine t_lenV C dJ7_copyOf_6403c_30 (by decide) (fun _ => sh_37) g30 (fun x30 ex30 => ?_)
  have h := h x30 ex30
  refine z_iload_n C dJ7_copyOf_6403c_31 (i := 1) rfl rfl ?_
  refine t_callS C (rest := [.int (0), .ref (b0), .int (0), .ref (a0)]) (c2 := 1) (s2 := 40) [.int (x30), .int (a1)] dJ7_copyOf_6403c_32 lk_J7_304 ls_J9_min_7cf53 (c_J9_min_7cf53 hfl h) rfl rfl ⟨Nat.le_of_ble_eq_true rfl, Nat.le_of_ble_eq_true rfl⟩ (Nat.le_of_ble_eq_true rfl) ⟨Nat.le_of_ble_eq_true rfl, Nat.le_of_ble_eq_true rfl, Nat.le_of_ble_eq_true rfl, Nat.le_of_ble_eq_true rfl⟩ (k_Ri fun r32 h => ?_)
  obtain ⟨⟨q1, q2, q3, q4, q5, q6, q7, q8, q9⟩, h⟩ := h
  refine t_cpQ C dJ7_copyOf_6403c_35 lcp_J7_150 (k0 := 37) (el := 23) (by decide) (by decide) q1 q2 q3 (fun _ _ => sh_37) rfl rfl (fun _ => ⟨_, rfl⟩) rfl (by decide) (fun y hy => by omega) q4 q5 q6 q7 q8 ⟨Nat.le_of_ble_eq_true rfl, Nat.le_of_ble_eq_true rfl⟩ ?_
  refine t_tops (fun s35 es35 => ?_)
  have h := h s35 es35
  refine z_aload_n C dJ7_copyOf_6403c_38 (i := 3) rfl rfl ?_
  exact z_aret C dJ7_copyOf_6403c_39 hr (Or.inr ⟨_, rfl⟩) (Or.inr ⟨_, rfl⟩) ⟨_, _, rfl, rfl, h⟩ (Nat.le_of_ble_eq_true rfl) (Nat.le_of_ble_eq_true rfl)
def w_J7_copyOf_6403c_v37ic207 (st : zTs) (a0 : Nat) (a1 : Int32) (P : Nat → zTs → Prop) : Prop := (¬ a1 < 0 ∧ (a1 : Int32).toNatClampNeg ≤ 40) ∧ ∀ n7 : Nat, n7 = zgN st 37 → (∀ s7 : zTs, s7 = zuX st 37 (a1 : Int32).toNatClampNeg → (w_J7_copyOf_6403c_v37ic207_24 P s7 a0 a1 (37 + 256 * n7)))
set_option maxHeartbeats 4000000 in
set_option maxRecDepth 100000 in
theorem c_J7_copyOf_6403c_v37ic207 {Z : zZ} {l : Launch} (hfl : l.stackTraces = false) {st : zTs} {a0 : Nat} {a1 : Int32} {P : Nat → zTs → Prop} (h : w_J7_copyOf_6403c_v37ic207 st a0 a1 P) : zN Z l yJ7_copyOf_6403c cJ7_copyOf_6403c 4 (some (.array (.object "java/lang/Object"))) ({ frames := 2, cells := 1, slots := 40, locals := 33 } : Room) (zh Z zm1 st) [.ref (a0), .int (a1), .ref 207] (zWV Z P) := by
  unfold w_J7_copyOf_6403c_v37ic207 at h
  refine z_enterF (by decide +kernel) (Nat.le_of_ble_eq_true rfl) (lc0 := [some (.ref (a0)), some (.int (a1)), some (.ref 207), none]) rfl ?_
  intro p e s m args below meth c ad0 C hr _
  have hn9 : True := trivial
  replace C : zC Z p s m args meth c cJ7_copyOf_6403c 4 RJ7 := C
  refine z_aload_n C dJ7_copyOf_6403c_0 (i := 2) rfl rfl ?_
  refine z_ldcM C dJ7_copyOf_6403c_1 kl_J7_110 ?_
  refine z_acmpR_ne C dJ7_copyOf_6403c_3 (tgt := 13) (by decide) ?_
  refine z_iload_n C dJ7_copyOf_6403c_6 (i := 1) rfl rfl ?_
  obtain ⟨⟨g7a, g7b⟩, h⟩ := h
  obtain ⟨n7, g7⟩ : ∃ z : Nat, z = zgN st 37 := ⟨_, rfl⟩
  have h := h n7 g7
  refine t_newq C dJ7_copyOf_6403c_7 kl_J7_2 (zC_AO1 C) (t := 4) (k := 37) rfl g7a rfl (by omega) (by decide) zN_X zo_X nw_37 (c2 := 1) (s2 := 40) ⟨Nat.le_of_ble_eq_true rfl, by omega, Nat.le_of_ble_eq_true rfl, Nat.le_of_ble_eq_true rfl⟩ ?_
  rw [← g7]
  refine t_tops (fun s7 es7 => ?_)
  have h := h s7 es7
  refine z_goto C dJ7_copyOf_6403c_10 (tgt := 24) (by decide) ?_
  exact t_drop [true, true, false, false] rfl (j_J7_copyOf_6403c_v37ic207_24 hfl C hr hn9  s7 a0 a1 (37 + 256 * n7) h)
def w_J7_copyOf_1904c_v37i (st : zTs) (a0 : Nat) (a1 : Int32) (P : Nat → zTs → Prop) : Prop := (a0 % 256 = 37) ∧ (w_J7_copyOf_6403c_v37ic207 st a0 a1 (fun (r6 : Nat) (s6 : zTs) => (P r6 s6)))
set_option maxHeartbeats 4000000 in
set_option maxRecDepth 100000 in
theorem c_J7_copyOf_1904c_v37i {Z : zZ} {l : Launch} (hfl : l.stackTraces = false) {st : zTs} {a0 : Nat} {a1 : Int32} {P : Nat → zTs → Prop} (h : w_J7_copyOf_1904c_v37i st a0 a1 P) : zN Z l yJ7_copyOf_1904c cJ7_copyOf_1904c 2 (some (.array (.object "java/lang/Object"))) ({ frames := 3, cells := 1, slots := 40, locals := 56 } : Room) (zh Z zm1 st) [.ref (a0), .int (a1)] (zWV Z P) := by
  unfold w_J7_copyOf_1904c_v37i at h
  refine z_enterF (by decide +kernel) (Nat.le_of_ble_eq_true rfl) (lc0 := [some (.ref (a0)), some (.int (a1))]) rfl ?_
  intro p e s m args below meth c ad0 C hr _
  have hn9 : True := trivial
  replace C : zC Z p s m args meth c cJ7_copyOf_1904c 2 RJ7 := C
  refine z_aload_n C dJ7_copyOf_1904c_0 (i := 0) rfl rfl ?_
  refine z_iload_n C dJ7_copyOf_1904c_1 (i := 1) rfl rfl ?_
  refine z_aload_n C dJ7_copyOf_1904c_2 (i := 0) rfl rfl ?_
  obtain ⟨g3, h⟩ := h
  refine t_getC C dJ7_copyOf_1904c_3 lgc_1 lgc_2 lgc_3 lgc_4 (by decide) g3 sh_37 ⟨Nat.le_of_ble_eq_true rfl, Nat.le_of_ble_eq_true rfl⟩ ?_
  refine t_callS C (rest := []) (c2 := 1) (s2 := 40) [.ref (a0), .int (a1), .ref 207] dJ7_copyOf_1904c_6 lk_J7_300 ls_J7_copyOf_6403c (c_J7_copyOf_6403c_v37ic207 hfl h) rfl rfl ⟨Nat.le_of_ble_eq_true rfl, Nat.le_of_ble_eq_true rfl⟩ (Nat.le_of_ble_eq_true rfl) ⟨Nat.le_of_ble_eq_true rfl, Nat.le_of_ble_eq_true rfl, Nat.le_of_ble_eq_true rfl, Nat.le_of_ble_eq_true rfl⟩ (k_WV fun r6 s6 h => ?_)
  exact z_aret C dJ7_copyOf_1904c_9 hr (Or.inr ⟨_, rfl⟩) (Or.inr ⟨_, rfl⟩) ⟨_, _, rfl, rfl, h⟩ (Nat.le_of_ble_eq_true rfl) (Nat.le_of_ble_eq_true rfl)
def w_Jx4a65c_grow_92f84_r33i_20 (P : Nat → zTs → Prop)  (st : zTs) (a1 : Int32) (a2 : Int32) : Prop := w_J8_newLength_cabcc_iii st a2 (a1 - a2) (a2 >>> (1 &&& 31)) (fun (r27 : Int32) (s27 : zTs) => (w_J7_copyOf_1904c_v37i s27 (zgP s27 33 0 1) r27 (fun (r37 : Nat) (s37 : zTs) => (∀ s41 : zTs, s41 = zuP s37 33 0 1 r37 → (P r37 s41)))))
set_option maxHeartbeats 4000000 in
set_option maxRecDepth 100000 in
theorem j_Jx4a65c_grow_92f84_r33i_20 {P : Nat → zTs → Prop}  (hfl : l.stackTraces = false) (C : zC Z p s m args meth c cJx4a65c_grow_92f84 4 RJx4a65c) (hr : meth.sig.returnType = (some (.array (.object "java/lang/Object")))) (hn9 : True)  (st : zTs) (a1 : Int32) (a2 : Int32) (h : w_Jx4a65c_grow_92f84_r33i_20 P st a1 a2) : zG Z ad0 h0 p l e ({ frames := 4, cells := 1, slots := 40, locals := 77 } : Room) s m args below meth c (MQ below (zQ Z ad0 h0 (zWV Z P)) args s 1 40 (zA Z)) 0 0 (zh Z zm1 st) 4 20 [some (.ref 33), some (.int (a1)), some (.int (a2)), none] [] := by
  unfold w_Jx4a65c_grow_92f84_r33i_20 at h
  refine z_iload_n C dJx4a65c_grow_92f84_20 (i := 2) rfl rfl ?_
  refine z_iload_n C dJx4a65c_grow_92f84_21 (i := 1) rfl rfl ?_
  refine z_iload_n C dJx4a65c_grow_92f84_22 (i := 2) rfl rfl ?_
  refine z_isub C dJx4a65c_grow_92f84_23 ?_
  refine z_iload_n C dJx4a65c_grow_92f84_24 (i := 2) rfl rfl ?_
  refine z_iconst C dJx4a65c_grow_92f84_25 (v := 1) (by decide) ?_
  refine z_ishr C dJx4a65c_grow_92f84_26 ?_
  refine t_callS C (rest := []) (c2 := 0) (s2 := 0) [.int (a2), .int (a1 - a2), .int (a2 >>> (1 &&& 31))] dJx4a65c_grow_92f84_27 lk_Jx4a65c_73 ls_J8_newLength_cabcc (c_J8_newLength_cabcc_iii hfl h) rfl rfl ⟨Nat.le_of_ble_eq_true rfl, Nat.le_of_ble_eq_true rfl⟩ (Nat.le_of_ble_eq_true rfl) ⟨Nat.le_of_ble_eq_true rfl, Nat.le_of_ble_eq_true rfl, Nat.le_of_ble_eq_true rfl, Nat.le_of_ble_eq_true rfl⟩ (k_Wi fun r27 s27 h => ?_)
  refine z_istore_n C dJx4a65c_grow_92f84_30 (i := 3) (lc' := [some (.ref 33), some (.int (a1)), some (.int (a2)), some (.int (r27))]) rfl (by decide) rfl ?_
  refine z_aload_n C dJx4a65c_grow_92f84_31 (i := 0) rfl rfl ?_
  refine z_aload_n C dJx4a65c_grow_92f84_32 (i := 0) rfl rfl ?_
  refine t_get C dJx4a65c_grow_92f84_33 fl_Jx4a65c_9 (k := 33) (i := 0) (by decide) rfl (fg_33_1 _ _ _) ?_
  refine z_iload_n C dJx4a65c_grow_92f84_36 (i := 3) rfl rfl ?_
  refine t_callS C (rest := [.ref 33]) (c2 := 1) (s2 := 40) [.ref (zgP s27 33 0 1), .int (r27)] dJx4a65c_grow_92f84_37 lk_Jx4a65c_66 ls_J7_copyOf_1904c (c_J7_copyOf_1904c_v37i hfl h) rfl rfl ⟨Nat.le_of_ble_eq_true rfl, Nat.le_of_ble_eq_true rfl⟩ (Nat.le_of_ble_eq_true rfl) ⟨Nat.le_of_ble_eq_true rfl, Nat.le_of_ble_eq_true rfl, Nat.le_of_ble_eq_true rfl, Nat.le_of_ble_eq_true rfl⟩ (k_WV fun r37 s37 h => ?_)
  refine z_dup_x1 C dJx4a65c_grow_92f84_40 rfl rfl ?_
  refine t_put C dJx4a65c_grow_92f84_41 fq_Jx4a65c_9 (Or.inl rfl) (k := 33) (i := 0) (by decide) rfl ⟨rfl, rfl⟩ (fp_33_1 _ _ _ _) ?_
  refine t_tops (fun s41 es41 => ?_)
  have h := h s41 es41
  exact z_aret C dJx4a65c_grow_92f84_44 hr (Or.inr ⟨_, rfl⟩) (Or.inr ⟨_, rfl⟩) ⟨_, _, rfl, rfl, h⟩ (Nat.le_of_ble_eq_true rfl) (Nat.le_of_ble_eq_true rfl)
def w_Jx4a65c_grow_92f84_r33i (st : zTs) (a1 : Int32) (P : Nat → zTs → Prop) : Prop := ((zgP st 33 0 1) = 204 ∨ (zgP st 33 0 1) % 256 = 37) ∧ ∀ x4 : Int32, x4 = (if (zgP st 33 0 1) = 204 then 0 else Int32.ofNat (zgP st 37 ((zgP st 33 0 1) / 256) 0)) → ((0 < x4 → w_Jx4a65c_grow_92f84_r33i_20 P st a1 x4) ∧ (¬ 0 < x4 → (zgP st 33 0 1 = 204) ∧ (w_J9_max_7cf53 st 10 a1 (fun (r49 : Int32) => ((¬ r49 < 0 ∧ (r49 : Int32).toNatClampNeg ≤ 40) ∧ ∀ n52 : Nat, n52 = zgN st 37 → (∀ s52 : zTs, s52 = zuX st 37 (r49 : Int32).toNatClampNeg → (∀ s56 : zTs, s56 = zuP s52 33 0 1 (37 + 256 * n52) → (P (37 + 256 * n52) s56))))))))
set_option maxHeartbeats 4000000 in
set_option maxRecDepth 100000 in
theorem c_Jx4a65c_grow_92f84_r33i {Z : zZ} {l : Launch} (hfl : l.stackTraces = false) {st : zTs} {a1 : Int32} {P : Nat → zTs → Prop} (h : w_Jx4a65c_grow_92f84_r33i st a1 P) : zN Z l yJx4a65c_grow_92f84 cJx4a65c_grow_92f84 4 (some (.array (.object "java/lang/Object"))) ({ frames := 4, cells := 1, slots := 40, locals := 77 } : Room) (zh Z zm1 st) [.ref 33, .int (a1)] (zWV Z P) := by
  unfold w_Jx4a65c_grow_92f84_r33i at h
  refine z_enterF (by decide +kernel) (Nat.le_of_ble_eq_true rfl) (lc0 := [some (.ref 33), some (.int (a1)), none, none]) rfl ?_
  intro p e s m args below meth c ad0 C hr _
  have hn9 : True := trivial
  replace C : zC Z p s m args meth c cJx4a65c_grow_92f84 4 RJx4a65c := C
  refine z_aload_n C dJx4a65c_grow_92f84_0 (i := 0) rfl rfl ?_
  refine t_get C dJx4a65c_grow_92f84_1 fl_Jx4a65c_9 (k := 33) (i := 0) (by decide) rfl (fg_33_1 _ _ _) ?_
  obtain ⟨g4, h⟩ := h
  refine t_lenV C dJx4a65c_grow_92f84_4 (by decide) (fun _ => sh_37) g4 (fun x4 ex4 => ?_)
  have h := h x4 ex4
  refine z_istore_n C dJx4a65c_grow_92f84_5 (i := 2) (lc' := [some (.ref 33), some (.int (a1)), some (.int (x4)), none]) rfl (by decide) rfl ?_
  refine z_iload_n C dJx4a65c_grow_92f84_6 (i := 2) rfl rfl ?_
  refine z_if_gt C dJx4a65c_grow_92f84_7 (tgt := 20) (by decide) (fun c7 => ?_) (fun c7 => ?_)
  · have h := h.1 c7
    exact t_drop [true, true, true, false] rfl (j_Jx4a65c_grow_92f84_r33i_20 hfl C hr hn9  st a1 x4 h)
  · have h := h.2 c7
    refine z_aload_n C dJx4a65c_grow_92f84_10 (i := 0) rfl rfl ?_
    refine t_get C dJx4a65c_grow_92f84_11 fl_Jx4a65c_9 (k := 33) (i := 0) (by decide) rfl (fg_33_1 _ _ _) ?_
    refine z_gets C dJx4a65c_grow_92f84_14 (q := 204) (by decide) gl_Jx4a65c_39 (fun z => z.2.2.2.2.2.2.1.1) ?_
    obtain ⟨g17, h⟩ := h
    rw [g17]
    refine z_acmpR_eq C dJx4a65c_grow_92f84_17 (tgt := 45) (by decide) ?_
    refine z_aload_n C dJx4a65c_grow_92f84_45 (i := 0) rfl rfl ?_
    refine z_bipush C dJx4a65c_grow_92f84_46 (v := 10) (by decide) ?_
    refine z_iload_n C dJx4a65c_grow_92f84_48 (i := 1) rfl rfl ?_
    refine t_callS C (rest := [.ref 33]) (c2 := 0) (s2 := 0) [.int (10), .int (a1)] dJx4a65c_grow_92f84_49 lk_Jx4a65c_79 ls_J9_max_7cf53 (c_J9_max_7cf53 hfl h) rfl rfl ⟨Nat.le_of_ble_eq_true rfl, Nat.le_of_ble_eq_true rfl⟩ (Nat.le_of_ble_eq_true rfl) ⟨Nat.le_of_ble_eq_true rfl, Nat.le_of_ble_eq_true rfl, Nat.le_of_ble_eq_true rfl, Nat.le_of_ble_eq_true rfl⟩ (k_Ri fun r49 h => ?_)
    obtain ⟨⟨g52a, g52b⟩, h⟩ := h
    obtain ⟨n52, g52⟩ : ∃ z : Nat, z = zgN st 37 := ⟨_, rfl⟩
    have h := h n52 g52
    refine t_newq C dJx4a65c_grow_92f84_52 kl_Jx4a65c_7 (zC_AO1 C) (t := 4) (k := 37) rfl g52a rfl (by omega) (by decide) zN_X zo_X nw_37 (c2 := 1) (s2 := 40) ⟨Nat.le_of_ble_eq_true rfl, by omega, Nat.le_of_ble_eq_true rfl, Nat.le_of_ble_eq_true rfl⟩ ?_
    rw [← g52]
    refine t_tops (fun s52 es52 => ?_)
    have h := h s52 es52
    refine z_dup_x1 C dJx4a65c_grow_92f84_55 rfl rfl ?_
    refine t_put C dJx4a65c_grow_92f84_56 fq_Jx4a65c_9 (Or.inl rfl) (k := 33) (i := 0) (by decide) rfl ⟨rfl, rfl⟩ (fp_33_1 _ _ _ _) ?_
    refine t_tops (fun s56 es56 => ?_)
    have h := h s56 es56
    exact z_aret C dJx4a65c_grow_92f84_59 hr (Or.inr ⟨_, rfl⟩) (Or.inr ⟨_, rfl⟩) ⟨_, _, rfl, rfl, h⟩ (Nat.le_of_ble_eq_true rfl) (Nat.le_of_ble_eq_true rfl)
def w_Jx4a65c_grow_d5877_r33 (st : zTs)  (P : Nat → zTs → Prop) : Prop := w_Jx4a65c_grow_92f84_r33i st ((zgF st 33 0 2) + 1) (fun (r7 : Nat) (s7 : zTs) => (P r7 s7))
set_option maxHeartbeats 4000000 in
set_option maxRecDepth 100000 in
theorem c_Jx4a65c_grow_d5877_r33 {Z : zZ} {l : Launch} (hfl : l.stackTraces = false) {st : zTs}  {P : Nat → zTs → Prop} (h : w_Jx4a65c_grow_d5877_r33 st  P) : zN Z l yJx4a65c_grow_d5877 cJx4a65c_grow_d5877 1 (some (.array (.object "java/lang/Object"))) ({ frames := 5, cells := 1, slots := 40, locals := 100 } : Room) (zh Z zm1 st) [.ref 33] (zWV Z P) := by
  unfold w_Jx4a65c_grow_d5877_r33 at h
  refine z_enterF (by decide +kernel) (Nat.le_of_ble_eq_true rfl) (lc0 := [some (.ref 33)]) rfl ?_
  intro p e s m args below meth c ad0 C hr _
  have hn9 : True := trivial
  replace C : zC Z p s m args meth c cJx4a65c_grow_d5877 1 RJx4a65c := C
  refine z_aload_n C dJx4a65c_grow_d5877_0 (i := 0) rfl rfl ?_
  refine z_aload_n C dJx4a65c_grow_d5877_1 (i := 0) rfl rfl ?_
  refine t_get C dJx4a65c_grow_d5877_2 fl_Jx4a65c_48 (k := 33) (i := 0) (by decide) rfl (fg_33_2 _ _ _) ?_
  refine z_iconst C dJx4a65c_grow_d5877_5 (v := 1) (by decide) ?_
  refine z_iadd C dJx4a65c_grow_d5877_6 ?_
  refine t_callV C (rest := []) (c2 := 1) (s2 := 40) (kd := 33) (i := 0) [.int ((zgF st 33 0 2) + 1)] dJx4a65c_grow_d5877_7 lk_Jx4a65c_69 li_Jx4a65c_grow_92f84 le_Jx4a65c_grow_92f84 (c_Jx4a65c_grow_92f84_r33i hfl h) rfl rfl (by decide) rfl ⟨_, rfl⟩ rfl ⟨Nat.le_of_ble_eq_true rfl, Nat.le_of_ble_eq_true rfl⟩ (Nat.le_of_ble_eq_true rfl) ⟨Nat.le_of_ble_eq_true rfl, Nat.le_of_ble_eq_true rfl, Nat.le_of_ble_eq_true rfl, Nat.le_of_ble_eq_true rfl⟩ (k_WV fun r7 s7 h => ?_)
  exact z_aret C dJx4a65c_grow_d5877_10 hr (Or.inr ⟨_, rfl⟩) (Or.inr ⟨_, rfl⟩) ⟨_, _, rfl, rfl, h⟩ (Nat.le_of_ble_eq_true rfl) (Nat.le_of_ble_eq_true rfl)
def w_Jx4a65c_add_72be8_r33r23v37i_11 (P : zTs → Prop)  (st : zTs) (a1 : Nat) (a2 : Nat) (a3 : Int32) : Prop := (a2 % 256 = 37 ∧ vp_in a3 (zgP st 37 (a2 / 256) 0) ∧ (a3 : Int32).toNatClampNeg = zgL st 37 (a2 / 256) ∧ a1 = zgL st 37 (a2 / 256)) ∧ (∀ s14 : zTs, s14 = zuL st 37 (a2 / 256) (zgL st 37 (a2 / 256) + 1) → (∀ s19 : zTs, s19 = zuF s14 33 0 2 (a3 + 1) → (P s19)))
set_option maxHeartbeats 4000000 in
set_option maxRecDepth 100000 in
theorem j_Jx4a65c_add_72be8_r33r23v37i_11 {P : zTs → Prop}  (hfl : l.stackTraces = false) (C : zC Z p s m args meth c cJx4a65c_add_72be8 4 RJx4a65c) (hr : meth.sig.returnType = none) (hn9 : True)  (st : zTs) (a1 : Nat) (a2 : Nat) (a3 : Int32) (h : w_Jx4a65c_add_72be8_r33r23v37i_11 P st a1 a2 a3) : zG Z ad0 h0 p l e ({ frames := 6, cells := 1, slots := 40, locals := 120 } : Room) s m args below meth c (MQ below (zQ Z ad0 h0 (zWv Z zm1 P)) args s 1 40 (zA Z)) 1 40 (zh Z zm1 st) 4 11 [some (.ref 33), some (.ref (23 + 256 * a1)), some (.ref (a2)), some (.int (a3))] [] := by
  unfold w_Jx4a65c_add_72be8_r33r23v37i_11 at h
  refine z_aload_n C dJx4a65c_add_72be8_11 (i := 2) rfl rfl ?_
  refine z_iload_n C dJx4a65c_add_72be8_12 (i := 3) rfl rfl ?_
  refine z_aload_n C dJx4a65c_add_72be8_13 (i := 1) rfl rfl ?_
  obtain ⟨⟨g14, g14b, g14c, g14d⟩, h⟩ := h
  refine t_astdO C dJx4a65c_add_72be8_14 (k0 := 37) (el := 23) (by decide) (by decide) g14 (fun s9 e9 => by rw [sh_37, e9]) rfl ⟨_, rfl⟩ rfl (by decide) g14b g14c g14d ?_
  refine t_tops (fun s14 es14 => ?_)
  have h := h s14 es14
  refine z_aload_n C dJx4a65c_add_72be8_15 (i := 0) rfl rfl ?_
  refine z_iload_n C dJx4a65c_add_72be8_16 (i := 3) rfl rfl ?_
  refine z_iconst C dJx4a65c_add_72be8_17 (v := 1) (by decide) ?_
  refine z_iadd C dJx4a65c_add_72be8_18 ?_
  refine t_put C dJx4a65c_add_72be8_19 fq_Jx4a65c_48 (Or.inl rfl) (k := 33) (i := 0) (by decide) rfl ⟨rfl, rfl⟩ (fp_33_2 _ _ _ _ _) ?_
  refine t_tops (fun s19 es19 => ?_)
  have h := h s19 es19
  exact z_vret C dJx4a65c_add_72be8_22 hr ⟨_, rfl, rfl, h⟩ (Nat.le_of_ble_eq_true rfl) (Nat.le_of_ble_eq_true rfl)
def w_Jx4a65c_add_72be8_r33r23v37i (st : zTs) (a1 : Nat) (a2 : Nat) (a3 : Int32) (P : zTs → Prop) : Prop := (a2 = 204 ∨ a2 % 256 = 37) ∧ ∀ x2 : Int32, x2 = (if a2 = 204 then 0 else Int32.ofNat (zgP st 37 (a2 / 256) 0)) → ((a3 = x2 → w_Jx4a65c_grow_d5877_r33 st (fun (r7 : Nat) (s7 : zTs) => (w_Jx4a65c_add_72be8_r33r23v37i_11 P s7 a1 r7 a3))) ∧ (¬ a3 = x2 → w_Jx4a65c_add_72be8_r33r23v37i_11 P st a1 a2 a3))
set_option maxHeartbeats 4000000 in
set_option maxRecDepth 100000 in
theorem c_Jx4a65c_add_72be8_r33r23v37i {Z : zZ} {l : Launch} (hfl : l.stackTraces = false) {st : zTs} {a1 : Nat} {a2 : Nat} {a3 : Int32} {P : zTs → Prop} (h : w_Jx4a65c_add_72be8_r33r23v37i st a1 a2 a3 P) : zN Z l yJx4a65c_add_72be8 cJx4a65c_add_72be8 4 none ({ frames := 6, cells := 1, slots := 40, locals := 120 } : Room) (zh Z zm1 st) [.ref 33, .ref (23 + 256 * a1), .ref (a2), .int (a3)] (zWv Z zm1 P) := by
  unfold w_Jx4a65c_add_72be8_r33r23v37i at h
  refine z_enterF (by decide +kernel) (Nat.le_of_ble_eq_true rfl) (lc0 := [some (.ref 33), some (.ref (23 + 256 * a1)), some (.ref (a2)), some (.int (a3))]) rfl ?_
  intro p e s m args below meth c ad0 C hr _
  have hn9 : True := trivial
  replace C : zC Z p s m args meth c cJx4a65c_add_72be8 4 RJx4a65c := C
  refine z_iload_n C dJx4a65c_add_72be8_0 (i := 3) rfl rfl ?_
  refine z_aload_n C dJx4a65c_add_72be8_1 (i := 2) rfl rfl ?_
  obtain ⟨g2, h⟩ := h
  refine t_lenV C dJx4a65c_add_72be8_2 (by decide) (fun _ => sh_37) g2 (fun x2 ex2 => ?_)
  have h := h x2 ex2
  refine z_icmp_ne C dJx4a65c_add_72be8_3 (tgt := 11) (by decide) (fun c3 => ?_) (fun c3 => ?_)
  · have h := h.2 c3
    refine zG.wide (c2 := 1) (s2 := 40) (Nat.le_of_ble_eq_true rfl) (Nat.le_of_ble_eq_true rfl) ?_
    exact t_drop [true, true, true, true] rfl (j_Jx4a65c_add_72be8_r33r23v37i_11 hfl C hr hn9  st a1 a2 a3 h)
  · have h := h.1 c3
    refine z_aload_n C dJx4a65c_add_72be8_6 (i := 0) rfl rfl ?_
    refine t_callV C (rest := []) (c2 := 1) (s2 := 40) (kd := 33) (i := 0) [] dJx4a65c_add_72be8_7 lk_Jx4a65c_129 li_Jx4a65c_grow_d5877 le_Jx4a65c_grow_d5877 (c_Jx4a65c_grow_d5877_r33 hfl h) rfl rfl (by decide) rfl ⟨_, rfl⟩ rfl ⟨Nat.le_of_ble_eq_true rfl, Nat.le_of_ble_eq_true rfl⟩ (Nat.le_of_ble_eq_true rfl) ⟨Nat.le_of_ble_eq_true rfl, Nat.le_of_ble_eq_true rfl, Nat.le_of_ble_eq_true rfl, Nat.le_of_ble_eq_true rfl⟩ (k_WV fun r7 s7 h => ?_)
    refine z_astore_n C dJx4a65c_add_72be8_10 (i := 2) (lc' := [some (.ref 33), some (.ref (23 + 256 * a1)), some (.ref (r7)), some (.int (a3))]) rfl (by decide) rfl ?_
    exact t_drop [true, true, true, true] rfl (j_Jx4a65c_add_72be8_r33r23v37i_11 hfl C hr hn9  s7 a1 r7 a3 h)
def w_Jx4a65c_add_9ea2d_r33r23 (st : zTs) (a1 : Nat) (P : Int32 → zTs → Prop) : Prop := ∀ s7 : zTs, s7 = zuF st 33 0 0 ((zgF st 33 0 0) + 1) → (w_Jx4a65c_add_72be8_r33r23v37i s7 a1 (zgP s7 33 0 1) (zgF s7 33 0 2) (fun (s20 : zTs) => (P 1 s20)))
set_option maxHeartbeats 4000000 in
set_option maxRecDepth 100000 in
theorem c_Jx4a65c_add_9ea2d_r33r23 {Z : zZ} {l : Launch} (hfl : l.stackTraces = false) {st : zTs} {a1 : Nat} {P : Int32 → zTs → Prop} (h : w_Jx4a65c_add_9ea2d_r33r23 st a1 P) : zN Z l yJx4a65c_add_9ea2d cJx4a65c_add_9ea2d 2 (some .boolean) ({ frames := 7, cells := 1, slots := 40, locals := 143 } : Room) (zh Z zm1 st) [.ref 33, .ref (23 + 256 * a1)] (zWi Z P) := by
  unfold w_Jx4a65c_add_9ea2d_r33r23 at h
  refine z_enterF (by decide +kernel) (Nat.le_of_ble_eq_true rfl) (lc0 := [some (.ref 33), some (.ref (23 + 256 * a1))]) rfl ?_
  intro p e s m args below meth c ad0 C hr _
  have hn9 : True := trivial
  replace C : zC Z p s m args meth c cJx4a65c_add_9ea2d 2 RJx4a65c := C
  refine z_aload_n C dJx4a65c_add_9ea2d_0 (i := 0) rfl rfl ?_
  refine z_dup C dJx4a65c_add_9ea2d_1 rfl ?_
  refine t_getS C dJx4a65c_add_9ea2d_2 fz_Jx4a65c_63 (k := 33) (i := 0) (by decide) rfl (fg_33_0 _ _ _) ?_
  refine z_iconst C dJx4a65c_add_9ea2d_5 (v := 1) (by decide) ?_
  refine z_iadd C dJx4a65c_add_9ea2d_6 ?_
  refine t_putS C dJx4a65c_add_9ea2d_7 fz_Jx4a65c_63 (k := 33) (i := 0) (by decide) rfl (fp_33_0 _ _ _ _ _) ?_
  refine t_tops (fun s7 es7 => ?_)
  have h := h s7 es7
  refine z_aload_n C dJx4a65c_add_9ea2d_10 (i := 0) rfl rfl ?_
  refine z_aload_n C dJx4a65c_add_9ea2d_11 (i := 1) rfl rfl ?_
  refine z_aload_n C dJx4a65c_add_9ea2d_12 (i := 0) rfl rfl ?_
  refine t_get C dJx4a65c_add_9ea2d_13 fl_Jx4a65c_9 (k := 33) (i := 0) (by decide) rfl (fg_33_1 _ _ _) ?_
  refine z_aload_n C dJx4a65c_add_9ea2d_16 (i := 0) rfl rfl ?_
  refine t_get C dJx4a65c_add_9ea2d_17 fl_Jx4a65c_48 (k := 33) (i := 0) (by decide) rfl (fg_33_2 _ _ _) ?_
  refine t_callV C (rest := []) (c2 := 1) (s2 := 40) (kd := 33) (i := 0) [.ref (23 + 256 * a1), .ref (zgP s7 33 0 1), .int (zgF s7 33 0 2)] dJx4a65c_add_9ea2d_20 lk_Jx4a65c_131 li_Jx4a65c_add_72be8 le_Jx4a65c_add_72be8 (c_Jx4a65c_add_72be8_r33r23v37i hfl h) rfl rfl (by decide) rfl ⟨_, rfl⟩ rfl ⟨Nat.le_of_ble_eq_true rfl, Nat.le_of_ble_eq_true rfl⟩ (Nat.le_of_ble_eq_true rfl) ⟨Nat.le_of_ble_eq_true rfl, Nat.le_of_ble_eq_true rfl, Nat.le_of_ble_eq_true rfl, Nat.le_of_ble_eq_true rfl⟩ (k_Wv fun s20 h => ?_)
  refine z_iconst C dJx4a65c_add_9ea2d_23 (v := 1) (by decide) ?_
  exact z_iret C dJx4a65c_add_9ea2d_24 hr rfl ⟨_, _, rfl, rfl, h⟩ (Nat.le_of_ble_eq_true rfl) (Nat.le_of_ble_eq_true rfl)
def w_X11_gauge (st : zTs)  (X : Nat → zTs → Prop) (P : Int32 → zTs → Prop) : Prop := w_Jx4a65c_size_8abf5_r33 st (fun (r4 : Int32) => (w_X11_checkRoom st r4 10 (fun k9 => X k9 st) ((∀ n16 : Nat, n16 = zgN st 23 → (∀ s16 : zTs, s16 = zuW st 23 → (w_X2_init s16 (zm0 zm1 23 n16) n16 (fun (s20 : zTs) => (w_Jx4a65c_add_9ea2d_r33r23 s20 n16 (fun (r23 : Int32) (s23 : zTs) => (w_Jx4a65c_size_8abf5_r33 s23 (fun (r31 : Int32) => (P (r31 - 1) s23))))))))))))
set_option maxHeartbeats 4000000 in
set_option maxRecDepth 100000 in
theorem c_X11_gauge {Z : zZ} {l : Launch} (hfl : l.stackTraces = false) {st : zTs}  {X : Nat → zTs → Prop} {P : Int32 → zTs → Prop} (h : w_X11_gauge st  X P) : zM Z l yX11_gauge cX11_gauge 1 (some .int) ({ frames := 9, cells := 5, slots := 129, locals := 164 } : Room) (zh Z zm1 st) [.ref 10] (zWi Z P) (zXs Z X) := by
  unfold w_X11_gauge at h
  refine z_enterM (by decide) (Nat.le_of_ble_eq_true rfl) (lc0 := [some (.ref 10)]) rfl ?_
  intro p e s m args below meth c ad0 C hr hex
  replace C : zC Z p s m args meth c cX11_gauge 1 RX11 := C
  refine z_aload_n C dX11_gauge_0 (i := 0) rfl rfl ?_
  refine t_get C dX11_gauge_1 fl_X11_22 (k := 10) (i := 0) (by decide) rfl (fg_10_3 _ _ _) ?_
  refine t_callV C (rest := []) (c2 := 0) (s2 := 0) (kd := 33) (i := 0) [] dX11_gauge_4 lk_X11_80 li_Jx4a65c_size_8abf5 le_Jx4a65c_size_8abf5 (c_Jx4a65c_size_8abf5_r33 hfl h) rfl rfl (by decide) rfl ⟨_, rfl⟩ rfl ⟨Nat.le_of_ble_eq_true rfl, Nat.le_of_ble_eq_true rfl⟩ (Nat.le_of_ble_eq_true rfl) ⟨Nat.le_of_ble_eq_true rfl, Nat.le_of_ble_eq_true rfl, Nat.le_of_ble_eq_true rfl, Nat.le_of_ble_eq_true rfl⟩ (k_Ri fun r4 h => ?_)
  refine z_bipush C dX11_gauge_7 (v := 10) (by decide) ?_
  refine t_callSM C hex (rest := []) (c2 := 1) (s2 := 6) [.int (r4), .int (10)] dX11_gauge_9 lk_X11_73 ls_X11_checkRoom (c_X11_checkRoom hfl h) rfl rfl ⟨Nat.le_of_ble_eq_true rfl, Nat.le_of_ble_eq_true rfl⟩ (Nat.le_of_ble_eq_true rfl) ⟨Nat.le_of_ble_eq_true rfl, Nat.le_of_ble_eq_true rfl, Nat.le_of_ble_eq_true rfl, Nat.le_of_ble_eq_true rfl⟩ (fun _ _ q => ⟨_, q.1, q.2⟩) ⟨Nat.le_of_ble_eq_true rfl, Nat.le_of_ble_eq_true rfl⟩ (k_Rv fun h => ?_)
  refine z_aload_n C dX11_gauge_12 (i := 0) rfl rfl ?_
  refine t_get C dX11_gauge_13 fl_X11_22 (k := 10) (i := 0) (by decide) rfl (fg_10_3 _ _ _) ?_
  obtain ⟨n16, g16⟩ : ∃ z : Nat, z = zgN st 23 := ⟨_, rfl⟩
  have h := h n16 g16
  refine t_new C dX11_gauge_16 nl_X11_405 rfl (by decide) nw_23 (c2 := 2) (s2 := 9) ⟨Nat.le_of_ble_eq_true rfl, Nat.le_of_ble_eq_true rfl, Nat.le_of_ble_eq_true rfl, Nat.le_of_ble_eq_true rfl⟩ ?_
  rw [← g16]
  refine t_tops (fun s16 es16 => ?_)
  have h := h s16 es16
  refine z_dup C dX11_gauge_19 rfl ?_
  refine t_callIN C (rest := [.ref (23 + 256 * n16), .ref 33]) (c2 := 4) (s2 := 89) [] dX11_gauge_20 (by decide) ln_X2_init lni_X2_init (by decide +kernel) lnm_X2_init rfl (c_X2_init hfl h) rfl rfl ⟨Nat.le_of_ble_eq_true rfl, Nat.le_of_ble_eq_true rfl⟩ (Nat.le_of_ble_eq_true rfl) ⟨Nat.le_of_ble_eq_true rfl, Nat.le_of_ble_eq_true rfl, Nat.le_of_ble_eq_true rfl, Nat.le_of_ble_eq_true rfl⟩ (k_Wv fun s20 h => ?_)
  refine t_mask (mk' := zm1) (k := 23) (i := n16) (fun k9 i9 g9 => by simp only [zms, zm0, zp2_ne g9]) (nm_23 (g0 := by simp [zms, zm0, zm1, zp2, zp1]) (g1 := by simp [zms, zm0, zm1, zp2, zp1]) (f0 := rfl) (f1 := rfl)) ?_
  refine t_callV C (rest := []) (c2 := 5) (s2 := 129) (kd := 33) (i := 0) [.ref (23 + 256 * n16)] dX11_gauge_23 lk_X11_88 li_Jx4a65c_add_9ea2d le_Jx4a65c_add_9ea2d (c_Jx4a65c_add_9ea2d_r33r23 hfl h) rfl rfl (by decide) rfl ⟨_, rfl⟩ rfl ⟨Nat.le_of_ble_eq_true rfl, Nat.le_of_ble_eq_true rfl⟩ (Nat.le_of_ble_eq_true rfl) ⟨Nat.le_of_ble_eq_true rfl, Nat.le_of_ble_eq_true rfl, Nat.le_of_ble_eq_true rfl, Nat.le_of_ble_eq_true rfl⟩ (k_Wi fun r23 s23 h => ?_)
  refine z_pop C dX11_gauge_26 rfl ?_
  refine z_aload_n C dX11_gauge_27 (i := 0) rfl rfl ?_
  refine t_get C dX11_gauge_28 fl_X11_22 (k := 10) (i := 0) (by decide) rfl (fg_10_3 _ _ _) ?_
  refine t_callV C (rest := []) (c2 := 5) (s2 := 129) (kd := 33) (i := 0) [] dX11_gauge_31 lk_X11_80 li_Jx4a65c_size_8abf5 le_Jx4a65c_size_8abf5 (c_Jx4a65c_size_8abf5_r33 hfl h) rfl rfl (by decide) rfl ⟨_, rfl⟩ rfl ⟨Nat.le_of_ble_eq_true rfl, Nat.le_of_ble_eq_true rfl⟩ (Nat.le_of_ble_eq_true rfl) ⟨Nat.le_of_ble_eq_true rfl, Nat.le_of_ble_eq_true rfl, Nat.le_of_ble_eq_true rfl, Nat.le_of_ble_eq_true rfl⟩ (k_Ri fun r31 h => ?_)
  refine z_iconst C dX11_gauge_34 (v := 1) (by decide) ?_
  refine z_isub C dX11_gauge_35 ?_
  exact zG.up (z_iret C dX11_gauge_36 hr rfl ⟨_, _, rfl, rfl, h⟩ (Nat.le_of_ble_eq_true rfl) (Nat.le_of_ble_eq_true rfl))
set_option maxRecDepth 100000 in
def w_X12_init (st : zTs) (mk : zMk) (P : zTs → Prop) : Prop := zgN st 101 = 0 ∧ (∀ s7 : zTs, s7 = zuV st 101 12 → (zgN s7 102 = 0 ∧ (∀ s16 : zTs, s16 = zuV s7 102 400 → (∀ s23 : zTs, s23 = zuF s16 100 0 10 (-1) → (zgN s23 103 = 0 ∧ (∀ s29 : zTs, s29 = zuV s23 103 15 → (vp_in 0 15 ∧ (∀ s35 : zTs, s35 = zuA s29 103 0 (0 : Int32).toNatClampNeg 30 → (vp_in 1 15 ∧ (∀ s40 : zTs, s40 = zuA s35 103 0 (1 : Int32).toNatClampNeg 30 → (vp_in 2 15 ∧ (∀ s45 : zTs, s45 = zuA s40 103 0 (2 : Int32).toNatClampNeg 30 → (vp_in 3 15 ∧ (∀ s50 : zTs, s50 = zuA s45 103 0 (3 : Int32).toNatClampNeg 30 → (vp_in 4 15 ∧ (∀ s54 : zTs, s54 = zuA s50 103 0 (4 : Int32).toNatClampNeg 0 → (vp_in 5 15 ∧ (∀ s58 : zTs, s58 = zuA s54 103 0 (5 : Int32).toNatClampNeg 0 → (vp_in 6 15 ∧ (∀ s64 : zTs, s64 = zuA s58 103 0 (6 : Int32).toNatClampNeg 14 → (vp_in 7 15 ∧ (∀ s69 : zTs, s69 = zuA s64 103 0 (7 : Int32).toNatClampNeg 1 → (vp_in 8 15 ∧ (∀ s75 : zTs, s75 = zuA s69 103 0 (8 : Int32).toNatClampNeg 10 → (vp_in 9 15 ∧ (∀ s81 : zTs, s81 = zuA s75 103 0 (9 : Int32).toNatClampNeg 14 → (vp_in 10 15 ∧ (∀ s86 : zTs, s86 = zuA s81 103 0 (10 : Int32).toNatClampNeg 0 → (vp_in 11 15 ∧ (∀ s92 : zTs, s92 = zuA s86 103 0 (11 : Int32).toNatClampNeg 10 → (vp_in 12 15 ∧ (∀ s98 : zTs, s98 = zuA s92 103 0 (12 : Int32).toNatClampNeg 50 → (vp_in 13 15 ∧ (∀ s104 : zTs, s104 = zuA s98 103 0 (13 : Int32).toNatClampNeg 8 → (vp_in 14 15 ∧ (∀ s110 : zTs, s110 = zuA s104 103 0 (14 : Int32).toNatClampNeg 17 → (zgN s110 104 = 0 ∧ (∀ s117 : zTs, s117 = zuV s110 104 15 → (zgN s117 105 = 0 ∧ (∀ s124 : zTs, s124 = zuV s117 105 4 → (vp_in 0 4 ∧ (∀ s129 : zTs, s129 = zuA s124 105 0 (0 : Int32).toNatClampNeg (-1) → (vp_in 1 4 ∧ (∀ s133 : zTs, s133 = zuA s129 105 0 (1 : Int32).toNatClampNeg (-1) → (vp_in 2 4 ∧ (∀ s137 : zTs, s137 = zuA s133 105 0 (2 : Int32).toNatClampNeg (-1) → (vp_in 3 4 ∧ (∀ s141 : zTs, s141 = zuA s137 105 0 (3 : Int32).toNatClampNeg (-1) → (zgN s141 106 = 0 ∧ (∀ s147 : zTs, s147 = zuV s141 106 4 → (zgN s147 107 = 0 ∧ (∀ s156 : zTs, s156 = zuV s147 107 800 → (zgN s156 108 = 0 ∧ (∀ s165 : zTs, s165 = zuV s156 108 800 → (zgN s165 109 = 0 ∧ (∀ s174 : zTs, s174 = zuV s165 109 800 → (zgN s174 110 = 0 ∧ (∀ s183 : zTs, s183 = zuV s174 110 800 → (zgN s183 111 = 0 ∧ (∀ s192 : zTs, s192 = zuV s183 111 800 → (zgN s192 112 = 0 ∧ (∀ s200 : zTs, s200 = zuV s192 112 30 → (zgN s200 113 = 0 ∧ (∀ s208 : zTs, s208 = zuV s200 113 30 → (zgN s208 114 = 0 ∧ (∀ s216 : zTs, s216 = zuV s208 114 30 → (zgN s216 115 = 0 ∧ (∀ s224 : zTs, s224 = zuV s216 115 30 → (zgN s224 116 = 0 ∧ (∀ s233 : zTs, s233 = zuV s224 116 450 → (zgN s233 117 = 0 ∧ (∀ s241 : zTs, s241 = zuV s233 117 30 → (zgN s241 118 = 0 ∧ (∀ s249 : zTs, s249 = zuV s241 118 30 → (zgN s249 119 = 0 ∧ (∀ s257 : zTs, s257 = zuV s249 119 30 → (zgN s257 120 = 0 ∧ (∀ s265 : zTs, s265 = zuV s257 120 30 → (zgN s265 121 = 0 ∧ (∀ s273 : zTs, s273 = zuV s265 121 30 → (zgN s273 122 = 0 ∧ (∀ s281 : zTs, s281 = zuV s273 122 30 → (zgN s281 123 = 0 ∧ (∀ s289 : zTs, s289 = zuV s281 123 30 → (zgN s289 124 = 0 ∧ (∀ s297 : zTs, s297 = zuV s289 124 30 → (zgN s297 125 = 0 ∧ (∀ s305 : zTs, s305 = zuV s297 125 30 → (zgN s305 126 = 0 ∧ (∀ s313 : zTs, s313 = zuV s305 126 30 → (zgN s313 127 = 0 ∧ (∀ s321 : zTs, s321 = zuV s313 127 30 → (zgN s321 128 = 0 ∧ (∀ s329 : zTs, s329 = zuV s321 128 30 → (zgN s329 129 = 0 ∧ (∀ s337 : zTs, s337 = zuV s329 129 12 → (zgN s337 130 = 0 ∧ (∀ s345 : zTs, s345 = zuV s337 130 12 → (zgN s345 131 = 0 ∧ (∀ s353 : zTs, s353 = zuV s345 131 90 → (zgN s353 132 = 0 ∧ (∀ s361 : zTs, s361 = zuV s353 132 90 → (zgN s361 133 = 0 ∧ (∀ s369 : zTs, s369 = zuV s361 133 90 → (zgN s369 134 = 0 ∧ (∀ s377 : zTs, s377 = zuV s369 134 90 → (zgN s377 135 = 0 ∧ (∀ s386 : zTs, s386 = zuV s377 135 300 → (zgN s386 136 = 0 ∧ (∀ s395 : zTs, s395 = zuV s386 136 300 → (zgN s395 137 = 0 ∧ (∀ s404 : zTs, s404 = zuV s395 137 300 → (zgN s404 138 = 0 ∧ (∀ s413 : zTs, s413 = zuV s404 138 300 → (zgN s413 139 = 0 ∧ (∀ s421 : zTs, s421 = zuV s413 139 60 → (zgN s421 140 = 0 ∧ (∀ s429 : zTs, s429 = zuV s421 140 60 → (zgN s429 141 = 0 ∧ (∀ s437 : zTs, s437 = zuV s429 141 60 → (zgN s437 142 = 0 ∧ (∀ s445 : zTs, s445 = zuV s437 142 30 → (zgN s445 143 = 0 ∧ (∀ s453 : zTs, s453 = zuV s445 143 30 → (zgN s453 144 = 0 ∧ (∀ s461 : zTs, s461 = zuV s453 144 72 → (zgN s461 145 = 0 ∧ (∀ s470 : zTs, s470 = zuV s461 145 1440 → (zgN s470 146 = 0 ∧ (∀ s479 : zTs, s479 = zuV s470 146 1440 → (zgN s479 147 = 0 ∧ (∀ s488 : zTs, s488 = zuV s479 147 1440 → (zgN s488 148 = 0 ∧ (∀ s497 : zTs, s497 = zuV s488 148 1440 → (zgN s497 149 = 0 ∧ (∀ s505 : zTs, s505 = zuV s497 149 30 → (zgN s505 150 = 0 ∧ (∀ s513 : zTs, s513 = zuV s505 150 30 → (zgN s513 151 = 0 ∧ (∀ s520 : zTs, s520 = zuV s513 151 5 → (zgN s520 152 = 0 ∧ (∀ s528 : zTs, s528 = zuV s520 152 10 → (zgN s528 153 = 0 ∧ (∀ s536 : zTs, s536 = zuV s528 153 10 → (zgN s536 154 = 0 ∧ (∀ s545 : zTs, s545 = zuV s536 154 200 → (zgN s545 155 = 0 ∧ (∀ s554 : zTs, s554 = zuV s545 155 200 → (zgN s554 156 = 0 ∧ (∀ s563 : zTs, s563 = zuV s554 156 441 → (zgN s563 157 = 0 ∧ (∀ s572 : zTs, s572 = zuV s563 157 441 → (zgN s572 158 = 0 ∧ (∀ s580 : zTs, s580 = zuV s572 158 20 → (zgN s580 159 = 0 ∧ (∀ s588 : zTs, s588 = zuV s580 159 10 → (zgN s588 160 = 0 ∧ (∀ s597 : zTs, s597 = zuV s588 160 400 → (zgN s597 161 = 0 ∧ (∀ s606 : zTs, s606 = zuV s597 161 400 → (P s606)))))))))))))))))))))))))))))))))))))))))))))))))))))))))))))))))))))))))))))))))))))))))))))))))))))))))))))))))))))))))))))))))))))))))))))))))))))))))))))))))
set_option maxHeartbeats 4000000 in
set_option maxRecDepth 100000 in
theorem c_X12_init {Z : zZ} {l : Launch} (hfl : l.stackTraces = false) {st : zTs} {mk : zMk} {P : zTs → Prop} (h : w_X12_init st mk P) : zN Z l yX12_init cX12_init 1 none ({ frames := 1, cells := 61, slots := 15233, locals := 20 } : Room) (zh Z mk st) [.ref 100] (zWv Z (zms (zms (zms (zms (zms (zms (zms (zms (zms (zms (zms (zms (zms (zms (zms (zms (zms (zms (zms (zms (zms (zms (zms (zms (zms (zms (zms (zms (zms (zms (zms (zms (zms (zms (zms (zms (zms (zms (zms (zms (zms (zms (zms (zms (zms (zms (zms (zms (zms (zms (zms (zms (zms (zms (zms (zms (zms (zms (zms (zms (zms mk 100 0 4) 100 0 5) 100 0 13) 100 0 14) 100 0 15) 100 0 16) 100 0 17) 100 0 18) 100 0 19) 100 0 20) 100 0 22) 100 0 24) 100 0 25) 100 0 26) 100 0 27) 100 0 28) 100 0 29) 100 0 30) 100 0 31) 100 0 32) 100 0 33) 100 0 34) 100 0 35) 100 0 36) 100 0 37) 100 0 38) 100 0 39) 100 0 40) 100 0 42) 100 0 43) 100 0 44) 100 0 45) 100 0 46) 100 0 47) 100 0 50) 100 0 51) 100 0 52) 100 0 53) 100 0 54) 100 0 55) 100 0 56) 100 0 57) 100 0 58) 100 0 59) 100 0 60) 100 0 61) 100 0 62) 100 0 63) 100 0 64) 100 0 65) 100 0 68) 100 0 69) 100 0 70) 100 0 71) 100 0 72) 100 0 73) 100 0 74) 100 0 75) 100 0 77) 100 0 78) 100 0 79) P) := by
  unfold w_X12_init at h
  refine z_enterN (by decide) (Nat.le_of_ble_eq_true rfl) (lc0 := [some (.ref 100)]) rfl ?_
  intro p e s m args below meth c ad0 C hr hin
  have hn9 : True := trivial
  replace C : zC Z p s m args meth c cX12_init 1 RX12 := C
  refine z_aload_n C dX12_init_0 (i := 0) rfl rfl ?_
  refine z_objInit C dX12_init_1 lo_X12_1 lo_inst lo_code ⟨Nat.le_of_ble_eq_true rfl, Nat.le_of_ble_eq_true rfl⟩ ?_
  refine z_aload_n C dX12_init_4 (i := 0) rfl rfl ?_
  refine z_bipush C dX12_init_5 (v := 12) (by decide) ?_
  obtain ⟨g7, h⟩ := h
  refine t_newa C dX12_init_7 la_int rfl (t := 0) rfl (fun _ => rfl) (by decide) (by decide) (Nat.le_of_ble_eq_true rfl) (by decide) nw_101 (c2 := 1) (s2 := 12) ⟨Nat.le_of_ble_eq_true rfl, Nat.le_of_ble_eq_true rfl, Nat.le_of_ble_eq_true rfl, Nat.le_of_ble_eq_true rfl⟩ ?_
  rw [g7]
  refine t_same (lc' := [some (.ref 100)]) (stk' := [.ref 101, .ref 100]) rfl rfl ?_
  refine t_tops (fun s7 es7 => ?_)
  have h := h s7 es7
  refine t_put C dX12_init_9 fq_X12_9 (Or.inr hin) (k := 100) (i := 0) (by decide) rfl ⟨rfl, rfl⟩ (fp_100_4 _ _ _ _) ?_
  refine z_aload_n C dX12_init_12 (i := 0) rfl rfl ?_
  refine z_sipush C dX12_init_13 (v := 400) (by decide) ?_
  obtain ⟨g16, h⟩ := h
  refine t_newa C dX12_init_16 la_byte rfl (t := 1) rfl (fun _ => rfl) (by decide) (by decide) (Nat.le_of_ble_eq_true rfl) (by decide) nw_102 (c2 := 2) (s2 := 412) ⟨Nat.le_of_ble_eq_true rfl, Nat.le_of_ble_eq_true rfl, Nat.le_of_ble_eq_true rfl, Nat.le_of_ble_eq_true rfl⟩ ?_
  rw [g16]
  refine t_same (lc' := [some (.ref 100)]) (stk' := [.ref 102, .ref 100]) rfl rfl ?_
  refine t_tops (fun s16 es16 => ?_)
  have h := h s16 es16
  refine t_put C dX12_init_18 fq_X12_13 (Or.inr hin) (k := 100) (i := 0) (by decide) rfl ⟨rfl, rfl⟩ (fp_100_5 _ _ _ _) ?_
  refine z_aload_n C dX12_init_21 (i := 0) rfl rfl ?_
  refine z_iconst C dX12_init_22 (v := (-1)) (by decide) ?_
  refine t_put C dX12_init_23 fq_X12_17 (Or.inl rfl) (k := 100) (i := 0) (by decide) rfl ⟨rfl, rfl⟩ (fp_100_10 _ _ _ _ _) ?_
  refine t_tops (fun s23 es23 => ?_)
  have h := h s23 es23
  refine z_aload_n C dX12_init_26 (i := 0) rfl rfl ?_
  refine z_bipush C dX12_init_27 (v := 15) (by decide) ?_
  obtain ⟨g29, h⟩ := h
  refine t_newa C dX12_init_29 la_int rfl (t := 0) rfl (fun _ => rfl) (by decide) (by decide) (Nat.le_of_ble_eq_true rfl) (by decide) nw_103 (c2 := 3) (s2 := 427) ⟨Nat.le_of_ble_eq_true rfl, Nat.le_of_ble_eq_true rfl, Nat.le_of_ble_eq_true rfl, Nat.le_of_ble_eq_true rfl⟩ ?_
  rw [g29]
  refine t_same (lc' := [some (.ref 100)]) (stk' := [.ref 103, .ref 100]) rfl rfl ?_
  refine t_tops (fun s29 es29 => ?_)
  have h := h s29 es29
  refine z_dup C dX12_init_31 rfl ?_
  refine z_iconst C dX12_init_32 (v := 0) (by decide) ?_
  refine z_bipush C dX12_init_33 (v := 30) (by decide) ?_
  obtain ⟨g35, h⟩ := h
  refine t_iast C dX12_init_35 (k := 103) (i := 0) (by decide) rfl (fun s9 => sh_103 _ _ s9 _) g35 ?_
  refine t_tops (fun s35 es35 => ?_)
  have h := h s35 es35
  refine z_dup C dX12_init_36 rfl ?_
  refine z_iconst C dX12_init_37 (v := 1) (by decide) ?_
  refine z_bipush C dX12_init_38 (v := 30) (by decide) ?_
  obtain ⟨g40, h⟩ := h
  refine t_iast C dX12_init_40 (k := 103) (i := 0) (by decide) rfl (fun s9 => sh_103 _ _ s9 _) g40 ?_
  refine t_tops (fun s40 es40 => ?_)
  have h := h s40 es40
  refine z_dup C dX12_init_41 rfl ?_
  refine z_iconst C dX12_init_42 (v := 2) (by decide) ?_
  refine z_bipush C dX12_init_43 (v := 30) (by decide) ?_
  obtain ⟨g45, h⟩ := h
  refine t_iast C dX12_init_45 (k := 103) (i := 0) (by decide) rfl (fun s9 => sh_103 _ _ s9 _) g45 ?_
  refine t_tops (fun s45 es45 => ?_)
  have h := h s45 es45
  refine z_dup C dX12_init_46 rfl ?_
  refine z_iconst C dX12_init_47 (v := 3) (by decide) ?_
  refine z_bipush C dX12_init_48 (v := 30) (by decide) ?_
  obtain ⟨g50, h⟩ := h
  refine t_iast C dX12_init_50 (k := 103) (i := 0) (by decide) rfl (fun s9 => sh_103 _ _ s9 _) g50 ?_
  refine t_tops (fun s50 es50 => ?_)
  have h := h s50 es50
  refine z_dup C dX12_init_51 rfl ?_
  refine z_iconst C dX12_init_52 (v := 4) (by decide) ?_
  refine z_iconst C dX12_init_53 (v := 0) (by decide) ?_
  obtain ⟨g54, h⟩ := h
  refine t_iast C dX12_init_54 (k := 103) (i := 0) (by decide) rfl (fun s9 => sh_103 _ _ s9 _) g54 ?_
  refine t_tops (fun s54 es54 => ?_)
  have h := h s54 es54
  refine z_dup C dX12_init_55 rfl ?_
  refine z_iconst C dX12_init_56 (v := 5) (by decide) ?_
  refine z_iconst C dX12_init_57 (v := 0) (by decide) ?_
  obtain ⟨g58, h⟩ := h
  refine t_iast C dX12_init_58 (k := 103) (i := 0) (by decide) rfl (fun s9 => sh_103 _ _ s9 _) g58 ?_
  refine t_tops (fun s58 es58 => ?_)
  have h := h s58 es58
  refine z_dup C dX12_init_59 rfl ?_
  refine z_bipush C dX12_init_60 (v := 6) (by decide) ?_
  refine z_bipush C dX12_init_62 (v := 14) (by decide) ?_
  obtain ⟨g64, h⟩ := h
  refine t_iast C dX12_init_64 (k := 103) (i := 0) (by decide) rfl (fun s9 => sh_103 _ _ s9 _) g64 ?_
  refine t_tops (fun s64 es64 => ?_)
  have h := h s64 es64
  refine z_dup C dX12_init_65 rfl ?_
  refine z_bipush C dX12_init_66 (v := 7) (by decide) ?_
  refine z_iconst C dX12_init_68 (v := 1) (by decide) ?_
  obtain ⟨g69, h⟩ := h
  refine t_iast C dX12_init_69 (k := 103) (i := 0) (by decide) rfl (fun s9 => sh_103 _ _ s9 _) g69 ?_
  refine t_tops (fun s69 es69 => ?_)
  have h := h s69 es69
  refine z_dup C dX12_init_70 rfl ?_
  refine z_bipush C dX12_init_71 (v := 8) (by decide) ?_
  refine z_bipush C dX12_init_73 (v := 10) (by decide) ?_
  obtain ⟨g75, h⟩ := h
  refine t_iast C dX12_init_75 (k := 103) (i := 0) (by decide) rfl (fun s9 => sh_103 _ _ s9 _) g75 ?_
  refine t_tops (fun s75 es75 => ?_)
  have h := h s75 es75
  refine z_dup C dX12_init_76 rfl ?_
  refine z_bipush C dX12_init_77 (v := 9) (by decide) ?_
  refine z_bipush C dX12_init_79 (v := 14) (by decide) ?_
  obtain ⟨g81, h⟩ := h
  refine t_iast C dX12_init_81 (k := 103) (i := 0) (by decide) rfl (fun s9 => sh_103 _ _ s9 _) g81 ?_
  refine t_tops (fun s81 es81 => ?_)
  have h := h s81 es81
  refine z_dup C dX12_init_82 rfl ?_
  refine z_bipush C dX12_init_83 (v := 10) (by decide) ?_
  refine z_iconst C dX12_init_85 (v := 0) (by decide) ?_
  obtain ⟨g86, h⟩ := h
  refine t_iast C dX12_init_86 (k := 103) (i := 0) (by decide) rfl (fun s9 => sh_103 _ _ s9 _) g86 ?_
  refine t_tops (fun s86 es86 => ?_)
  have h := h s86 es86
  refine z_dup C dX12_init_87 rfl ?_
  refine z_bipush C dX12_init_88 (v := 11) (by decide) ?_
  refine z_bipush C dX12_init_90 (v := 10) (by decide) ?_
  obtain ⟨g92, h⟩ := h
  refine t_iast C dX12_init_92 (k := 103) (i := 0) (by decide) rfl (fun s9 => sh_103 _ _ s9 _) g92 ?_
  refine t_tops (fun s92 es92 => ?_)
  have h := h s92 es92
  refine z_dup C dX12_init_93 rfl ?_
  refine z_bipush C dX12_init_94 (v := 12) (by decide) ?_
  refine z_bipush C dX12_init_96 (v := 50) (by decide) ?_
  obtain ⟨g98, h⟩ := h
  refine t_iast C dX12_init_98 (k := 103) (i := 0) (by decide) rfl (fun s9 => sh_103 _ _ s9 _) g98 ?_
  refine t_tops (fun s98 es98 => ?_)
  have h := h s98 es98
  refine z_dup C dX12_init_99 rfl ?_
  refine z_bipush C dX12_init_100 (v := 13) (by decide) ?_
  refine z_bipush C dX12_init_102 (v := 8) (by decide) ?_
  obtain ⟨g104, h⟩ := h
  refine t_iast C dX12_init_104 (k := 103) (i := 0) (by decide) rfl (fun s9 => sh_103 _ _ s9 _) g104 ?_
  refine t_tops (fun s104 es104 => ?_)
  have h := h s104 es104
  refine z_dup C dX12_init_105 rfl ?_
  refine z_bipush C dX12_init_106 (v := 14) (by decide) ?_
  refine z_bipush C dX12_init_108 (v := 17) (by decide) ?_
  obtain ⟨g110, h⟩ := h
  refine t_iast C dX12_init_110 (k := 103) (i := 0) (by decide) rfl (fun s9 => sh_103 _ _ s9 _) g110 ?_
  refine t_tops (fun s110 es110 => ?_)
  have h := h s110 es110
  refine t_put C dX12_init_111 fq_X12_21 (Or.inr hin) (k := 100) (i := 0) (by decide) rfl ⟨rfl, rfl⟩ (fp_100_13 _ _ _ _) ?_
  refine z_aload_n C dX12_init_114 (i := 0) rfl rfl ?_
  refine z_bipush C dX12_init_115 (v := 15) (by decide) ?_
  obtain ⟨g117, h⟩ := h
  refine t_newa C dX12_init_117 la_int rfl (t := 0) rfl (fun _ => rfl) (by decide) (by decide) (Nat.le_of_ble_eq_true rfl) (by decide) nw_104 (c2 := 4) (s2 := 442) ⟨Nat.le_of_ble_eq_true rfl, Nat.le_of_ble_eq_true rfl, Nat.le_of_ble_eq_true rfl, Nat.le_of_ble_eq_true rfl⟩ ?_
  rw [g117]
  refine t_same (lc' := [some (.ref 100)]) (stk' := [.ref 104, .ref 100]) rfl rfl ?_
  refine t_tops (fun s117 es117 => ?_)
  have h := h s117 es117
  refine t_put C dX12_init_119 fq_X12_24 (Or.inr hin) (k := 100) (i := 0) (by decide) rfl ⟨rfl, rfl⟩ (fp_100_14 _ _ _ _) ?_
  refine z_aload_n C dX12_init_122 (i := 0) rfl rfl ?_
  refine z_iconst C dX12_init_123 (v := 4) (by decide) ?_
  obtain ⟨g124, h⟩ := h
  refine t_newa C dX12_init_124 la_int rfl (t := 0) rfl (fun _ => rfl) (by decide) (by decide) (Nat.le_of_ble_eq_true rfl) (by decide) nw_105 (c2 := 5) (s2 := 446) ⟨Nat.le_of_ble_eq_true rfl, Nat.le_of_ble_eq_true rfl, Nat.le_of_ble_eq_true rfl, Nat.le_of_ble_eq_true rfl⟩ ?_
  rw [g124]
  refine t_same (lc' := [some (.ref 100)]) (stk' := [.ref 105, .ref 100]) rfl rfl ?_
  refine t_tops (fun s124 es124 => ?_)
  have h := h s124 es124
  refine z_dup C dX12_init_126 rfl ?_
  refine z_iconst C dX12_init_127 (v := 0) (by decide) ?_
  refine z_iconst C dX12_init_128 (v := (-1)) (by decide) ?_
  obtain ⟨g129, h⟩ := h
  refine t_iast C dX12_init_129 (k := 105) (i := 0) (by decide) rfl (fun s9 => sh_105 _ _ s9 _) g129 ?_
  refine t_tops (fun s129 es129 => ?_)
  have h := h s129 es129
  refine z_dup C dX12_init_130 rfl ?_
  refine z_iconst C dX12_init_131 (v := 1) (by decide) ?_
  refine z_iconst C dX12_init_132 (v := (-1)) (by decide) ?_
  obtain ⟨g133, h⟩ := h
  refine t_iast C dX12_init_133 (k := 105) (i := 0) (by decide) rfl (fun s9 => sh_105 _ _ s9 _) g133 ?_
  refine t_tops (fun s133 es133 => ?_)
  have h := h s133 es133
  refine z_dup C dX12_init_134 rfl ?_
  refine z_iconst C dX12_init_135 (v := 2) (by decide) ?_
  refine z_iconst C dX12_init_136 (v := (-1)) (by decide) ?_
  obtain ⟨g137, h⟩ := h
  refine t_iast C dX12_init_137 (k := 105) (i := 0) (by decide) rfl (fun s9 => sh_105 _ _ s9 _) g137 ?_
  refine t_tops (fun s137 es137 => ?_)
  have h := h s137 es137
  refine z_dup C dX12_init_138 rfl ?_
  refine z_iconst C dX12_init_139 (v := 3) (by decide) ?_
  refine z_iconst C dX12_init_140 (v := (-1)) (by decide) ?_
  obtain ⟨g141, h⟩ := h
  refine t_iast C dX12_init_141 (k := 105) (i := 0) (by decide) rfl (fun s9 => sh_105 _ _ s9 _) g141 ?_
  refine t_tops (fun s141 es141 => ?_)
  have h := h s141 es141
  refine t_put C dX12_init_142 fq_X12_27 (Or.inr hin) (k := 100) (i := 0) (by decide) rfl ⟨rfl, rfl⟩ (fp_100_15 _ _ _ _) ?_
  refine z_aload_n C dX12_init_145 (i := 0) rfl rfl ?_
  refine z_iconst C dX12_init_146 (v := 4) (by decide) ?_
  obtain ⟨g147, h⟩ := h
  refine t_newa C dX12_init_147 la_int rfl (t := 0) rfl (fun _ => rfl) (by decide) (by decide) (Nat.le_of_ble_eq_true rfl) (by decide) nw_106 (c2 := 6) (s2 := 450) ⟨Nat.le_of_ble_eq_true rfl, Nat.le_of_ble_eq_true rfl, Nat.le_of_ble_eq_true rfl, Nat.le_of_ble_eq_true rfl⟩ ?_
  rw [g147]
  refine t_same (lc' := [some (.ref 100)]) (stk' := [.ref 106, .ref 100]) rfl rfl ?_
  refine t_tops (fun s147 es147 => ?_)
  have h := h s147 es147
  refine t_put C dX12_init_149 fq_X12_30 (Or.inr hin) (k := 100) (i := 0) (by decide) rfl ⟨rfl, rfl⟩ (fp_100_16 _ _ _ _) ?_
  refine z_aload_n C dX12_init_152 (i := 0) rfl rfl ?_
  refine z_sipush C dX12_init_153 (v := 800) (by decide) ?_
  obtain ⟨g156, h⟩ := h
  refine t_newa C dX12_init_156 la_int rfl (t := 0) rfl (fun _ => rfl) (by decide) (by decide) (Nat.le_of_ble_eq_true rfl) (by decide) nw_107 (c2 := 7) (s2 := 1250) ⟨Nat.le_of_ble_eq_true rfl, Nat.le_of_ble_eq_true rfl, Nat.le_of_ble_eq_true rfl, Nat.le_of_ble_eq_true rfl⟩ ?_
  rw [g156]
  refine t_same (lc' := [some (.ref 100)]) (stk' := [.ref 107, .ref 100]) rfl rfl ?_
  refine t_tops (fun s156 es156 => ?_)
  have h := h s156 es156
  refine t_put C dX12_init_158 fq_X12_33 (Or.inr hin) (k := 100) (i := 0) (by decide) rfl ⟨rfl, rfl⟩ (fp_100_17 _ _ _ _) ?_
  refine z_aload_n C dX12_init_161 (i := 0) rfl rfl ?_
  refine z_sipush C dX12_init_162 (v := 800) (by decide) ?_
  obtain ⟨g165, h⟩ := h
  refine t_newa C dX12_init_165 la_int rfl (t := 0) rfl (fun _ => rfl) (by decide) (by decide) (Nat.le_of_ble_eq_true rfl) (by decide) nw_108 (c2 := 8) (s2 := 2050) ⟨Nat.le_of_ble_eq_true rfl, Nat.le_of_ble_eq_true rfl, Nat.le_of_ble_eq_true rfl, Nat.le_of_ble_eq_true rfl⟩ ?_
  rw [g165]
  refine t_same (lc' := [some (.ref 100)]) (stk' := [.ref 108, .ref 100]) rfl rfl ?_
  refine t_tops (fun s165 es165 => ?_)
  have h := h s165 es165
  refine t_put C dX12_init_167 fq_X12_36 (Or.inr hin) (k := 100) (i := 0) (by decide) rfl ⟨rfl, rfl⟩ (fp_100_18 _ _ _ _) ?_
  refine z_aload_n C dX12_init_170 (i := 0) rfl rfl ?_
  refine z_sipush C dX12_init_171 (v := 800) (by decide) ?_
  obtain ⟨g174, h⟩ := h
  refine t_newa C dX12_init_174 la_int rfl (t := 0) rfl (fun _ => rfl) (by decide) (by decide) (Nat.le_of_ble_eq_true rfl) (by decide) nw_109 (c2 := 9) (s2 := 2850) ⟨Nat.le_of_ble_eq_true rfl, Nat.le_of_ble_eq_true rfl, Nat.le_of_ble_eq_true rfl, Nat.le_of_ble_eq_true rfl⟩ ?_
  rw [g174]
  refine t_same (lc' := [some (.ref 100)]) (stk' := [.ref 109, .ref 100]) rfl rfl ?_
  refine t_tops (fun s174 es174 => ?_)
  have h := h s174 es174
  refine t_put C dX12_init_176 fq_X12_39 (Or.inr hin) (k := 100) (i := 0) (by decide) rfl ⟨rfl, rfl⟩ (fp_100_19 _ _ _ _) ?_
  refine z_aload_n C dX12_init_179 (i := 0) rfl rfl ?_
  refine z_sipush C dX12_init_180 (v := 800) (by decide) ?_
  obtain ⟨g183, h⟩ := h
  refine t_newa C dX12_init_183 la_int rfl (t := 0) rfl (fun _ => rfl) (by decide) (by decide) (Nat.le_of_ble_eq_true rfl) (by decide) nw_110 (c2 := 10) (s2 := 3650) ⟨Nat.le_of_ble_eq_true rfl, Nat.le_of_ble_eq_true rfl, Nat.le_of_ble_eq_true rfl, Nat.le_of_ble_eq_true rfl⟩ ?_
  rw [g183]
  refine t_same (lc' := [some (.ref 100)]) (stk' := [.ref 110, .ref 100]) rfl rfl ?_
  refine t_tops (fun s183 es183 => ?_)
  have h := h s183 es183
  refine t_put C dX12_init_185 fq_X12_42 (Or.inr hin) (k := 100) (i := 0) (by decide) rfl ⟨rfl, rfl⟩ (fp_100_20 _ _ _ _) ?_
  refine z_aload_n C dX12_init_188 (i := 0) rfl rfl ?_
  refine z_sipush C dX12_init_189 (v := 800) (by decide) ?_
  obtain ⟨g192, h⟩ := h
  refine t_newa C dX12_init_192 la_boolean rfl (t := 2) rfl (fun _ => rfl) (by decide) (by decide) (Nat.le_of_ble_eq_true rfl) (by decide) nw_111 (c2 := 11) (s2 := 4450) ⟨Nat.le_of_ble_eq_true rfl, Nat.le_of_ble_eq_true rfl, Nat.le_of_ble_eq_true rfl, Nat.le_of_ble_eq_true rfl⟩ ?_
  rw [g192]
  refine t_same (lc' := [some (.ref 100)]) (stk' := [.ref 111, .ref 100]) rfl rfl ?_
  refine t_tops (fun s192 es192 => ?_)
  have h := h s192 es192
  refine t_put C dX12_init_194 fq_X12_45 (Or.inr hin) (k := 100) (i := 0) (by decide) rfl ⟨rfl, rfl⟩ (fp_100_22 _ _ _ _) ?_
  refine z_aload_n C dX12_init_197 (i := 0) rfl rfl ?_
  refine z_bipush C dX12_init_198 (v := 30) (by decide) ?_
  obtain ⟨g200, h⟩ := h
  refine t_newa C dX12_init_200 la_int rfl (t := 0) rfl (fun _ => rfl) (by decide) (by decide) (Nat.le_of_ble_eq_true rfl) (by decide) nw_112 (c2 := 12) (s2 := 4480) ⟨Nat.le_of_ble_eq_true rfl, Nat.le_of_ble_eq_true rfl, Nat.le_of_ble_eq_true rfl, Nat.le_of_ble_eq_true rfl⟩ ?_
  rw [g200]
  refine t_same (lc' := [some (.ref 100)]) (stk' := [.ref 112, .ref 100]) rfl rfl ?_
  refine t_tops (fun s200 es200 => ?_)
  have h := h s200 es200
  refine t_put C dX12_init_202 fq_X12_49 (Or.inr hin) (k := 100) (i := 0) (by decide) rfl ⟨rfl, rfl⟩ (fp_100_24 _ _ _ _) ?_
  refine z_aload_n C dX12_init_205 (i := 0) rfl rfl ?_
  refine z_bipush C dX12_init_206 (v := 30) (by decide) ?_
  obtain ⟨g208, h⟩ := h
  refine t_newa C dX12_init_208 la_int rfl (t := 0) rfl (fun _ => rfl) (by decide) (by decide) (Nat.le_of_ble_eq_true rfl) (by decide) nw_113 (c2 := 13) (s2 := 4510) ⟨Nat.le_of_ble_eq_true rfl, Nat.le_of_ble_eq_true rfl, Nat.le_of_ble_eq_true rfl, Nat.le_of_ble_eq_true rfl⟩ ?_
  rw [g208]
  refine t_same (lc' := [some (.ref 100)]) (stk' := [.ref 113, .ref 100]) rfl rfl ?_
  refine t_tops (fun s208 es208 => ?_)
  have h := h s208 es208
  refine t_put C dX12_init_210 fq_X12_52 (Or.inr hin) (k := 100) (i := 0) (by decide) rfl ⟨rfl, rfl⟩ (fp_100_25 _ _ _ _) ?_
  refine z_aload_n C dX12_init_213 (i := 0) rfl rfl ?_
  refine z_bipush C dX12_init_214 (v := 30) (by decide) ?_
  obtain ⟨g216, h⟩ := h
  refine t_newa C dX12_init_216 la_int rfl (t := 0) rfl (fun _ => rfl) (by decide) (by decide) (Nat.le_of_ble_eq_true rfl) (by decide) nw_114 (c2 := 14) (s2 := 4540) ⟨Nat.le_of_ble_eq_true rfl, Nat.le_of_ble_eq_true rfl, Nat.le_of_ble_eq_true rfl, Nat.le_of_ble_eq_true rfl⟩ ?_
  rw [g216]
  refine t_same (lc' := [some (.ref 100)]) (stk' := [.ref 114, .ref 100]) rfl rfl ?_
  refine t_tops (fun s216 es216 => ?_)
  have h := h s216 es216
  refine t_put C dX12_init_218 fq_X12_55 (Or.inr hin) (k := 100) (i := 0) (by decide) rfl ⟨rfl, rfl⟩ (fp_100_26 _ _ _ _) ?_
  refine z_aload_n C dX12_init_221 (i := 0) rfl rfl ?_
  refine z_bipush C dX12_init_222 (v := 30) (by decide) ?_
  obtain ⟨g224, h⟩ := h
  refine t_newa C dX12_init_224 la_boolean rfl (t := 2) rfl (fun _ => rfl) (by decide) (by decide) (Nat.le_of_ble_eq_true rfl) (by decide) nw_115 (c2 := 15) (s2 := 4570) ⟨Nat.le_of_ble_eq_true rfl, Nat.le_of_ble_eq_true rfl, Nat.le_of_ble_eq_true rfl, Nat.le_of_ble_eq_true rfl⟩ ?_
  rw [g224]
  refine t_same (lc' := [some (.ref 100)]) (stk' := [.ref 115, .ref 100]) rfl rfl ?_
  refine t_tops (fun s224 es224 => ?_)
  have h := h s224 es224
  refine t_put C dX12_init_226 fq_X12_58 (Or.inr hin) (k := 100) (i := 0) (by decide) rfl ⟨rfl, rfl⟩ (fp_100_27 _ _ _ _) ?_
  refine z_aload_n C dX12_init_229 (i := 0) rfl rfl ?_
  refine z_sipush C dX12_init_230 (v := 450) (by decide) ?_
  obtain ⟨g233, h⟩ := h
  refine t_newa C dX12_init_233 la_int rfl (t := 0) rfl (fun _ => rfl) (by decide) (by decide) (Nat.le_of_ble_eq_true rfl) (by decide) nw_116 (c2 := 16) (s2 := 5020) ⟨Nat.le_of_ble_eq_true rfl, Nat.le_of_ble_eq_true rfl, Nat.le_of_ble_eq_true rfl, Nat.le_of_ble_eq_true rfl⟩ ?_
  rw [g233]
  refine t_same (lc' := [some (.ref 100)]) (stk' := [.ref 116, .ref 100]) rfl rfl ?_
  refine t_tops (fun s233 es233 => ?_)
  have h := h s233 es233
  refine t_put C dX12_init_235 fq_X12_61 (Or.inr hin) (k := 100) (i := 0) (by decide) rfl ⟨rfl, rfl⟩ (fp_100_28 _ _ _ _) ?_
  refine z_aload_n C dX12_init_238 (i := 0) rfl rfl ?_
  refine z_bipush C dX12_init_239 (v := 30) (by decide) ?_
  obtain ⟨g241, h⟩ := h
  refine t_newa C dX12_init_241 la_int rfl (t := 0) rfl (fun _ => rfl) (by decide) (by decide) (Nat.le_of_ble_eq_true rfl) (by decide) nw_117 (c2 := 17) (s2 := 5050) ⟨Nat.le_of_ble_eq_true rfl, Nat.le_of_ble_eq_true rfl, Nat.le_of_ble_eq_true rfl, Nat.le_of_ble_eq_true rfl⟩ ?_
  rw [g241]
  refine t_same (lc' := [some (.ref 100)]) (stk' := [.ref 117, .ref 100]) rfl rfl ?_
  refine t_tops (fun s241 es241 => ?_)
  have h := h s241 es241
  refine t_put C dX12_init_243 fq_X12_64 (Or.inr hin) (k := 100) (i := 0) (by decide) rfl ⟨rfl, rfl⟩ (fp_100_29 _ _ _ _) ?_
  refine z_aload_n C dX12_init_246 (i := 0) rfl rfl ?_
  refine z_bipush C dX12_init_247 (v := 30) (by decide) ?_
  obtain ⟨g249, h⟩ := h
  refine t_newa C dX12_init_249 la_int rfl (t := 0) rfl (fun _ => rfl) (by decide) (by decide) (Nat.le_of_ble_eq_true rfl) (by decide) nw_118 (c2 := 18) (s2 := 5080) ⟨Nat.le_of_ble_eq_true rfl, Nat.le_of_ble_eq_true rfl, Nat.le_of_ble_eq_true rfl, Nat.le_of_ble_eq_true rfl⟩ ?_
  rw [g249]
  refine t_same (lc' := [some (.ref 100)]) (stk' := [.ref 118, .ref 100]) rfl rfl ?_
  refine t_tops (fun s249 es249 => ?_)
  have h := h s249 es249
  refine t_put C dX12_init_251 fq_X12_67 (Or.inr hin) (k := 100) (i := 0) (by decide) rfl ⟨rfl, rfl⟩ (fp_100_30 _ _ _ _) ?_
  refine z_aload_n C dX12_init_254 (i := 0) rfl rfl ?_
  refine z_bipush C dX12_init_255 (v := 30) (by decide) ?_
  obtain ⟨g257, h⟩ := h
  refine t_newa C dX12_init_257 la_int rfl (t := 0) rfl (fun _ => rfl) (by decide) (by decide) (Nat.le_of_ble_eq_true rfl) (by decide) nw_119 (c2 := 19) (s2 := 5110) ⟨Nat.le_of_ble_eq_true rfl, Nat.le_of_ble_eq_true rfl, Nat.le_of_ble_eq_true rfl, Nat.le_of_ble_eq_true rfl⟩ ?_
  rw [g257]
  refine t_same (lc' := [some (.ref 100)]) (stk' := [.ref 119, .ref 100]) rfl rfl ?_
  refine t_tops (fun s257 es257 => ?_)
  have h := h s257 es257
  refine t_put C dX12_init_259 fq_X12_70 (Or.inr hin) (k := 100) (i := 0) (by decide) rfl ⟨rfl, rfl⟩ (fp_100_31 _ _ _ _) ?_
  refine z_aload_n C dX12_init_262 (i := 0) rfl rfl ?_
  refine z_bipush C dX12_init_263 (v := 30) (by decide) ?_
  obtain ⟨g265, h⟩ := h
  refine t_newa C dX12_init_265 la_boolean rfl (t := 2) rfl (fun _ => rfl) (by decide) (by decide) (Nat.le_of_ble_eq_true rfl) (by decide) nw_120 (c2 := 20) (s2 := 5140) ⟨Nat.le_of_ble_eq_true rfl, Nat.le_of_ble_eq_true rfl, Nat.le_of_ble_eq_true rfl, Nat.le_of_ble_eq_true rfl⟩ ?_
  rw [g265]
  refine t_same (lc' := [some (.ref 100)]) (stk' := [.ref 120, .ref 100]) rfl rfl ?_
  refine t_tops (fun s265 es265 => ?_)
  have h := h s265 es265
  refine t_put C dX12_init_267 fq_X12_73 (Or.inr hin) (k := 100) (i := 0) (by decide) rfl ⟨rfl, rfl⟩ (fp_100_32 _ _ _ _) ?_
  refine z_aload_n C dX12_init_270 (i := 0) rfl rfl ?_
  refine z_bipush C dX12_init_271 (v := 30) (by decide) ?_
  obtain ⟨g273, h⟩ := h
  refine t_newa C dX12_init_273 la_int rfl (t := 0) rfl (fun _ => rfl) (by decide) (by decide) (Nat.le_of_ble_eq_true rfl) (by decide) nw_121 (c2 := 21) (s2 := 5170) ⟨Nat.le_of_ble_eq_true rfl, Nat.le_of_ble_eq_true rfl, Nat.le_of_ble_eq_true rfl, Nat.le_of_ble_eq_true rfl⟩ ?_
  rw [g273]
  refine t_same (lc' := [some (.ref 100)]) (stk' := [.ref 121, .ref 100]) rfl rfl ?_
  refine t_tops (fun s273 es273 => ?_)
  have h := h s273 es273
  refine t_put C dX12_init_275 fq_X12_76 (Or.inr hin) (k := 100) (i := 0) (by decide) rfl ⟨rfl, rfl⟩ (fp_100_33 _ _ _ _) ?_
  refine z_aload_n C dX12_init_278 (i := 0) rfl rfl ?_
  refine z_bipush C dX12_init_279 (v := 30) (by decide) ?_
  obtain ⟨g281, h⟩ := h
  refine t_newa C dX12_init_281 la_int rfl (t := 0) rfl (fun _ => rfl) (by decide) (by decide) (Nat.le_of_ble_eq_true rfl) (by decide) nw_122 (c2 := 22) (s2 := 5200) ⟨Nat.le_of_ble_eq_true rfl, Nat.le_of_ble_eq_true rfl, Nat.le_of_ble_eq_true rfl, Nat.le_of_ble_eq_true rfl⟩ ?_
  rw [g281]
  refine t_same (lc' := [some (.ref 100)]) (stk' := [.ref 122, .ref 100]) rfl rfl ?_
  refine t_tops (fun s281 es281 => ?_)
  have h := h s281 es281
  refine t_put C dX12_init_283 fq_X12_79 (Or.inr hin) (k := 100) (i := 0) (by decide) rfl ⟨rfl, rfl⟩ (fp_100_34 _ _ _ _) ?_
  refine z_aload_n C dX12_init_286 (i := 0) rfl rfl ?_
  refine z_bipush C dX12_init_287 (v := 30) (by decide) ?_
  obtain ⟨g289, h⟩ := h
  refine t_newa C dX12_init_289 la_int rfl (t := 0) rfl (fun _ => rfl) (by decide) (by decide) (Nat.le_of_ble_eq_true rfl) (by decide) nw_123 (c2 := 23) (s2 := 5230) ⟨Nat.le_of_ble_eq_true rfl, Nat.le_of_ble_eq_true rfl, Nat.le_of_ble_eq_true rfl, Nat.le_of_ble_eq_true rfl⟩ ?_
  rw [g289]
  refine t_same (lc' := [some (.ref 100)]) (stk' := [.ref 123, .ref 100]) rfl rfl ?_
  refine t_tops (fun s289 es289 => ?_)
  have h := h s289 es289
  refine t_put C dX12_init_291 fq_X12_82 (Or.inr hin) (k := 100) (i := 0) (by decide) rfl ⟨rfl, rfl⟩ (fp_100_35 _ _ _ _) ?_
  refine z_aload_n C dX12_init_294 (i := 0) rfl rfl ?_
  refine z_bipush C dX12_init_295 (v := 30) (by decide) ?_
  obtain ⟨g297, h⟩ := h
  refine t_newa C dX12_init_297 la_int rfl (t := 0) rfl (fun _ => rfl) (by decide) (by decide) (Nat.le_of_ble_eq_true rfl) (by decide) nw_124 (c2 := 24) (s2 := 5260) ⟨Nat.le_of_ble_eq_true rfl, Nat.le_of_ble_eq_true rfl, Nat.le_of_ble_eq_true rfl, Nat.le_of_ble_eq_true rfl⟩ ?_
  rw [g297]
  refine t_same (lc' := [some (.ref 100)]) (stk' := [.ref 124, .ref 100]) rfl rfl ?_
  refine t_tops (fun s297 es297 => ?_)
  have h := h s297 es297
  refine t_put C dX12_init_299 fq_X12_85 (Or.inr hin) (k := 100) (i := 0) (by decide) rfl ⟨rfl, rfl⟩ (fp_100_36 _ _ _ _) ?_
  refine z_aload_n C dX12_init_302 (i := 0) rfl rfl ?_
  refine z_bipush C dX12_init_303 (v := 30) (by decide) ?_
  obtain ⟨g305, h⟩ := h
  refine t_newa C dX12_init_305 la_int rfl (t := 0) rfl (fun _ => rfl) (by decide) (by decide) (Nat.le_of_ble_eq_true rfl) (by decide) nw_125 (c2 := 25) (s2 := 5290) ⟨Nat.le_of_ble_eq_true rfl, Nat.le_of_ble_eq_true rfl, Nat.le_of_ble_eq_true rfl, Nat.le_of_ble_eq_true rfl⟩ ?_
  rw [g305]
  refine t_same (lc' := [some (.ref 100)]) (stk' := [.ref 125, .ref 100]) rfl rfl ?_
  refine t_tops (fun s305 es305 => ?_)
  have h := h s305 es305
  refine t_put C dX12_init_307 fq_X12_88 (Or.inr hin) (k := 100) (i := 0) (by decide) rfl ⟨rfl, rfl⟩ (fp_100_37 _ _ _ _) ?_
  refine z_aload_n C dX12_init_310 (i := 0) rfl rfl ?_
  refine z_bipush C dX12_init_311 (v := 30) (by decide) ?_
  obtain ⟨g313, h⟩ := h
  refine t_newa C dX12_init_313 la_int rfl (t := 0) rfl (fun _ => rfl) (by decide) (by decide) (Nat.le_of_ble_eq_true rfl) (by decide) nw_126 (c2 := 26) (s2 := 5320) ⟨Nat.le_of_ble_eq_true rfl, Nat.le_of_ble_eq_true rfl, Nat.le_of_ble_eq_true rfl, Nat.le_of_ble_eq_true rfl⟩ ?_
  rw [g313]
  refine t_same (lc' := [some (.ref 100)]) (stk' := [.ref 126, .ref 100]) rfl rfl ?_
  refine t_tops (fun s313 es313 => ?_)
  have h := h s313 es313
  refine t_put C dX12_init_315 fq_X12_91 (Or.inr hin) (k := 100) (i := 0) (by decide) rfl ⟨rfl, rfl⟩ (fp_100_38 _ _ _ _) ?_
  refine z_aload_n C dX12_init_318 (i := 0) rfl rfl ?_
  refine z_bipush C dX12_init_319 (v := 30) (by decide) ?_
  obtain ⟨g321, h⟩ := h
  refine t_newa C dX12_init_321 la_int rfl (t := 0) rfl (fun _ => rfl) (by decide) (by decide) (Nat.le_of_ble_eq_true rfl) (by decide) nw_127 (c2 := 27) (s2 := 5350) ⟨Nat.le_of_ble_eq_true rfl, Nat.le_of_ble_eq_true rfl, Nat.le_of_ble_eq_true rfl, Nat.le_of_ble_eq_true rfl⟩ ?_
  rw [g321]
  refine t_same (lc' := [some (.ref 100)]) (stk' := [.ref 127, .ref 100]) rfl rfl ?_
  refine t_tops (fun s321 es321 => ?_)
  have h := h s321 es321
  refine t_put C dX12_init_323 fq_X12_94 (Or.inr hin) (k := 100) (i := 0) (by decide) rfl ⟨rfl, rfl⟩ (fp_100_39 _ _ _ _) ?_
  refine z_aload_n C dX12_init_326 (i := 0) rfl rfl ?_
  refine z_bipush C dX12_init_327 (v := 30) (by decide) ?_
  obtain ⟨g329, h⟩ := h
  refine t_newa C dX12_init_329 la_int rfl (t := 0) rfl (fun _ => rfl) (by decide) (by decide) (Nat.le_of_ble_eq_true rfl) (by decide) nw_128 (c2 := 28) (s2 := 5380) ⟨Nat.le_of_ble_eq_true rfl, Nat.le_of_ble_eq_true rfl, Nat.le_of_ble_eq_true rfl, Nat.le_of_ble_eq_true rfl⟩ ?_
  rw [g329]
  refine t_same (lc' := [some (.ref 100)]) (stk' := [.ref 128, .ref 100]) rfl rfl ?_
  refine t_tops (fun s329 es329 => ?_)
  have h := h s329 es329
  refine t_put C dX12_init_331 fq_X12_97 (Or.inr hin) (k := 100) (i := 0) (by decide) rfl ⟨rfl, rfl⟩ (fp_100_40 _ _ _ _) ?_
  refine z_aload_n C dX12_init_334 (i := 0) rfl rfl ?_
  refine z_bipush C dX12_init_335 (v := 12) (by decide) ?_
  obtain ⟨g337, h⟩ := h
  refine t_newa C dX12_init_337 la_int rfl (t := 0) rfl (fun _ => rfl) (by decide) (by decide) (Nat.le_of_ble_eq_true rfl) (by decide) nw_129 (c2 := 29) (s2 := 5392) ⟨Nat.le_of_ble_eq_true rfl, Nat.le_of_ble_eq_true rfl, Nat.le_of_ble_eq_true rfl, Nat.le_of_ble_eq_true rfl⟩ ?_
  rw [g337]
  refine t_same (lc' := [some (.ref 100)]) (stk' := [.ref 129, .ref 100]) rfl rfl ?_
  refine t_tops (fun s337 es337 => ?_)
  have h := h s337 es337
  refine t_put C dX12_init_339 fq_X12_100 (Or.inr hin) (k := 100) (i := 0) (by decide) rfl ⟨rfl, rfl⟩ (fp_100_42 _ _ _ _) ?_
  refine z_aload_n C dX12_init_342 (i := 0) rfl rfl ?_
  refine z_bipush C dX12_init_343 (v := 12) (by decide) ?_
  obtain ⟨g345, h⟩ := h
  refine t_newa C dX12_init_345 la_int rfl (t := 0) rfl (fun _ => rfl) (by decide) (by decide) (Nat.le_of_ble_eq_true rfl) (by decide) nw_130 (c2 := 30) (s2 := 5404) ⟨Nat.le_of_ble_eq_true rfl, Nat.le_of_ble_eq_true rfl, Nat.le_of_ble_eq_true rfl, Nat.le_of_ble_eq_true rfl⟩ ?_
  rw [g345]
  refine t_same (lc' := [some (.ref 100)]) (stk' := [.ref 130, .ref 100]) rfl rfl ?_
  refine t_tops (fun s345 es345 => ?_)
  have h := h s345 es345
  refine t_put C dX12_init_347 fq_X12_103 (Or.inr hin) (k := 100) (i := 0) (by decide) rfl ⟨rfl, rfl⟩ (fp_100_43 _ _ _ _) ?_
  refine z_aload_n C dX12_init_350 (i := 0) rfl rfl ?_
  refine z_bipush C dX12_init_351 (v := 90) (by decide) ?_
  obtain ⟨g353, h⟩ := h
  refine t_newa C dX12_init_353 la_int rfl (t := 0) rfl (fun _ => rfl) (by decide) (by decide) (Nat.le_of_ble_eq_true rfl) (by decide) nw_131 (c2 := 31) (s2 := 5494) ⟨Nat.le_of_ble_eq_true rfl, Nat.le_of_ble_eq_true rfl, Nat.le_of_ble_eq_true rfl, Nat.le_of_ble_eq_true rfl⟩ ?_
  rw [g353]
  refine t_same (lc' := [some (.ref 100)]) (stk' := [.ref 131, .ref 100]) rfl rfl ?_
  refine t_tops (fun s353 es353 => ?_)
  have h := h s353 es353
  refine t_put C dX12_init_355 fq_X12_106 (Or.inr hin) (k := 100) (i := 0) (by decide) rfl ⟨rfl, rfl⟩ (fp_100_44 _ _ _ _) ?_
  refine z_aload_n C dX12_init_358 (i := 0) rfl rfl ?_
  refine z_bipush C dX12_init_359 (v := 90) (by decide) ?_
  obtain ⟨g361, h⟩ := h
  refine t_newa C dX12_init_361 la_int rfl (t := 0) rfl (fun _ => rfl) (by decide) (by decide) (Nat.le_of_ble_eq_true rfl) (by decide) nw_132 (c2 := 32) (s2 := 5584) ⟨Nat.le_of_ble_eq_true rfl, Nat.le_of_ble_eq_true rfl, Nat.le_of_ble_eq_true rfl, Nat.le_of_ble_eq_true rfl⟩ ?_
  rw [g361]
  refine t_same (lc' := [some (.ref 100)]) (stk' := [.ref 132, .ref 100]) rfl rfl ?_
  refine t_tops (fun s361 es361 => ?_)
  have h := h s361 es361
  refine t_put C dX12_init_363 fq_X12_109 (Or.inr hin) (k := 100) (i := 0) (by decide) rfl ⟨rfl, rfl⟩ (fp_100_45 _ _ _ _) ?_
  refine z_aload_n C dX12_init_366 (i := 0) rfl rfl ?_
  refine z_bipush C dX12_init_367 (v := 90) (by decide) ?_
  obtain ⟨g369, h⟩ := h
  refine t_newa C dX12_init_369 la_int rfl (t := 0) rfl (fun _ => rfl) (by decide) (by decide) (Nat.le_of_ble_eq_true rfl) (by decide) nw_133 (c2 := 33) (s2 := 5674) ⟨Nat.le_of_ble_eq_true rfl, Nat.le_of_ble_eq_true rfl, Nat.le_of_ble_eq_true rfl, Nat.le_of_ble_eq_true rfl⟩ ?_
  rw [g369]
  refine t_same (lc' := [some (.ref 100)]) (stk' := [.ref 133, .ref 100]) rfl rfl ?_
  refine t_tops (fun s369 es369 => ?_)
  have h := h s369 es369
  refine t_put C dX12_init_371 fq_X12_112 (Or.inr hin) (k := 100) (i := 0) (by decide) rfl ⟨rfl, rfl⟩ (fp_100_46 _ _ _ _) ?_
  refine z_aload_n C dX12_init_374 (i := 0) rfl rfl ?_
  refine z_bipush C dX12_init_375 (v := 90) (by decide) ?_
  obtain ⟨g377, h⟩ := h
  refine t_newa C dX12_init_377 la_int rfl (t := 0) rfl (fun _ => rfl) (by decide) (by decide) (Nat.le_of_ble_eq_true rfl) (by decide) nw_134 (c2 := 34) (s2 := 5764) ⟨Nat.le_of_ble_eq_true rfl, Nat.le_of_ble_eq_true rfl, Nat.le_of_ble_eq_true rfl, Nat.le_of_ble_eq_true rfl⟩ ?_
  rw [g377]
  refine t_same (lc' := [some (.ref 100)]) (stk' := [.ref 134, .ref 100]) rfl rfl ?_
  refine t_tops (fun s377 es377 => ?_)
  have h := h s377 es377
  refine t_put C dX12_init_379 fq_X12_115 (Or.inr hin) (k := 100) (i := 0) (by decide) rfl ⟨rfl, rfl⟩ (fp_100_47 _ _ _ _) ?_
  refine z_aload_n C dX12_init_382 (i := 0) rfl rfl ?_
  refine z_sipush C dX12_init_383 (v := 300) (by decide) ?_
  obtain ⟨g386, h⟩ := h
  refine t_newa C dX12_init_386 la_int rfl (t := 0) rfl (fun _ => rfl) (by decide) (by decide) (Nat.le_of_ble_eq_true rfl) (by decide) nw_135 (c2 := 35) (s2 := 6064) ⟨Nat.le_of_ble_eq_true rfl, Nat.le_of_ble_eq_true rfl, Nat.le_of_ble_eq_true rfl, Nat.le_of_ble_eq_true rfl⟩ ?_
  rw [g386]
  refine t_same (lc' := [some (.ref 100)]) (stk' := [.ref 135, .ref 100]) rfl rfl ?_
  refine t_tops (fun s386 es386 => ?_)
  have h := h s386 es386
  refine t_put C dX12_init_388 fq_X12_118 (Or.inr hin) (k := 100) (i := 0) (by decide) rfl ⟨rfl, rfl⟩ (fp_100_50 _ _ _ _) ?_
  refine z_aload_n C dX12_init_391 (i := 0) rfl rfl ?_
  refine z_sipush C dX12_init_392 (v := 300) (by decide) ?_
  obtain ⟨g395, h⟩ := h
  refine t_newa C dX12_init_395 la_int rfl (t := 0) rfl (fun _ => rfl) (by decide) (by decide) (Nat.le_of_ble_eq_true rfl) (by decide) nw_136 (c2 := 36) (s2 := 6364) ⟨Nat.le_of_ble_eq_true rfl, Nat.le_of_ble_eq_true rfl, Nat.le_of_ble_eq_true rfl, Nat.le_of_ble_eq_true rfl⟩ ?_
  rw [g395]
  refine t_same (lc' := [some (.ref 100)]) (stk' := [.ref 136, .ref 100]) rfl rfl ?_
  refine t_tops (fun s395 es395 => ?_)
  have h := h s395 es395
  refine t_put C dX12_init_397 fq_X12_121 (Or.inr hin) (k := 100) (i := 0) (by decide) rfl ⟨rfl, rfl⟩ (fp_100_51 _ _ _ _) ?_
  refine z_aload_n C dX12_init_400 (i := 0) rfl rfl ?_
  refine z_sipush C dX12_init_401 (v := 300) (by decide) ?_
  obtain ⟨g404, h⟩ := h
  refine t_newa C dX12_init_404 la_int rfl (t := 0) rfl (fun _ => rfl) (by decide) (by decide) (Nat.le_of_ble_eq_true rfl) (by decide) nw_137 (c2 := 37) (s2 := 6664) ⟨Nat.le_of_ble_eq_true rfl, Nat.le_of_ble_eq_true rfl, Nat.le_of_ble_eq_true rfl, Nat.le_of_ble_eq_true rfl⟩ ?_
  rw [g404]
  refine t_same (lc' := [some (.ref 100)]) (stk' := [.ref 137, .ref 100]) rfl rfl ?_
  refine t_tops (fun s404 es404 => ?_)
  have h := h s404 es404
  refine t_put C dX12_init_406 fq_X12_124 (Or.inr hin) (k := 100) (i := 0) (by decide) rfl ⟨rfl, rfl⟩ (fp_100_52 _ _ _ _) ?_
  refine z_aload_n C dX12_init_409 (i := 0) rfl rfl ?_
  refine z_sipush C dX12_init_410 (v := 300) (by decide) ?_
  obtain ⟨g413, h⟩ := h
  refine t_newa C dX12_init_413 la_int rfl (t := 0) rfl (fun _ => rfl) (by decide) (by decide) (Nat.le_of_ble_eq_true rfl) (by decide) nw_138 (c2 := 38) (s2 := 6964) ⟨Nat.le_of_ble_eq_true rfl, Nat.le_of_ble_eq_true rfl, Nat.le_of_ble_eq_true rfl, Nat.le_of_ble_eq_true rfl⟩ ?_
  rw [g413]
  refine t_same (lc' := [some (.ref 100)]) (stk' := [.ref 138, .ref 100]) rfl rfl ?_
  refine t_tops (fun s413 es413 => ?_)
  have h := h s413 es413
  refine t_put C dX12_init_415 fq_X12_127 (Or.inr hin) (k := 100) (i := 0) (by decide) rfl ⟨rfl, rfl⟩ (fp_100_53 _ _ _ _) ?_
  refine z_aload_n C dX12_init_418 (i := 0) rfl rfl ?_
  refine z_bipush C dX12_init_419 (v := 60) (by decide) ?_
  obtain ⟨g421, h⟩ := h
  refine t_newa C dX12_init_421 la_int rfl (t := 0) rfl (fun _ => rfl) (by decide) (by decide) (Nat.le_of_ble_eq_true rfl) (by decide) nw_139 (c2 := 39) (s2 := 7024) ⟨Nat.le_of_ble_eq_true rfl, Nat.le_of_ble_eq_true rfl, Nat.le_of_ble_eq_true rfl, Nat.le_of_ble_eq_true rfl⟩ ?_
  rw [g421]
  refine t_same (lc' := [some (.ref 100)]) (stk' := [.ref 139, .ref 100]) rfl rfl ?_
  refine t_tops (fun s421 es421 => ?_)
  have h := h s421 es421
  refine t_put C dX12_init_423 fq_X12_130 (Or.inr hin) (k := 100) (i := 0) (by decide) rfl ⟨rfl, rfl⟩ (fp_100_54 _ _ _ _) ?_
  refine z_aload_n C dX12_init_426 (i := 0) rfl rfl ?_
  refine z_bipush C dX12_init_427 (v := 60) (by decide) ?_
  obtain ⟨g429, h⟩ := h
  refine t_newa C dX12_init_429 la_int rfl (t := 0) rfl (fun _ => rfl) (by decide) (by decide) (Nat.le_of_ble_eq_true rfl) (by decide) nw_140 (c2 := 40) (s2 := 7084) ⟨Nat.le_of_ble_eq_true rfl, Nat.le_of_ble_eq_true rfl, Nat.le_of_ble_eq_true rfl, Nat.le_of_ble_eq_true rfl⟩ ?_
  rw [g429]
  refine t_same (lc' := [some (.ref 100)]) (stk' := [.ref 140, .ref 100]) rfl rfl ?_
  refine t_tops (fun s429 es429 => ?_)
  have h := h s429 es429
  refine t_put C dX12_init_431 fq_X12_133 (Or.inr hin) (k := 100) (i := 0) (by decide) rfl ⟨rfl, rfl⟩ (fp_100_55 _ _ _ _) ?_
  refine z_aload_n C dX12_init_434 (i := 0) rfl rfl ?_
  refine z_bipush C dX12_init_435 (v := 60) (by decide) ?_
  obtain ⟨g437, h⟩ := h
  refine t_newa C dX12_init_437 la_int rfl (t := 0) rfl (fun _ => rfl) (by decide) (by decide) (Nat.le_of_ble_eq_true rfl) (by decide) nw_141 (c2 := 41) (s2 := 7144) ⟨Nat.le_of_ble_eq_true rfl, Nat.le_of_ble_eq_true rfl, Nat.le_of_ble_eq_true rfl, Nat.le_of_ble_eq_true rfl⟩ ?_
  rw [g437]
  refine t_same (lc' := [some (.ref 100)]) (stk' := [.ref 141, .ref 100]) rfl rfl ?_
  refine t_tops (fun s437 es437 => ?_)
  have h := h s437 es437
  refine t_put C dX12_init_439 fq_X12_136 (Or.inr hin) (k := 100) (i := 0) (by decide) rfl ⟨rfl, rfl⟩ (fp_100_56 _ _ _ _) ?_
  refine z_aload_n C dX12_init_442 (i := 0) rfl rfl ?_
  refine z_bipush C dX12_init_443 (v := 30) (by decide) ?_
  obtain ⟨g445, h⟩ := h
  refine t_newa C dX12_init_445 la_int rfl (t := 0) rfl (fun _ => rfl) (by decide) (by decide) (Nat.le_of_ble_eq_true rfl) (by decide) nw_142 (c2 := 42) (s2 := 7174) ⟨Nat.le_of_ble_eq_true rfl, Nat.le_of_ble_eq_true rfl, Nat.le_of_ble_eq_true rfl, Nat.le_of_ble_eq_true rfl⟩ ?_
  rw [g445]
  refine t_same (lc' := [some (.ref 100)]) (stk' := [.ref 142, .ref 100]) rfl rfl ?_
  refine t_tops (fun s445 es445 => ?_)
  have h := h s445 es445
  refine t_put C dX12_init_447 fq_X12_139 (Or.inr hin) (k := 100) (i := 0) (by decide) rfl ⟨rfl, rfl⟩ (fp_100_57 _ _ _ _) ?_
  refine z_aload_n C dX12_init_450 (i := 0) rfl rfl ?_
  refine z_bipush C dX12_init_451 (v := 30) (by decide) ?_
  obtain ⟨g453, h⟩ := h
  refine t_newa C dX12_init_453 la_int rfl (t := 0) rfl (fun _ => rfl) (by decide) (by decide) (Nat.le_of_ble_eq_true rfl) (by decide) nw_143 (c2 := 43) (s2 := 7204) ⟨Nat.le_of_ble_eq_true rfl, Nat.le_of_ble_eq_true rfl, Nat.le_of_ble_eq_true rfl, Nat.le_of_ble_eq_true rfl⟩ ?_
  rw [g453]
  refine t_same (lc' := [some (.ref 100)]) (stk' := [.ref 143, .ref 100]) rfl rfl ?_
  refine t_tops (fun s453 es453 => ?_)
  have h := h s453 es453
  refine t_put C dX12_init_455 fq_X12_142 (Or.inr hin) (k := 100) (i := 0) (by decide) rfl ⟨rfl, rfl⟩ (fp_100_58 _ _ _ _) ?_
  refine z_aload_n C dX12_init_458 (i := 0) rfl rfl ?_
  refine z_bipush C dX12_init_459 (v := 72) (by decide) ?_
  obtain ⟨g461, h⟩ := h
  refine t_newa C dX12_init_461 la_int rfl (t := 0) rfl (fun _ => rfl) (by decide) (by decide) (Nat.le_of_ble_eq_true rfl) (by decide) nw_144 (c2 := 44) (s2 := 7276) ⟨Nat.le_of_ble_eq_true rfl, Nat.le_of_ble_eq_true rfl, Nat.le_of_ble_eq_true rfl, Nat.le_of_ble_eq_true rfl⟩ ?_
  rw [g461]
  refine t_same (lc' := [some (.ref 100)]) (stk' := [.ref 144, .ref 100]) rfl rfl ?_
  refine t_tops (fun s461 es461 => ?_)
  have h := h s461 es461
  refine t_put C dX12_init_463 fq_X12_145 (Or.inr hin) (k := 100) (i := 0) (by decide) rfl ⟨rfl, rfl⟩ (fp_100_59 _ _ _ _) ?_
  refine z_aload_n C dX12_init_466 (i := 0) rfl rfl ?_
  refine z_sipush C dX12_init_467 (v := 1440) (by decide) ?_
  obtain ⟨g470, h⟩ := h
  refine t_newa C dX12_init_470 la_int rfl (t := 0) rfl (fun _ => rfl) (by decide) (by decide) (Nat.le_of_ble_eq_true rfl) (by decide) nw_145 (c2 := 45) (s2 := 8716) ⟨Nat.le_of_ble_eq_true rfl, Nat.le_of_ble_eq_true rfl, Nat.le_of_ble_eq_true rfl, Nat.le_of_ble_eq_true rfl⟩ ?_
  rw [g470]
  refine t_same (lc' := [some (.ref 100)]) (stk' := [.ref 145, .ref 100]) rfl rfl ?_
  refine t_tops (fun s470 es470 => ?_)
  have h := h s470 es470
  refine t_put C dX12_init_472 fq_X12_148 (Or.inr hin) (k := 100) (i := 0) (by decide) rfl ⟨rfl, rfl⟩ (fp_100_60 _ _ _ _) ?_
  refine z_aload_n C dX12_init_475 (i := 0) rfl rfl ?_
  refine z_sipush C dX12_init_476 (v := 1440) (by decide) ?_
  obtain ⟨g479, h⟩ := h
  refine t_newa C dX12_init_479 la_int rfl (t := 0) rfl (fun _ => rfl) (by decide) (by decide) (Nat.le_of_ble_eq_true rfl) (by decide) nw_146 (c2 := 46) (s2 := 10156) ⟨Nat.le_of_ble_eq_true rfl, Nat.le_of_ble_eq_true rfl, Nat.le_of_ble_eq_true rfl, Nat.le_of_ble_eq_true rfl⟩ ?_
  rw [g479]
  refine t_same (lc' := [some (.ref 100)]) (stk' := [.ref 146, .ref 100]) rfl rfl ?_
  refine t_tops (fun s479 es479 => ?_)
  have h := h s479 es479
  refine t_put C dX12_init_481 fq_X12_151 (Or.inr hin) (k := 100) (i := 0) (by decide) rfl ⟨rfl, rfl⟩ (fp_100_61 _ _ _ _) ?_
  refine z_aload_n C dX12_init_484 (i := 0) rfl rfl ?_
  refine z_sipush C dX12_init_485 (v := 1440) (by decide) ?_
  obtain ⟨g488, h⟩ := h
  refine t_newa C dX12_init_488 la_int rfl (t := 0) rfl (fun _ => rfl) (by decide) (by decide) (Nat.le_of_ble_eq_true rfl) (by decide) nw_147 (c2 := 47) (s2 := 11596) ⟨Nat.le_of_ble_eq_true rfl, Nat.le_of_ble_eq_true rfl, Nat.le_of_ble_eq_true rfl, Nat.le_of_ble_eq_true rfl⟩ ?_
  rw [g488]
  refine t_same (lc' := [some (.ref 100)]) (stk' := [.ref 147, .ref 100]) rfl rfl ?_
  refine t_tops (fun s488 es488 => ?_)
  have h := h s488 es488
  refine t_put C dX12_init_490 fq_X12_154 (Or.inr hin) (k := 100) (i := 0) (by decide) rfl ⟨rfl, rfl⟩ (fp_100_62 _ _ _ _) ?_
  refine z_aload_n C dX12_init_493 (i := 0) rfl rfl ?_
  refine z_sipush C dX12_init_494 (v := 1440) (by decide) ?_
  obtain ⟨g497, h⟩ := h
  refine t_newa C dX12_init_497 la_int rfl (t := 0) rfl (fun _ => rfl) (by decide) (by decide) (Nat.le_of_ble_eq_true rfl) (by decide) nw_148 (c2 := 48) (s2 := 13036) ⟨Nat.le_of_ble_eq_true rfl, Nat.le_of_ble_eq_true rfl, Nat.le_of_ble_eq_true rfl, Nat.le_of_ble_eq_true rfl⟩ ?_
  rw [g497]
  refine t_same (lc' := [some (.ref 100)]) (stk' := [.ref 148, .ref 100]) rfl rfl ?_
  refine t_tops (fun s497 es497 => ?_)
  have h := h s497 es497
  refine t_put C dX12_init_499 fq_X12_157 (Or.inr hin) (k := 100) (i := 0) (by decide) rfl ⟨rfl, rfl⟩ (fp_100_63 _ _ _ _) ?_
  refine z_aload_n C dX12_init_502 (i := 0) rfl rfl ?_
  refine z_bipush C dX12_init_503 (v := 30) (by decide) ?_
  obtain ⟨g505, h⟩ := h
  refine t_newa C dX12_init_505 la_int rfl (t := 0) rfl (fun _ => rfl) (by decide) (by decide) (Nat.le_of_ble_eq_true rfl) (by decide) nw_149 (c2 := 49) (s2 := 13066) ⟨Nat.le_of_ble_eq_true rfl, Nat.le_of_ble_eq_true rfl, Nat.le_of_ble_eq_true rfl, Nat.le_of_ble_eq_true rfl⟩ ?_
  rw [g505]
  refine t_same (lc' := [some (.ref 100)]) (stk' := [.ref 149, .ref 100]) rfl rfl ?_
  refine t_tops (fun s505 es505 => ?_)
  have h := h s505 es505
  refine t_put C dX12_init_507 fq_X12_160 (Or.inr hin) (k := 100) (i := 0) (by decide) rfl ⟨rfl, rfl⟩ (fp_100_64 _ _ _ _) ?_
  refine z_aload_n C dX12_init_510 (i := 0) rfl rfl ?_
  refine z_bipush C dX12_init_511 (v := 30) (by decide) ?_
  obtain ⟨g513, h⟩ := h
  refine t_newa C dX12_init_513 la_boolean rfl (t := 2) rfl (fun _ => rfl) (by decide) (by decide) (Nat.le_of_ble_eq_true rfl) (by decide) nw_150 (c2 := 50) (s2 := 13096) ⟨Nat.le_of_ble_eq_true rfl, Nat.le_of_ble_eq_true rfl, Nat.le_of_ble_eq_true rfl, Nat.le_of_ble_eq_true rfl⟩ ?_
  rw [g513]
  refine t_same (lc' := [some (.ref 100)]) (stk' := [.ref 150, .ref 100]) rfl rfl ?_
  refine t_tops (fun s513 es513 => ?_)
  have h := h s513 es513
  refine t_put C dX12_init_515 fq_X12_163 (Or.inr hin) (k := 100) (i := 0) (by decide) rfl ⟨rfl, rfl⟩ (fp_100_65 _ _ _ _) ?_
  refine z_aload_n C dX12_init_518 (i := 0) rfl rfl ?_
  refine z_iconst C dX12_init_519 (v := 5) (by decide) ?_
  obtain ⟨g520, h⟩ := h
  refine t_newa C dX12_init_520 la_int rfl (t := 0) rfl (fun _ => rfl) (by decide) (by decide) (Nat.le_of_ble_eq_true rfl) (by decide) nw_151 (c2 := 51) (s2 := 13101) ⟨Nat.le_of_ble_eq_true rfl, Nat.le_of_ble_eq_true rfl, Nat.le_of_ble_eq_true rfl, Nat.le_of_ble_eq_true rfl⟩ ?_
  rw [g520]
  refine t_same (lc' := [some (.ref 100)]) (stk' := [.ref 151, .ref 100]) rfl rfl ?_
  refine t_tops (fun s520 es520 => ?_)
  have h := h s520 es520
  refine t_put C dX12_init_522 fq_X12_166 (Or.inr hin) (k := 100) (i := 0) (by decide) rfl ⟨rfl, rfl⟩ (fp_100_68 _ _ _ _) ?_
  refine z_aload_n C dX12_init_525 (i := 0) rfl rfl ?_
  refine z_bipush C dX12_init_526 (v := 10) (by decide) ?_
  obtain ⟨g528, h⟩ := h
  refine t_newa C dX12_init_528 la_int rfl (t := 0) rfl (fun _ => rfl) (by decide) (by decide) (Nat.le_of_ble_eq_true rfl) (by decide) nw_152 (c2 := 52) (s2 := 13111) ⟨Nat.le_of_ble_eq_true rfl, Nat.le_of_ble_eq_true rfl, Nat.le_of_ble_eq_true rfl, Nat.le_of_ble_eq_true rfl⟩ ?_
  rw [g528]
  refine t_same (lc' := [some (.ref 100)]) (stk' := [.ref 152, .ref 100]) rfl rfl ?_
  refine t_tops (fun s528 es528 => ?_)
  have h := h s528 es528
  refine t_put C dX12_init_530 fq_X12_169 (Or.inr hin) (k := 100) (i := 0) (by decide) rfl ⟨rfl, rfl⟩ (fp_100_69 _ _ _ _) ?_
  refine z_aload_n C dX12_init_533 (i := 0) rfl rfl ?_
  refine z_bipush C dX12_init_534 (v := 10) (by decide) ?_
  obtain ⟨g536, h⟩ := h
  refine t_newa C dX12_init_536 la_int rfl (t := 0) rfl (fun _ => rfl) (by decide) (by decide) (Nat.le_of_ble_eq_true rfl) (by decide) nw_153 (c2 := 53) (s2 := 13121) ⟨Nat.le_of_ble_eq_true rfl, Nat.le_of_ble_eq_true rfl, Nat.le_of_ble_eq_true rfl, Nat.le_of_ble_eq_true rfl⟩ ?_
  rw [g536]
  refine t_same (lc' := [some (.ref 100)]) (stk' := [.ref 153, .ref 100]) rfl rfl ?_
  refine t_tops (fun s536 es536 => ?_)
  have h := h s536 es536
  refine t_put C dX12_init_538 fq_X12_172 (Or.inr hin) (k := 100) (i := 0) (by decide) rfl ⟨rfl, rfl⟩ (fp_100_70 _ _ _ _) ?_
  refine z_aload_n C dX12_init_541 (i := 0) rfl rfl ?_
  refine z_sipush C dX12_init_542 (v := 200) (by decide) ?_
  obtain ⟨g545, h⟩ := h
  refine t_newa C dX12_init_545 la_int rfl (t := 0) rfl (fun _ => rfl) (by decide) (by decide) (Nat.le_of_ble_eq_true rfl) (by decide) nw_154 (c2 := 54) (s2 := 13321) ⟨Nat.le_of_ble_eq_true rfl, Nat.le_of_ble_eq_true rfl, Nat.le_of_ble_eq_true rfl, Nat.le_of_ble_eq_true rfl⟩ ?_
  rw [g545]
  refine t_same (lc' := [some (.ref 100)]) (stk' := [.ref 154, .ref 100]) rfl rfl ?_
  refine t_tops (fun s545 es545 => ?_)
  have h := h s545 es545
  refine t_put C dX12_init_547 fq_X12_175 (Or.inr hin) (k := 100) (i := 0) (by decide) rfl ⟨rfl, rfl⟩ (fp_100_71 _ _ _ _) ?_
  refine z_aload_n C dX12_init_550 (i := 0) rfl rfl ?_
  refine z_sipush C dX12_init_551 (v := 200) (by decide) ?_
  obtain ⟨g554, h⟩ := h
  refine t_newa C dX12_init_554 la_int rfl (t := 0) rfl (fun _ => rfl) (by decide) (by decide) (Nat.le_of_ble_eq_true rfl) (by decide) nw_155 (c2 := 55) (s2 := 13521) ⟨Nat.le_of_ble_eq_true rfl, Nat.le_of_ble_eq_true rfl, Nat.le_of_ble_eq_true rfl, Nat.le_of_ble_eq_true rfl⟩ ?_
  rw [g554]
  refine t_same (lc' := [some (.ref 100)]) (stk' := [.ref 155, .ref 100]) rfl rfl ?_
  refine t_tops (fun s554 es554 => ?_)
  have h := h s554 es554
  refine t_put C dX12_init_556 fq_X12_178 (Or.inr hin) (k := 100) (i := 0) (by decide) rfl ⟨rfl, rfl⟩ (fp_100_72 _ _ _ _) ?_
  refine z_aload_n C dX12_init_559 (i := 0) rfl rfl ?_
  refine z_sipush C dX12_init_560 (v := 441) (by decide) ?_
  obtain ⟨g563, h⟩ := h
  refine t_newa C dX12_init_563 la_int rfl (t := 0) rfl (fun _ => rfl) (by decide) (by decide) (Nat.le_of_ble_eq_true rfl) (by decide) nw_156 (c2 := 56) (s2 := 13962) ⟨Nat.le_of_ble_eq_true rfl, Nat.le_of_ble_eq_true rfl, Nat.le_of_ble_eq_true rfl, Nat.le_of_ble_eq_true rfl⟩ ?_
  rw [g563]
  refine t_same (lc' := [some (.ref 100)]) (stk' := [.ref 156, .ref 100]) rfl rfl ?_
  refine t_tops (fun s563 es563 => ?_)
  have h := h s563 es563
  refine t_put C dX12_init_565 fq_X12_181 (Or.inr hin) (k := 100) (i := 0) (by decide) rfl ⟨rfl, rfl⟩ (fp_100_73 _ _ _ _) ?_
  refine z_aload_n C dX12_init_568 (i := 0) rfl rfl ?_
  refine z_sipush C dX12_init_569 (v := 441) (by decide) ?_
  obtain ⟨g572, h⟩ := h
  refine t_newa C dX12_init_572 la_int rfl (t := 0) rfl (fun _ => rfl) (by decide) (by decide) (Nat.le_of_ble_eq_true rfl) (by decide) nw_157 (c2 := 57) (s2 := 14403) ⟨Nat.le_of_ble_eq_true rfl, Nat.le_of_ble_eq_true rfl, Nat.le_of_ble_eq_true rfl, Nat.le_of_ble_eq_true rfl⟩ ?_
  rw [g572]
  refine t_same (lc' := [some (.ref 100)]) (stk' := [.ref 157, .ref 100]) rfl rfl ?_
  refine t_tops (fun s572 es572 => ?_)
  have h := h s572 es572
  refine t_put C dX12_init_574 fq_X12_184 (Or.inr hin) (k := 100) (i := 0) (by decide) rfl ⟨rfl, rfl⟩ (fp_100_74 _ _ _ _) ?_
  refine z_aload_n C dX12_init_577 (i := 0) rfl rfl ?_
  refine z_bipush C dX12_init_578 (v := 20) (by decide) ?_
  obtain ⟨g580, h⟩ := h
  refine t_newa C dX12_init_580 la_int rfl (t := 0) rfl (fun _ => rfl) (by decide) (by decide) (Nat.le_of_ble_eq_true rfl) (by decide) nw_158 (c2 := 58) (s2 := 14423) ⟨Nat.le_of_ble_eq_true rfl, Nat.le_of_ble_eq_true rfl, Nat.le_of_ble_eq_true rfl, Nat.le_of_ble_eq_true rfl⟩ ?_
  rw [g580]
  refine t_same (lc' := [some (.ref 100)]) (stk' := [.ref 158, .ref 100]) rfl rfl ?_
  refine t_tops (fun s580 es580 => ?_)
  have h := h s580 es580
  refine t_put C dX12_init_582 fq_X12_187 (Or.inr hin) (k := 100) (i := 0) (by decide) rfl ⟨rfl, rfl⟩ (fp_100_75 _ _ _ _) ?_
  refine z_aload_n C dX12_init_585 (i := 0) rfl rfl ?_
  refine z_bipush C dX12_init_586 (v := 10) (by decide) ?_
  obtain ⟨g588, h⟩ := h
  refine t_newa C dX12_init_588 la_int rfl (t := 0) rfl (fun _ => rfl) (by decide) (by decide) (Nat.le_of_ble_eq_true rfl) (by decide) nw_159 (c2 := 59) (s2 := 14433) ⟨Nat.le_of_ble_eq_true rfl, Nat.le_of_ble_eq_true rfl, Nat.le_of_ble_eq_true rfl, Nat.le_of_ble_eq_true rfl⟩ ?_
  rw [g588]
  refine t_same (lc' := [some (.ref 100)]) (stk' := [.ref 159, .ref 100]) rfl rfl ?_
  refine t_tops (fun s588 es588 => ?_)
  have h := h s588 es588
  refine t_put C dX12_init_590 fq_X12_190 (Or.inr hin) (k := 100) (i := 0) (by decide) rfl ⟨rfl, rfl⟩ (fp_100_77 _ _ _ _) ?_
  refine z_aload_n C dX12_init_593 (i := 0) rfl rfl ?_
  refine z_sipush C dX12_init_594 (v := 400) (by decide) ?_
  obtain ⟨g597, h⟩ := h
  refine t_newa C dX12_init_597 la_int rfl (t := 0) rfl (fun _ => rfl) (by decide) (by decide) (Nat.le_of_ble_eq_true rfl) (by decide) nw_160 (c2 := 60) (s2 := 14833) ⟨Nat.le_of_ble_eq_true rfl, Nat.le_of_ble_eq_true rfl, Nat.le_of_ble_eq_true rfl, Nat.le_of_ble_eq_true rfl⟩ ?_
  rw [g597]
  refine t_same (lc' := [some (.ref 100)]) (stk' := [.ref 160, .ref 100]) rfl rfl ?_
  refine t_tops (fun s597 es597 => ?_)
  have h := h s597 es597
  refine t_put C dX12_init_599 fq_X12_193 (Or.inr hin) (k := 100) (i := 0) (by decide) rfl ⟨rfl, rfl⟩ (fp_100_78 _ _ _ _) ?_
  refine z_aload_n C dX12_init_602 (i := 0) rfl rfl ?_
  refine z_sipush C dX12_init_603 (v := 400) (by decide) ?_
  obtain ⟨g606, h⟩ := h
  refine t_newa C dX12_init_606 la_int rfl (t := 0) rfl (fun _ => rfl) (by decide) (by decide) (Nat.le_of_ble_eq_true rfl) (by decide) nw_161 (c2 := 61) (s2 := 15233) ⟨Nat.le_of_ble_eq_true rfl, Nat.le_of_ble_eq_true rfl, Nat.le_of_ble_eq_true rfl, Nat.le_of_ble_eq_true rfl⟩ ?_
  rw [g606]
  refine t_same (lc' := [some (.ref 100)]) (stk' := [.ref 161, .ref 100]) rfl rfl ?_
  refine t_tops (fun s606 es606 => ?_)
  have h := h s606 es606
  refine t_put C dX12_init_608 fq_X12_196 (Or.inr hin) (k := 100) (i := 0) (by decide) rfl ⟨rfl, rfl⟩ (fp_100_79 _ _ _ _) ?_
  exact z_vret C dX12_init_611 hr ⟨_, rfl, rfl, h⟩ (Nat.le_of_ble_eq_true rfl) (Nat.le_of_ble_eq_true rfl)
end
