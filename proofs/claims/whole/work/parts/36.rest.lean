section
variable {Z : zZ} {p : Program} {l : Launch} {e : Env} {s : State} {m : MethodId} {args : Array Value} {below : List Frame} {meth : Method} {c : Code} {ad0 : Nat → Nat} {h0 : zH}
def w_X6_readOne_L10_188 (P : Int32 → zTs → Prop)  (st : zTs) (b0 : Int32) (b1 : Int32) : Prop := w_X6_addStep st (((b1 + b0) * 10000) + (zgF st 13 0 9)) (fun (r198 : Int32) (s198 : zTs) => ((r198 = 0 → P 0 s198) ∧ (¬ r198 = 0 → P 1 s198)))
set_option maxHeartbeats 4000000 in
set_option maxRecDepth 100000 in
theorem j_X6_readOne_L10_188 {P : Int32 → zTs → Prop}  (hfl : l.stackTraces = false) (C : zC Z p s m args meth c cX6_readOne 5 RX6) (hr : meth.sig.returnType = (some .boolean)) (hn9 : True)  (st : zTs) (b0 : Int32) (b1 : Int32) (h : w_X6_readOne_L10_188 P st b0 b1) : zG Z ad0 h0 p l e ({ frames := 8, cells := 0, slots := 0, locals := 164 } : Room) s m args below meth c (MQ below (zQ Z ad0 h0 (zWi Z P)) args s 0 0 (zA Z)) 0 0 (zh Z zm1 st) 5 188 [some (.ref 13), none, none, none, none] [.int (b0), .int (b1), .ref 13] := by
  unfold w_X6_readOne_L10_188 at h
  refine z_iadd C dX6_readOne_188 ?_
  refine z_sipush C dX6_readOne_189 (v := 10000) (by decide) ?_
  refine z_imul C dX6_readOne_192 ?_
  refine z_aload_n C dX6_readOne_193 (i := 0) rfl rfl ?_
  refine t_get C dX6_readOne_194 fl_X6_83 (k := 13) (i := 0) (by decide) rfl (fg_13_9 _ _ _) ?_
  refine z_iadd C dX6_readOne_197 ?_
  refine t_callV C (rest := []) (c2 := 0) (s2 := 0) (kd := 13) (i := 0) [.int (((b1 + b0) * 10000) + (zgF st 13 0 9))] dX6_readOne_198 lk_X6_196 li_X6_addStep le_X6_addStep (c_X6_addStep hfl h) rfl rfl (by decide) rfl ⟨_, rfl⟩ rfl ⟨Nat.le_of_ble_eq_true rfl, Nat.le_of_ble_eq_true rfl⟩ (Nat.le_of_ble_eq_true rfl) ⟨Nat.le_of_ble_eq_true rfl, Nat.le_of_ble_eq_true rfl, Nat.le_of_ble_eq_true rfl, Nat.le_of_ble_eq_true rfl⟩ (k_Wi fun r198 s198 h => ?_)
  refine z_if_eq C dX6_readOne_201 (tgt := 208) (by decide) (fun c201 => ?_) (fun c201 => ?_)
  · have h := h.1 c201
    refine z_iconst C dX6_readOne_208 (v := 0) (by decide) ?_
    exact z_iret C dX6_readOne_209 hr rfl ⟨_, _, rfl, rfl, h⟩ (Nat.le_of_ble_eq_true rfl) (Nat.le_of_ble_eq_true rfl)
  · have h := h.2 c201
    refine z_iconst C dX6_readOne_204 (v := 1) (by decide) ?_
    refine z_goto C dX6_readOne_205 (tgt := 209) (by decide) ?_
    exact z_iret C dX6_readOne_209 hr rfl ⟨_, _, rfl, rfl, h⟩ (Nat.le_of_ble_eq_true rfl) (Nat.le_of_ble_eq_true rfl)
def w_X6_readOne_L10_159 (P : Int32 → zTs → Prop)  (st : zTs) (a3 : Int32) (a4 : Int32) : Prop := w_X6_advance st (fun (s160 : zTs) => (w_X6_takeNumber s160 0 9999 (fun (r168 : Int32) (s168 : zTs) => ((r168 = 0 → P 0 s168) ∧ (¬ r168 = 0 → (a4 = 0 → w_X6_readOne_L10_188 P s168 (0) (2 * a3)) ∧ (¬ a4 = 0 → w_X6_readOne_L10_188 P s168 (1) (2 * a3)))))))
set_option maxHeartbeats 4000000 in
set_option maxRecDepth 100000 in
theorem j_X6_readOne_L10_159 {P : Int32 → zTs → Prop}  (hfl : l.stackTraces = false) (C : zC Z p s m args meth c cX6_readOne 5 RX6) (hr : meth.sig.returnType = (some .boolean)) (hn9 : True)  (st : zTs) (a3 : Int32) (a4 : Int32) (h : w_X6_readOne_L10_159 P st a3 a4) : zG Z ad0 h0 p l e ({ frames := 8, cells := 0, slots := 0, locals := 164 } : Room) s m args below meth c (MQ below (zQ Z ad0 h0 (zWi Z P)) args s 0 0 (zA Z)) 0 0 (zh Z zm1 st) 5 159 [some (.ref 13), none, none, some (.int (a3)), some (.int (a4))] [] := by
  unfold w_X6_readOne_L10_159 at h
  refine z_aload_n C dX6_readOne_159 (i := 0) rfl rfl ?_
  refine t_callV C (rest := []) (c2 := 0) (s2 := 0) (kd := 13) (i := 0) [] dX6_readOne_160 lk_X6_61 li_X6_advance le_X6_advance (c_X6_advance hfl h) rfl rfl (by decide) rfl ⟨_, rfl⟩ rfl ⟨Nat.le_of_ble_eq_true rfl, Nat.le_of_ble_eq_true rfl⟩ (Nat.le_of_ble_eq_true rfl) ⟨Nat.le_of_ble_eq_true rfl, Nat.le_of_ble_eq_true rfl, Nat.le_of_ble_eq_true rfl, Nat.le_of_ble_eq_true rfl⟩ (k_Wv fun s160 h => ?_)
  refine z_aload_n C dX6_readOne_163 (i := 0) rfl rfl ?_
  refine z_iconst C dX6_readOne_164 (v := 0) (by decide) ?_
  refine z_sipush C dX6_readOne_165 (v := 9999) (by decide) ?_
  refine t_callV C (rest := []) (c2 := 0) (s2 := 0) (kd := 13) (i := 0) [.int (0), .int (9999)] dX6_readOne_168 lk_X6_125 li_X6_takeNumber le_X6_takeNumber (c_X6_takeNumber hfl h) rfl rfl (by decide) rfl ⟨_, rfl⟩ rfl ⟨Nat.le_of_ble_eq_true rfl, Nat.le_of_ble_eq_true rfl⟩ (Nat.le_of_ble_eq_true rfl) ⟨Nat.le_of_ble_eq_true rfl, Nat.le_of_ble_eq_true rfl, Nat.le_of_ble_eq_true rfl, Nat.le_of_ble_eq_true rfl⟩ (k_Wi fun r168 s168 h => ?_)
  refine z_if_eq C dX6_readOne_171 (tgt := 208) (by decide) (fun c171 => ?_) (fun c171 => ?_)
  · have h := h.1 c171
    refine z_iconst C dX6_readOne_208 (v := 0) (by decide) ?_
    exact z_iret C dX6_readOne_209 hr rfl ⟨_, _, rfl, rfl, h⟩ (Nat.le_of_ble_eq_true rfl) (Nat.le_of_ble_eq_true rfl)
  · have h := h.2 c171
    refine z_aload_n C dX6_readOne_174 (i := 0) rfl rfl ?_
    refine z_iconst C dX6_readOne_175 (v := 2) (by decide) ?_
    refine z_iload_n C dX6_readOne_176 (i := 3) rfl rfl ?_
    refine z_imul C dX6_readOne_177 ?_
    refine z_iload C dX6_readOne_178 rfl ?_
    refine z_if_eq C dX6_readOne_180 (tgt := 187) (by decide) (fun c180 => ?_) (fun c180 => ?_)
    · have h := h.1 c180
      refine z_iconst C dX6_readOne_187 (v := 0) (by decide) ?_
      exact t_drop [true, false, false, false, false] rfl (j_X6_readOne_L10_188 hfl C hr hn9  s168 (0) (2 * a3) h)
    · have h := h.2 c180
      refine z_iconst C dX6_readOne_183 (v := 1) (by decide) ?_
      refine z_goto C dX6_readOne_184 (tgt := 188) (by decide) ?_
      exact t_drop [true, false, false, false, false] rfl (j_X6_readOne_L10_188 hfl C hr hn9  s168 (1) (2 * a3) h)
def w_X6_readOne_L10_137 (P : Int32 → zTs → Prop)  (st : zTs) (a3 : Int32) (b0 : Int32) : Prop := (b0 = 0 → ((zgF st 13 0 8) = 60 → w_X6_readOne_L10_159 P st a3 b0) ∧ (¬ (zgF st 13 0 8) = 60 → w_X6_fail st 1 (fun (r155 : Int32) (s155 : zTs) => ((r155 = 0 ∨ r155 = 1) ∧ (P r155 s155))))) ∧ (¬ b0 = 0 → w_X6_readOne_L10_159 P st a3 b0)
set_option maxHeartbeats 4000000 in
set_option maxRecDepth 100000 in
theorem j_X6_readOne_L10_137 {P : Int32 → zTs → Prop}  (hfl : l.stackTraces = false) (C : zC Z p s m args meth c cX6_readOne 5 RX6) (hr : meth.sig.returnType = (some .boolean)) (hn9 : True)  (st : zTs) (a3 : Int32) (b0 : Int32) (h : w_X6_readOne_L10_137 P st a3 b0) : zG Z ad0 h0 p l e ({ frames := 8, cells := 0, slots := 0, locals := 164 } : Room) s m args below meth c (MQ below (zQ Z ad0 h0 (zWi Z P)) args s 0 0 (zA Z)) 0 0 (zh Z zm1 st) 5 137 [some (.ref 13), none, none, some (.int (a3)), none] [.int (b0)] := by
  unfold w_X6_readOne_L10_137 at h
  refine z_istore C dX6_readOne_137 (lc' := [some (.ref 13), none, none, some (.int (a3)), some (.int (b0))]) (by decide) rfl ?_
  refine z_iload C dX6_readOne_139 rfl ?_
  refine z_if_ne C dX6_readOne_141 (tgt := 159) (by decide) (fun c141 => ?_) (fun c141 => ?_)
  · have h := h.2 c141
    exact t_drop [true, false, false, true, true] rfl (j_X6_readOne_L10_159 hfl C hr hn9  st a3 b0 h)
  · have h := h.1 c141
    refine z_aload_n C dX6_readOne_144 (i := 0) rfl rfl ?_
    refine t_get C dX6_readOne_145 fl_X6_28 (k := 13) (i := 0) (by decide) rfl (fg_13_8 _ _ _) ?_
    refine z_bipush C dX6_readOne_148 (v := 60) (by decide) ?_
    refine z_icmp_eq C dX6_readOne_150 (tgt := 159) (by decide) (fun c150 => ?_) (fun c150 => ?_)
    · have h := h.1 c150
      exact t_drop [true, false, false, true, true] rfl (j_X6_readOne_L10_159 hfl C hr hn9  st a3 b0 h)
    · have h := h.2 c150
      refine z_aload_n C dX6_readOne_153 (i := 0) rfl rfl ?_
      refine z_iconst C dX6_readOne_154 (v := 1) (by decide) ?_
      refine t_callV C (rest := []) (c2 := 0) (s2 := 0) (kd := 13) (i := 0) [.int (1)] dX6_readOne_155 lk_X6_79 li_X6_fail le_X6_fail (c_X6_fail hfl h) rfl rfl (by decide) rfl ⟨_, rfl⟩ rfl ⟨Nat.le_of_ble_eq_true rfl, Nat.le_of_ble_eq_true rfl⟩ (Nat.le_of_ble_eq_true rfl) ⟨Nat.le_of_ble_eq_true rfl, Nat.le_of_ble_eq_true rfl, Nat.le_of_ble_eq_true rfl, Nat.le_of_ble_eq_true rfl⟩ (k_Wi fun r155 s155 h => ?_)
      obtain ⟨g158, h⟩ := h
      exact z_iret C dX6_readOne_158 hr (zn_bool g158) ⟨_, _, rfl, rfl, h⟩ (Nat.le_of_ble_eq_true rfl) (Nat.le_of_ble_eq_true rfl)
def w_X6_readOne_L10_29 (P : Int32 → zTs → Prop)  (st : zTs) (a1 : Int32) (a2 : Int32) : Prop := (a1 < 8 → w_X6_advance st (fun (s42 : zTs) => ((a2 = 0 → False) ∧ (¬ a2 = 0 → False)))) ∧ (¬ a1 < 8 → w_X6_fail st 3 (fun (r37 : Int32) (s37 : zTs) => ((r37 = 0 ∨ r37 = 1) ∧ (P r37 s37))))
set_option maxHeartbeats 4000000 in
set_option maxRecDepth 100000 in
theorem j_X6_readOne_L10_29 {P : Int32 → zTs → Prop}  (hfl : l.stackTraces = false) (C : zC Z p s m args meth c cX6_readOne 5 RX6) (hr : meth.sig.returnType = (some .boolean)) (hn9 : True)  (st : zTs) (a1 : Int32) (a2 : Int32) (h : w_X6_readOne_L10_29 P st a1 a2) : zG Z ad0 h0 p l e ({ frames := 8, cells := 0, slots := 0, locals := 164 } : Room) s m args below meth c (MQ below (zQ Z ad0 h0 (zWi Z P)) args s 0 0 (zA Z)) 0 0 (zh Z zm1 st) 5 29 [some (.ref 13), some (.int (a1)), some (.int (a2)), none, none] [] := by
  unfold w_X6_readOne_L10_29 at h
  refine z_iload_n C dX6_readOne_29 (i := 1) rfl rfl ?_
  refine z_bipush C dX6_readOne_30 (v := 8) (by decide) ?_
  refine z_icmp_lt C dX6_readOne_32 (tgt := 41) (by decide) (fun c32 => ?_) (fun c32 => ?_)
  · have h := h.1 c32
    refine z_aload_n C dX6_readOne_41 (i := 0) rfl rfl ?_
    refine t_callV C (rest := []) (c2 := 0) (s2 := 0) (kd := 13) (i := 0) [] dX6_readOne_42 lk_X6_61 li_X6_advance le_X6_advance (c_X6_advance hfl h) rfl rfl (by decide) rfl ⟨_, rfl⟩ rfl ⟨Nat.le_of_ble_eq_true rfl, Nat.le_of_ble_eq_true rfl⟩ (Nat.le_of_ble_eq_true rfl) ⟨Nat.le_of_ble_eq_true rfl, Nat.le_of_ble_eq_true rfl, Nat.le_of_ble_eq_true rfl, Nat.le_of_ble_eq_true rfl⟩ (k_Wv fun s42 h => ?_)
    refine z_iload_n C dX6_readOne_45 (i := 2) rfl rfl ?_
    refine z_if_eq C dX6_readOne_46 (tgt := 75) (by decide) (fun c46 => ?_) (fun c46 => ?_)
    · have h := h.1 c46
      refine z_aload_n C dX6_readOne_75 (i := 0) rfl rfl ?_
      refine z_iload_n C dX6_readOne_76 (i := 1) rfl rfl ?_
      refine z_iconst C dX6_readOne_77 (v := 1) (by decide) ?_
      refine z_iadd C dX6_readOne_78 ?_
      exact h.elim
    · have h := h.2 c46
      refine z_aload_n C dX6_readOne_49 (i := 0) rfl rfl ?_
      refine z_iload_n C dX6_readOne_50 (i := 1) rfl rfl ?_
      refine z_iconst C dX6_readOne_51 (v := 1) (by decide) ?_
      refine z_iadd C dX6_readOne_52 ?_
      exact h.elim
  · have h := h.2 c32
    refine z_aload_n C dX6_readOne_35 (i := 0) rfl rfl ?_
    refine z_iconst C dX6_readOne_36 (v := 3) (by decide) ?_
    refine t_callV C (rest := []) (c2 := 0) (s2 := 0) (kd := 13) (i := 0) [.int (3)] dX6_readOne_37 lk_X6_79 li_X6_fail le_X6_fail (c_X6_fail hfl h) rfl rfl (by decide) rfl ⟨_, rfl⟩ rfl ⟨Nat.le_of_ble_eq_true rfl, Nat.le_of_ble_eq_true rfl⟩ (Nat.le_of_ble_eq_true rfl) ⟨Nat.le_of_ble_eq_true rfl, Nat.le_of_ble_eq_true rfl, Nat.le_of_ble_eq_true rfl, Nat.le_of_ble_eq_true rfl⟩ (k_Wi fun r37 s37 h => ?_)
    obtain ⟨g40, h⟩ := h
    exact z_iret C dX6_readOne_40 hr (zn_bool g40) ⟨_, _, rfl, rfl, h⟩ (Nat.le_of_ble_eq_true rfl) (Nat.le_of_ble_eq_true rfl)
def w_X6_readOne_L10_15 (P : Int32 → zTs → Prop)  (st : zTs) (a1 : Int32) (b0 : Int32) : Prop := (b0 = 0 → ((zgF st 13 0 8) = 40 → w_X6_readOne_L10_29 P st a1 b0) ∧ (¬ (zgF st 13 0 8) = 40 → w_X6_measureOf st (zgP st 13 0 6) (fun (r104 : Int32) => ((r104 = (-1) → w_X6_fail st 1 (fun (r115 : Int32) (s115 : zTs) => ((r115 = 0 ∨ r115 = 1) ∧ (P r115 s115)))) ∧ (¬ r104 = (-1) → w_X6_advance st (fun (s120 : zTs) => (((zgF s120 13 0 8) = 62 → w_X6_readOne_L10_137 P s120 r104 (1)) ∧ (¬ (zgF s120 13 0 8) = 62 → w_X6_readOne_L10_137 P s120 r104 (0))))))))) ∧ (¬ b0 = 0 → w_X6_readOne_L10_29 P st a1 b0)
set_option maxHeartbeats 4000000 in
set_option maxRecDepth 100000 in
theorem j_X6_readOne_L10_15 {P : Int32 → zTs → Prop}  (hfl : l.stackTraces = false) (C : zC Z p s m args meth c cX6_readOne 5 RX6) (hr : meth.sig.returnType = (some .boolean)) (hn9 : True)  (st : zTs) (a1 : Int32) (b0 : Int32) (h : w_X6_readOne_L10_15 P st a1 b0) : zG Z ad0 h0 p l e ({ frames := 8, cells := 0, slots := 0, locals := 164 } : Room) s m args below meth c (MQ below (zQ Z ad0 h0 (zWi Z P)) args s 0 0 (zA Z)) 0 0 (zh Z zm1 st) 5 15 [some (.ref 13), some (.int (a1)), none, none, none] [.int (b0)] := by
  unfold w_X6_readOne_L10_15 at h
  refine z_istore_n C dX6_readOne_15 (i := 2) (lc' := [some (.ref 13), some (.int (a1)), some (.int (b0)), none, none]) rfl (by decide) rfl ?_
  refine z_iload_n C dX6_readOne_16 (i := 2) rfl rfl ?_
  refine z_if_ne C dX6_readOne_17 (tgt := 29) (by decide) (fun c17 => ?_) (fun c17 => ?_)
  · have h := h.2 c17
    exact t_drop [true, true, true, false, false] rfl (j_X6_readOne_L10_29 hfl C hr hn9  st a1 b0 h)
  · have h := h.1 c17
    refine z_aload_n C dX6_readOne_20 (i := 0) rfl rfl ?_
    refine t_get C dX6_readOne_21 fl_X6_28 (k := 13) (i := 0) (by decide) rfl (fg_13_8 _ _ _) ?_
    refine z_bipush C dX6_readOne_24 (v := 40) (by decide) ?_
    refine z_icmp_ne C dX6_readOne_26 (tgt := 100) (by decide) (fun c26 => ?_) (fun c26 => ?_)
    · have h := h.2 c26
      refine z_aload_n C dX6_readOne_100 (i := 0) rfl rfl ?_
      refine t_get C dX6_readOne_101 fl_X6_21 (k := 13) (i := 0) (by decide) rfl (fg_13_6 _ _ _) ?_
      refine t_callS C (rest := []) (c2 := 0) (s2 := 0) [.ref (201 + 256 * (zgP st 13 0 6))] dX6_readOne_104 lk_X6_208 ls_X6_measureOf (c_X6_measureOf hfl h) rfl rfl ⟨Nat.le_of_ble_eq_true rfl, Nat.le_of_ble_eq_true rfl⟩ (Nat.le_of_ble_eq_true rfl) ⟨Nat.le_of_ble_eq_true rfl, Nat.le_of_ble_eq_true rfl, Nat.le_of_ble_eq_true rfl, Nat.le_of_ble_eq_true rfl⟩ (k_Ri fun r104 h => ?_)
      refine z_istore_n C dX6_readOne_107 (i := 3) (lc' := [some (.ref 13), some (.int (a1)), some (.int (b0)), some (.int (r104)), none]) rfl (by decide) rfl ?_
      refine z_iload_n C dX6_readOne_108 (i := 3) rfl rfl ?_
      refine z_iconst C dX6_readOne_109 (v := (-1)) (by decide) ?_
      refine z_icmp_ne C dX6_readOne_110 (tgt := 119) (by decide) (fun c110 => ?_) (fun c110 => ?_)
      · have h := h.2 c110
        refine z_aload_n C dX6_readOne_119 (i := 0) rfl rfl ?_
        refine t_callV C (rest := []) (c2 := 0) (s2 := 0) (kd := 13) (i := 0) [] dX6_readOne_120 lk_X6_61 li_X6_advance le_X6_advance (c_X6_advance hfl h) rfl rfl (by decide) rfl ⟨_, rfl⟩ rfl ⟨Nat.le_of_ble_eq_true rfl, Nat.le_of_ble_eq_true rfl⟩ (Nat.le_of_ble_eq_true rfl) ⟨Nat.le_of_ble_eq_true rfl, Nat.le_of_ble_eq_true rfl, Nat.le_of_ble_eq_true rfl, Nat.le_of_ble_eq_true rfl⟩ (k_Wv fun s120 h => ?_)
        refine z_aload_n C dX6_readOne_123 (i := 0) rfl rfl ?_
        refine t_get C dX6_readOne_124 fl_X6_28 (k := 13) (i := 0) (by decide) rfl (fg_13_8 _ _ _) ?_
        refine z_bipush C dX6_readOne_127 (v := 62) (by decide) ?_
        refine z_icmp_ne C dX6_readOne_129 (tgt := 136) (by decide) (fun c129 => ?_) (fun c129 => ?_)
        · have h := h.2 c129
          refine z_iconst C dX6_readOne_136 (v := 0) (by decide) ?_
          exact t_drop [true, false, false, true, false] rfl (j_X6_readOne_L10_137 hfl C hr hn9  s120 r104 (0) h)
        · have h := h.1 c129
          refine z_iconst C dX6_readOne_132 (v := 1) (by decide) ?_
          refine z_goto C dX6_readOne_133 (tgt := 137) (by decide) ?_
          exact t_drop [true, false, false, true, false] rfl (j_X6_readOne_L10_137 hfl C hr hn9  s120 r104 (1) h)
      · have h := h.1 c110
        refine z_aload_n C dX6_readOne_113 (i := 0) rfl rfl ?_
        refine z_iconst C dX6_readOne_114 (v := 1) (by decide) ?_
        refine t_callV C (rest := []) (c2 := 0) (s2 := 0) (kd := 13) (i := 0) [.int (1)] dX6_readOne_115 lk_X6_79 li_X6_fail le_X6_fail (c_X6_fail hfl h) rfl rfl (by decide) rfl ⟨_, rfl⟩ rfl ⟨Nat.le_of_ble_eq_true rfl, Nat.le_of_ble_eq_true rfl⟩ (Nat.le_of_ble_eq_true rfl) ⟨Nat.le_of_ble_eq_true rfl, Nat.le_of_ble_eq_true rfl, Nat.le_of_ble_eq_true rfl, Nat.le_of_ble_eq_true rfl⟩ (k_Wi fun r115 s115 h => ?_)
        obtain ⟨g118, h⟩ := h
        exact z_iret C dX6_readOne_118 hr (zn_bool g118) ⟨_, _, rfl, rfl, h⟩ (Nat.le_of_ble_eq_true rfl) (Nat.le_of_ble_eq_true rfl)
    · have h := h.1 c26
      exact t_drop [true, true, true, false, false] rfl (j_X6_readOne_L10_29 hfl C hr hn9  st a1 b0 h)
def w_X6_readOne_L10 (st : zTs) (a1 : Int32) (P : Int32 → zTs → Prop) : Prop := (zgP st 13 0 6 < 24) ∧ ((((zgP st 13 0 6) : Nat) = 20 → w_X6_readOne_L10_15 P st a1 (1)) ∧ (¬ ((zgP st 13 0 6) : Nat) = 20 → w_X6_readOne_L10_15 P st a1 (0)))
set_option maxHeartbeats 4000000 in
set_option maxRecDepth 100000 in
theorem c_X6_readOne_L10 {Z : zZ} {l : Launch} (hfl : l.stackTraces = false) {st : zTs} {a1 : Int32} {P : Int32 → zTs → Prop} (h : w_X6_readOne_L10 st a1 P) : zN Z l yX6_readOne cX6_readOne 5 (some .boolean) ({ frames := 8, cells := 0, slots := 0, locals := 164 } : Room) (zh Z zm1 st) [.ref 13, .int (a1)] (zWi Z P) := by
  unfold w_X6_readOne_L10 at h
  refine z_enterN (by decide) (Nat.le_of_ble_eq_true rfl) (lc0 := [some (.ref 13), some (.int (a1)), none, none, none]) rfl ?_
  intro p e s m args below meth c ad0 C hr _
  have hn9 : True := trivial
  replace C : zC Z p s m args meth c cX6_readOne 5 RX6 := C
  refine z_aload_n C dX6_readOne_0 (i := 0) rfl rfl ?_
  refine t_get C dX6_readOne_1 fl_X6_21 (k := 13) (i := 0) (by decide) rfl (fg_13_6 _ _ _) ?_
  refine z_gets C dX6_readOne_4 (q := 201 + 256 * 20) (by decide) gl_X6_205 (fun z => (z.2.2.2.1.1.1 20 (by decide)).1) ?_
  obtain ⟨g7a, h⟩ := h
  refine z_acmpW_ne C dX6_readOne_7 (i := (zgP st 13 0 6)) (j := 20) (tgt := 14) (by decide) g7a (by decide) (fun c7 => ?_) (fun c7 => ?_)
  · have h := h.2 c7
    refine z_iconst C dX6_readOne_14 (v := 0) (by decide) ?_
    exact t_drop [true, true, false, false, false] rfl (j_X6_readOne_L10_15 hfl C hr hn9  st a1 (0) h)
  · have h := h.1 c7
    refine z_iconst C dX6_readOne_10 (v := 1) (by decide) ?_
    refine z_goto C dX6_readOne_11 (tgt := 15) (by decide) ?_
    exact t_drop [true, true, false, false, false] rfl (j_X6_readOne_L10_15 hfl C hr hn9  st a1 (1) h)
def w_X6_readAllOf_L10_56 (P : Int32 → zTs → Prop) (K8 : zTs → Int32 → Int32 → Int32 → Prop) (st : zTs) (a1 : Int32) (a3 : Int32) (b0 : Int32) : Prop := ∀ x57 : Int32, x57 = a3 + 1 → (K8 st a1 b0 x57)
set_option maxHeartbeats 4000000 in
set_option maxRecDepth 100000 in
theorem j_X6_readAllOf_L10_56 {P : Int32 → zTs → Prop} {K8 : zTs → Int32 → Int32 → Int32 → Prop} (hfl : l.stackTraces = false) (C : zC Z p s m args meth c cX6_readAllOf 4 RX6) (hr : meth.sig.returnType = (some .boolean)) (hn9 : True) (hK8 : ∀ (st : zTs) (a1 : Int32) (a2 : Int32) (a3 : Int32), K8 st a1 a2 a3 → zG Z ad0 h0 p l e ({ frames := 9, cells := 0, slots := 0, locals := 188 } : Room) s m args below meth c (MQ below (zQ Z ad0 h0 (zWi Z P)) args s 0 0 (zA Z)) 0 0 (zh Z zm1 st) 4 8 [some (.ref 13), some (.int (a1)), some (.int (a2)), some (.int (a3))] []) (st : zTs) (a1 : Int32) (a3 : Int32) (b0 : Int32) (h : w_X6_readAllOf_L10_56 P K8 st a1 a3 b0) : zG Z ad0 h0 p l e ({ frames := 9, cells := 0, slots := 0, locals := 188 } : Room) s m args below meth c (MQ below (zQ Z ad0 h0 (zWi Z P)) args s 0 0 (zA Z)) 0 0 (zh Z zm1 st) 4 56 [some (.ref 13), some (.int (a1)), none, some (.int (a3))] [.int (b0)] := by
  unfold w_X6_readAllOf_L10_56 at h
  refine z_istore_n C dX6_readAllOf_56 (i := 2) (lc' := [some (.ref 13), some (.int (a1)), some (.int (b0)), some (.int (a3))]) rfl (by decide) rfl ?_
  obtain ⟨x57, ex57⟩ : ∃ z : Int32, z = a3 + 1 := ⟨_, rfl⟩
  have h := h x57 ex57
  refine z_iinc C dX6_readAllOf_57 (v := x57) (lc' := [some (.ref 13), some (.int (a1)), some (.int (b0)), some (.int (x57))]) rfl (by decide) (by rw [ex57]; rfl) rfl ?_
  refine z_goto C dX6_readAllOf_60 (tgt := 8) (by decide) ?_
  exact t_drop [true, true, true, true] rfl (hK8 st a1 b0 x57 h)
def w_X6_readAllOf_L10_55 (P : Int32 → zTs → Prop) (K8 : zTs → Int32 → Int32 → Int32 → Prop) (st : zTs) (a1 : Int32) (a3 : Int32) : Prop := w_X6_readAllOf_L10_56 P K8 st a1 a3 (0)
set_option maxHeartbeats 4000000 in
set_option maxRecDepth 100000 in
theorem j_X6_readAllOf_L10_55 {P : Int32 → zTs → Prop} {K8 : zTs → Int32 → Int32 → Int32 → Prop} (hfl : l.stackTraces = false) (C : zC Z p s m args meth c cX6_readAllOf 4 RX6) (hr : meth.sig.returnType = (some .boolean)) (hn9 : True) (hK8 : ∀ (st : zTs) (a1 : Int32) (a2 : Int32) (a3 : Int32), K8 st a1 a2 a3 → zG Z ad0 h0 p l e ({ frames := 9, cells := 0, slots := 0, locals := 188 } : Room) s m args below meth c (MQ below (zQ Z ad0 h0 (zWi Z P)) args s 0 0 (zA Z)) 0 0 (zh Z zm1 st) 4 8 [some (.ref 13), some (.int (a1)), some (.int (a2)), some (.int (a3))] []) (st : zTs) (a1 : Int32) (a3 : Int32) (h : w_X6_readAllOf_L10_55 P K8 st a1 a3) : zG Z ad0 h0 p l e ({ frames := 9, cells := 0, slots := 0, locals := 188 } : Room) s m args below meth c (MQ below (zQ Z ad0 h0 (zWi Z P)) args s 0 0 (zA Z)) 0 0 (zh Z zm1 st) 4 55 [some (.ref 13), some (.int (a1)), none, some (.int (a3))] [] := by
  unfold w_X6_readAllOf_L10_55 at h
  refine z_iconst C dX6_readAllOf_55 (v := 0) (by decide) ?_
  exact t_drop [true, true, false, true] rfl (j_X6_readAllOf_L10_56 hfl C hr hn9 hK8 st a1 a3 (0) h)
def w_X6_readAllOf_L10_8 (P : Int32 → zTs → Prop)  : Nat → zTs → Int32 → Int32 → Int32 → Prop
  | 0, _, _, _, _ => False
  | n9 + 1, st, a1, a2, a3 => ((zgF st 13 0 3) ≤ a3 → (a2 = 0 ∨ a2 = 1) ∧ (P a2 st)) ∧ (¬ (zgF st 13 0 3) ≤ a3 → (a2 = 0 → (a2 = 0 ∨ a2 = 1) ∧ (P a2 st)) ∧ (¬ a2 = 0 → (zgP st 13 0 6 < 24) ∧ ((((zgP st 13 0 6) : Nat) = 19 → w_X6_advance st (fun (s31 : zTs) => (w_X6_readOne_L10 s31 a1 (fun (r36 : Int32) (s36 : zTs) => ((r36 = 0 → w_X6_readAllOf_L10_55 P (w_X6_readAllOf_L10_8 P n9) s36 a1 a3) ∧ (¬ r36 = 0 → w_X6_addStep s36 (-2) (fun (r45 : Int32) (s45 : zTs) => ((r45 = 0 → w_X6_readAllOf_L10_55 P (w_X6_readAllOf_L10_8 P n9) s45 a1 a3) ∧ (¬ r45 = 0 → w_X6_readAllOf_L10_56 P (w_X6_readAllOf_L10_8 P n9) s45 a1 a3 (1)))))))))) ∧ (¬ ((zgP st 13 0 6) : Nat) = 19 → (a2 = 0 ∨ a2 = 1) ∧ (P a2 st)))))
set_option maxHeartbeats 4000000 in
set_option maxRecDepth 100000 in
theorem j_X6_readAllOf_L10_8 {P : Int32 → zTs → Prop}  (hfl : l.stackTraces = false) (C : zC Z p s m args meth c cX6_readAllOf 4 RX6) (hr : meth.sig.returnType = (some .boolean)) (hn9 : True)  : ∀ (n9 : Nat) (st : zTs) (a1 : Int32) (a2 : Int32) (a3 : Int32), w_X6_readAllOf_L10_8 P n9 st a1 a2 a3 → zG Z ad0 h0 p l e ({ frames := 9, cells := 0, slots := 0, locals := 188 } : Room) s m args below meth c (MQ below (zQ Z ad0 h0 (zWi Z P)) args s 0 0 (zA Z)) 0 0 (zh Z zm1 st) 4 8 [some (.ref 13), some (.int (a1)), some (.int (a2)), some (.int (a3))] [] := by
  intro n9
  induction n9 with
  | zero => intro st a1 a2 a3 h; exact h.elim
  | succ n9 hK8 =>
    intro st a1 a2 a3 h
    rw [w_X6_readAllOf_L10_8] at h
    refine z_iload_n C dX6_readAllOf_8 (i := 3) rfl rfl ?_
    refine z_aload_n C dX6_readAllOf_9 (i := 0) rfl rfl ?_
    refine t_get C dX6_readAllOf_10 fl_X6_55 (k := 13) (i := 0) (by decide) rfl (fg_13_3 _ _ _) ?_
    refine z_icmp_ge C dX6_readAllOf_13 (tgt := 63) (by decide) (fun c13 => ?_) (fun c13 => ?_)
    · have h := h.1 c13
      refine z_iload_n C dX6_readAllOf_63 (i := 2) rfl rfl ?_
      obtain ⟨g64, h⟩ := h
      exact z_iret C dX6_readAllOf_64 hr (zn_bool g64) ⟨_, _, rfl, rfl, h⟩ (Nat.le_of_ble_eq_true rfl) (Nat.le_of_ble_eq_true rfl)
    · have h := h.2 c13
      refine z_iload_n C dX6_readAllOf_16 (i := 2) rfl rfl ?_
      refine z_if_eq C dX6_readAllOf_17 (tgt := 63) (by decide) (fun c17 => ?_) (fun c17 => ?_)
      · have h := h.1 c17
        refine z_iload_n C dX6_readAllOf_63 (i := 2) rfl rfl ?_
        obtain ⟨g64, h⟩ := h
        exact z_iret C dX6_readAllOf_64 hr (zn_bool g64) ⟨_, _, rfl, rfl, h⟩ (Nat.le_of_ble_eq_true rfl) (Nat.le_of_ble_eq_true rfl)
      · have h := h.2 c17
        refine z_aload_n C dX6_readAllOf_20 (i := 0) rfl rfl ?_
        refine t_get C dX6_readAllOf_21 fl_X6_21 (k := 13) (i := 0) (by decide) rfl (fg_13_6 _ _ _) ?_
        refine z_gets C dX6_readAllOf_24 (q := 201 + 256 * 19) (by decide) gl_X6_202 (fun z => (z.2.2.2.1.1.1 19 (by decide)).1) ?_
        obtain ⟨g27a, h⟩ := h
        refine z_acmpW_ne C dX6_readAllOf_27 (i := (zgP st 13 0 6)) (j := 19) (tgt := 63) (by decide) g27a (by decide) (fun c27 => ?_) (fun c27 => ?_)
        · have h := h.2 c27
          refine z_iload_n C dX6_readAllOf_63 (i := 2) rfl rfl ?_
          obtain ⟨g64, h⟩ := h
          exact z_iret C dX6_readAllOf_64 hr (zn_bool g64) ⟨_, _, rfl, rfl, h⟩ (Nat.le_of_ble_eq_true rfl) (Nat.le_of_ble_eq_true rfl)
        · have h := h.1 c27
          refine z_aload_n C dX6_readAllOf_30 (i := 0) rfl rfl ?_
          refine t_callV C (rest := []) (c2 := 0) (s2 := 0) (kd := 13) (i := 0) [] dX6_readAllOf_31 lk_X6_61 li_X6_advance le_X6_advance (c_X6_advance hfl h) rfl rfl (by decide) rfl ⟨_, rfl⟩ rfl ⟨Nat.le_of_ble_eq_true rfl, Nat.le_of_ble_eq_true rfl⟩ (Nat.le_of_ble_eq_true rfl) ⟨Nat.le_of_ble_eq_true rfl, Nat.le_of_ble_eq_true rfl, Nat.le_of_ble_eq_true rfl, Nat.le_of_ble_eq_true rfl⟩ (k_Wv fun s31 h => ?_)
          refine z_aload_n C dX6_readAllOf_34 (i := 0) rfl rfl ?_
          refine z_iload_n C dX6_readAllOf_35 (i := 1) rfl rfl ?_
          refine t_callV C (rest := []) (c2 := 0) (s2 := 0) (kd := 13) (i := 0) [.int (a1)] dX6_readAllOf_36 lk_X6_199 li_X6_readOne le_X6_readOne (c_X6_readOne_L10 hfl h) rfl rfl (by decide) rfl ⟨_, rfl⟩ rfl ⟨Nat.le_of_ble_eq_true rfl, Nat.le_of_ble_eq_true rfl⟩ (Nat.le_of_ble_eq_true rfl) ⟨Nat.le_of_ble_eq_true rfl, Nat.le_of_ble_eq_true rfl, Nat.le_of_ble_eq_true rfl, Nat.le_of_ble_eq_true rfl⟩ (k_Wi fun r36 s36 h => ?_)
          refine z_if_eq C dX6_readAllOf_39 (tgt := 55) (by decide) (fun c39 => ?_) (fun c39 => ?_)
          · have h := h.1 c39
            exact t_drop [true, true, false, true] rfl (j_X6_readAllOf_L10_55 hfl C hr hn9 hK8 s36 a1 a3 h)
          · have h := h.2 c39
            refine z_aload_n C dX6_readAllOf_42 (i := 0) rfl rfl ?_
            refine z_bipush C dX6_readAllOf_43 (v := (-2)) (by decide) ?_
            refine t_callV C (rest := []) (c2 := 0) (s2 := 0) (kd := 13) (i := 0) [.int (-2)] dX6_readAllOf_45 lk_X6_196 li_X6_addStep le_X6_addStep (c_X6_addStep hfl h) rfl rfl (by decide) rfl ⟨_, rfl⟩ rfl ⟨Nat.le_of_ble_eq_true rfl, Nat.le_of_ble_eq_true rfl⟩ (Nat.le_of_ble_eq_true rfl) ⟨Nat.le_of_ble_eq_true rfl, Nat.le_of_ble_eq_true rfl, Nat.le_of_ble_eq_true rfl, Nat.le_of_ble_eq_true rfl⟩ (k_Wi fun r45 s45 h => ?_)
            refine z_if_eq C dX6_readAllOf_48 (tgt := 55) (by decide) (fun c48 => ?_) (fun c48 => ?_)
            · have h := h.1 c48
              exact t_drop [true, true, false, true] rfl (j_X6_readAllOf_L10_55 hfl C hr hn9 hK8 s45 a1 a3 h)
            · have h := h.2 c48
              refine z_iconst C dX6_readAllOf_51 (v := 1) (by decide) ?_
              refine z_goto C dX6_readAllOf_52 (tgt := 56) (by decide) ?_
              exact t_drop [true, true, false, true] rfl (j_X6_readAllOf_L10_56 hfl C hr hn9 hK8 s45 a1 a3 (1) h)
def w_X6_readAllOf_L10 (st : zTs) (a1 : Int32) (P : Int32 → zTs → Prop) : Prop := w_X6_readOne_L10 st a1 (fun (r2 : Int32) (s2 : zTs) => (w_X6_readAllOf_L10_8 P zfu s2 a1 r2 (0)))
set_option maxHeartbeats 4000000 in
set_option maxRecDepth 100000 in
theorem c_X6_readAllOf_L10 {Z : zZ} {l : Launch} (hfl : l.stackTraces = false) {st : zTs} {a1 : Int32} {P : Int32 → zTs → Prop} (h : w_X6_readAllOf_L10 st a1 P) : zN Z l yX6_readAllOf cX6_readAllOf 4 (some .boolean) ({ frames := 9, cells := 0, slots := 0, locals := 188 } : Room) (zh Z zm1 st) [.ref 13, .int (a1)] (zWi Z P) := by
  unfold w_X6_readAllOf_L10 at h
  refine z_enterN (by decide) (Nat.le_of_ble_eq_true rfl) (lc0 := [some (.ref 13), some (.int (a1)), none, none]) rfl ?_
  intro p e s m args below meth c ad0 C hr _
  have hn9 : True := trivial
  replace C : zC Z p s m args meth c cX6_readAllOf 4 RX6 := C
  refine z_aload_n C dX6_readAllOf_0 (i := 0) rfl rfl ?_
  refine z_iload_n C dX6_readAllOf_1 (i := 1) rfl rfl ?_
  refine t_callV C (rest := []) (c2 := 0) (s2 := 0) (kd := 13) (i := 0) [.int (a1)] dX6_readAllOf_2 lk_X6_199 li_X6_readOne le_X6_readOne (c_X6_readOne_L10 hfl h) rfl rfl (by decide) rfl ⟨_, rfl⟩ rfl ⟨Nat.le_of_ble_eq_true rfl, Nat.le_of_ble_eq_true rfl⟩ (Nat.le_of_ble_eq_true rfl) ⟨Nat.le_of_ble_eq_true rfl, Nat.le_of_ble_eq_true rfl, Nat.le_of_ble_eq_true rfl, Nat.le_of_ble_eq_true rfl⟩ (k_Wi fun r2 s2 h => ?_)
  refine z_istore_n C dX6_readAllOf_5 (i := 2) (lc' := [some (.ref 13), some (.int (a1)), some (.int (r2)), none]) rfl (by decide) rfl ?_
  refine z_iconst C dX6_readAllOf_6 (v := 0) (by decide) ?_
  refine z_istore_n C dX6_readAllOf_7 (i := 3) (lc' := [some (.ref 13), some (.int (a1)), some (.int (r2)), some (.int (0))]) rfl (by decide) rfl ?_
  exact t_drop [true, true, true, true] rfl (j_X6_readAllOf_L10_8 hfl C hr hn9  zfu s2 a1 r2 (0) h)
def w_X6_readAnyOf_L10_56 (P : Int32 → zTs → Prop) (K8 : zTs → Int32 → Int32 → Int32 → Prop) (st : zTs) (a1 : Int32) (a3 : Int32) (b0 : Int32) : Prop := ∀ x57 : Int32, x57 = a3 + 1 → (K8 st a1 b0 x57)
set_option maxHeartbeats 4000000 in
set_option maxRecDepth 100000 in
theorem j_X6_readAnyOf_L10_56 {P : Int32 → zTs → Prop} {K8 : zTs → Int32 → Int32 → Int32 → Prop} (hfl : l.stackTraces = false) (C : zC Z p s m args meth c cX6_readAnyOf 4 RX6) (hr : meth.sig.returnType = (some .boolean)) (hn9 : True) (hK8 : ∀ (st : zTs) (a1 : Int32) (a2 : Int32) (a3 : Int32), K8 st a1 a2 a3 → zG Z ad0 h0 p l e ({ frames := 10, cells := 0, slots := 0, locals := 211 } : Room) s m args below meth c (MQ below (zQ Z ad0 h0 (zWi Z P)) args s 0 0 (zA Z)) 0 0 (zh Z zm1 st) 4 8 [some (.ref 13), some (.int (a1)), some (.int (a2)), some (.int (a3))] []) (st : zTs) (a1 : Int32) (a3 : Int32) (b0 : Int32) (h : w_X6_readAnyOf_L10_56 P K8 st a1 a3 b0) : zG Z ad0 h0 p l e ({ frames := 10, cells := 0, slots := 0, locals := 211 } : Room) s m args below meth c (MQ below (zQ Z ad0 h0 (zWi Z P)) args s 0 0 (zA Z)) 0 0 (zh Z zm1 st) 4 56 [some (.ref 13), some (.int (a1)), none, some (.int (a3))] [.int (b0)] := by
  unfold w_X6_readAnyOf_L10_56 at h
  refine z_istore_n C dX6_readAnyOf_56 (i := 2) (lc' := [some (.ref 13), some (.int (a1)), some (.int (b0)), some (.int (a3))]) rfl (by decide) rfl ?_
  obtain ⟨x57, ex57⟩ : ∃ z : Int32, z = a3 + 1 := ⟨_, rfl⟩
  have h := h x57 ex57
  refine z_iinc C dX6_readAnyOf_57 (v := x57) (lc' := [some (.ref 13), some (.int (a1)), some (.int (b0)), some (.int (x57))]) rfl (by decide) (by rw [ex57]; rfl) rfl ?_
  refine z_goto C dX6_readAnyOf_60 (tgt := 8) (by decide) ?_
  exact t_drop [true, true, true, true] rfl (hK8 st a1 b0 x57 h)
def w_X6_readAnyOf_L10_55 (P : Int32 → zTs → Prop) (K8 : zTs → Int32 → Int32 → Int32 → Prop) (st : zTs) (a1 : Int32) (a3 : Int32) : Prop := w_X6_readAnyOf_L10_56 P K8 st a1 a3 (0)
set_option maxHeartbeats 4000000 in
set_option maxRecDepth 100000 in
theorem j_X6_readAnyOf_L10_55 {P : Int32 → zTs → Prop} {K8 : zTs → Int32 → Int32 → Int32 → Prop} (hfl : l.stackTraces = false) (C : zC Z p s m args meth c cX6_readAnyOf 4 RX6) (hr : meth.sig.returnType = (some .boolean)) (hn9 : True) (hK8 : ∀ (st : zTs) (a1 : Int32) (a2 : Int32) (a3 : Int32), K8 st a1 a2 a3 → zG Z ad0 h0 p l e ({ frames := 10, cells := 0, slots := 0, locals := 211 } : Room) s m args below meth c (MQ below (zQ Z ad0 h0 (zWi Z P)) args s 0 0 (zA Z)) 0 0 (zh Z zm1 st) 4 8 [some (.ref 13), some (.int (a1)), some (.int (a2)), some (.int (a3))] []) (st : zTs) (a1 : Int32) (a3 : Int32) (h : w_X6_readAnyOf_L10_55 P K8 st a1 a3) : zG Z ad0 h0 p l e ({ frames := 10, cells := 0, slots := 0, locals := 211 } : Room) s m args below meth c (MQ below (zQ Z ad0 h0 (zWi Z P)) args s 0 0 (zA Z)) 0 0 (zh Z zm1 st) 4 55 [some (.ref 13), some (.int (a1)), none, some (.int (a3))] [] := by
  unfold w_X6_readAnyOf_L10_55 at h
  refine z_iconst C dX6_readAnyOf_55 (v := 0) (by decide) ?_
  exact t_drop [true, true, false, true] rfl (j_X6_readAnyOf_L10_56 hfl C hr hn9 hK8 st a1 a3 (0) h)
def w_X6_readAnyOf_L10_8 (P : Int32 → zTs → Prop)  : Nat → zTs → Int32 → Int32 → Int32 → Prop
  | 0, _, _, _, _ => False
  | n9 + 1, st, a1, a2, a3 => ((zgF st 13 0 3) ≤ a3 → (a2 = 0 ∨ a2 = 1) ∧ (P a2 st)) ∧ (¬ (zgF st 13 0 3) ≤ a3 → (a2 = 0 → (a2 = 0 ∨ a2 = 1) ∧ (P a2 st)) ∧ (¬ a2 = 0 → (zgP st 13 0 6 < 24) ∧ ((((zgP st 13 0 6) : Nat) = 18 → w_X6_advance st (fun (s31 : zTs) => (w_X6_readAllOf_L10 s31 a1 (fun (r36 : Int32) (s36 : zTs) => ((r36 = 0 → w_X6_readAnyOf_L10_55 P (w_X6_readAnyOf_L10_8 P n9) s36 a1 a3) ∧ (¬ r36 = 0 → w_X6_addStep s36 (-3) (fun (r45 : Int32) (s45 : zTs) => ((r45 = 0 → w_X6_readAnyOf_L10_55 P (w_X6_readAnyOf_L10_8 P n9) s45 a1 a3) ∧ (¬ r45 = 0 → w_X6_readAnyOf_L10_56 P (w_X6_readAnyOf_L10_8 P n9) s45 a1 a3 (1)))))))))) ∧ (¬ ((zgP st 13 0 6) : Nat) = 18 → (a2 = 0 ∨ a2 = 1) ∧ (P a2 st)))))
set_option maxHeartbeats 4000000 in
set_option maxRecDepth 100000 in
theorem j_X6_readAnyOf_L10_8 {P : Int32 → zTs → Prop}  (hfl : l.stackTraces = false) (C : zC Z p s m args meth c cX6_readAnyOf 4 RX6) (hr : meth.sig.returnType = (some .boolean)) (hn9 : True)  : ∀ (n9 : Nat) (st : zTs) (a1 : Int32) (a2 : Int32) (a3 : Int32), w_X6_readAnyOf_L10_8 P n9 st a1 a2 a3 → zG Z ad0 h0 p l e ({ frames := 10, cells := 0, slots := 0, locals := 211 } : Room) s m args below meth c (MQ below (zQ Z ad0 h0 (zWi Z P)) args s 0 0 (zA Z)) 0 0 (zh Z zm1 st) 4 8 [some (.ref 13), some (.int (a1)), some (.int (a2)), some (.int (a3))] [] := by
  intro n9
  induction n9 with
  | zero => intro st a1 a2 a3 h; exact h.elim
  | succ n9 hK8 =>
    intro st a1 a2 a3 h
    rw [w_X6_readAnyOf_L10_8] at h
    refine z_iload_n C dX6_readAnyOf_8 (i := 3) rfl rfl ?_
    refine z_aload_n C dX6_readAnyOf_9 (i := 0) rfl rfl ?_
    refine t_get C dX6_readAnyOf_10 fl_X6_55 (k := 13) (i := 0) (by decide) rfl (fg_13_3 _ _ _) ?_
    refine z_icmp_ge C dX6_readAnyOf_13 (tgt := 63) (by decide) (fun c13 => ?_) (fun c13 => ?_)
    · have h := h.1 c13
      refine z_iload_n C dX6_readAnyOf_63 (i := 2) rfl rfl ?_
      obtain ⟨g64, h⟩ := h
      exact z_iret C dX6_readAnyOf_64 hr (zn_bool g64) ⟨_, _, rfl, rfl, h⟩ (Nat.le_of_ble_eq_true rfl) (Nat.le_of_ble_eq_true rfl)
    · have h := h.2 c13
      refine z_iload_n C dX6_readAnyOf_16 (i := 2) rfl rfl ?_
      refine z_if_eq C dX6_readAnyOf_17 (tgt := 63) (by decide) (fun c17 => ?_) (fun c17 => ?_)
      · have h := h.1 c17
        refine z_iload_n C dX6_readAnyOf_63 (i := 2) rfl rfl ?_
        obtain ⟨g64, h⟩ := h
        exact z_iret C dX6_readAnyOf_64 hr (zn_bool g64) ⟨_, _, rfl, rfl, h⟩ (Nat.le_of_ble_eq_true rfl) (Nat.le_of_ble_eq_true rfl)
      · have h := h.2 c17
        refine z_aload_n C dX6_readAnyOf_20 (i := 0) rfl rfl ?_
        refine t_get C dX6_readAnyOf_21 fl_X6_21 (k := 13) (i := 0) (by decide) rfl (fg_13_6 _ _ _) ?_
        refine z_gets C dX6_readAnyOf_24 (q := 201 + 256 * 18) (by decide) gl_X6_193 (fun z => (z.2.2.2.1.1.1 18 (by decide)).1) ?_
        obtain ⟨g27a, h⟩ := h
        refine z_acmpW_ne C dX6_readAnyOf_27 (i := (zgP st 13 0 6)) (j := 18) (tgt := 63) (by decide) g27a (by decide) (fun c27 => ?_) (fun c27 => ?_)
        · have h := h.2 c27
          refine z_iload_n C dX6_readAnyOf_63 (i := 2) rfl rfl ?_
          obtain ⟨g64, h⟩ := h
          exact z_iret C dX6_readAnyOf_64 hr (zn_bool g64) ⟨_, _, rfl, rfl, h⟩ (Nat.le_of_ble_eq_true rfl) (Nat.le_of_ble_eq_true rfl)
        · have h := h.1 c27
          refine z_aload_n C dX6_readAnyOf_30 (i := 0) rfl rfl ?_
          refine t_callV C (rest := []) (c2 := 0) (s2 := 0) (kd := 13) (i := 0) [] dX6_readAnyOf_31 lk_X6_61 li_X6_advance le_X6_advance (c_X6_advance hfl h) rfl rfl (by decide) rfl ⟨_, rfl⟩ rfl ⟨Nat.le_of_ble_eq_true rfl, Nat.le_of_ble_eq_true rfl⟩ (Nat.le_of_ble_eq_true rfl) ⟨Nat.le_of_ble_eq_true rfl, Nat.le_of_ble_eq_true rfl, Nat.le_of_ble_eq_true rfl, Nat.le_of_ble_eq_true rfl⟩ (k_Wv fun s31 h => ?_)
          refine z_aload_n C dX6_readAnyOf_34 (i := 0) rfl rfl ?_
          refine z_iload_n C dX6_readAnyOf_35 (i := 1) rfl rfl ?_
          refine t_callV C (rest := []) (c2 := 0) (s2 := 0) (kd := 13) (i := 0) [.int (a1)] dX6_readAnyOf_36 lk_X6_190 li_X6_readAllOf le_X6_readAllOf (c_X6_readAllOf_L10 hfl h) rfl rfl (by decide) rfl ⟨_, rfl⟩ rfl ⟨Nat.le_of_ble_eq_true rfl, Nat.le_of_ble_eq_true rfl⟩ (Nat.le_of_ble_eq_true rfl) ⟨Nat.le_of_ble_eq_true rfl, Nat.le_of_ble_eq_true rfl, Nat.le_of_ble_eq_true rfl, Nat.le_of_ble_eq_true rfl⟩ (k_Wi fun r36 s36 h => ?_)
          refine z_if_eq C dX6_readAnyOf_39 (tgt := 55) (by decide) (fun c39 => ?_) (fun c39 => ?_)
          · have h := h.1 c39
            exact t_drop [true, true, false, true] rfl (j_X6_readAnyOf_L10_55 hfl C hr hn9 hK8 s36 a1 a3 h)
          · have h := h.2 c39
            refine z_aload_n C dX6_readAnyOf_42 (i := 0) rfl rfl ?_
            refine z_bipush C dX6_readAnyOf_43 (v := (-3)) (by decide) ?_
            refine t_callV C (rest := []) (c2 := 0) (s2 := 0) (kd := 13) (i := 0) [.int (-3)] dX6_readAnyOf_45 lk_X6_196 li_X6_addStep le_X6_addStep (c_X6_addStep hfl h) rfl rfl (by decide) rfl ⟨_, rfl⟩ rfl ⟨Nat.le_of_ble_eq_true rfl, Nat.le_of_ble_eq_true rfl⟩ (Nat.le_of_ble_eq_true rfl) ⟨Nat.le_of_ble_eq_true rfl, Nat.le_of_ble_eq_true rfl, Nat.le_of_ble_eq_true rfl, Nat.le_of_ble_eq_true rfl⟩ (k_Wi fun r45 s45 h => ?_)
            refine z_if_eq C dX6_readAnyOf_48 (tgt := 55) (by decide) (fun c48 => ?_) (fun c48 => ?_)
            · have h := h.1 c48
              exact t_drop [true, true, false, true] rfl (j_X6_readAnyOf_L10_55 hfl C hr hn9 hK8 s45 a1 a3 h)
            · have h := h.2 c48
              refine z_iconst C dX6_readAnyOf_51 (v := 1) (by decide) ?_
              refine z_goto C dX6_readAnyOf_52 (tgt := 56) (by decide) ?_
              exact t_drop [true, true, false, true] rfl (j_X6_readAnyOf_L10_56 hfl C hr hn9 hK8 s45 a1 a3 (1) h)
def w_X6_readAnyOf_L10 (st : zTs) (a1 : Int32) (P : Int32 → zTs → Prop) : Prop := w_X6_readAllOf_L10 st a1 (fun (r2 : Int32) (s2 : zTs) => (w_X6_readAnyOf_L10_8 P zfu s2 a1 r2 (0)))
set_option maxHeartbeats 4000000 in
set_option maxRecDepth 100000 in
theorem c_X6_readAnyOf_L10 {Z : zZ} {l : Launch} (hfl : l.stackTraces = false) {st : zTs} {a1 : Int32} {P : Int32 → zTs → Prop} (h : w_X6_readAnyOf_L10 st a1 P) : zN Z l yX6_readAnyOf cX6_readAnyOf 4 (some .boolean) ({ frames := 10, cells := 0, slots := 0, locals := 211 } : Room) (zh Z zm1 st) [.ref 13, .int (a1)] (zWi Z P) := by
  unfold w_X6_readAnyOf_L10 at h
  refine z_enterN (by decide) (Nat.le_of_ble_eq_true rfl) (lc0 := [some (.ref 13), some (.int (a1)), none, none]) rfl ?_
  intro p e s m args below meth c ad0 C hr _
  have hn9 : True := trivial
  replace C : zC Z p s m args meth c cX6_readAnyOf 4 RX6 := C
  refine z_aload_n C dX6_readAnyOf_0 (i := 0) rfl rfl ?_
  refine z_iload_n C dX6_readAnyOf_1 (i := 1) rfl rfl ?_
  refine t_callV C (rest := []) (c2 := 0) (s2 := 0) (kd := 13) (i := 0) [.int (a1)] dX6_readAnyOf_2 lk_X6_190 li_X6_readAllOf le_X6_readAllOf (c_X6_readAllOf_L10 hfl h) rfl rfl (by decide) rfl ⟨_, rfl⟩ rfl ⟨Nat.le_of_ble_eq_true rfl, Nat.le_of_ble_eq_true rfl⟩ (Nat.le_of_ble_eq_true rfl) ⟨Nat.le_of_ble_eq_true rfl, Nat.le_of_ble_eq_true rfl, Nat.le_of_ble_eq_true rfl, Nat.le_of_ble_eq_true rfl⟩ (k_Wi fun r2 s2 h => ?_)
  refine z_istore_n C dX6_readAnyOf_5 (i := 2) (lc' := [some (.ref 13), some (.int (a1)), some (.int (r2)), none]) rfl (by decide) rfl ?_
  refine z_iconst C dX6_readAnyOf_6 (v := 0) (by decide) ?_
  refine z_istore_n C dX6_readAnyOf_7 (i := 3) (lc' := [some (.ref 13), some (.int (a1)), some (.int (r2)), some (.int (0))]) rfl (by decide) rfl ?_
  exact t_drop [true, true, true, true] rfl (j_X6_readAnyOf_L10_8 hfl C hr hn9  zfu s2 a1 r2 (0) h)
def w_X6_readOne_L9_188 (P : Int32 → zTs → Prop)  (st : zTs) (b0 : Int32) (b1 : Int32) : Prop := w_X6_addStep st (((b1 + b0) * 10000) + (zgF st 13 0 9)) (fun (r198 : Int32) (s198 : zTs) => ((r198 = 0 → P 0 s198) ∧ (¬ r198 = 0 → P 1 s198)))
set_option maxHeartbeats 4000000 in
set_option maxRecDepth 100000 in
theorem j_X6_readOne_L9_188 {P : Int32 → zTs → Prop}  (hfl : l.stackTraces = false) (C : zC Z p s m args meth c cX6_readOne 5 RX6) (hr : meth.sig.returnType = (some .boolean)) (hn9 : True)  (st : zTs) (b0 : Int32) (b1 : Int32) (h : w_X6_readOne_L9_188 P st b0 b1) : zG Z ad0 h0 p l e ({ frames := 11, cells := 0, slots := 0, locals := 234 } : Room) s m args below meth c (MQ below (zQ Z ad0 h0 (zWi Z P)) args s 0 0 (zA Z)) 0 0 (zh Z zm1 st) 5 188 [some (.ref 13), none, none, none, none] [.int (b0), .int (b1), .ref 13] := by
  unfold w_X6_readOne_L9_188 at h
  refine z_iadd C dX6_readOne_188 ?_
  refine z_sipush C dX6_readOne_189 (v := 10000) (by decide) ?_
  refine z_imul C dX6_readOne_192 ?_
  refine z_aload_n C dX6_readOne_193 (i := 0) rfl rfl ?_
  refine t_get C dX6_readOne_194 fl_X6_83 (k := 13) (i := 0) (by decide) rfl (fg_13_9 _ _ _) ?_
  refine z_iadd C dX6_readOne_197 ?_
  refine t_callV C (rest := []) (c2 := 0) (s2 := 0) (kd := 13) (i := 0) [.int (((b1 + b0) * 10000) + (zgF st 13 0 9))] dX6_readOne_198 lk_X6_196 li_X6_addStep le_X6_addStep (c_X6_addStep hfl h) rfl rfl (by decide) rfl ⟨_, rfl⟩ rfl ⟨Nat.le_of_ble_eq_true rfl, Nat.le_of_ble_eq_true rfl⟩ (Nat.le_of_ble_eq_true rfl) ⟨Nat.le_of_ble_eq_true rfl, Nat.le_of_ble_eq_true rfl, Nat.le_of_ble_eq_true rfl, Nat.le_of_ble_eq_true rfl⟩ (k_Wi fun r198 s198 h => ?_)
  refine z_if_eq C dX6_readOne_201 (tgt := 208) (by decide) (fun c201 => ?_) (fun c201 => ?_)
  · have h := h.1 c201
    refine z_iconst C dX6_readOne_208 (v := 0) (by decide) ?_
    exact z_iret C dX6_readOne_209 hr rfl ⟨_, _, rfl, rfl, h⟩ (Nat.le_of_ble_eq_true rfl) (Nat.le_of_ble_eq_true rfl)
  · have h := h.2 c201
    refine z_iconst C dX6_readOne_204 (v := 1) (by decide) ?_
    refine z_goto C dX6_readOne_205 (tgt := 209) (by decide) ?_
    exact z_iret C dX6_readOne_209 hr rfl ⟨_, _, rfl, rfl, h⟩ (Nat.le_of_ble_eq_true rfl) (Nat.le_of_ble_eq_true rfl)
def w_X6_readOne_L9_159 (P : Int32 → zTs → Prop)  (st : zTs) (a3 : Int32) (a4 : Int32) : Prop := w_X6_advance st (fun (s160 : zTs) => (w_X6_takeNumber s160 0 9999 (fun (r168 : Int32) (s168 : zTs) => ((r168 = 0 → P 0 s168) ∧ (¬ r168 = 0 → (a4 = 0 → w_X6_readOne_L9_188 P s168 (0) (2 * a3)) ∧ (¬ a4 = 0 → w_X6_readOne_L9_188 P s168 (1) (2 * a3)))))))
set_option maxHeartbeats 4000000 in
set_option maxRecDepth 100000 in
theorem j_X6_readOne_L9_159 {P : Int32 → zTs → Prop}  (hfl : l.stackTraces = false) (C : zC Z p s m args meth c cX6_readOne 5 RX6) (hr : meth.sig.returnType = (some .boolean)) (hn9 : True)  (st : zTs) (a3 : Int32) (a4 : Int32) (h : w_X6_readOne_L9_159 P st a3 a4) : zG Z ad0 h0 p l e ({ frames := 11, cells := 0, slots := 0, locals := 234 } : Room) s m args below meth c (MQ below (zQ Z ad0 h0 (zWi Z P)) args s 0 0 (zA Z)) 0 0 (zh Z zm1 st) 5 159 [some (.ref 13), none, none, some (.int (a3)), some (.int (a4))] [] := by
  unfold w_X6_readOne_L9_159 at h
  refine z_aload_n C dX6_readOne_159 (i := 0) rfl rfl ?_
  refine t_callV C (rest := []) (c2 := 0) (s2 := 0) (kd := 13) (i := 0) [] dX6_readOne_160 lk_X6_61 li_X6_advance le_X6_advance (c_X6_advance hfl h) rfl rfl (by decide) rfl ⟨_, rfl⟩ rfl ⟨Nat.le_of_ble_eq_true rfl, Nat.le_of_ble_eq_true rfl⟩ (Nat.le_of_ble_eq_true rfl) ⟨Nat.le_of_ble_eq_true rfl, Nat.le_of_ble_eq_true rfl, Nat.le_of_ble_eq_true rfl, Nat.le_of_ble_eq_true rfl⟩ (k_Wv fun s160 h => ?_)
  refine z_aload_n C dX6_readOne_163 (i := 0) rfl rfl ?_
  refine z_iconst C dX6_readOne_164 (v := 0) (by decide) ?_
  refine z_sipush C dX6_readOne_165 (v := 9999) (by decide) ?_
  refine t_callV C (rest := []) (c2 := 0) (s2 := 0) (kd := 13) (i := 0) [.int (0), .int (9999)] dX6_readOne_168 lk_X6_125 li_X6_takeNumber le_X6_takeNumber (c_X6_takeNumber hfl h) rfl rfl (by decide) rfl ⟨_, rfl⟩ rfl ⟨Nat.le_of_ble_eq_true rfl, Nat.le_of_ble_eq_true rfl⟩ (Nat.le_of_ble_eq_true rfl) ⟨Nat.le_of_ble_eq_true rfl, Nat.le_of_ble_eq_true rfl, Nat.le_of_ble_eq_true rfl, Nat.le_of_ble_eq_true rfl⟩ (k_Wi fun r168 s168 h => ?_)
  refine z_if_eq C dX6_readOne_171 (tgt := 208) (by decide) (fun c171 => ?_) (fun c171 => ?_)
  · have h := h.1 c171
    refine z_iconst C dX6_readOne_208 (v := 0) (by decide) ?_
    exact z_iret C dX6_readOne_209 hr rfl ⟨_, _, rfl, rfl, h⟩ (Nat.le_of_ble_eq_true rfl) (Nat.le_of_ble_eq_true rfl)
  · have h := h.2 c171
    refine z_aload_n C dX6_readOne_174 (i := 0) rfl rfl ?_
    refine z_iconst C dX6_readOne_175 (v := 2) (by decide) ?_
    refine z_iload_n C dX6_readOne_176 (i := 3) rfl rfl ?_
    refine z_imul C dX6_readOne_177 ?_
    refine z_iload C dX6_readOne_178 rfl ?_
    refine z_if_eq C dX6_readOne_180 (tgt := 187) (by decide) (fun c180 => ?_) (fun c180 => ?_)
    · have h := h.1 c180
      refine z_iconst C dX6_readOne_187 (v := 0) (by decide) ?_
      exact t_drop [true, false, false, false, false] rfl (j_X6_readOne_L9_188 hfl C hr hn9  s168 (0) (2 * a3) h)
    · have h := h.2 c180
      refine z_iconst C dX6_readOne_183 (v := 1) (by decide) ?_
      refine z_goto C dX6_readOne_184 (tgt := 188) (by decide) ?_
      exact t_drop [true, false, false, false, false] rfl (j_X6_readOne_L9_188 hfl C hr hn9  s168 (1) (2 * a3) h)
def w_X6_readOne_L9_137 (P : Int32 → zTs → Prop)  (st : zTs) (a3 : Int32) (b0 : Int32) : Prop := (b0 = 0 → ((zgF st 13 0 8) = 60 → w_X6_readOne_L9_159 P st a3 b0) ∧ (¬ (zgF st 13 0 8) = 60 → w_X6_fail st 1 (fun (r155 : Int32) (s155 : zTs) => ((r155 = 0 ∨ r155 = 1) ∧ (P r155 s155))))) ∧ (¬ b0 = 0 → w_X6_readOne_L9_159 P st a3 b0)
set_option maxHeartbeats 4000000 in
set_option maxRecDepth 100000 in
theorem j_X6_readOne_L9_137 {P : Int32 → zTs → Prop}  (hfl : l.stackTraces = false) (C : zC Z p s m args meth c cX6_readOne 5 RX6) (hr : meth.sig.returnType = (some .boolean)) (hn9 : True)  (st : zTs) (a3 : Int32) (b0 : Int32) (h : w_X6_readOne_L9_137 P st a3 b0) : zG Z ad0 h0 p l e ({ frames := 11, cells := 0, slots := 0, locals := 234 } : Room) s m args below meth c (MQ below (zQ Z ad0 h0 (zWi Z P)) args s 0 0 (zA Z)) 0 0 (zh Z zm1 st) 5 137 [some (.ref 13), none, none, some (.int (a3)), none] [.int (b0)] := by
  unfold w_X6_readOne_L9_137 at h
  refine z_istore C dX6_readOne_137 (lc' := [some (.ref 13), none, none, some (.int (a3)), some (.int (b0))]) (by decide) rfl ?_
  refine z_iload C dX6_readOne_139 rfl ?_
  refine z_if_ne C dX6_readOne_141 (tgt := 159) (by decide) (fun c141 => ?_) (fun c141 => ?_)
  · have h := h.2 c141
    exact t_drop [true, false, false, true, true] rfl (j_X6_readOne_L9_159 hfl C hr hn9  st a3 b0 h)
  · have h := h.1 c141
    refine z_aload_n C dX6_readOne_144 (i := 0) rfl rfl ?_
    refine t_get C dX6_readOne_145 fl_X6_28 (k := 13) (i := 0) (by decide) rfl (fg_13_8 _ _ _) ?_
    refine z_bipush C dX6_readOne_148 (v := 60) (by decide) ?_
    refine z_icmp_eq C dX6_readOne_150 (tgt := 159) (by decide) (fun c150 => ?_) (fun c150 => ?_)
    · have h := h.1 c150
      exact t_drop [true, false, false, true, true] rfl (j_X6_readOne_L9_159 hfl C hr hn9  st a3 b0 h)
    · have h := h.2 c150
      refine z_aload_n C dX6_readOne_153 (i := 0) rfl rfl ?_
      refine z_iconst C dX6_readOne_154 (v := 1) (by decide) ?_
      refine t_callV C (rest := []) (c2 := 0) (s2 := 0) (kd := 13) (i := 0) [.int (1)] dX6_readOne_155 lk_X6_79 li_X6_fail le_X6_fail (c_X6_fail hfl h) rfl rfl (by decide) rfl ⟨_, rfl⟩ rfl ⟨Nat.le_of_ble_eq_true rfl, Nat.le_of_ble_eq_true rfl⟩ (Nat.le_of_ble_eq_true rfl) ⟨Nat.le_of_ble_eq_true rfl, Nat.le_of_ble_eq_true rfl, Nat.le_of_ble_eq_true rfl, Nat.le_of_ble_eq_true rfl⟩ (k_Wi fun r155 s155 h => ?_)
      obtain ⟨g158, h⟩ := h
      exact z_iret C dX6_readOne_158 hr (zn_bool g158) ⟨_, _, rfl, rfl, h⟩ (Nat.le_of_ble_eq_true rfl) (Nat.le_of_ble_eq_true rfl)
def w_X6_readOne_L9_29 (P : Int32 → zTs → Prop)  (st : zTs) (a1 : Int32) (a2 : Int32) : Prop := (a1 < 8 → w_X6_advance st (fun (s42 : zTs) => ((a2 = 0 → w_X6_readAnyOf_L10 s42 (a1 + 1) (fun (r79 : Int32) (s79 : zTs) => ((r79 = 0 → P 0 s79) ∧ (¬ r79 = 0 → w_X6_takeSign s79 41 (fun (r88 : Int32) (s88 : zTs) => ((r88 = 0 → P 0 s88) ∧ (¬ r88 = 0 → P 1 s88))))))) ∧ (¬ a2 = 0 → w_X6_readOne_L10 s42 (a1 + 1) (fun (r53 : Int32) (s53 : zTs) => ((r53 = 0 → P 0 s53) ∧ (¬ r53 = 0 → w_X6_addStep s53 (-1) (fun (r61 : Int32) (s61 : zTs) => ((r61 = 0 → P 0 s61) ∧ (¬ r61 = 0 → P 1 s61)))))))))) ∧ (¬ a1 < 8 → w_X6_fail st 3 (fun (r37 : Int32) (s37 : zTs) => ((r37 = 0 ∨ r37 = 1) ∧ (P r37 s37))))
set_option maxHeartbeats 4000000 in
set_option maxRecDepth 100000 in
theorem j_X6_readOne_L9_29 {P : Int32 → zTs → Prop}  (hfl : l.stackTraces = false) (C : zC Z p s m args meth c cX6_readOne 5 RX6) (hr : meth.sig.returnType = (some .boolean)) (hn9 : True)  (st : zTs) (a1 : Int32) (a2 : Int32) (h : w_X6_readOne_L9_29 P st a1 a2) : zG Z ad0 h0 p l e ({ frames := 11, cells := 0, slots := 0, locals := 234 } : Room) s m args below meth c (MQ below (zQ Z ad0 h0 (zWi Z P)) args s 0 0 (zA Z)) 0 0 (zh Z zm1 st) 5 29 [some (.ref 13), some (.int (a1)), some (.int (a2)), none, none] [] := by
  unfold w_X6_readOne_L9_29 at h
  refine z_iload_n C dX6_readOne_29 (i := 1) rfl rfl ?_
  refine z_bipush C dX6_readOne_30 (v := 8) (by decide) ?_
  refine z_icmp_lt C dX6_readOne_32 (tgt := 41) (by decide) (fun c32 => ?_) (fun c32 => ?_)
  · have h := h.1 c32
    refine z_aload_n C dX6_readOne_41 (i := 0) rfl rfl ?_
    refine t_callV C (rest := []) (c2 := 0) (s2 := 0) (kd := 13) (i := 0) [] dX6_readOne_42 lk_X6_61 li_X6_advance le_X6_advance (c_X6_advance hfl h) rfl rfl (by decide) rfl ⟨_, rfl⟩ rfl ⟨Nat.le_of_ble_eq_true rfl, Nat.le_of_ble_eq_true rfl⟩ (Nat.le_of_ble_eq_true rfl) ⟨Nat.le_of_ble_eq_true rfl, Nat.le_of_ble_eq_true rfl, Nat.le_of_ble_eq_true rfl, Nat.le_of_ble_eq_true rfl⟩ (k_Wv fun s42 h => ?_)
    refine z_iload_n C dX6_readOne_45 (i := 2) rfl rfl ?_
    refine z_if_eq C dX6_readOne_46 (tgt := 75) (by decide) (fun c46 => ?_) (fun c46 => ?_)
    · have h := h.1 c46
      refine z_aload_n C dX6_readOne_75 (i := 0) rfl rfl ?_
      refine z_iload_n C dX6_readOne_76 (i := 1) rfl rfl ?_
      refine z_iconst C dX6_readOne_77 (v := 1) (by decide) ?_
      refine z_iadd C dX6_readOne_78 ?_
      refine t_callV C (rest := []) (c2 := 0) (s2 := 0) (kd := 13) (i := 0) [.int (a1 + 1)] dX6_readOne_79 lk_X6_177 li_X6_readAnyOf le_X6_readAnyOf (c_X6_readAnyOf_L10 hfl h) rfl rfl (by decide) rfl ⟨_, rfl⟩ rfl ⟨Nat.le_of_ble_eq_true rfl, Nat.le_of_ble_eq_true rfl⟩ (Nat.le_of_ble_eq_true rfl) ⟨Nat.le_of_ble_eq_true rfl, Nat.le_of_ble_eq_true rfl, Nat.le_of_ble_eq_true rfl, Nat.le_of_ble_eq_true rfl⟩ (k_Wi fun r79 s79 h => ?_)
      refine z_if_eq C dX6_readOne_82 (tgt := 98) (by decide) (fun c82 => ?_) (fun c82 => ?_)
      · have h := h.1 c82
        refine z_iconst C dX6_readOne_98 (v := 0) (by decide) ?_
        exact z_iret C dX6_readOne_99 hr rfl ⟨_, _, rfl, rfl, h⟩ (Nat.le_of_ble_eq_true rfl) (Nat.le_of_ble_eq_true rfl)
      · have h := h.2 c82
        refine z_aload_n C dX6_readOne_85 (i := 0) rfl rfl ?_
        refine z_bipush C dX6_readOne_86 (v := 41) (by decide) ?_
        refine t_callV C (rest := []) (c2 := 0) (s2 := 0) (kd := 13) (i := 0) [.int (41)] dX6_readOne_88 lk_X6_118 li_X6_takeSign le_X6_takeSign (c_X6_takeSign hfl h) rfl rfl (by decide) rfl ⟨_, rfl⟩ rfl ⟨Nat.le_of_ble_eq_true rfl, Nat.le_of_ble_eq_true rfl⟩ (Nat.le_of_ble_eq_true rfl) ⟨Nat.le_of_ble_eq_true rfl, Nat.le_of_ble_eq_true rfl, Nat.le_of_ble_eq_true rfl, Nat.le_of_ble_eq_true rfl⟩ (k_Wi fun r88 s88 h => ?_)
        refine z_if_eq C dX6_readOne_91 (tgt := 98) (by decide) (fun c91 => ?_) (fun c91 => ?_)
        · have h := h.1 c91
          refine z_iconst C dX6_readOne_98 (v := 0) (by decide) ?_
          exact z_iret C dX6_readOne_99 hr rfl ⟨_, _, rfl, rfl, h⟩ (Nat.le_of_ble_eq_true rfl) (Nat.le_of_ble_eq_true rfl)
        · have h := h.2 c91
          refine z_iconst C dX6_readOne_94 (v := 1) (by decide) ?_
          refine z_goto C dX6_readOne_95 (tgt := 99) (by decide) ?_
          exact z_iret C dX6_readOne_99 hr rfl ⟨_, _, rfl, rfl, h⟩ (Nat.le_of_ble_eq_true rfl) (Nat.le_of_ble_eq_true rfl)
    · have h := h.2 c46
      refine z_aload_n C dX6_readOne_49 (i := 0) rfl rfl ?_
      refine z_iload_n C dX6_readOne_50 (i := 1) rfl rfl ?_
      refine z_iconst C dX6_readOne_51 (v := 1) (by decide) ?_
      refine z_iadd C dX6_readOne_52 ?_
      refine t_callV C (rest := []) (c2 := 0) (s2 := 0) (kd := 13) (i := 0) [.int (a1 + 1)] dX6_readOne_53 lk_X6_199 li_X6_readOne le_X6_readOne (c_X6_readOne_L10 hfl h) rfl rfl (by decide) rfl ⟨_, rfl⟩ rfl ⟨Nat.le_of_ble_eq_true rfl, Nat.le_of_ble_eq_true rfl⟩ (Nat.le_of_ble_eq_true rfl) ⟨Nat.le_of_ble_eq_true rfl, Nat.le_of_ble_eq_true rfl, Nat.le_of_ble_eq_true rfl, Nat.le_of_ble_eq_true rfl⟩ (k_Wi fun r53 s53 h => ?_)
      refine z_if_eq C dX6_readOne_56 (tgt := 71) (by decide) (fun c56 => ?_) (fun c56 => ?_)
      · have h := h.1 c56
        refine z_iconst C dX6_readOne_71 (v := 0) (by decide) ?_
        refine z_goto C dX6_readOne_72 (tgt := 99) (by decide) ?_
        exact z_iret C dX6_readOne_99 hr rfl ⟨_, _, rfl, rfl, h⟩ (Nat.le_of_ble_eq_true rfl) (Nat.le_of_ble_eq_true rfl)
      · have h := h.2 c56
        refine z_aload_n C dX6_readOne_59 (i := 0) rfl rfl ?_
        refine z_iconst C dX6_readOne_60 (v := (-1)) (by decide) ?_
        refine t_callV C (rest := []) (c2 := 0) (s2 := 0) (kd := 13) (i := 0) [.int (-1)] dX6_readOne_61 lk_X6_196 li_X6_addStep le_X6_addStep (c_X6_addStep hfl h) rfl rfl (by decide) rfl ⟨_, rfl⟩ rfl ⟨Nat.le_of_ble_eq_true rfl, Nat.le_of_ble_eq_true rfl⟩ (Nat.le_of_ble_eq_true rfl) ⟨Nat.le_of_ble_eq_true rfl, Nat.le_of_ble_eq_true rfl, Nat.le_of_ble_eq_true rfl, Nat.le_of_ble_eq_true rfl⟩ (k_Wi fun r61 s61 h => ?_)
        refine z_if_eq C dX6_readOne_64 (tgt := 71) (by decide) (fun c64 => ?_) (fun c64 => ?_)
        · have h := h.1 c64
          refine z_iconst C dX6_readOne_71 (v := 0) (by decide) ?_
          refine z_goto C dX6_readOne_72 (tgt := 99) (by decide) ?_
          exact z_iret C dX6_readOne_99 hr rfl ⟨_, _, rfl, rfl, h⟩ (Nat.le_of_ble_eq_true rfl) (Nat.le_of_ble_eq_true rfl)
        · have h := h.2 c64
          refine z_iconst C dX6_readOne_67 (v := 1) (by decide) ?_
          refine z_goto C dX6_readOne_68 (tgt := 99) (by decide) ?_
          exact z_iret C dX6_readOne_99 hr rfl ⟨_, _, rfl, rfl, h⟩ (Nat.le_of_ble_eq_true rfl) (Nat.le_of_ble_eq_true rfl)
  · have h := h.2 c32
    refine z_aload_n C dX6_readOne_35 (i := 0) rfl rfl ?_
    refine z_iconst C dX6_readOne_36 (v := 3) (by decide) ?_
    refine t_callV C (rest := []) (c2 := 0) (s2 := 0) (kd := 13) (i := 0) [.int (3)] dX6_readOne_37 lk_X6_79 li_X6_fail le_X6_fail (c_X6_fail hfl h) rfl rfl (by decide) rfl ⟨_, rfl⟩ rfl ⟨Nat.le_of_ble_eq_true rfl, Nat.le_of_ble_eq_true rfl⟩ (Nat.le_of_ble_eq_true rfl) ⟨Nat.le_of_ble_eq_true rfl, Nat.le_of_ble_eq_true rfl, Nat.le_of_ble_eq_true rfl, Nat.le_of_ble_eq_true rfl⟩ (k_Wi fun r37 s37 h => ?_)
    obtain ⟨g40, h⟩ := h
    exact z_iret C dX6_readOne_40 hr (zn_bool g40) ⟨_, _, rfl, rfl, h⟩ (Nat.le_of_ble_eq_true rfl) (Nat.le_of_ble_eq_true rfl)
def w_X6_readOne_L9_15 (P : Int32 → zTs → Prop)  (st : zTs) (a1 : Int32) (b0 : Int32) : Prop := (b0 = 0 → ((zgF st 13 0 8) = 40 → w_X6_readOne_L9_29 P st a1 b0) ∧ (¬ (zgF st 13 0 8) = 40 → w_X6_measureOf st (zgP st 13 0 6) (fun (r104 : Int32) => ((r104 = (-1) → w_X6_fail st 1 (fun (r115 : Int32) (s115 : zTs) => ((r115 = 0 ∨ r115 = 1) ∧ (P r115 s115)))) ∧ (¬ r104 = (-1) → w_X6_advance st (fun (s120 : zTs) => (((zgF s120 13 0 8) = 62 → w_X6_readOne_L9_137 P s120 r104 (1)) ∧ (¬ (zgF s120 13 0 8) = 62 → w_X6_readOne_L9_137 P s120 r104 (0))))))))) ∧ (¬ b0 = 0 → w_X6_readOne_L9_29 P st a1 b0)
set_option maxHeartbeats 4000000 in
set_option maxRecDepth 100000 in
theorem j_X6_readOne_L9_15 {P : Int32 → zTs → Prop}  (hfl : l.stackTraces = false) (C : zC Z p s m args meth c cX6_readOne 5 RX6) (hr : meth.sig.returnType = (some .boolean)) (hn9 : True)  (st : zTs) (a1 : Int32) (b0 : Int32) (h : w_X6_readOne_L9_15 P st a1 b0) : zG Z ad0 h0 p l e ({ frames := 11, cells := 0, slots := 0, locals := 234 } : Room) s m args below meth c (MQ below (zQ Z ad0 h0 (zWi Z P)) args s 0 0 (zA Z)) 0 0 (zh Z zm1 st) 5 15 [some (.ref 13), some (.int (a1)), none, none, none] [.int (b0)] := by
  unfold w_X6_readOne_L9_15 at h
  refine z_istore_n C dX6_readOne_15 (i := 2) (lc' := [some (.ref 13), some (.int (a1)), some (.int (b0)), none, none]) rfl (by decide) rfl ?_
  refine z_iload_n C dX6_readOne_16 (i := 2) rfl rfl ?_
  refine z_if_ne C dX6_readOne_17 (tgt := 29) (by decide) (fun c17 => ?_) (fun c17 => ?_)
  · have h := h.2 c17
    exact t_drop [true, true, true, false, false] rfl (j_X6_readOne_L9_29 hfl C hr hn9  st a1 b0 h)
  · have h := h.1 c17
    refine z_aload_n C dX6_readOne_20 (i := 0) rfl rfl ?_
    refine t_get C dX6_readOne_21 fl_X6_28 (k := 13) (i := 0) (by decide) rfl (fg_13_8 _ _ _) ?_
    refine z_bipush C dX6_readOne_24 (v := 40) (by decide) ?_
    refine z_icmp_ne C dX6_readOne_26 (tgt := 100) (by decide) (fun c26 => ?_) (fun c26 => ?_)
    · have h := h.2 c26
      refine z_aload_n C dX6_readOne_100 (i := 0) rfl rfl ?_
      refine t_get C dX6_readOne_101 fl_X6_21 (k := 13) (i := 0) (by decide) rfl (fg_13_6 _ _ _) ?_
      refine t_callS C (rest := []) (c2 := 0) (s2 := 0) [.ref (201 + 256 * (zgP st 13 0 6))] dX6_readOne_104 lk_X6_208 ls_X6_measureOf (c_X6_measureOf hfl h) rfl rfl ⟨Nat.le_of_ble_eq_true rfl, Nat.le_of_ble_eq_true rfl⟩ (Nat.le_of_ble_eq_true rfl) ⟨Nat.le_of_ble_eq_true rfl, Nat.le_of_ble_eq_true rfl, Nat.le_of_ble_eq_true rfl, Nat.le_of_ble_eq_true rfl⟩ (k_Ri fun r104 h => ?_)
      refine z_istore_n C dX6_readOne_107 (i := 3) (lc' := [some (.ref 13), some (.int (a1)), some (.int (b0)), some (.int (r104)), none]) rfl (by decide) rfl ?_
      refine z_iload_n C dX6_readOne_108 (i := 3) rfl rfl ?_
      refine z_iconst C dX6_readOne_109 (v := (-1)) (by decide) ?_
      refine z_icmp_ne C dX6_readOne_110 (tgt := 119) (by decide) (fun c110 => ?_) (fun c110 => ?_)
      · have h := h.2 c110
        refine z_aload_n C dX6_readOne_119 (i := 0) rfl rfl ?_
        refine t_callV C (rest := []) (c2 := 0) (s2 := 0) (kd := 13) (i := 0) [] dX6_readOne_120 lk_X6_61 li_X6_advance le_X6_advance (c_X6_advance hfl h) rfl rfl (by decide) rfl ⟨_, rfl⟩ rfl ⟨Nat.le_of_ble_eq_true rfl, Nat.le_of_ble_eq_true rfl⟩ (Nat.le_of_ble_eq_true rfl) ⟨Nat.le_of_ble_eq_true rfl, Nat.le_of_ble_eq_true rfl, Nat.le_of_ble_eq_true rfl, Nat.le_of_ble_eq_true rfl⟩ (k_Wv fun s120 h => ?_)
        refine z_aload_n C dX6_readOne_123 (i := 0) rfl rfl ?_
        refine t_get C dX6_readOne_124 fl_X6_28 (k := 13) (i := 0) (by decide) rfl (fg_13_8 _ _ _) ?_
        refine z_bipush C dX6_readOne_127 (v := 62) (by decide) ?_
        refine z_icmp_ne C dX6_readOne_129 (tgt := 136) (by decide) (fun c129 => ?_) (fun c129 => ?_)
        · have h := h.2 c129
          refine z_iconst C dX6_readOne_136 (v := 0) (by decide) ?_
          exact t_drop [true, false, false, true, false] rfl (j_X6_readOne_L9_137 hfl C hr hn9  s120 r104 (0) h)
        · have h := h.1 c129
          refine z_iconst C dX6_readOne_132 (v := 1) (by decide) ?_
          refine z_goto C dX6_readOne_133 (tgt := 137) (by decide) ?_
          exact t_drop [true, false, false, true, false] rfl (j_X6_readOne_L9_137 hfl C hr hn9  s120 r104 (1) h)
      · have h := h.1 c110
        refine z_aload_n C dX6_readOne_113 (i := 0) rfl rfl ?_
        refine z_iconst C dX6_readOne_114 (v := 1) (by decide) ?_
        refine t_callV C (rest := []) (c2 := 0) (s2 := 0) (kd := 13) (i := 0) [.int (1)] dX6_readOne_115 lk_X6_79 li_X6_fail le_X6_fail (c_X6_fail hfl h) rfl rfl (by decide) rfl ⟨_, rfl⟩ rfl ⟨Nat.le_of_ble_eq_true rfl, Nat.le_of_ble_eq_true rfl⟩ (Nat.le_of_ble_eq_true rfl) ⟨Nat.le_of_ble_eq_true rfl, Nat.le_of_ble_eq_true rfl, Nat.le_of_ble_eq_true rfl, Nat.le_of_ble_eq_true rfl⟩ (k_Wi fun r115 s115 h => ?_)
        obtain ⟨g118, h⟩ := h
        exact z_iret C dX6_readOne_118 hr (zn_bool g118) ⟨_, _, rfl, rfl, h⟩ (Nat.le_of_ble_eq_true rfl) (Nat.le_of_ble_eq_true rfl)
    · have h := h.1 c26
      exact t_drop [true, true, true, false, false] rfl (j_X6_readOne_L9_29 hfl C hr hn9  st a1 b0 h)
def w_X6_readOne_L9 (st : zTs) (a1 : Int32) (P : Int32 → zTs → Prop) : Prop := (zgP st 13 0 6 < 24) ∧ ((((zgP st 13 0 6) : Nat) = 20 → w_X6_readOne_L9_15 P st a1 (1)) ∧ (¬ ((zgP st 13 0 6) : Nat) = 20 → w_X6_readOne_L9_15 P st a1 (0)))
set_option maxHeartbeats 4000000 in
set_option maxRecDepth 100000 in
theorem c_X6_readOne_L9 {Z : zZ} {l : Launch} (hfl : l.stackTraces = false) {st : zTs} {a1 : Int32} {P : Int32 → zTs → Prop} (h : w_X6_readOne_L9 st a1 P) : zN Z l yX6_readOne cX6_readOne 5 (some .boolean) ({ frames := 11, cells := 0, slots := 0, locals := 234 } : Room) (zh Z zm1 st) [.ref 13, .int (a1)] (zWi Z P) := by
  unfold w_X6_readOne_L9 at h
  refine z_enterN (by decide) (Nat.le_of_ble_eq_true rfl) (lc0 := [some (.ref 13), some (.int (a1)), none, none, none]) rfl ?_
  intro p e s m args below meth c ad0 C hr _
  have hn9 : True := trivial
  replace C : zC Z p s m args meth c cX6_readOne 5 RX6 := C
  refine z_aload_n C dX6_readOne_0 (i := 0) rfl rfl ?_
  refine t_get C dX6_readOne_1 fl_X6_21 (k := 13) (i := 0) (by decide) rfl (fg_13_6 _ _ _) ?_
  refine z_gets C dX6_readOne_4 (q := 201 + 256 * 20) (by decide) gl_X6_205 (fun z => (z.2.2.2.1.1.1 20 (by decide)).1) ?_
  obtain ⟨g7a, h⟩ := h
  refine z_acmpW_ne C dX6_readOne_7 (i := (zgP st 13 0 6)) (j := 20) (tgt := 14) (by decide) g7a (by decide) (fun c7 => ?_) (fun c7 => ?_)
  · have h := h.2 c7
    refine z_iconst C dX6_readOne_14 (v := 0) (by decide) ?_
    exact t_drop [true, true, false, false, false] rfl (j_X6_readOne_L9_15 hfl C hr hn9  st a1 (0) h)
  · have h := h.1 c7
    refine z_iconst C dX6_readOne_10 (v := 1) (by decide) ?_
    refine z_goto C dX6_readOne_11 (tgt := 15) (by decide) ?_
    exact t_drop [true, true, false, false, false] rfl (j_X6_readOne_L9_15 hfl C hr hn9  st a1 (1) h)
def w_X6_readAllOf_L9_56 (P : Int32 → zTs → Prop) (K8 : zTs → Int32 → Int32 → Int32 → Prop) (st : zTs) (a1 : Int32) (a3 : Int32) (b0 : Int32) : Prop := ∀ x57 : Int32, x57 = a3 + 1 → (K8 st a1 b0 x57)
set_option maxHeartbeats 4000000 in
set_option maxRecDepth 100000 in
theorem j_X6_readAllOf_L9_56 {P : Int32 → zTs → Prop} {K8 : zTs → Int32 → Int32 → Int32 → Prop} (hfl : l.stackTraces = false) (C : zC Z p s m args meth c cX6_readAllOf 4 RX6) (hr : meth.sig.returnType = (some .boolean)) (hn9 : True) (hK8 : ∀ (st : zTs) (a1 : Int32) (a2 : Int32) (a3 : Int32), K8 st a1 a2 a3 → zG Z ad0 h0 p l e ({ frames := 12, cells := 0, slots := 0, locals := 258 } : Room) s m args below meth c (MQ below (zQ Z ad0 h0 (zWi Z P)) args s 0 0 (zA Z)) 0 0 (zh Z zm1 st) 4 8 [some (.ref 13), some (.int (a1)), some (.int (a2)), some (.int (a3))] []) (st : zTs) (a1 : Int32) (a3 : Int32) (b0 : Int32) (h : w_X6_readAllOf_L9_56 P K8 st a1 a3 b0) : zG Z ad0 h0 p l e ({ frames := 12, cells := 0, slots := 0, locals := 258 } : Room) s m args below meth c (MQ below (zQ Z ad0 h0 (zWi Z P)) args s 0 0 (zA Z)) 0 0 (zh Z zm1 st) 4 56 [some (.ref 13), some (.int (a1)), none, some (.int (a3))] [.int (b0)] := by
  unfold w_X6_readAllOf_L9_56 at h
  refine z_istore_n C dX6_readAllOf_56 (i := 2) (lc' := [some (.ref 13), some (.int (a1)), some (.int (b0)), some (.int (a3))]) rfl (by decide) rfl ?_
  obtain ⟨x57, ex57⟩ : ∃ z : Int32, z = a3 + 1 := ⟨_, rfl⟩
  have h := h x57 ex57
  refine z_iinc C dX6_readAllOf_57 (v := x57) (lc' := [some (.ref 13), some (.int (a1)), some (.int (b0)), some (.int (x57))]) rfl (by decide) (by rw [ex57]; rfl) rfl ?_
  refine z_goto C dX6_readAllOf_60 (tgt := 8) (by decide) ?_
  exact t_drop [true, true, true, true] rfl (hK8 st a1 b0 x57 h)
def w_X6_readAllOf_L9_55 (P : Int32 → zTs → Prop) (K8 : zTs → Int32 → Int32 → Int32 → Prop) (st : zTs) (a1 : Int32) (a3 : Int32) : Prop := w_X6_readAllOf_L9_56 P K8 st a1 a3 (0)
set_option maxHeartbeats 4000000 in
set_option maxRecDepth 100000 in
theorem j_X6_readAllOf_L9_55 {P : Int32 → zTs → Prop} {K8 : zTs → Int32 → Int32 → Int32 → Prop} (hfl : l.stackTraces = false) (C : zC Z p s m args meth c cX6_readAllOf 4 RX6) (hr : meth.sig.returnType = (some .boolean)) (hn9 : True) (hK8 : ∀ (st : zTs) (a1 : Int32) (a2 : Int32) (a3 : Int32), K8 st a1 a2 a3 → zG Z ad0 h0 p l e ({ frames := 12, cells := 0, slots := 0, locals := 258 } : Room) s m args below meth c (MQ below (zQ Z ad0 h0 (zWi Z P)) args s 0 0 (zA Z)) 0 0 (zh Z zm1 st) 4 8 [some (.ref 13), some (.int (a1)), some (.int (a2)), some (.int (a3))] []) (st : zTs) (a1 : Int32) (a3 : Int32) (h : w_X6_readAllOf_L9_55 P K8 st a1 a3) : zG Z ad0 h0 p l e ({ frames := 12, cells := 0, slots := 0, locals := 258 } : Room) s m args below meth c (MQ below (zQ Z ad0 h0 (zWi Z P)) args s 0 0 (zA Z)) 0 0 (zh Z zm1 st) 4 55 [some (.ref 13), some (.int (a1)), none, some (.int (a3))] [] := by
  unfold w_X6_readAllOf_L9_55 at h
  refine z_iconst C dX6_readAllOf_55 (v := 0) (by decide) ?_
  exact t_drop [true, true, false, true] rfl (j_X6_readAllOf_L9_56 hfl C hr hn9 hK8 st a1 a3 (0) h)
def w_X6_readAllOf_L9_8 (P : Int32 → zTs → Prop)  : Nat → zTs → Int32 → Int32 → Int32 → Prop
  | 0, _, _, _, _ => False
  | n9 + 1, st, a1, a2, a3 => ((zgF st 13 0 3) ≤ a3 → (a2 = 0 ∨ a2 = 1) ∧ (P a2 st)) ∧ (¬ (zgF st 13 0 3) ≤ a3 → (a2 = 0 → (a2 = 0 ∨ a2 = 1) ∧ (P a2 st)) ∧ (¬ a2 = 0 → (zgP st 13 0 6 < 24) ∧ ((((zgP st 13 0 6) : Nat) = 19 → w_X6_advance st (fun (s31 : zTs) => (w_X6_readOne_L9 s31 a1 (fun (r36 : Int32) (s36 : zTs) => ((r36 = 0 → w_X6_readAllOf_L9_55 P (w_X6_readAllOf_L9_8 P n9) s36 a1 a3) ∧ (¬ r36 = 0 → w_X6_addStep s36 (-2) (fun (r45 : Int32) (s45 : zTs) => ((r45 = 0 → w_X6_readAllOf_L9_55 P (w_X6_readAllOf_L9_8 P n9) s45 a1 a3) ∧ (¬ r45 = 0 → w_X6_readAllOf_L9_56 P (w_X6_readAllOf_L9_8 P n9) s45 a1 a3 (1)))))))))) ∧ (¬ ((zgP st 13 0 6) : Nat) = 19 → (a2 = 0 ∨ a2 = 1) ∧ (P a2 st)))))
set_option maxHeartbeats 4000000 in
set_option maxRecDepth 100000 in
theorem j_X6_readAllOf_L9_8 {P : Int32 → zTs → Prop}  (hfl : l.stackTraces = false) (C : zC Z p s m args meth c cX6_readAllOf 4 RX6) (hr : meth.sig.returnType = (some .boolean)) (hn9 : True)  : ∀ (n9 : Nat) (st : zTs) (a1 : Int32) (a2 : Int32) (a3 : Int32), w_X6_readAllOf_L9_8 P n9 st a1 a2 a3 → zG Z ad0 h0 p l e ({ frames := 12, cells := 0, slots := 0, locals := 258 } : Room) s m args below meth c (MQ below (zQ Z ad0 h0 (zWi Z P)) args s 0 0 (zA Z)) 0 0 (zh Z zm1 st) 4 8 [some (.ref 13), some (.int (a1)), some (.int (a2)), some (.int (a3))] [] := by
  intro n9
  induction n9 with
  | zero => intro st a1 a2 a3 h; exact h.elim
  | succ n9 hK8 =>
    intro st a1 a2 a3 h
    rw [w_X6_readAllOf_L9_8] at h
    refine z_iload_n C dX6_readAllOf_8 (i := 3) rfl rfl ?_
    refine z_aload_n C dX6_readAllOf_9 (i := 0) rfl rfl ?_
    refine t_get C dX6_readAllOf_10 fl_X6_55 (k := 13) (i := 0) (by decide) rfl (fg_13_3 _ _ _) ?_
    refine z_icmp_ge C dX6_readAllOf_13 (tgt := 63) (by decide) (fun c13 => ?_) (fun c13 => ?_)
    · have h := h.1 c13
      refine z_iload_n C dX6_readAllOf_63 (i := 2) rfl rfl ?_
      obtain ⟨g64, h⟩ := h
      exact z_iret C dX6_readAllOf_64 hr (zn_bool g64) ⟨_, _, rfl, rfl, h⟩ (Nat.le_of_ble_eq_true rfl) (Nat.le_of_ble_eq_true rfl)
    · have h := h.2 c13
      refine z_iload_n C dX6_readAllOf_16 (i := 2) rfl rfl ?_
      refine z_if_eq C dX6_readAllOf_17 (tgt := 63) (by decide) (fun c17 => ?_) (fun c17 => ?_)
      · have h := h.1 c17
        refine z_iload_n C dX6_readAllOf_63 (i := 2) rfl rfl ?_
        obtain ⟨g64, h⟩ := h
        exact z_iret C dX6_readAllOf_64 hr (zn_bool g64) ⟨_, _, rfl, rfl, h⟩ (Nat.le_of_ble_eq_true rfl) (Nat.le_of_ble_eq_true rfl)
      · have h := h.2 c17
        refine z_aload_n C dX6_readAllOf_20 (i := 0) rfl rfl ?_
        refine t_get C dX6_readAllOf_21 fl_X6_21 (k := 13) (i := 0) (by decide) rfl (fg_13_6 _ _ _) ?_
        refine z_gets C dX6_readAllOf_24 (q := 201 + 256 * 19) (by decide) gl_X6_202 (fun z => (z.2.2.2.1.1.1 19 (by decide)).1) ?_
        obtain ⟨g27a, h⟩ := h
        refine z_acmpW_ne C dX6_readAllOf_27 (i := (zgP st 13 0 6)) (j := 19) (tgt := 63) (by decide) g27a (by decide) (fun c27 => ?_) (fun c27 => ?_)
        · have h := h.2 c27
          refine z_iload_n C dX6_readAllOf_63 (i := 2) rfl rfl ?_
          obtain ⟨g64, h⟩ := h
          exact z_iret C dX6_readAllOf_64 hr (zn_bool g64) ⟨_, _, rfl, rfl, h⟩ (Nat.le_of_ble_eq_true rfl) (Nat.le_of_ble_eq_true rfl)
        · have h := h.1 c27
          refine z_aload_n C dX6_readAllOf_30 (i := 0) rfl rfl ?_
          refine t_callV C (rest := []) (c2 := 0) (s2 := 0) (kd := 13) (i := 0) [] dX6_readAllOf_31 lk_X6_61 li_X6_advance le_X6_advance (c_X6_advance hfl h) rfl rfl (by decide) rfl ⟨_, rfl⟩ rfl ⟨Nat.le_of_ble_eq_true rfl, Nat.le_of_ble_eq_true rfl⟩ (Nat.le_of_ble_eq_true rfl) ⟨Nat.le_of_ble_eq_true rfl, Nat.le_of_ble_eq_true rfl, Nat.le_of_ble_eq_true rfl, Nat.le_of_ble_eq_true rfl⟩ (k_Wv fun s31 h => ?_)
          refine z_aload_n C dX6_readAllOf_34 (i := 0) rfl rfl ?_
          refine z_iload_n C dX6_readAllOf_35 (i := 1) rfl rfl ?_
          refine t_callV C (rest := []) (c2 := 0) (s2 := 0) (kd := 13) (i := 0) [.int (a1)] dX6_readAllOf_36 lk_X6_199 li_X6_readOne le_X6_readOne (c_X6_readOne_L9 hfl h) rfl rfl (by decide) rfl ⟨_, rfl⟩ rfl ⟨Nat.le_of_ble_eq_true rfl, Nat.le_of_ble_eq_true rfl⟩ (Nat.le_of_ble_eq_true rfl) ⟨Nat.le_of_ble_eq_true rfl, Nat.le_of_ble_eq_true rfl, Nat.le_of_ble_eq_true rfl, Nat.le_of_ble_eq_true rfl⟩ (k_Wi fun r36 s36 h => ?_)
          refine z_if_eq C dX6_readAllOf_39 (tgt := 55) (by decide) (fun c39 => ?_) (fun c39 => ?_)
          · have h := h.1 c39
            exact t_drop [true, true, false, true] rfl (j_X6_readAllOf_L9_55 hfl C hr hn9 hK8 s36 a1 a3 h)
          · have h := h.2 c39
            refine z_aload_n C dX6_readAllOf_42 (i := 0) rfl rfl ?_
            refine z_bipush C dX6_readAllOf_43 (v := (-2)) (by decide) ?_
            refine t_callV C (rest := []) (c2 := 0) (s2 := 0) (kd := 13) (i := 0) [.int (-2)] dX6_readAllOf_45 lk_X6_196 li_X6_addStep le_X6_addStep (c_X6_addStep hfl h) rfl rfl (by decide) rfl ⟨_, rfl⟩ rfl ⟨Nat.le_of_ble_eq_true rfl, Nat.le_of_ble_eq_true rfl⟩ (Nat.le_of_ble_eq_true rfl) ⟨Nat.le_of_ble_eq_true rfl, Nat.le_of_ble_eq_true rfl, Nat.le_of_ble_eq_true rfl, Nat.le_of_ble_eq_true rfl⟩ (k_Wi fun r45 s45 h => ?_)
            refine z_if_eq C dX6_readAllOf_48 (tgt := 55) (by decide) (fun c48 => ?_) (fun c48 => ?_)
            · have h := h.1 c48
              exact t_drop [true, true, false, true] rfl (j_X6_readAllOf_L9_55 hfl C hr hn9 hK8 s45 a1 a3 h)
            · have h := h.2 c48
              refine z_iconst C dX6_readAllOf_51 (v := 1) (by decide) ?_
              refine z_goto C dX6_readAllOf_52 (tgt := 56) (by decide) ?_
              exact t_drop [true, true, false, true] rfl (j_X6_readAllOf_L9_56 hfl C hr hn9 hK8 s45 a1 a3 (1) h)
def w_X6_readAllOf_L9 (st : zTs) (a1 : Int32) (P : Int32 → zTs → Prop) : Prop := w_X6_readOne_L9 st a1 (fun (r2 : Int32) (s2 : zTs) => (w_X6_readAllOf_L9_8 P zfu s2 a1 r2 (0)))
set_option maxHeartbeats 4000000 in
set_option maxRecDepth 100000 in
theorem c_X6_readAllOf_L9 {Z : zZ} {l : Launch} (hfl : l.stackTraces = false) {st : zTs} {a1 : Int32} {P : Int32 → zTs → Prop} (h : w_X6_readAllOf_L9 st a1 P) : zN Z l yX6_readAllOf cX6_readAllOf 4 (some .boolean) ({ frames := 12, cells := 0, slots := 0, locals := 258 } : Room) (zh Z zm1 st) [.ref 13, .int (a1)] (zWi Z P) := by
  unfold w_X6_readAllOf_L9 at h
  refine z_enterN (by decide) (Nat.le_of_ble_eq_true rfl) (lc0 := [some (.ref 13), some (.int (a1)), none, none]) rfl ?_
  intro p e s m args below meth c ad0 C hr _
  have hn9 : True := trivial
  replace C : zC Z p s m args meth c cX6_readAllOf 4 RX6 := C
  refine z_aload_n C dX6_readAllOf_0 (i := 0) rfl rfl ?_
  refine z_iload_n C dX6_readAllOf_1 (i := 1) rfl rfl ?_
  refine t_callV C (rest := []) (c2 := 0) (s2 := 0) (kd := 13) (i := 0) [.int (a1)] dX6_readAllOf_2 lk_X6_199 li_X6_readOne le_X6_readOne (c_X6_readOne_L9 hfl h) rfl rfl (by decide) rfl ⟨_, rfl⟩ rfl ⟨Nat.le_of_ble_eq_true rfl, Nat.le_of_ble_eq_true rfl⟩ (Nat.le_of_ble_eq_true rfl) ⟨Nat.le_of_ble_eq_true rfl, Nat.le_of_ble_eq_true rfl, Nat.le_of_ble_eq_true rfl, Nat.le_of_ble_eq_true rfl⟩ (k_Wi fun r2 s2 h => ?_)
  refine z_istore_n C dX6_readAllOf_5 (i := 2) (lc' := [some (.ref 13), some (.int (a1)), some (.int (r2)), none]) rfl (by decide) rfl ?_
  refine z_iconst C dX6_readAllOf_6 (v := 0) (by decide) ?_
  refine z_istore_n C dX6_readAllOf_7 (i := 3) (lc' := [some (.ref 13), some (.int (a1)), some (.int (r2)), some (.int (0))]) rfl (by decide) rfl ?_
  exact t_drop [true, true, true, true] rfl (j_X6_readAllOf_L9_8 hfl C hr hn9  zfu s2 a1 r2 (0) h)
def w_X6_readAnyOf_L9_56 (P : Int32 → zTs → Prop) (K8 : zTs → Int32 → Int32 → Int32 → Prop) (st : zTs) (a1 : Int32) (a3 : Int32) (b0 : Int32) : Prop := ∀ x57 : Int32, x57 = a3 + 1 → (K8 st a1 b0 x57)
set_option maxHeartbeats 4000000 in
set_option maxRecDepth 100000 in
theorem j_X6_readAnyOf_L9_56 {P : Int32 → zTs → Prop} {K8 : zTs → Int32 → Int32 → Int32 → Prop} (hfl : l.stackTraces = false) (C : zC Z p s m args meth c cX6_readAnyOf 4 RX6) (hr : meth.sig.returnType = (some .boolean)) (hn9 : True) (hK8 : ∀ (st : zTs) (a1 : Int32) (a2 : Int32) (a3 : Int32), K8 st a1 a2 a3 → zG Z ad0 h0 p l e ({ frames := 13, cells := 0, slots := 0, locals := 281 } : Room) s m args below meth c (MQ below (zQ Z ad0 h0 (zWi Z P)) args s 0 0 (zA Z)) 0 0 (zh Z zm1 st) 4 8 [some (.ref 13), some (.int (a1)), some (.int (a2)), some (.int (a3))] []) (st : zTs) (a1 : Int32) (a3 : Int32) (b0 : Int32) (h : w_X6_readAnyOf_L9_56 P K8 st a1 a3 b0) : zG Z ad0 h0 p l e ({ frames := 13, cells := 0, slots := 0, locals := 281 } : Room) s m args below meth c (MQ below (zQ Z ad0 h0 (zWi Z P)) args s 0 0 (zA Z)) 0 0 (zh Z zm1 st) 4 56 [some (.ref 13), some (.int (a1)), none, some (.int (a3))] [.int (b0)] := by
  unfold w_X6_readAnyOf_L9_56 at h
  refine z_istore_n C dX6_readAnyOf_56 (i := 2) (lc' := [some (.ref 13), some (.int (a1)), some (.int (b0)), some (.int (a3))]) rfl (by decide) rfl ?_
  obtain ⟨x57, ex57⟩ : ∃ z : Int32, z = a3 + 1 := ⟨_, rfl⟩
  have h := h x57 ex57
  refine z_iinc C dX6_readAnyOf_57 (v := x57) (lc' := [some (.ref 13), some (.int (a1)), some (.int (b0)), some (.int (x57))]) rfl (by decide) (by rw [ex57]; rfl) rfl ?_
  refine z_goto C dX6_readAnyOf_60 (tgt := 8) (by decide) ?_
  exact t_drop [true, true, true, true] rfl (hK8 st a1 b0 x57 h)
def w_X6_readAnyOf_L9_55 (P : Int32 → zTs → Prop) (K8 : zTs → Int32 → Int32 → Int32 → Prop) (st : zTs) (a1 : Int32) (a3 : Int32) : Prop := w_X6_readAnyOf_L9_56 P K8 st a1 a3 (0)
set_option maxHeartbeats 4000000 in
set_option maxRecDepth 100000 in
theorem j_X6_readAnyOf_L9_55 {P : Int32 → zTs → Prop} {K8 : zTs → Int32 → Int32 → Int32 → Prop} (hfl : l.stackTraces = false) (C : zC Z p s m args meth c cX6_readAnyOf 4 RX6) (hr : meth.sig.returnType = (some .boolean)) (hn9 : True) (hK8 : ∀ (st : zTs) (a1 : Int32) (a2 : Int32) (a3 : Int32), K8 st a1 a2 a3 → zG Z ad0 h0 p l e ({ frames := 13, cells := 0, slots := 0, locals := 281 } : Room) s m args below meth c (MQ below (zQ Z ad0 h0 (zWi Z P)) args s 0 0 (zA Z)) 0 0 (zh Z zm1 st) 4 8 [some (.ref 13), some (.int (a1)), some (.int (a2)), some (.int (a3))] []) (st : zTs) (a1 : Int32) (a3 : Int32) (h : w_X6_readAnyOf_L9_55 P K8 st a1 a3) : zG Z ad0 h0 p l e ({ frames := 13, cells := 0, slots := 0, locals := 281 } : Room) s m args below meth c (MQ below (zQ Z ad0 h0 (zWi Z P)) args s 0 0 (zA Z)) 0 0 (zh Z zm1 st) 4 55 [some (.ref 13), some (.int (a1)), none, some (.int (a3))] [] := by
  unfold w_X6_readAnyOf_L9_55 at h
  refine z_iconst C dX6_readAnyOf_55 (v := 0) (by decide) ?_
  exact t_drop [true, true, false, true] rfl (j_X6_readAnyOf_L9_56 hfl C hr hn9 hK8 st a1 a3 (0) h)
def w_X6_readAnyOf_L9_8 (P : Int32 → zTs → Prop)  : Nat → zTs → Int32 → Int32 → Int32 → Prop
  | 0, _, _, _, _ => False
  | n9 + 1, st, a1, a2, a3 => ((zgF st 13 0 3) ≤ a3 → (a2 = 0 ∨ a2 = 1) ∧ (P a2 st)) ∧ (¬ (zgF st 13 0 3) ≤ a3 → (a2 = 0 → (a2 = 0 ∨ a2 = 1) ∧ (P a2 st)) ∧ (¬ a2 = 0 → (zgP st 13 0 6 < 24) ∧ ((((zgP st 13 0 6) : Nat) = 18 → w_X6_advance st (fun (s31 : zTs) => (w_X6_readAllOf_L9 s31 a1 (fun (r36 : Int32) (s36 : zTs) => ((r36 = 0 → w_X6_readAnyOf_L9_55 P (w_X6_readAnyOf_L9_8 P n9) s36 a1 a3) ∧ (¬ r36 = 0 → w_X6_addStep s36 (-3) (fun (r45 : Int32) (s45 : zTs) => ((r45 = 0 → w_X6_readAnyOf_L9_55 P (w_X6_readAnyOf_L9_8 P n9) s45 a1 a3) ∧ (¬ r45 = 0 → w_X6_readAnyOf_L9_56 P (w_X6_readAnyOf_L9_8 P n9) s45 a1 a3 (1)))))))))) ∧ (¬ ((zgP st 13 0 6) : Nat) = 18 → (a2 = 0 ∨ a2 = 1) ∧ (P a2 st)))))
set_option maxHeartbeats 4000000 in
set_option maxRecDepth 100000 in
theorem j_X6_readAnyOf_L9_8 {P : Int32 → zTs → Prop}  (hfl : l.stackTraces = false) (C : zC Z p s m args meth c cX6_readAnyOf 4 RX6) (hr : meth.sig.returnType = (some .boolean)) (hn9 : True)  : ∀ (n9 : Nat) (st : zTs) (a1 : Int32) (a2 : Int32) (a3 : Int32), w_X6_readAnyOf_L9_8 P n9 st a1 a2 a3 → zG Z ad0 h0 p l e ({ frames := 13, cells := 0, slots := 0, locals := 281 } : Room) s m args below meth c (MQ below (zQ Z ad0 h0 (zWi Z P)) args s 0 0 (zA Z)) 0 0 (zh Z zm1 st) 4 8 [some (.ref 13), some (.int (a1)), some (.int (a2)), some (.int (a3))] [] := by
  intro n9
  induction n9 with
  | zero => intro st a1 a2 a3 h; exact h.elim
  | succ n9 hK8 =>
    intro st a1 a2 a3 h
    rw [w_X6_readAnyOf_L9_8] at h
    refine z_iload_n C dX6_readAnyOf_8 (i := 3) rfl rfl ?_
    refine z_aload_n C dX6_readAnyOf_9 (i := 0) rfl rfl ?_
    refine t_get C dX6_readAnyOf_10 fl_X6_55 (k := 13) (i := 0) (by decide) rfl (fg_13_3 _ _ _) ?_
    refine z_icmp_ge C dX6_readAnyOf_13 (tgt := 63) (by decide) (fun c13 => ?_) (fun c13 => ?_)
    · have h := h.1 c13
      refine z_iload_n C dX6_readAnyOf_63 (i := 2) rfl rfl ?_
      obtain ⟨g64, h⟩ := h
      exact z_iret C dX6_readAnyOf_64 hr (zn_bool g64) ⟨_, _, rfl, rfl, h⟩ (Nat.le_of_ble_eq_true rfl) (Nat.le_of_ble_eq_true rfl)
    · have h := h.2 c13
      refine z_iload_n C dX6_readAnyOf_16 (i := 2) rfl rfl ?_
      refine z_if_eq C dX6_readAnyOf_17 (tgt := 63) (by decide) (fun c17 => ?_) (fun c17 => ?_)
      · have h := h.1 c17
        refine z_iload_n C dX6_readAnyOf_63 (i := 2) rfl rfl ?_
        obtain ⟨g64, h⟩ := h
        exact z_iret C dX6_readAnyOf_64 hr (zn_bool g64) ⟨_, _, rfl, rfl, h⟩ (Nat.le_of_ble_eq_true rfl) (Nat.le_of_ble_eq_true rfl)
      · have h := h.2 c17
        refine z_aload_n C dX6_readAnyOf_20 (i := 0) rfl rfl ?_
        refine t_get C dX6_readAnyOf_21 fl_X6_21 (k := 13) (i := 0) (by decide) rfl (fg_13_6 _ _ _) ?_
        refine z_gets C dX6_readAnyOf_24 (q := 201 + 256 * 18) (by decide) gl_X6_193 (fun z => (z.2.2.2.1.1.1 18 (by decide)).1) ?_
        obtain ⟨g27a, h⟩ := h
        refine z_acmpW_ne C dX6_readAnyOf_27 (i := (zgP st 13 0 6)) (j := 18) (tgt := 63) (by decide) g27a (by decide) (fun c27 => ?_) (fun c27 => ?_)
        · have h := h.2 c27
          refine z_iload_n C dX6_readAnyOf_63 (i := 2) rfl rfl ?_
          obtain ⟨g64, h⟩ := h
          exact z_iret C dX6_readAnyOf_64 hr (zn_bool g64) ⟨_, _, rfl, rfl, h⟩ (Nat.le_of_ble_eq_true rfl) (Nat.le_of_ble_eq_true rfl)
        · have h := h.1 c27
          refine z_aload_n C dX6_readAnyOf_30 (i := 0) rfl rfl ?_
          refine t_callV C (rest := []) (c2 := 0) (s2 := 0) (kd := 13) (i := 0) [] dX6_readAnyOf_31 lk_X6_61 li_X6_advance le_X6_advance (c_X6_advance hfl h) rfl rfl (by decide) rfl ⟨_, rfl⟩ rfl ⟨Nat.le_of_ble_eq_true rfl, Nat.le_of_ble_eq_true rfl⟩ (Nat.le_of_ble_eq_true rfl) ⟨Nat.le_of_ble_eq_true rfl, Nat.le_of_ble_eq_true rfl, Nat.le_of_ble_eq_true rfl, Nat.le_of_ble_eq_true rfl⟩ (k_Wv fun s31 h => ?_)
          refine z_aload_n C dX6_readAnyOf_34 (i := 0) rfl rfl ?_
          refine z_iload_n C dX6_readAnyOf_35 (i := 1) rfl rfl ?_
          refine t_callV C (rest := []) (c2 := 0) (s2 := 0) (kd := 13) (i := 0) [.int (a1)] dX6_readAnyOf_36 lk_X6_190 li_X6_readAllOf le_X6_readAllOf (c_X6_readAllOf_L9 hfl h) rfl rfl (by decide) rfl ⟨_, rfl⟩ rfl ⟨Nat.le_of_ble_eq_true rfl, Nat.le_of_ble_eq_true rfl⟩ (Nat.le_of_ble_eq_true rfl) ⟨Nat.le_of_ble_eq_true rfl, Nat.le_of_ble_eq_true rfl, Nat.le_of_ble_eq_true rfl, Nat.le_of_ble_eq_true rfl⟩ (k_Wi fun r36 s36 h => ?_)
          refine z_if_eq C dX6_readAnyOf_39 (tgt := 55) (by decide) (fun c39 => ?_) (fun c39 => ?_)
          · have h := h.1 c39
            exact t_drop [true, true, false, true] rfl (j_X6_readAnyOf_L9_55 hfl C hr hn9 hK8 s36 a1 a3 h)
          · have h := h.2 c39
            refine z_aload_n C dX6_readAnyOf_42 (i := 0) rfl rfl ?_
            refine z_bipush C dX6_readAnyOf_43 (v := (-3)) (by decide) ?_
            refine t_callV C (rest := []) (c2 := 0) (s2 := 0) (kd := 13) (i := 0) [.int (-3)] dX6_readAnyOf_45 lk_X6_196 li_X6_addStep le_X6_addStep (c_X6_addStep hfl h) rfl rfl (by decide) rfl ⟨_, rfl⟩ rfl ⟨Nat.le_of_ble_eq_true rfl, Nat.le_of_ble_eq_true rfl⟩ (Nat.le_of_ble_eq_true rfl) ⟨Nat.le_of_ble_eq_true rfl, Nat.le_of_ble_eq_true rfl, Nat.le_of_ble_eq_true rfl, Nat.le_of_ble_eq_true rfl⟩ (k_Wi fun r45 s45 h => ?_)
            refine z_if_eq C dX6_readAnyOf_48 (tgt := 55) (by decide) (fun c48 => ?_) (fun c48 => ?_)
            · have h := h.1 c48
              exact t_drop [true, true, false, true] rfl (j_X6_readAnyOf_L9_55 hfl C hr hn9 hK8 s45 a1 a3 h)
            · have h := h.2 c48
              refine z_iconst C dX6_readAnyOf_51 (v := 1) (by decide) ?_
              refine z_goto C dX6_readAnyOf_52 (tgt := 56) (by decide) ?_
              exact t_drop [true, true, false, true] rfl (j_X6_readAnyOf_L9_56 hfl C hr hn9 hK8 s45 a1 a3 (1) h)
def w_X6_readAnyOf_L9 (st : zTs) (a1 : Int32) (P : Int32 → zTs → Prop) : Prop := w_X6_readAllOf_L9 st a1 (fun (r2 : Int32) (s2 : zTs) => (w_X6_readAnyOf_L9_8 P zfu s2 a1 r2 (0)))
set_option maxHeartbeats 4000000 in
set_option maxRecDepth 100000 in
theorem c_X6_readAnyOf_L9 {Z : zZ} {l : Launch} (hfl : l.stackTraces = false) {st : zTs} {a1 : Int32} {P : Int32 → zTs → Prop} (h : w_X6_readAnyOf_L9 st a1 P) : zN Z l yX6_readAnyOf cX6_readAnyOf 4 (some .boolean) ({ frames := 13, cells := 0, slots := 0, locals := 281 } : Room) (zh Z zm1 st) [.ref 13, .int (a1)] (zWi Z P) := by
  unfold w_X6_readAnyOf_L9 at h
  refine z_enterN (by decide) (Nat.le_of_ble_eq_true rfl) (lc0 := [some (.ref 13), some (.int (a1)), none, none]) rfl ?_
  intro p e s m args below meth c ad0 C hr _
  have hn9 : True := trivial
  replace C : zC Z p s m args meth c cX6_readAnyOf 4 RX6 := C
  refine z_aload_n C dX6_readAnyOf_0 (i := 0) rfl rfl ?_
  refine z_iload_n C dX6_readAnyOf_1 (i := 1) rfl rfl ?_
  refine t_callV C (rest := []) (c2 := 0) (s2 := 0) (kd := 13) (i := 0) [.int (a1)] dX6_readAnyOf_2 lk_X6_190 li_X6_readAllOf le_X6_readAllOf (c_X6_readAllOf_L9 hfl h) rfl rfl (by decide) rfl ⟨_, rfl⟩ rfl ⟨Nat.le_of_ble_eq_true rfl, Nat.le_of_ble_eq_true rfl⟩ (Nat.le_of_ble_eq_true rfl) ⟨Nat.le_of_ble_eq_true rfl, Nat.le_of_ble_eq_true rfl, Nat.le_of_ble_eq_true rfl, Nat.le_of_ble_eq_true rfl⟩ (k_Wi fun r2 s2 h => ?_)
  refine z_istore_n C dX6_readAnyOf_5 (i := 2) (lc' := [some (.ref 13), some (.int (a1)), some (.int (r2)), none]) rfl (by decide) rfl ?_
  refine z_iconst C dX6_readAnyOf_6 (v := 0) (by decide) ?_
  refine z_istore_n C dX6_readAnyOf_7 (i := 3) (lc' := [some (.ref 13), some (.int (a1)), some (.int (r2)), some (.int (0))]) rfl (by decide) rfl ?_
  exact t_drop [true, true, true, true] rfl (j_X6_readAnyOf_L9_8 hfl C hr hn9  zfu s2 a1 r2 (0) h)
def w_X6_readOne_L8_188 (P : Int32 → zTs → Prop)  (st : zTs) (b0 : Int32) (b1 : Int32) : Prop := w_X6_addStep st (((b1 + b0) * 10000) + (zgF st 13 0 9)) (fun (r198 : Int32) (s198 : zTs) => ((r198 = 0 → P 0 s198) ∧ (¬ r198 = 0 → P 1 s198)))
set_option maxHeartbeats 4000000 in
set_option maxRecDepth 100000 in
theorem j_X6_readOne_L8_188 {P : Int32 → zTs → Prop}  (hfl : l.stackTraces = false) (C : zC Z p s m args meth c cX6_readOne 5 RX6) (hr : meth.sig.returnType = (some .boolean)) (hn9 : True)  (st : zTs) (b0 : Int32) (b1 : Int32) (h : w_X6_readOne_L8_188 P st b0 b1) : zG Z ad0 h0 p l e ({ frames := 14, cells := 0, slots := 0, locals := 304 } : Room) s m args below meth c (MQ below (zQ Z ad0 h0 (zWi Z P)) args s 0 0 (zA Z)) 0 0 (zh Z zm1 st) 5 188 [some (.ref 13), none, none, none, none] [.int (b0), .int (b1), .ref 13] := by
  unfold w_X6_readOne_L8_188 at h
  refine z_iadd C dX6_readOne_188 ?_
  refine z_sipush C dX6_readOne_189 (v := 10000) (by decide) ?_
  refine z_imul C dX6_readOne_192 ?_
  refine z_aload_n C dX6_readOne_193 (i := 0) rfl rfl ?_
  refine t_get C dX6_readOne_194 fl_X6_83 (k := 13) (i := 0) (by decide) rfl (fg_13_9 _ _ _) ?_
  refine z_iadd C dX6_readOne_197 ?_
  refine t_callV C (rest := []) (c2 := 0) (s2 := 0) (kd := 13) (i := 0) [.int (((b1 + b0) * 10000) + (zgF st 13 0 9))] dX6_readOne_198 lk_X6_196 li_X6_addStep le_X6_addStep (c_X6_addStep hfl h) rfl rfl (by decide) rfl ⟨_, rfl⟩ rfl ⟨Nat.le_of_ble_eq_true rfl, Nat.le_of_ble_eq_true rfl⟩ (Nat.le_of_ble_eq_true rfl) ⟨Nat.le_of_ble_eq_true rfl, Nat.le_of_ble_eq_true rfl, Nat.le_of_ble_eq_true rfl, Nat.le_of_ble_eq_true rfl⟩ (k_Wi fun r198 s198 h => ?_)
  refine z_if_eq C dX6_readOne_201 (tgt := 208) (by decide) (fun c201 => ?_) (fun c201 => ?_)
  · have h := h.1 c201
    refine z_iconst C dX6_readOne_208 (v := 0) (by decide) ?_
    exact z_iret C dX6_readOne_209 hr rfl ⟨_, _, rfl, rfl, h⟩ (Nat.le_of_ble_eq_true rfl) (Nat.le_of_ble_eq_true rfl)
  · have h := h.2 c201
    refine z_iconst C dX6_readOne_204 (v := 1) (by decide) ?_
    refine z_goto C dX6_readOne_205 (tgt := 209) (by decide) ?_
    exact z_iret C dX6_readOne_209 hr rfl ⟨_, _, rfl, rfl, h⟩ (Nat.le_of_ble_eq_true rfl) (Nat.le_of_ble_eq_true rfl)
def w_X6_readOne_L8_159 (P : Int32 → zTs → Prop)  (st : zTs) (a3 : Int32) (a4 : Int32) : Prop := w_X6_advance st (fun (s160 : zTs) => (w_X6_takeNumber s160 0 9999 (fun (r168 : Int32) (s168 : zTs) => ((r168 = 0 → P 0 s168) ∧ (¬ r168 = 0 → (a4 = 0 → w_X6_readOne_L8_188 P s168 (0) (2 * a3)) ∧ (¬ a4 = 0 → w_X6_readOne_L8_188 P s168 (1) (2 * a3)))))))
set_option maxHeartbeats 4000000 in
set_option maxRecDepth 100000 in
theorem j_X6_readOne_L8_159 {P : Int32 → zTs → Prop}  (hfl : l.stackTraces = false) (C : zC Z p s m args meth c cX6_readOne 5 RX6) (hr : meth.sig.returnType = (some .boolean)) (hn9 : True)  (st : zTs) (a3 : Int32) (a4 : Int32) (h : w_X6_readOne_L8_159 P st a3 a4) : zG Z ad0 h0 p l e ({ frames := 14, cells := 0, slots := 0, locals := 304 } : Room) s m args below meth c (MQ below (zQ Z ad0 h0 (zWi Z P)) args s 0 0 (zA Z)) 0 0 (zh Z zm1 st) 5 159 [some (.ref 13), none, none, some (.int (a3)), some (.int (a4))] [] := by
  unfold w_X6_readOne_L8_159 at h
  refine z_aload_n C dX6_readOne_159 (i := 0) rfl rfl ?_
  refine t_callV C (rest := []) (c2 := 0) (s2 := 0) (kd := 13) (i := 0) [] dX6_readOne_160 lk_X6_61 li_X6_advance le_X6_advance (c_X6_advance hfl h) rfl rfl (by decide) rfl ⟨_, rfl⟩ rfl ⟨Nat.le_of_ble_eq_true rfl, Nat.le_of_ble_eq_true rfl⟩ (Nat.le_of_ble_eq_true rfl) ⟨Nat.le_of_ble_eq_true rfl, Nat.le_of_ble_eq_true rfl, Nat.le_of_ble_eq_true rfl, Nat.le_of_ble_eq_true rfl⟩ (k_Wv fun s160 h => ?_)
  refine z_aload_n C dX6_readOne_163 (i := 0) rfl rfl ?_
  refine z_iconst C dX6_readOne_164 (v := 0) (by decide) ?_
  refine z_sipush C dX6_readOne_165 (v := 9999) (by decide) ?_
  refine t_callV C (rest := []) (c2 := 0) (s2 := 0) (kd := 13) (i := 0) [.int (0), .int (9999)] dX6_readOne_168 lk_X6_125 li_X6_takeNumber le_X6_takeNumber (c_X6_takeNumber hfl h) rfl rfl (by decide) rfl ⟨_, rfl⟩ rfl ⟨Nat.le_of_ble_eq_true rfl, Nat.le_of_ble_eq_true rfl⟩ (Nat.le_of_ble_eq_true rfl) ⟨Nat.le_of_ble_eq_true rfl, Nat.le_of_ble_eq_true rfl, Nat.le_of_ble_eq_true rfl, Nat.le_of_ble_eq_true rfl⟩ (k_Wi fun r168 s168 h => ?_)
  refine z_if_eq C dX6_readOne_171 (tgt := 208) (by decide) (fun c171 => ?_) (fun c171 => ?_)
  · have h := h.1 c171
    refine z_iconst C dX6_readOne_208 (v := 0) (by decide) ?_
    exact z_iret C dX6_readOne_209 hr rfl ⟨_, _, rfl, rfl, h⟩ (Nat.le_of_ble_eq_true rfl) (Nat.le_of_ble_eq_true rfl)
  · have h := h.2 c171
    refine z_aload_n C dX6_readOne_174 (i := 0) rfl rfl ?_
    refine z_iconst C dX6_readOne_175 (v := 2) (by decide) ?_
    refine z_iload_n C dX6_readOne_176 (i := 3) rfl rfl ?_
    refine z_imul C dX6_readOne_177 ?_
    refine z_iload C dX6_readOne_178 rfl ?_
    refine z_if_eq C dX6_readOne_180 (tgt := 187) (by decide) (fun c180 => ?_) (fun c180 => ?_)
    · have h := h.1 c180
      refine z_iconst C dX6_readOne_187 (v := 0) (by decide) ?_
      exact t_drop [true, false, false, false, false] rfl (j_X6_readOne_L8_188 hfl C hr hn9  s168 (0) (2 * a3) h)
    · have h := h.2 c180
      refine z_iconst C dX6_readOne_183 (v := 1) (by decide) ?_
      refine z_goto C dX6_readOne_184 (tgt := 188) (by decide) ?_
      exact t_drop [true, false, false, false, false] rfl (j_X6_readOne_L8_188 hfl C hr hn9  s168 (1) (2 * a3) h)
def w_X6_readOne_L8_137 (P : Int32 → zTs → Prop)  (st : zTs) (a3 : Int32) (b0 : Int32) : Prop := (b0 = 0 → ((zgF st 13 0 8) = 60 → w_X6_readOne_L8_159 P st a3 b0) ∧ (¬ (zgF st 13 0 8) = 60 → w_X6_fail st 1 (fun (r155 : Int32) (s155 : zTs) => ((r155 = 0 ∨ r155 = 1) ∧ (P r155 s155))))) ∧ (¬ b0 = 0 → w_X6_readOne_L8_159 P st a3 b0)
set_option maxHeartbeats 4000000 in
set_option maxRecDepth 100000 in
theorem j_X6_readOne_L8_137 {P : Int32 → zTs → Prop}  (hfl : l.stackTraces = false) (C : zC Z p s m args meth c cX6_readOne 5 RX6) (hr : meth.sig.returnType = (some .boolean)) (hn9 : True)  (st : zTs) (a3 : Int32) (b0 : Int32) (h : w_X6_readOne_L8_137 P st a3 b0) : zG Z ad0 h0 p l e ({ frames := 14, cells := 0, slots := 0, locals := 304 } : Room) s m args below meth c (MQ below (zQ Z ad0 h0 (zWi Z P)) args s 0 0 (zA Z)) 0 0 (zh Z zm1 st) 5 137 [some (.ref 13), none, none, some (.int (a3)), none] [.int (b0)] := by
  unfold w_X6_readOne_L8_137 at h
  refine z_istore C dX6_readOne_137 (lc' := [some (.ref 13), none, none, some (.int (a3)), some (.int (b0))]) (by decide) rfl ?_
  refine z_iload C dX6_readOne_139 rfl ?_
  refine z_if_ne C dX6_readOne_141 (tgt := 159) (by decide) (fun c141 => ?_) (fun c141 => ?_)
  · have h := h.2 c141
    exact t_drop [true, false, false, true, true] rfl (j_X6_readOne_L8_159 hfl C hr hn9  st a3 b0 h)
  · have h := h.1 c141
    refine z_aload_n C dX6_readOne_144 (i := 0) rfl rfl ?_
    refine t_get C dX6_readOne_145 fl_X6_28 (k := 13) (i := 0) (by decide) rfl (fg_13_8 _ _ _) ?_
    refine z_bipush C dX6_readOne_148 (v := 60) (by decide) ?_
    refine z_icmp_eq C dX6_readOne_150 (tgt := 159) (by decide) (fun c150 => ?_) (fun c150 => ?_)
    · have h := h.1 c150
      exact t_drop [true, false, false, true, true] rfl (j_X6_readOne_L8_159 hfl C hr hn9  st a3 b0 h)
    · have h := h.2 c150
      refine z_aload_n C dX6_readOne_153 (i := 0) rfl rfl ?_
      refine z_iconst C dX6_readOne_154 (v := 1) (by decide) ?_
      refine t_callV C (rest := []) (c2 := 0) (s2 := 0) (kd := 13) (i := 0) [.int (1)] dX6_readOne_155 lk_X6_79 li_X6_fail le_X6_fail (c_X6_fail hfl h) rfl rfl (by decide) rfl ⟨_, rfl⟩ rfl ⟨Nat.le_of_ble_eq_true rfl, Nat.le_of_ble_eq_true rfl⟩ (Nat.le_of_ble_eq_true rfl) ⟨Nat.le_of_ble_eq_true rfl, Nat.le_of_ble_eq_true rfl, Nat.le_of_ble_eq_true rfl, Nat.le_of_ble_eq_true rfl⟩ (k_Wi fun r155 s155 h => ?_)
      obtain ⟨g158, h⟩ := h
      exact z_iret C dX6_readOne_158 hr (zn_bool g158) ⟨_, _, rfl, rfl, h⟩ (Nat.le_of_ble_eq_true rfl) (Nat.le_of_ble_eq_true rfl)
def w_X6_readOne_L8_29 (P : Int32 → zTs → Prop)  (st : zTs) (a1 : Int32) (a2 : Int32) : Prop := (a1 < 8 → w_X6_advance st (fun (s42 : zTs) => ((a2 = 0 → w_X6_readAnyOf_L9 s42 (a1 + 1) (fun (r79 : Int32) (s79 : zTs) => ((r79 = 0 → P 0 s79) ∧ (¬ r79 = 0 → w_X6_takeSign s79 41 (fun (r88 : Int32) (s88 : zTs) => ((r88 = 0 → P 0 s88) ∧ (¬ r88 = 0 → P 1 s88))))))) ∧ (¬ a2 = 0 → w_X6_readOne_L9 s42 (a1 + 1) (fun (r53 : Int32) (s53 : zTs) => ((r53 = 0 → P 0 s53) ∧ (¬ r53 = 0 → w_X6_addStep s53 (-1) (fun (r61 : Int32) (s61 : zTs) => ((r61 = 0 → P 0 s61) ∧ (¬ r61 = 0 → P 1 s61)))))))))) ∧ (¬ a1 < 8 → w_X6_fail st 3 (fun (r37 : Int32) (s37 : zTs) => ((r37 = 0 ∨ r37 = 1) ∧ (P r37 s37))))
set_option maxHeartbeats 4000000 in
set_option maxRecDepth 100000 in
theorem j_X6_readOne_L8_29 {P : Int32 → zTs → Prop}  (hfl : l.stackTraces = false) (C : zC Z p s m args meth c cX6_readOne 5 RX6) (hr : meth.sig.returnType = (some .boolean)) (hn9 : True)  (st : zTs) (a1 : Int32) (a2 : Int32) (h : w_X6_readOne_L8_29 P st a1 a2) : zG Z ad0 h0 p l e ({ frames := 14, cells := 0, slots := 0, locals := 304 } : Room) s m args below meth c (MQ below (zQ Z ad0 h0 (zWi Z P)) args s 0 0 (zA Z)) 0 0 (zh Z zm1 st) 5 29 [some (.ref 13), some (.int (a1)), some (.int (a2)), none, none] [] := by
  unfold w_X6_readOne_L8_29 at h
  refine z_iload_n C dX6_readOne_29 (i := 1) rfl rfl ?_
  refine z_bipush C dX6_readOne_30 (v := 8) (by decide) ?_
  refine z_icmp_lt C dX6_readOne_32 (tgt := 41) (by decide) (fun c32 => ?_) (fun c32 => ?_)
  · have h := h.1 c32
    refine z_aload_n C dX6_readOne_41 (i := 0) rfl rfl ?_
    refine t_callV C (rest := []) (c2 := 0) (s2 := 0) (kd := 13) (i := 0) [] dX6_readOne_42 lk_X6_61 li_X6_advance le_X6_advance (c_X6_advance hfl h) rfl rfl (by decide) rfl ⟨_, rfl⟩ rfl ⟨Nat.le_of_ble_eq_true rfl, Nat.le_of_ble_eq_true rfl⟩ (Nat.le_of_ble_eq_true rfl) ⟨Nat.le_of_ble_eq_true rfl, Nat.le_of_ble_eq_true rfl, Nat.le_of_ble_eq_true rfl, Nat.le_of_ble_eq_true rfl⟩ (k_Wv fun s42 h => ?_)
    refine z_iload_n C dX6_readOne_45 (i := 2) rfl rfl ?_
    refine z_if_eq C dX6_readOne_46 (tgt := 75) (by decide) (fun c46 => ?_) (fun c46 => ?_)
    · have h := h.1 c46
      refine z_aload_n C dX6_readOne_75 (i := 0) rfl rfl ?_
      refine z_iload_n C dX6_readOne_76 (i := 1) rfl rfl ?_
      refine z_iconst C dX6_readOne_77 (v := 1) (by decide) ?_
      refine z_iadd C dX6_readOne_78 ?_
      refine t_callV C (rest := []) (c2 := 0) (s2 := 0) (kd := 13) (i := 0) [.int (a1 + 1)] dX6_readOne_79 lk_X6_177 li_X6_readAnyOf le_X6_readAnyOf (c_X6_readAnyOf_L9 hfl h) rfl rfl (by decide) rfl ⟨_, rfl⟩ rfl ⟨Nat.le_of_ble_eq_true rfl, Nat.le_of_ble_eq_true rfl⟩ (Nat.le_of_ble_eq_true rfl) ⟨Nat.le_of_ble_eq_true rfl, Nat.le_of_ble_eq_true rfl, Nat.le_of_ble_eq_true rfl, Nat.le_of_ble_eq_true rfl⟩ (k_Wi fun r79 s79 h => ?_)
      refine z_if_eq C dX6_readOne_82 (tgt := 98) (by decide) (fun c82 => ?_) (fun c82 => ?_)
      · have h := h.1 c82
        refine z_iconst C dX6_readOne_98 (v := 0) (by decide) ?_
        exact z_iret C dX6_readOne_99 hr rfl ⟨_, _, rfl, rfl, h⟩ (Nat.le_of_ble_eq_true rfl) (Nat.le_of_ble_eq_true rfl)
      · have h := h.2 c82
        refine z_aload_n C dX6_readOne_85 (i := 0) rfl rfl ?_
        refine z_bipush C dX6_readOne_86 (v := 41) (by decide) ?_
        refine t_callV C (rest := []) (c2 := 0) (s2 := 0) (kd := 13) (i := 0) [.int (41)] dX6_readOne_88 lk_X6_118 li_X6_takeSign le_X6_takeSign (c_X6_takeSign hfl h) rfl rfl (by decide) rfl ⟨_, rfl⟩ rfl ⟨Nat.le_of_ble_eq_true rfl, Nat.le_of_ble_eq_true rfl⟩ (Nat.le_of_ble_eq_true rfl) ⟨Nat.le_of_ble_eq_true rfl, Nat.le_of_ble_eq_true rfl, Nat.le_of_ble_eq_true rfl, Nat.le_of_ble_eq_true rfl⟩ (k_Wi fun r88 s88 h => ?_)
        refine z_if_eq C dX6_readOne_91 (tgt := 98) (by decide) (fun c91 => ?_) (fun c91 => ?_)
        · have h := h.1 c91
          refine z_iconst C dX6_readOne_98 (v := 0) (by decide) ?_
          exact z_iret C dX6_readOne_99 hr rfl ⟨_, _, rfl, rfl, h⟩ (Nat.le_of_ble_eq_true rfl) (Nat.le_of_ble_eq_true rfl)
        · have h := h.2 c91
          refine z_iconst C dX6_readOne_94 (v := 1) (by decide) ?_
          refine z_goto C dX6_readOne_95 (tgt := 99) (by decide) ?_
          exact z_iret C dX6_readOne_99 hr rfl ⟨_, _, rfl, rfl, h⟩ (Nat.le_of_ble_eq_true rfl) (Nat.le_of_ble_eq_true rfl)
    · have h := h.2 c46
      refine z_aload_n C dX6_readOne_49 (i := 0) rfl rfl ?_
      refine z_iload_n C dX6_readOne_50 (i := 1) rfl rfl ?_
      refine z_iconst C dX6_readOne_51 (v := 1) (by decide) ?_
      refine z_iadd C dX6_readOne_52 ?_
      refine t_callV C (rest := []) (c2 := 0) (s2 := 0) (kd := 13) (i := 0) [.int (a1 + 1)] dX6_readOne_53 lk_X6_199 li_X6_readOne le_X6_readOne (c_X6_readOne_L9 hfl h) rfl rfl (by decide) rfl ⟨_, rfl⟩ rfl ⟨Nat.le_of_ble_eq_true rfl, Nat.le_of_ble_eq_true rfl⟩ (Nat.le_of_ble_eq_true rfl) ⟨Nat.le_of_ble_eq_true rfl, Nat.le_of_ble_eq_true rfl, Nat.le_of_ble_eq_true rfl, Nat.le_of_ble_eq_true rfl⟩ (k_Wi fun r53 s53 h => ?_)
      refine z_if_eq C dX6_readOne_56 (tgt := 71) (by decide) (fun c56 => ?_) (fun c56 => ?_)
      · have h := h.1 c56
        refine z_iconst C dX6_readOne_71 (v := 0) (by decide) ?_
        refine z_goto C dX6_readOne_72 (tgt := 99) (by decide) ?_
        exact z_iret C dX6_readOne_99 hr rfl ⟨_, _, rfl, rfl, h⟩ (Nat.le_of_ble_eq_true rfl) (Nat.le_of_ble_eq_true rfl)
      · have h := h.2 c56
        refine z_aload_n C dX6_readOne_59 (i := 0) rfl rfl ?_
        refine z_iconst C dX6_readOne_60 (v := (-1)) (by decide) ?_
        refine t_callV C (rest := []) (c2 := 0) (s2 := 0) (kd := 13) (i := 0) [.int (-1)] dX6_readOne_61 lk_X6_196 li_X6_addStep le_X6_addStep (c_X6_addStep hfl h) rfl rfl (by decide) rfl ⟨_, rfl⟩ rfl ⟨Nat.le_of_ble_eq_true rfl, Nat.le_of_ble_eq_true rfl⟩ (Nat.le_of_ble_eq_true rfl) ⟨Nat.le_of_ble_eq_true rfl, Nat.le_of_ble_eq_true rfl, Nat.le_of_ble_eq_true rfl, Nat.le_of_ble_eq_true rfl⟩ (k_Wi fun r61 s61 h => ?_)
        refine z_if_eq C dX6_readOne_64 (tgt := 71) (by decide) (fun c64 => ?_) (fun c64 => ?_)
        · have h := h.1 c64
          refine z_iconst C dX6_readOne_71 (v := 0) (by decide) ?_
          refine z_goto C dX6_readOne_72 (tgt := 99) (by decide) ?_
          exact z_iret C dX6_readOne_99 hr rfl ⟨_, _, rfl, rfl, h⟩ (Nat.le_of_ble_eq_true rfl) (Nat.le_of_ble_eq_true rfl)
        · have h := h.2 c64
          refine z_iconst C dX6_readOne_67 (v := 1) (by decide) ?_
          refine z_goto C dX6_readOne_68 (tgt := 99) (by decide) ?_
          exact z_iret C dX6_readOne_99 hr rfl ⟨_, _, rfl, rfl, h⟩ (Nat.le_of_ble_eq_true rfl) (Nat.le_of_ble_eq_true rfl)
  · have h := h.2 c32
    refine z_aload_n C dX6_readOne_35 (i := 0) rfl rfl ?_
    refine z_iconst C dX6_readOne_36 (v := 3) (by decide) ?_
    refine t_callV C (rest := []) (c2 := 0) (s2 := 0) (kd := 13) (i := 0) [.int (3)] dX6_readOne_37 lk_X6_79 li_X6_fail le_X6_fail (c_X6_fail hfl h) rfl rfl (by decide) rfl ⟨_, rfl⟩ rfl ⟨Nat.le_of_ble_eq_true rfl, Nat.le_of_ble_eq_true rfl⟩ (Nat.le_of_ble_eq_true rfl) ⟨Nat.le_of_ble_eq_true rfl, Nat.le_of_ble_eq_true rfl, Nat.le_of_ble_eq_true rfl, Nat.le_of_ble_eq_true rfl⟩ (k_Wi fun r37 s37 h => ?_)
    obtain ⟨g40, h⟩ := h
    exact z_iret C dX6_readOne_40 hr (zn_bool g40) ⟨_, _, rfl, rfl, h⟩ (Nat.le_of_ble_eq_true rfl) (Nat.le_of_ble_eq_true rfl)
def w_X6_readOne_L8_15 (P : Int32 → zTs → Prop)  (st : zTs) (a1 : Int32) (b0 : Int32) : Prop := (b0 = 0 → ((zgF st 13 0 8) = 40 → w_X6_readOne_L8_29 P st a1 b0) ∧ (¬ (zgF st 13 0 8) = 40 → w_X6_measureOf st (zgP st 13 0 6) (fun (r104 : Int32) => ((r104 = (-1) → w_X6_fail st 1 (fun (r115 : Int32) (s115 : zTs) => ((r115 = 0 ∨ r115 = 1) ∧ (P r115 s115)))) ∧ (¬ r104 = (-1) → w_X6_advance st (fun (s120 : zTs) => (((zgF s120 13 0 8) = 62 → w_X6_readOne_L8_137 P s120 r104 (1)) ∧ (¬ (zgF s120 13 0 8) = 62 → w_X6_readOne_L8_137 P s120 r104 (0))))))))) ∧ (¬ b0 = 0 → w_X6_readOne_L8_29 P st a1 b0)
set_option maxHeartbeats 4000000 in
set_option maxRecDepth 100000 in
theorem j_X6_readOne_L8_15 {P : Int32 → zTs → Prop}  (hfl : l.stackTraces = false) (C : zC Z p s m args meth c cX6_readOne 5 RX6) (hr : meth.sig.returnType = (some .boolean)) (hn9 : True)  (st : zTs) (a1 : Int32) (b0 : Int32) (h : w_X6_readOne_L8_15 P st a1 b0) : zG Z ad0 h0 p l e ({ frames := 14, cells := 0, slots := 0, locals := 304 } : Room) s m args below meth c (MQ below (zQ Z ad0 h0 (zWi Z P)) args s 0 0 (zA Z)) 0 0 (zh Z zm1 st) 5 15 [some (.ref 13), some (.int (a1)), none, none, none] [.int (b0)] := by
  unfold w_X6_readOne_L8_15 at h
  refine z_istore_n C dX6_readOne_15 (i := 2) (lc' := [some (.ref 13), some (.int (a1)), some (.int (b0)), none, none]) rfl (by decide) rfl ?_
  refine z_iload_n C dX6_readOne_16 (i := 2) rfl rfl ?_
  refine z_if_ne C dX6_readOne_17 (tgt := 29) (by decide) (fun c17 => ?_) (fun c17 => ?_)
  · have h := h.2 c17
    exact t_drop [true, true, true, false, false] rfl (j_X6_readOne_L8_29 hfl C hr hn9  st a1 b0 h)
  · have h := h.1 c17
    refine z_aload_n C dX6_readOne_20 (i := 0) rfl rfl ?_
    refine t_get C dX6_readOne_21 fl_X6_28 (k := 13) (i := 0) (by decide) rfl (fg_13_8 _ _ _) ?_
    refine z_bipush C dX6_readOne_24 (v := 40) (by decide) ?_
    refine z_icmp_ne C dX6_readOne_26 (tgt := 100) (by decide) (fun c26 => ?_) (fun c26 => ?_)
    · have h := h.2 c26
      refine z_aload_n C dX6_readOne_100 (i := 0) rfl rfl ?_
      refine t_get C dX6_readOne_101 fl_X6_21 (k := 13) (i := 0) (by decide) rfl (fg_13_6 _ _ _) ?_
      refine t_callS C (rest := []) (c2 := 0) (s2 := 0) [.ref (201 + 256 * (zgP st 13 0 6))] dX6_readOne_104 lk_X6_208 ls_X6_measureOf (c_X6_measureOf hfl h) rfl rfl ⟨Nat.le_of_ble_eq_true rfl, Nat.le_of_ble_eq_true rfl⟩ (Nat.le_of_ble_eq_true rfl) ⟨Nat.le_of_ble_eq_true rfl, Nat.le_of_ble_eq_true rfl, Nat.le_of_ble_eq_true rfl, Nat.le_of_ble_eq_true rfl⟩ (k_Ri fun r104 h => ?_)
      refine z_istore_n C dX6_readOne_107 (i := 3) (lc' := [some (.ref 13), some (.int (a1)), some (.int (b0)), some (.int (r104)), none]) rfl (by decide) rfl ?_
      refine z_iload_n C dX6_readOne_108 (i := 3) rfl rfl ?_
      refine z_iconst C dX6_readOne_109 (v := (-1)) (by decide) ?_
      refine z_icmp_ne C dX6_readOne_110 (tgt := 119) (by decide) (fun c110 => ?_) (fun c110 => ?_)
      · have h := h.2 c110
        refine z_aload_n C dX6_readOne_119 (i := 0) rfl rfl ?_
        refine t_callV C (rest := []) (c2 := 0) (s2 := 0) (kd := 13) (i := 0) [] dX6_readOne_120 lk_X6_61 li_X6_advance le_X6_advance (c_X6_advance hfl h) rfl rfl (by decide) rfl ⟨_, rfl⟩ rfl ⟨Nat.le_of_ble_eq_true rfl, Nat.le_of_ble_eq_true rfl⟩ (Nat.le_of_ble_eq_true rfl) ⟨Nat.le_of_ble_eq_true rfl, Nat.le_of_ble_eq_true rfl, Nat.le_of_ble_eq_true rfl, Nat.le_of_ble_eq_true rfl⟩ (k_Wv fun s120 h => ?_)
        refine z_aload_n C dX6_readOne_123 (i := 0) rfl rfl ?_
        refine t_get C dX6_readOne_124 fl_X6_28 (k := 13) (i := 0) (by decide) rfl (fg_13_8 _ _ _) ?_
        refine z_bipush C dX6_readOne_127 (v := 62) (by decide) ?_
        refine z_icmp_ne C dX6_readOne_129 (tgt := 136) (by decide) (fun c129 => ?_) (fun c129 => ?_)
        · have h := h.2 c129
          refine z_iconst C dX6_readOne_136 (v := 0) (by decide) ?_
          exact t_drop [true, false, false, true, false] rfl (j_X6_readOne_L8_137 hfl C hr hn9  s120 r104 (0) h)
        · have h := h.1 c129
          refine z_iconst C dX6_readOne_132 (v := 1) (by decide) ?_
          refine z_goto C dX6_readOne_133 (tgt := 137) (by decide) ?_
          exact t_drop [true, false, false, true, false] rfl (j_X6_readOne_L8_137 hfl C hr hn9  s120 r104 (1) h)
      · have h := h.1 c110
        refine z_aload_n C dX6_readOne_113 (i := 0) rfl rfl ?_
        refine z_iconst C dX6_readOne_114 (v := 1) (by decide) ?_
        refine t_callV C (rest := []) (c2 := 0) (s2 := 0) (kd := 13) (i := 0) [.int (1)] dX6_readOne_115 lk_X6_79 li_X6_fail le_X6_fail (c_X6_fail hfl h) rfl rfl (by decide) rfl ⟨_, rfl⟩ rfl ⟨Nat.le_of_ble_eq_true rfl, Nat.le_of_ble_eq_true rfl⟩ (Nat.le_of_ble_eq_true rfl) ⟨Nat.le_of_ble_eq_true rfl, Nat.le_of_ble_eq_true rfl, Nat.le_of_ble_eq_true rfl, Nat.le_of_ble_eq_true rfl⟩ (k_Wi fun r115 s115 h => ?_)
        obtain ⟨g118, h⟩ := h
        exact z_iret C dX6_readOne_118 hr (zn_bool g118) ⟨_, _, rfl, rfl, h⟩ (Nat.le_of_ble_eq_true rfl) (Nat.le_of_ble_eq_true rfl)
    · have h := h.1 c26
      exact t_drop [true, true, true, false, false] rfl (j_X6_readOne_L8_29 hfl C hr hn9  st a1 b0 h)
def w_X6_readOne_L8 (st : zTs) (a1 : Int32) (P : Int32 → zTs → Prop) : Prop := (zgP st 13 0 6 < 24) ∧ ((((zgP st 13 0 6) : Nat) = 20 → w_X6_readOne_L8_15 P st a1 (1)) ∧ (¬ ((zgP st 13 0 6) : Nat) = 20 → w_X6_readOne_L8_15 P st a1 (0)))
set_option maxHeartbeats 4000000 in
set_option maxRecDepth 100000 in
theorem c_X6_readOne_L8 {Z : zZ} {l : Launch} (hfl : l.stackTraces = false) {st : zTs} {a1 : Int32} {P : Int32 → zTs → Prop} (h : w_X6_readOne_L8 st a1 P) : zN Z l yX6_readOne cX6_readOne 5 (some .boolean) ({ frames := 14, cells := 0, slots := 0, locals := 304 } : Room) (zh Z zm1 st) [.ref 13, .int (a1)] (zWi Z P) := by
  unfold w_X6_readOne_L8 at h
  refine z_enterN (by decide) (Nat.le_of_ble_eq_true rfl) (lc0 := [some (.ref 13), some (.int (a1)), none, none, none]) rfl ?_
  intro p e s m args below meth c ad0 C hr _
  have hn9 : True := trivial
  replace C : zC Z p s m args meth c cX6_readOne 5 RX6 := C
  refine z_aload_n C dX6_readOne_0 (i := 0) rfl rfl ?_
  refine t_get C dX6_readOne_1 fl_X6_21 (k := 13) (i := 0) (by decide) rfl (fg_13_6 _ _ _) ?_
  refine z_gets C dX6_readOne_4 (q := 201 + 256 * 20) (by decide) gl_X6_205 (fun z => (z.2.2.2.1.1.1 20 (by decide)).1) ?_
  obtain ⟨g7a, h⟩ := h
  refine z_acmpW_ne C dX6_readOne_7 (i := (zgP st 13 0 6)) (j := 20) (tgt := 14) (by decide) g7a (by decide) (fun c7 => ?_) (fun c7 => ?_)
  · have h := h.2 c7
    refine z_iconst C dX6_readOne_14 (v := 0) (by decide) ?_
    exact t_drop [true, true, false, false, false] rfl (j_X6_readOne_L8_15 hfl C hr hn9  st a1 (0) h)
  · have h := h.1 c7
    refine z_iconst C dX6_readOne_10 (v := 1) (by decide) ?_
    refine z_goto C dX6_readOne_11 (tgt := 15) (by decide) ?_
    exact t_drop [true, true, false, false, false] rfl (j_X6_readOne_L8_15 hfl C hr hn9  st a1 (1) h)
def w_X6_readAllOf_L8_56 (P : Int32 → zTs → Prop) (K8 : zTs → Int32 → Int32 → Int32 → Prop) (st : zTs) (a1 : Int32) (a3 : Int32) (b0 : Int32) : Prop := ∀ x57 : Int32, x57 = a3 + 1 → (K8 st a1 b0 x57)
set_option maxHeartbeats 4000000 in
set_option maxRecDepth 100000 in
theorem j_X6_readAllOf_L8_56 {P : Int32 → zTs → Prop} {K8 : zTs → Int32 → Int32 → Int32 → Prop} (hfl : l.stackTraces = false) (C : zC Z p s m args meth c cX6_readAllOf 4 RX6) (hr : meth.sig.returnType = (some .boolean)) (hn9 : True) (hK8 : ∀ (st : zTs) (a1 : Int32) (a2 : Int32) (a3 : Int32), K8 st a1 a2 a3 → zG Z ad0 h0 p l e ({ frames := 15, cells := 0, slots := 0, locals := 328 } : Room) s m args below meth c (MQ below (zQ Z ad0 h0 (zWi Z P)) args s 0 0 (zA Z)) 0 0 (zh Z zm1 st) 4 8 [some (.ref 13), some (.int (a1)), some (.int (a2)), some (.int (a3))] []) (st : zTs) (a1 : Int32) (a3 : Int32) (b0 : Int32) (h : w_X6_readAllOf_L8_56 P K8 st a1 a3 b0) : zG Z ad0 h0 p l e ({ frames := 15, cells := 0, slots := 0, locals := 328 } : Room) s m args below meth c (MQ below (zQ Z ad0 h0 (zWi Z P)) args s 0 0 (zA Z)) 0 0 (zh Z zm1 st) 4 56 [some (.ref 13), some (.int (a1)), none, some (.int (a3))] [.int (b0)] := by
  unfold w_X6_readAllOf_L8_56 at h
  refine z_istore_n C dX6_readAllOf_56 (i := 2) (lc' := [some (.ref 13), some (.int (a1)), some (.int (b0)), some (.int (a3))]) rfl (by decide) rfl ?_
  obtain ⟨x57, ex57⟩ : ∃ z : Int32, z = a3 + 1 := ⟨_, rfl⟩
  have h := h x57 ex57
  refine z_iinc C dX6_readAllOf_57 (v := x57) (lc' := [some (.ref 13), some (.int (a1)), some (.int (b0)), some (.int (x57))]) rfl (by decide) (by rw [ex57]; rfl) rfl ?_
  refine z_goto C dX6_readAllOf_60 (tgt := 8) (by decide) ?_
  exact t_drop [true, true, true, true] rfl (hK8 st a1 b0 x57 h)
def w_X6_readAllOf_L8_55 (P : Int32 → zTs → Prop) (K8 : zTs → Int32 → Int32 → Int32 → Prop) (st : zTs) (a1 : Int32) (a3 : Int32) : Prop := w_X6_readAllOf_L8_56 P K8 st a1 a3 (0)
set_option maxHeartbeats 4000000 in
set_option maxRecDepth 100000 in
theorem j_X6_readAllOf_L8_55 {P : Int32 → zTs → Prop} {K8 : zTs → Int32 → Int32 → Int32 → Prop} (hfl : l.stackTraces = false) (C : zC Z p s m args meth c cX6_readAllOf 4 RX6) (hr : meth.sig.returnType = (some .boolean)) (hn9 : True) (hK8 : ∀ (st : zTs) (a1 : Int32) (a2 : Int32) (a3 : Int32), K8 st a1 a2 a3 → zG Z ad0 h0 p l e ({ frames := 15, cells := 0, slots := 0, locals := 328 } : Room) s m args below meth c (MQ below (zQ Z ad0 h0 (zWi Z P)) args s 0 0 (zA Z)) 0 0 (zh Z zm1 st) 4 8 [some (.ref 13), some (.int (a1)), some (.int (a2)), some (.int (a3))] []) (st : zTs) (a1 : Int32) (a3 : Int32) (h : w_X6_readAllOf_L8_55 P K8 st a1 a3) : zG Z ad0 h0 p l e ({ frames := 15, cells := 0, slots := 0, locals := 328 } : Room) s m args below meth c (MQ below (zQ Z ad0 h0 (zWi Z P)) args s 0 0 (zA Z)) 0 0 (zh Z zm1 st) 4 55 [some (.ref 13), some (.int (a1)), none, some (.int (a3))] [] := by
  unfold w_X6_readAllOf_L8_55 at h
  refine z_iconst C dX6_readAllOf_55 (v := 0) (by decide) ?_
  exact t_drop [true, true, false, true] rfl (j_X6_readAllOf_L8_56 hfl C hr hn9 hK8 st a1 a3 (0) h)
def w_X6_readAllOf_L8_8 (P : Int32 → zTs → Prop)  : Nat → zTs → Int32 → Int32 → Int32 → Prop
  | 0, _, _, _, _ => False
  | n9 + 1, st, a1, a2, a3 => ((zgF st 13 0 3) ≤ a3 → (a2 = 0 ∨ a2 = 1) ∧ (P a2 st)) ∧ (¬ (zgF st 13 0 3) ≤ a3 → (a2 = 0 → (a2 = 0 ∨ a2 = 1) ∧ (P a2 st)) ∧ (¬ a2 = 0 → (zgP st 13 0 6 < 24) ∧ ((((zgP st 13 0 6) : Nat) = 19 → w_X6_advance st (fun (s31 : zTs) => (w_X6_readOne_L8 s31 a1 (fun (r36 : Int32) (s36 : zTs) => ((r36 = 0 → w_X6_readAllOf_L8_55 P (w_X6_readAllOf_L8_8 P n9) s36 a1 a3) ∧ (¬ r36 = 0 → w_X6_addStep s36 (-2) (fun (r45 : Int32) (s45 : zTs) => ((r45 = 0 → w_X6_readAllOf_L8_55 P (w_X6_readAllOf_L8_8 P n9) s45 a1 a3) ∧ (¬ r45 = 0 → w_X6_readAllOf_L8_56 P (w_X6_readAllOf_L8_8 P n9) s45 a1 a3 (1)))))))))) ∧ (¬ ((zgP st 13 0 6) : Nat) = 19 → (a2 = 0 ∨ a2 = 1) ∧ (P a2 st)))))
set_option maxHeartbeats 4000000 in
set_option maxRecDepth 100000 in
theorem j_X6_readAllOf_L8_8 {P : Int32 → zTs → Prop}  (hfl : l.stackTraces = false) (C : zC Z p s m args meth c cX6_readAllOf 4 RX6) (hr : meth.sig.returnType = (some .boolean)) (hn9 : True)  : ∀ (n9 : Nat) (st : zTs) (a1 : Int32) (a2 : Int32) (a3 : Int32), w_X6_readAllOf_L8_8 P n9 st a1 a2 a3 → zG Z ad0 h0 p l e ({ frames := 15, cells := 0, slots := 0, locals := 328 } : Room) s m args below meth c (MQ below (zQ Z ad0 h0 (zWi Z P)) args s 0 0 (zA Z)) 0 0 (zh Z zm1 st) 4 8 [some (.ref 13), some (.int (a1)), some (.int (a2)), some (.int (a3))] [] := by
  intro n9
  induction n9 with
  | zero => intro st a1 a2 a3 h; exact h.elim
  | succ n9 hK8 =>
    intro st a1 a2 a3 h
    rw [w_X6_readAllOf_L8_8] at h
    refine z_iload_n C dX6_readAllOf_8 (i := 3) rfl rfl ?_
    refine z_aload_n C dX6_readAllOf_9 (i := 0) rfl rfl ?_
    refine t_get C dX6_readAllOf_10 fl_X6_55 (k := 13) (i := 0) (by decide) rfl (fg_13_3 _ _ _) ?_
    refine z_icmp_ge C dX6_readAllOf_13 (tgt := 63) (by decide) (fun c13 => ?_) (fun c13 => ?_)
    · have h := h.1 c13
      refine z_iload_n C dX6_readAllOf_63 (i := 2) rfl rfl ?_
      obtain ⟨g64, h⟩ := h
      exact z_iret C dX6_readAllOf_64 hr (zn_bool g64) ⟨_, _, rfl, rfl, h⟩ (Nat.le_of_ble_eq_true rfl) (Nat.le_of_ble_eq_true rfl)
    · have h := h.2 c13
      refine z_iload_n C dX6_readAllOf_16 (i := 2) rfl rfl ?_
      refine z_if_eq C dX6_readAllOf_17 (tgt := 63) (by decide) (fun c17 => ?_) (fun c17 => ?_)
      · have h := h.1 c17
        refine z_iload_n C dX6_readAllOf_63 (i := 2) rfl rfl ?_
        obtain ⟨g64, h⟩ := h
        exact z_iret C dX6_readAllOf_64 hr (zn_bool g64) ⟨_, _, rfl, rfl, h⟩ (Nat.le_of_ble_eq_true rfl) (Nat.le_of_ble_eq_true rfl)
      · have h := h.2 c17
        refine z_aload_n C dX6_readAllOf_20 (i := 0) rfl rfl ?_
        refine t_get C dX6_readAllOf_21 fl_X6_21 (k := 13) (i := 0) (by decide) rfl (fg_13_6 _ _ _) ?_
        refine z_gets C dX6_readAllOf_24 (q := 201 + 256 * 19) (by decide) gl_X6_202 (fun z => (z.2.2.2.1.1.1 19 (by decide)).1) ?_
        obtain ⟨g27a, h⟩ := h
        refine z_acmpW_ne C dX6_readAllOf_27 (i := (zgP st 13 0 6)) (j := 19) (tgt := 63) (by decide) g27a (by decide) (fun c27 => ?_) (fun c27 => ?_)
        · have h := h.2 c27
          refine z_iload_n C dX6_readAllOf_63 (i := 2) rfl rfl ?_
          obtain ⟨g64, h⟩ := h
          exact z_iret C dX6_readAllOf_64 hr (zn_bool g64) ⟨_, _, rfl, rfl, h⟩ (Nat.le_of_ble_eq_true rfl) (Nat.le_of_ble_eq_true rfl)
        · have h := h.1 c27
          refine z_aload_n C dX6_readAllOf_30 (i := 0) rfl rfl ?_
          refine t_callV C (rest := []) (c2 := 0) (s2 := 0) (kd := 13) (i := 0) [] dX6_readAllOf_31 lk_X6_61 li_X6_advance le_X6_advance (c_X6_advance hfl h) rfl rfl (by decide) rfl ⟨_, rfl⟩ rfl ⟨Nat.le_of_ble_eq_true rfl, Nat.le_of_ble_eq_true rfl⟩ (Nat.le_of_ble_eq_true rfl) ⟨Nat.le_of_ble_eq_true rfl, Nat.le_of_ble_eq_true rfl, Nat.le_of_ble_eq_true rfl, Nat.le_of_ble_eq_true rfl⟩ (k_Wv fun s31 h => ?_)
          refine z_aload_n C dX6_readAllOf_34 (i := 0) rfl rfl ?_
          refine z_iload_n C dX6_readAllOf_35 (i := 1) rfl rfl ?_
          refine t_callV C (rest := []) (c2 := 0) (s2 := 0) (kd := 13) (i := 0) [.int (a1)] dX6_readAllOf_36 lk_X6_199 li_X6_readOne le_X6_readOne (c_X6_readOne_L8 hfl h) rfl rfl (by decide) rfl ⟨_, rfl⟩ rfl ⟨Nat.le_of_ble_eq_true rfl, Nat.le_of_ble_eq_true rfl⟩ (Nat.le_of_ble_eq_true rfl) ⟨Nat.le_of_ble_eq_true rfl, Nat.le_of_ble_eq_true rfl, Nat.le_of_ble_eq_true rfl, Nat.le_of_ble_eq_true rfl⟩ (k_Wi fun r36 s36 h => ?_)
          refine z_if_eq C dX6_readAllOf_39 (tgt := 55) (by decide) (fun c39 => ?_) (fun c39 => ?_)
          · have h := h.1 c39
            exact t_drop [true, true, false, true] rfl (j_X6_readAllOf_L8_55 hfl C hr hn9 hK8 s36 a1 a3 h)
          · have h := h.2 c39
            refine z_aload_n C dX6_readAllOf_42 (i := 0) rfl rfl ?_
            refine z_bipush C dX6_readAllOf_43 (v := (-2)) (by decide) ?_
            refine t_callV C (rest := []) (c2 := 0) (s2 := 0) (kd := 13) (i := 0) [.int (-2)] dX6_readAllOf_45 lk_X6_196 li_X6_addStep le_X6_addStep (c_X6_addStep hfl h) rfl rfl (by decide) rfl ⟨_, rfl⟩ rfl ⟨Nat.le_of_ble_eq_true rfl, Nat.le_of_ble_eq_true rfl⟩ (Nat.le_of_ble_eq_true rfl) ⟨Nat.le_of_ble_eq_true rfl, Nat.le_of_ble_eq_true rfl, Nat.le_of_ble_eq_true rfl, Nat.le_of_ble_eq_true rfl⟩ (k_Wi fun r45 s45 h => ?_)
            refine z_if_eq C dX6_readAllOf_48 (tgt := 55) (by decide) (fun c48 => ?_) (fun c48 => ?_)
            · have h := h.1 c48
              exact t_drop [true, true, false, true] rfl (j_X6_readAllOf_L8_55 hfl C hr hn9 hK8 s45 a1 a3 h)
            · have h := h.2 c48
              refine z_iconst C dX6_readAllOf_51 (v := 1) (by decide) ?_
              refine z_goto C dX6_readAllOf_52 (tgt := 56) (by decide) ?_
              exact t_drop [true, true, false, true] rfl (j_X6_readAllOf_L8_56 hfl C hr hn9 hK8 s45 a1 a3 (1) h)
def w_X6_readAllOf_L8 (st : zTs) (a1 : Int32) (P : Int32 → zTs → Prop) : Prop := w_X6_readOne_L8 st a1 (fun (r2 : Int32) (s2 : zTs) => (w_X6_readAllOf_L8_8 P zfu s2 a1 r2 (0)))
set_option maxHeartbeats 4000000 in
set_option maxRecDepth 100000 in
theorem c_X6_readAllOf_L8 {Z : zZ} {l : Launch} (hfl : l.stackTraces = false) {st : zTs} {a1 : Int32} {P : Int32 → zTs → Prop} (h : w_X6_readAllOf_L8 st a1 P) : zN Z l yX6_readAllOf cX6_readAllOf 4 (some .boolean) ({ frames := 15, cells := 0, slots := 0, locals := 328 } : Room) (zh Z zm1 st) [.ref 13, .int (a1)] (zWi Z P) := by
  unfold w_X6_readAllOf_L8 at h
  refine z_enterN (by decide) (Nat.le_of_ble_eq_true rfl) (lc0 := [some (.ref 13), some (.int (a1)), none, none]) rfl ?_
  intro p e s m args below meth c ad0 C hr _
  have hn9 : True := trivial
  replace C : zC Z p s m args meth c cX6_readAllOf 4 RX6 := C
  refine z_aload_n C dX6_readAllOf_0 (i := 0) rfl rfl ?_
  refine z_iload_n C dX6_readAllOf_1 (i := 1) rfl rfl ?_
  refine t_callV C (rest := []) (c2 := 0) (s2 := 0) (kd := 13) (i := 0) [.int (a1)] dX6_readAllOf_2 lk_X6_199 li_X6_readOne le_X6_readOne (c_X6_readOne_L8 hfl h) rfl rfl (by decide) rfl ⟨_, rfl⟩ rfl ⟨Nat.le_of_ble_eq_true rfl, Nat.le_of_ble_eq_true rfl⟩ (Nat.le_of_ble_eq_true rfl) ⟨Nat.le_of_ble_eq_true rfl, Nat.le_of_ble_eq_true rfl, Nat.le_of_ble_eq_true rfl, Nat.le_of_ble_eq_true rfl⟩ (k_Wi fun r2 s2 h => ?_)
  refine z_istore_n C dX6_readAllOf_5 (i := 2) (lc' := [some (.ref 13), some (.int (a1)), some (.int (r2)), none]) rfl (by decide) rfl ?_
  refine z_iconst C dX6_readAllOf_6 (v := 0) (by decide) ?_
  refine z_istore_n C dX6_readAllOf_7 (i := 3) (lc' := [some (.ref 13), some (.int (a1)), some (.int (r2)), some (.int (0))]) rfl (by decide) rfl ?_
  exact t_drop [true, true, true, true] rfl (j_X6_readAllOf_L8_8 hfl C hr hn9  zfu s2 a1 r2 (0) h)
def w_X6_readAnyOf_L8_56 (P : Int32 → zTs → Prop) (K8 : zTs → Int32 → Int32 → Int32 → Prop) (st : zTs) (a1 : Int32) (a3 : Int32) (b0 : Int32) : Prop := ∀ x57 : Int32, x57 = a3 + 1 → (K8 st a1 b0 x57)
set_option maxHeartbeats 4000000 in
set_option maxRecDepth 100000 in
theorem j_X6_readAnyOf_L8_56 {P : Int32 → zTs → Prop} {K8 : zTs → Int32 → Int32 → Int32 → Prop} (hfl : l.stackTraces = false) (C : zC Z p s m args meth c cX6_readAnyOf 4 RX6) (hr : meth.sig.returnType = (some .boolean)) (hn9 : True) (hK8 : ∀ (st : zTs) (a1 : Int32) (a2 : Int32) (a3 : Int32), K8 st a1 a2 a3 → zG Z ad0 h0 p l e ({ frames := 16, cells := 0, slots := 0, locals := 351 } : Room) s m args below meth c (MQ below (zQ Z ad0 h0 (zWi Z P)) args s 0 0 (zA Z)) 0 0 (zh Z zm1 st) 4 8 [some (.ref 13), some (.int (a1)), some (.int (a2)), some (.int (a3))] []) (st : zTs) (a1 : Int32) (a3 : Int32) (b0 : Int32) (h : w_X6_readAnyOf_L8_56 P K8 st a1 a3 b0) : zG Z ad0 h0 p l e ({ frames := 16, cells := 0, slots := 0, locals := 351 } : Room) s m args below meth c (MQ below (zQ Z ad0 h0 (zWi Z P)) args s 0 0 (zA Z)) 0 0 (zh Z zm1 st) 4 56 [some (.ref 13), some (.int (a1)), none, some (.int (a3))] [.int (b0)] := by
  unfold w_X6_readAnyOf_L8_56 at h
  refine z_istore_n C dX6_readAnyOf_56 (i := 2) (lc' := [some (.ref 13), some (.int (a1)), some (.int (b0)), some (.int (a3))]) rfl (by decide) rfl ?_
  obtain ⟨x57, ex57⟩ : ∃ z : Int32, z = a3 + 1 := ⟨_, rfl⟩
  have h := h x57 ex57
  refine z_iinc C dX6_readAnyOf_57 (v := x57) (lc' := [some (.ref 13), some (.int (a1)), some (.int (b0)), some (.int (x57))]) rfl (by decide) (by rw [ex57]; rfl) rfl ?_
  refine z_goto C dX6_readAnyOf_60 (tgt := 8) (by decide) ?_
  exact t_drop [true, true, true, true] rfl (hK8 st a1 b0 x57 h)
def w_X6_readAnyOf_L8_55 (P : Int32 → zTs → Prop) (K8 : zTs → Int32 → Int32 → Int32 → Prop) (st : zTs) (a1 : Int32) (a3 : Int32) : Prop := w_X6_readAnyOf_L8_56 P K8 st a1 a3 (0)
set_option maxHeartbeats 4000000 in
set_option maxRecDepth 100000 in
theorem j_X6_readAnyOf_L8_55 {P : Int32 → zTs → Prop} {K8 : zTs → Int32 → Int32 → Int32 → Prop} (hfl : l.stackTraces = false) (C : zC Z p s m args meth c cX6_readAnyOf 4 RX6) (hr : meth.sig.returnType = (some .boolean)) (hn9 : True) (hK8 : ∀ (st : zTs) (a1 : Int32) (a2 : Int32) (a3 : Int32), K8 st a1 a2 a3 → zG Z ad0 h0 p l e ({ frames := 16, cells := 0, slots := 0, locals := 351 } : Room) s m args below meth c (MQ below (zQ Z ad0 h0 (zWi Z P)) args s 0 0 (zA Z)) 0 0 (zh Z zm1 st) 4 8 [some (.ref 13), some (.int (a1)), some (.int (a2)), some (.int (a3))] []) (st : zTs) (a1 : Int32) (a3 : Int32) (h : w_X6_readAnyOf_L8_55 P K8 st a1 a3) : zG Z ad0 h0 p l e ({ frames := 16, cells := 0, slots := 0, locals := 351 } : Room) s m args below meth c (MQ below (zQ Z ad0 h0 (zWi Z P)) args s 0 0 (zA Z)) 0 0 (zh Z zm1 st) 4 55 [some (.ref 13), some (.int (a1)), none, some (.int (a3))] [] := by
  unfold w_X6_readAnyOf_L8_55 at h
  refine z_iconst C dX6_readAnyOf_55 (v := 0) (by decide) ?_
  exact t_drop [true, true, false, true] rfl (j_X6_readAnyOf_L8_56 hfl C hr hn9 hK8 st a1 a3 (0) h)
def w_X6_readAnyOf_L8_8 (P : Int32 → zTs → Prop)  : Nat → zTs → Int32 → Int32 → Int32 → Prop
  | 0, _, _, _, _ => False
  | n9 + 1, st, a1, a2, a3 => ((zgF st 13 0 3) ≤ a3 → (a2 = 0 ∨ a2 = 1) ∧ (P a2 st)) ∧ (¬ (zgF st 13 0 3) ≤ a3 → (a2 = 0 → (a2 = 0 ∨ a2 = 1) ∧ (P a2 st)) ∧ (¬ a2 = 0 → (zgP st 13 0 6 < 24) ∧ ((((zgP st 13 0 6) : Nat) = 18 → w_X6_advance st (fun (s31 : zTs) => (w_X6_readAllOf_L8 s31 a1 (fun (r36 : Int32) (s36 : zTs) => ((r36 = 0 → w_X6_readAnyOf_L8_55 P (w_X6_readAnyOf_L8_8 P n9) s36 a1 a3) ∧ (¬ r36 = 0 → w_X6_addStep s36 (-3) (fun (r45 : Int32) (s45 : zTs) => ((r45 = 0 → w_X6_readAnyOf_L8_55 P (w_X6_readAnyOf_L8_8 P n9) s45 a1 a3) ∧ (¬ r45 = 0 → w_X6_readAnyOf_L8_56 P (w_X6_readAnyOf_L8_8 P n9) s45 a1 a3 (1)))))))))) ∧ (¬ ((zgP st 13 0 6) : Nat) = 18 → (a2 = 0 ∨ a2 = 1) ∧ (P a2 st)))))
set_option maxHeartbeats 4000000 in
set_option maxRecDepth 100000 in
theorem j_X6_readAnyOf_L8_8 {P : Int32 → zTs → Prop}  (hfl : l.stackTraces = false) (C : zC Z p s m args meth c cX6_readAnyOf 4 RX6) (hr : meth.sig.returnType = (some .boolean)) (hn9 : True)  : ∀ (n9 : Nat) (st : zTs) (a1 : Int32) (a2 : Int32) (a3 : Int32), w_X6_readAnyOf_L8_8 P n9 st a1 a2 a3 → zG Z ad0 h0 p l e ({ frames := 16, cells := 0, slots := 0, locals := 351 } : Room) s m args below meth c (MQ below (zQ Z ad0 h0 (zWi Z P)) args s 0 0 (zA Z)) 0 0 (zh Z zm1 st) 4 8 [some (.ref 13), some (.int (a1)), some (.int (a2)), some (.int (a3))] [] := by
  intro n9
  induction n9 with
  | zero => intro st a1 a2 a3 h; exact h.elim
  | succ n9 hK8 =>
    intro st a1 a2 a3 h
    rw [w_X6_readAnyOf_L8_8] at h
    refine z_iload_n C dX6_readAnyOf_8 (i := 3) rfl rfl ?_
    refine z_aload_n C dX6_readAnyOf_9 (i := 0) rfl rfl ?_
    refine t_get C dX6_readAnyOf_10 fl_X6_55 (k := 13) (i := 0) (by decide) rfl (fg_13_3 _ _ _) ?_
    refine z_icmp_ge C dX6_readAnyOf_13 (tgt := 63) (by decide) (fun c13 => ?_) (fun c13 => ?_)
    · have h := h.1 c13
      refine z_iload_n C dX6_readAnyOf_63 (i := 2) rfl rfl ?_
      obtain ⟨g64, h⟩ := h
      exact z_iret C dX6_readAnyOf_64 hr (zn_bool g64) ⟨_, _, rfl, rfl, h⟩ (Nat.le_of_ble_eq_true rfl) (Nat.le_of_ble_eq_true rfl)
    · have h := h.2 c13
      refine z_iload_n C dX6_readAnyOf_16 (i := 2) rfl rfl ?_
      refine z_if_eq C dX6_readAnyOf_17 (tgt := 63) (by decide) (fun c17 => ?_) (fun c17 => ?_)
      · have h := h.1 c17
        refine z_iload_n C dX6_readAnyOf_63 (i := 2) rfl rfl ?_
        obtain ⟨g64, h⟩ := h
        exact z_iret C dX6_readAnyOf_64 hr (zn_bool g64) ⟨_, _, rfl, rfl, h⟩ (Nat.le_of_ble_eq_true rfl) (Nat.le_of_ble_eq_true rfl)
      · have h := h.2 c17
        refine z_aload_n C dX6_readAnyOf_20 (i := 0) rfl rfl ?_
        refine t_get C dX6_readAnyOf_21 fl_X6_21 (k := 13) (i := 0) (by decide) rfl (fg_13_6 _ _ _) ?_
        refine z_gets C dX6_readAnyOf_24 (q := 201 + 256 * 18) (by decide) gl_X6_193 (fun z => (z.2.2.2.1.1.1 18 (by decide)).1) ?_
        obtain ⟨g27a, h⟩ := h
        refine z_acmpW_ne C dX6_readAnyOf_27 (i := (zgP st 13 0 6)) (j := 18) (tgt := 63) (by decide) g27a (by decide) (fun c27 => ?_) (fun c27 => ?_)
        · have h := h.2 c27
          refine z_iload_n C dX6_readAnyOf_63 (i := 2) rfl rfl ?_
          obtain ⟨g64, h⟩ := h
          exact z_iret C dX6_readAnyOf_64 hr (zn_bool g64) ⟨_, _, rfl, rfl, h⟩ (Nat.le_of_ble_eq_true rfl) (Nat.le_of_ble_eq_true rfl)
        · have h := h.1 c27
          refine z_aload_n C dX6_readAnyOf_30 (i := 0) rfl rfl ?_
          refine t_callV C (rest := []) (c2 := 0) (s2 := 0) (kd := 13) (i := 0) [] dX6_readAnyOf_31 lk_X6_61 li_X6_advance le_X6_advance (c_X6_advance hfl h) rfl rfl (by decide) rfl ⟨_, rfl⟩ rfl ⟨Nat.le_of_ble_eq_true rfl, Nat.le_of_ble_eq_true rfl⟩ (Nat.le_of_ble_eq_true rfl) ⟨Nat.le_of_ble_eq_true rfl, Nat.le_of_ble_eq_true rfl, Nat.le_of_ble_eq_true rfl, Nat.le_of_ble_eq_true rfl⟩ (k_Wv fun s31 h => ?_)
          refine z_aload_n C dX6_readAnyOf_34 (i := 0) rfl rfl ?_
          refine z_iload_n C dX6_readAnyOf_35 (i := 1) rfl rfl ?_
          refine t_callV C (rest := []) (c2 := 0) (s2 := 0) (kd := 13) (i := 0) [.int (a1)] dX6_readAnyOf_36 lk_X6_190 li_X6_readAllOf le_X6_readAllOf (c_X6_readAllOf_L8 hfl h) rfl rfl (by decide) rfl ⟨_, rfl⟩ rfl ⟨Nat.le_of_ble_eq_true rfl, Nat.le_of_ble_eq_true rfl⟩ (Nat.le_of_ble_eq_true rfl) ⟨Nat.le_of_ble_eq_true rfl, Nat.le_of_ble_eq_true rfl, Nat.le_of_ble_eq_true rfl, Nat.le_of_ble_eq_true rfl⟩ (k_Wi fun r36 s36 h => ?_)
          refine z_if_eq C dX6_readAnyOf_39 (tgt := 55) (by decide) (fun c39 => ?_) (fun c39 => ?_)
          · have h := h.1 c39
            exact t_drop [true, true, false, true] rfl (j_X6_readAnyOf_L8_55 hfl C hr hn9 hK8 s36 a1 a3 h)
          · have h := h.2 c39
            refine z_aload_n C dX6_readAnyOf_42 (i := 0) rfl rfl ?_
            refine z_bipush C dX6_readAnyOf_43 (v := (-3)) (by decide) ?_
            refine t_callV C (rest := []) (c2 := 0) (s2 := 0) (kd := 13) (i := 0) [.int (-3)] dX6_readAnyOf_45 lk_X6_196 li_X6_addStep le_X6_addStep (c_X6_addStep hfl h) rfl rfl (by decide) rfl ⟨_, rfl⟩ rfl ⟨Nat.le_of_ble_eq_true rfl, Nat.le_of_ble_eq_true rfl⟩ (Nat.le_of_ble_eq_true rfl) ⟨Nat.le_of_ble_eq_true rfl, Nat.le_of_ble_eq_true rfl, Nat.le_of_ble_eq_true rfl, Nat.le_of_ble_eq_true rfl⟩ (k_Wi fun r45 s45 h => ?_)
            refine z_if_eq C dX6_readAnyOf_48 (tgt := 55) (by decide) (fun c48 => ?_) (fun c48 => ?_)
            · have h := h.1 c48
              exact t_drop [true, true, false, true] rfl (j_X6_readAnyOf_L8_55 hfl C hr hn9 hK8 s45 a1 a3 h)
            · have h := h.2 c48
              refine z_iconst C dX6_readAnyOf_51 (v := 1) (by decide) ?_
              refine z_goto C dX6_readAnyOf_52 (tgt := 56) (by decide) ?_
              exact t_drop [true, true, false, true] rfl (j_X6_readAnyOf_L8_56 hfl C hr hn9 hK8 s45 a1 a3 (1) h)
def w_X6_readAnyOf_L8 (st : zTs) (a1 : Int32) (P : Int32 → zTs → Prop) : Prop := w_X6_readAllOf_L8 st a1 (fun (r2 : Int32) (s2 : zTs) => (w_X6_readAnyOf_L8_8 P zfu s2 a1 r2 (0)))
set_option maxHeartbeats 4000000 in
set_option maxRecDepth 100000 in
theorem c_X6_readAnyOf_L8 {Z : zZ} {l : Launch} (hfl : l.stackTraces = false) {st : zTs} {a1 : Int32} {P : Int32 → zTs → Prop} (h : w_X6_readAnyOf_L8 st a1 P) : zN Z l yX6_readAnyOf cX6_readAnyOf 4 (some .boolean) ({ frames := 16, cells := 0, slots := 0, locals := 351 } : Room) (zh Z zm1 st) [.ref 13, .int (a1)] (zWi Z P) := by
  unfold w_X6_readAnyOf_L8 at h
  refine z_enterN (by decide) (Nat.le_of_ble_eq_true rfl) (lc0 := [some (.ref 13), some (.int (a1)), none, none]) rfl ?_
  intro p e s m args below meth c ad0 C hr _
  have hn9 : True := trivial
  replace C : zC Z p s m args meth c cX6_readAnyOf 4 RX6 := C
  refine z_aload_n C dX6_readAnyOf_0 (i := 0) rfl rfl ?_
  refine z_iload_n C dX6_readAnyOf_1 (i := 1) rfl rfl ?_
  refine t_callV C (rest := []) (c2 := 0) (s2 := 0) (kd := 13) (i := 0) [.int (a1)] dX6_readAnyOf_2 lk_X6_190 li_X6_readAllOf le_X6_readAllOf (c_X6_readAllOf_L8 hfl h) rfl rfl (by decide) rfl ⟨_, rfl⟩ rfl ⟨Nat.le_of_ble_eq_true rfl, Nat.le_of_ble_eq_true rfl⟩ (Nat.le_of_ble_eq_true rfl) ⟨Nat.le_of_ble_eq_true rfl, Nat.le_of_ble_eq_true rfl, Nat.le_of_ble_eq_true rfl, Nat.le_of_ble_eq_true rfl⟩ (k_Wi fun r2 s2 h => ?_)
  refine z_istore_n C dX6_readAnyOf_5 (i := 2) (lc' := [some (.ref 13), some (.int (a1)), some (.int (r2)), none]) rfl (by decide) rfl ?_
  refine z_iconst C dX6_readAnyOf_6 (v := 0) (by decide) ?_
  refine z_istore_n C dX6_readAnyOf_7 (i := 3) (lc' := [some (.ref 13), some (.int (a1)), some (.int (r2)), some (.int (0))]) rfl (by decide) rfl ?_
  exact t_drop [true, true, true, true] rfl (j_X6_readAnyOf_L8_8 hfl C hr hn9  zfu s2 a1 r2 (0) h)
def w_X6_readOne_L7_188 (P : Int32 → zTs → Prop)  (st : zTs) (b0 : Int32) (b1 : Int32) : Prop := w_X6_addStep st (((b1 + b0) * 10000) + (zgF st 13 0 9)) (fun (r198 : Int32) (s198 : zTs) => ((r198 = 0 → P 0 s198) ∧ (¬ r198 = 0 → P 1 s198)))
set_option maxHeartbeats 4000000 in
set_option maxRecDepth 100000 in
theorem j_X6_readOne_L7_188 {P : Int32 → zTs → Prop}  (hfl : l.stackTraces = false) (C : zC Z p s m args meth c cX6_readOne 5 RX6) (hr : meth.sig.returnType = (some .boolean)) (hn9 : True)  (st : zTs) (b0 : Int32) (b1 : Int32) (h : w_X6_readOne_L7_188 P st b0 b1) : zG Z ad0 h0 p l e ({ frames := 17, cells := 0, slots := 0, locals := 374 } : Room) s m args below meth c (MQ below (zQ Z ad0 h0 (zWi Z P)) args s 0 0 (zA Z)) 0 0 (zh Z zm1 st) 5 188 [some (.ref 13), none, none, none, none] [.int (b0), .int (b1), .ref 13] := by
  unfold w_X6_readOne_L7_188 at h
  refine z_iadd C dX6_readOne_188 ?_
  refine z_sipush C dX6_readOne_189 (v := 10000) (by decide) ?_
  refine z_imul C dX6_readOne_192 ?_
  refine z_aload_n C dX6_readOne_193 (i := 0) rfl rfl ?_
  refine t_get C dX6_readOne_194 fl_X6_83 (k := 13) (i := 0) (by decide) rfl (fg_13_9 _ _ _) ?_
  refine z_iadd C dX6_readOne_197 ?_
  refine t_callV C (rest := []) (c2 := 0) (s2 := 0) (kd := 13) (i := 0) [.int (((b1 + b0) * 10000) + (zgF st 13 0 9))] dX6_readOne_198 lk_X6_196 li_X6_addStep le_X6_addStep (c_X6_addStep hfl h) rfl rfl (by decide) rfl ⟨_, rfl⟩ rfl ⟨Nat.le_of_ble_eq_true rfl, Nat.le_of_ble_eq_true rfl⟩ (Nat.le_of_ble_eq_true rfl) ⟨Nat.le_of_ble_eq_true rfl, Nat.le_of_ble_eq_true rfl, Nat.le_of_ble_eq_true rfl, Nat.le_of_ble_eq_true rfl⟩ (k_Wi fun r198 s198 h => ?_)
  refine z_if_eq C dX6_readOne_201 (tgt := 208) (by decide) (fun c201 => ?_) (fun c201 => ?_)
  · have h := h.1 c201
    refine z_iconst C dX6_readOne_208 (v := 0) (by decide) ?_
    exact z_iret C dX6_readOne_209 hr rfl ⟨_, _, rfl, rfl, h⟩ (Nat.le_of_ble_eq_true rfl) (Nat.le_of_ble_eq_true rfl)
  · have h := h.2 c201
    refine z_iconst C dX6_readOne_204 (v := 1) (by decide) ?_
    refine z_goto C dX6_readOne_205 (tgt := 209) (by decide) ?_
    exact z_iret C dX6_readOne_209 hr rfl ⟨_, _, rfl, rfl, h⟩ (Nat.le_of_ble_eq_true rfl) (Nat.le_of_ble_eq_true rfl)
def w_X6_readOne_L7_159 (P : Int32 → zTs → Prop)  (st : zTs) (a3 : Int32) (a4 : Int32) : Prop := w_X6_advance st (fun (s160 : zTs) => (w_X6_takeNumber s160 0 9999 (fun (r168 : Int32) (s168 : zTs) => ((r168 = 0 → P 0 s168) ∧ (¬ r168 = 0 → (a4 = 0 → w_X6_readOne_L7_188 P s168 (0) (2 * a3)) ∧ (¬ a4 = 0 → w_X6_readOne_L7_188 P s168 (1) (2 * a3)))))))
set_option maxHeartbeats 4000000 in
set_option maxRecDepth 100000 in
theorem j_X6_readOne_L7_159 {P : Int32 → zTs → Prop}  (hfl : l.stackTraces = false) (C : zC Z p s m args meth c cX6_readOne 5 RX6) (hr : meth.sig.returnType = (some .boolean)) (hn9 : True)  (st : zTs) (a3 : Int32) (a4 : Int32) (h : w_X6_readOne_L7_159 P st a3 a4) : zG Z ad0 h0 p l e ({ frames := 17, cells := 0, slots := 0, locals := 374 } : Room) s m args below meth c (MQ below (zQ Z ad0 h0 (zWi Z P)) args s 0 0 (zA Z)) 0 0 (zh Z zm1 st) 5 159 [some (.ref 13), none, none, some (.int (a3)), some (.int (a4))] [] := by
  unfold w_X6_readOne_L7_159 at h
  refine z_aload_n C dX6_readOne_159 (i := 0) rfl rfl ?_
  refine t_callV C (rest := []) (c2 := 0) (s2 := 0) (kd := 13) (i := 0) [] dX6_readOne_160 lk_X6_61 li_X6_advance le_X6_advance (c_X6_advance hfl h) rfl rfl (by decide) rfl ⟨_, rfl⟩ rfl ⟨Nat.le_of_ble_eq_true rfl, Nat.le_of_ble_eq_true rfl⟩ (Nat.le_of_ble_eq_true rfl) ⟨Nat.le_of_ble_eq_true rfl, Nat.le_of_ble_eq_true rfl, Nat.le_of_ble_eq_true rfl, Nat.le_of_ble_eq_true rfl⟩ (k_Wv fun s160 h => ?_)
  refine z_aload_n C dX6_readOne_163 (i := 0) rfl rfl ?_
  refine z_iconst C dX6_readOne_164 (v := 0) (by decide) ?_
  refine z_sipush C dX6_readOne_165 (v := 9999) (by decide) ?_
  refine t_callV C (rest := []) (c2 := 0) (s2 := 0) (kd := 13) (i := 0) [.int (0), .int (9999)] dX6_readOne_168 lk_X6_125 li_X6_takeNumber le_X6_takeNumber (c_X6_takeNumber hfl h) rfl rfl (by decide) rfl ⟨_, rfl⟩ rfl ⟨Nat.le_of_ble_eq_true rfl, Nat.le_of_ble_eq_true rfl⟩ (Nat.le_of_ble_eq_true rfl) ⟨Nat.le_of_ble_eq_true rfl, Nat.le_of_ble_eq_true rfl, Nat.le_of_ble_eq_true rfl, Nat.le_of_ble_eq_true rfl⟩ (k_Wi fun r168 s168 h => ?_)
  refine z_if_eq C dX6_readOne_171 (tgt := 208) (by decide) (fun c171 => ?_) (fun c171 => ?_)
  · have h := h.1 c171
    refine z_iconst C dX6_readOne_208 (v := 0) (by decide) ?_
    exact z_iret C dX6_readOne_209 hr rfl ⟨_, _, rfl, rfl, h⟩ (Nat.le_of_ble_eq_true rfl) (Nat.le_of_ble_eq_true rfl)
  · have h := h.2 c171
    refine z_aload_n C dX6_readOne_174 (i := 0) rfl rfl ?_
    refine z_iconst C dX6_readOne_175 (v := 2) (by decide) ?_
    refine z_iload_n C dX6_readOne_176 (i := 3) rfl rfl ?_
    refine z_imul C dX6_readOne_177 ?_
    refine z_iload C dX6_readOne_178 rfl ?_
    refine z_if_eq C dX6_readOne_180 (tgt := 187) (by decide) (fun c180 => ?_) (fun c180 => ?_)
    · have h := h.1 c180
      refine z_iconst C dX6_readOne_187 (v := 0) (by decide) ?_
      exact t_drop [true, false, false, false, false] rfl (j_X6_readOne_L7_188 hfl C hr hn9  s168 (0) (2 * a3) h)
    · have h := h.2 c180
      refine z_iconst C dX6_readOne_183 (v := 1) (by decide) ?_
      refine z_goto C dX6_readOne_184 (tgt := 188) (by decide) ?_
      exact t_drop [true, false, false, false, false] rfl (j_X6_readOne_L7_188 hfl C hr hn9  s168 (1) (2 * a3) h)
def w_X6_readOne_L7_137 (P : Int32 → zTs → Prop)  (st : zTs) (a3 : Int32) (b0 : Int32) : Prop := (b0 = 0 → ((zgF st 13 0 8) = 60 → w_X6_readOne_L7_159 P st a3 b0) ∧ (¬ (zgF st 13 0 8) = 60 → w_X6_fail st 1 (fun (r155 : Int32) (s155 : zTs) => ((r155 = 0 ∨ r155 = 1) ∧ (P r155 s155))))) ∧ (¬ b0 = 0 → w_X6_readOne_L7_159 P st a3 b0)
set_option maxHeartbeats 4000000 in
set_option maxRecDepth 100000 in
theorem j_X6_readOne_L7_137 {P : Int32 → zTs → Prop}  (hfl : l.stackTraces = false) (C : zC Z p s m args meth c cX6_readOne 5 RX6) (hr : meth.sig.returnType = (some .boolean)) (hn9 : True)  (st : zTs) (a3 : Int32) (b0 : Int32) (h : w_X6_readOne_L7_137 P st a3 b0) : zG Z ad0 h0 p l e ({ frames := 17, cells := 0, slots := 0, locals := 374 } : Room) s m args below meth c (MQ below (zQ Z ad0 h0 (zWi Z P)) args s 0 0 (zA Z)) 0 0 (zh Z zm1 st) 5 137 [some (.ref 13), none, none, some (.int (a3)), none] [.int (b0)] := by
  unfold w_X6_readOne_L7_137 at h
  refine z_istore C dX6_readOne_137 (lc' := [some (.ref 13), none, none, some (.int (a3)), some (.int (b0))]) (by decide) rfl ?_
  refine z_iload C dX6_readOne_139 rfl ?_
  refine z_if_ne C dX6_readOne_141 (tgt := 159) (by decide) (fun c141 => ?_) (fun c141 => ?_)
  · have h := h.2 c141
    exact t_drop [true, false, false, true, true] rfl (j_X6_readOne_L7_159 hfl C hr hn9  st a3 b0 h)
  · have h := h.1 c141
    refine z_aload_n C dX6_readOne_144 (i := 0) rfl rfl ?_
    refine t_get C dX6_readOne_145 fl_X6_28 (k := 13) (i := 0) (by decide) rfl (fg_13_8 _ _ _) ?_
    refine z_bipush C dX6_readOne_148 (v := 60) (by decide) ?_
    refine z_icmp_eq C dX6_readOne_150 (tgt := 159) (by decide) (fun c150 => ?_) (fun c150 => ?_)
    · have h := h.1 c150
      exact t_drop [true, false, false, true, true] rfl (j_X6_readOne_L7_159 hfl C hr hn9  st a3 b0 h)
    · have h := h.2 c150
      refine z_aload_n C dX6_readOne_153 (i := 0) rfl rfl ?_
      refine z_iconst C dX6_readOne_154 (v := 1) (by decide) ?_
      refine t_callV C (rest := []) (c2 := 0) (s2 := 0) (kd := 13) (i := 0) [.int (1)] dX6_readOne_155 lk_X6_79 li_X6_fail le_X6_fail (c_X6_fail hfl h) rfl rfl (by decide) rfl ⟨_, rfl⟩ rfl ⟨Nat.le_of_ble_eq_true rfl, Nat.le_of_ble_eq_true rfl⟩ (Nat.le_of_ble_eq_true rfl) ⟨Nat.le_of_ble_eq_true rfl, Nat.le_of_ble_eq_true rfl, Nat.le_of_ble_eq_true rfl, Nat.le_of_ble_eq_true rfl⟩ (k_Wi fun r155 s155 h => ?_)
      obtain ⟨g158, h⟩ := h
      exact z_iret C dX6_readOne_158 hr (zn_bool g158) ⟨_, _, rfl, rfl, h⟩ (Nat.le_of_ble_eq_true rfl) (Nat.le_of_ble_eq_true rfl)
def w_X6_readOne_L7_29 (P : Int32 → zTs → Prop)  (st : zTs) (a1 : Int32) (a2 : Int32) : Prop := (a1 < 8 → w_X6_advance st (fun (s42 : zTs) => ((a2 = 0 → w_X6_readAnyOf_L8 s42 (a1 + 1) (fun (r79 : Int32) (s79 : zTs) => ((r79 = 0 → P 0 s79) ∧ (¬ r79 = 0 → w_X6_takeSign s79 41 (fun (r88 : Int32) (s88 : zTs) => ((r88 = 0 → P 0 s88) ∧ (¬ r88 = 0 → P 1 s88))))))) ∧ (¬ a2 = 0 → w_X6_readOne_L8 s42 (a1 + 1) (fun (r53 : Int32) (s53 : zTs) => ((r53 = 0 → P 0 s53) ∧ (¬ r53 = 0 → w_X6_addStep s53 (-1) (fun (r61 : Int32) (s61 : zTs) => ((r61 = 0 → P 0 s61) ∧ (¬ r61 = 0 → P 1 s61)))))))))) ∧ (¬ a1 < 8 → w_X6_fail st 3 (fun (r37 : Int32) (s37 : zTs) => ((r37 = 0 ∨ r37 = 1) ∧ (P r37 s37))))
set_option maxHeartbeats 4000000 in
set_option maxRecDepth 100000 in
theorem j_X6_readOne_L7_29 {P : Int32 → zTs → Prop}  (hfl : l.stackTraces = false) (C : zC Z p s m args meth c cX6_readOne 5 RX6) (hr : meth.sig.returnType = (some .boolean)) (hn9 : True)  (st : zTs) (a1 : Int32) (a2 : Int32) (h : w_X6_readOne_L7_29 P st a1 a2) : zG Z ad0 h0 p l e ({ frames := 17, cells := 0, slots := 0, locals := 374 } : Room) s m args below meth c (MQ below (zQ Z ad0 h0 (zWi Z P)) args s 0 0 (zA Z)) 0 0 (zh Z zm1 st) 5 29 [some (.ref 13), some (.int (a1)), some (.int (a2)), none, none] [] := by
  unfold w_X6_readOne_L7_29 at h
  refine z_iload_n C dX6_readOne_29 (i := 1) rfl rfl ?_
  refine z_bipush C dX6_readOne_30 (v := 8) (by decide) ?_
  refine z_icmp_lt C dX6_readOne_32 (tgt := 41) (by decide) (fun c32 => ?_) (fun c32 => ?_)
  · have h := h.1 c32
    refine z_aload_n C dX6_readOne_41 (i := 0) rfl rfl ?_
    refine t_callV C (rest := []) (c2 := 0) (s2 := 0) (kd := 13) (i := 0) [] dX6_readOne_42 lk_X6_61 li_X6_advance le_X6_advance (c_X6_advance hfl h) rfl rfl (by decide) rfl ⟨_, rfl⟩ rfl ⟨Nat.le_of_ble_eq_true rfl, Nat.le_of_ble_eq_true rfl⟩ (Nat.le_of_ble_eq_true rfl) ⟨Nat.le_of_ble_eq_true rfl, Nat.le_of_ble_eq_true rfl, Nat.le_of_ble_eq_true rfl, Nat.le_of_ble_eq_true rfl⟩ (k_Wv fun s42 h => ?_)
    refine z_iload_n C dX6_readOne_45 (i := 2) rfl rfl ?_
    refine z_if_eq C dX6_readOne_46 (tgt := 75) (by decide) (fun c46 => ?_) (fun c46 => ?_)
    · have h := h.1 c46
      refine z_aload_n C dX6_readOne_75 (i := 0) rfl rfl ?_
      refine z_iload_n C dX6_readOne_76 (i := 1) rfl rfl ?_
      refine z_iconst C dX6_readOne_77 (v := 1) (by decide) ?_
      refine z_iadd C dX6_readOne_78 ?_
      refine t_callV C (rest := []) (c2 := 0) (s2 := 0) (kd := 13) (i := 0) [.int (a1 + 1)] dX6_readOne_79 lk_X6_177 li_X6_readAnyOf le_X6_readAnyOf (c_X6_readAnyOf_L8 hfl h) rfl rfl (by decide) rfl ⟨_, rfl⟩ rfl ⟨Nat.le_of_ble_eq_true rfl, Nat.le_of_ble_eq_true rfl⟩ (Nat.le_of_ble_eq_true rfl) ⟨Nat.le_of_ble_eq_true rfl, Nat.le_of_ble_eq_true rfl, Nat.le_of_ble_eq_true rfl, Nat.le_of_ble_eq_true rfl⟩ (k_Wi fun r79 s79 h => ?_)
      refine z_if_eq C dX6_readOne_82 (tgt := 98) (by decide) (fun c82 => ?_) (fun c82 => ?_)
      · have h := h.1 c82
        refine z_iconst C dX6_readOne_98 (v := 0) (by decide) ?_
        exact z_iret C dX6_readOne_99 hr rfl ⟨_, _, rfl, rfl, h⟩ (Nat.le_of_ble_eq_true rfl) (Nat.le_of_ble_eq_true rfl)
      · have h := h.2 c82
        refine z_aload_n C dX6_readOne_85 (i := 0) rfl rfl ?_
        refine z_bipush C dX6_readOne_86 (v := 41) (by decide) ?_
        refine t_callV C (rest := []) (c2 := 0) (s2 := 0) (kd := 13) (i := 0) [.int (41)] dX6_readOne_88 lk_X6_118 li_X6_takeSign le_X6_takeSign (c_X6_takeSign hfl h) rfl rfl (by decide) rfl ⟨_, rfl⟩ rfl ⟨Nat.le_of_ble_eq_true rfl, Nat.le_of_ble_eq_true rfl⟩ (Nat.le_of_ble_eq_true rfl) ⟨Nat.le_of_ble_eq_true rfl, Nat.le_of_ble_eq_true rfl, Nat.le_of_ble_eq_true rfl, Nat.le_of_ble_eq_true rfl⟩ (k_Wi fun r88 s88 h => ?_)
        refine z_if_eq C dX6_readOne_91 (tgt := 98) (by decide) (fun c91 => ?_) (fun c91 => ?_)
        · have h := h.1 c91
          refine z_iconst C dX6_readOne_98 (v := 0) (by decide) ?_
          exact z_iret C dX6_readOne_99 hr rfl ⟨_, _, rfl, rfl, h⟩ (Nat.le_of_ble_eq_true rfl) (Nat.le_of_ble_eq_true rfl)
        · have h := h.2 c91
          refine z_iconst C dX6_readOne_94 (v := 1) (by decide) ?_
          refine z_goto C dX6_readOne_95 (tgt := 99) (by decide) ?_
          exact z_iret C dX6_readOne_99 hr rfl ⟨_, _, rfl, rfl, h⟩ (Nat.le_of_ble_eq_true rfl) (Nat.le_of_ble_eq_true rfl)
    · have h := h.2 c46
      refine z_aload_n C dX6_readOne_49 (i := 0) rfl rfl ?_
      refine z_iload_n C dX6_readOne_50 (i := 1) rfl rfl ?_
      refine z_iconst C dX6_readOne_51 (v := 1) (by decide) ?_
      refine z_iadd C dX6_readOne_52 ?_
      refine t_callV C (rest := []) (c2 := 0) (s2 := 0) (kd := 13) (i := 0) [.int (a1 + 1)] dX6_readOne_53 lk_X6_199 li_X6_readOne le_X6_readOne (c_X6_readOne_L8 hfl h) rfl rfl (by decide) rfl ⟨_, rfl⟩ rfl ⟨Nat.le_of_ble_eq_true rfl, Nat.le_of_ble_eq_true rfl⟩ (Nat.le_of_ble_eq_true rfl) ⟨Nat.le_of_ble_eq_true rfl, Nat.le_of_ble_eq_true rfl, Nat.le_of_ble_eq_true rfl, Nat.le_of_ble_eq_true rfl⟩ (k_Wi fun r53 s53 h => ?_)
      refine z_if_eq C dX6_readOne_56 (tgt := 71) (by decide) (fun c56 => ?_) (fun c56 => ?_)
      · have h := h.1 c56
        refine z_iconst C dX6_readOne_71 (v := 0) (by decide) ?_
        refine z_goto C dX6_readOne_72 (tgt := 99) (by decide) ?_
        exact z_iret C dX6_readOne_99 hr rfl ⟨_, _, rfl, rfl, h⟩ (Nat.le_of_ble_eq_true rfl) (Nat.le_of_ble_eq_true rfl)
      · have h := h.2 c56
        refine z_aload_n C dX6_readOne_59 (i := 0) rfl rfl ?_
        refine z_iconst C dX6_readOne_60 (v := (-1)) (by decide) ?_
        refine t_callV C (rest := []) (c2 := 0) (s2 := 0) (kd := 13) (i := 0) [.int (-1)] dX6_readOne_61 lk_X6_196 li_X6_addStep le_X6_addStep (c_X6_addStep hfl h) rfl rfl (by decide) rfl ⟨_, rfl⟩ rfl ⟨Nat.le_of_ble_eq_true rfl, Nat.le_of_ble_eq_true rfl⟩ (Nat.le_of_ble_eq_true rfl) ⟨Nat.le_of_ble_eq_true rfl, Nat.le_of_ble_eq_true rfl, Nat.le_of_ble_eq_true rfl, Nat.le_of_ble_eq_true rfl⟩ (k_Wi fun r61 s61 h => ?_)
        refine z_if_eq C dX6_readOne_64 (tgt := 71) (by decide) (fun c64 => ?_) (fun c64 => ?_)
        · have h := h.1 c64
          refine z_iconst C dX6_readOne_71 (v := 0) (by decide) ?_
          refine z_goto C dX6_readOne_72 (tgt := 99) (by decide) ?_
          exact z_iret C dX6_readOne_99 hr rfl ⟨_, _, rfl, rfl, h⟩ (Nat.le_of_ble_eq_true rfl) (Nat.le_of_ble_eq_true rfl)
        · have h := h.2 c64
          refine z_iconst C dX6_readOne_67 (v := 1) (by decide) ?_
          refine z_goto C dX6_readOne_68 (tgt := 99) (by decide) ?_
          exact z_iret C dX6_readOne_99 hr rfl ⟨_, _, rfl, rfl, h⟩ (Nat.le_of_ble_eq_true rfl) (Nat.le_of_ble_eq_true rfl)
  · have h := h.2 c32
    refine z_aload_n C dX6_readOne_35 (i := 0) rfl rfl ?_
    refine z_iconst C dX6_readOne_36 (v := 3) (by decide) ?_
    refine t_callV C (rest := []) (c2 := 0) (s2 := 0) (kd := 13) (i := 0) [.int (3)] dX6_readOne_37 lk_X6_79 li_X6_fail le_X6_fail (c_X6_fail hfl h) rfl rfl (by decide) rfl ⟨_, rfl⟩ rfl ⟨Nat.le_of_ble_eq_true rfl, Nat.le_of_ble_eq_true rfl⟩ (Nat.le_of_ble_eq_true rfl) ⟨Nat.le_of_ble_eq_true rfl, Nat.le_of_ble_eq_true rfl, Nat.le_of_ble_eq_true rfl, Nat.le_of_ble_eq_true rfl⟩ (k_Wi fun r37 s37 h => ?_)
    obtain ⟨g40, h⟩ := h
    exact z_iret C dX6_readOne_40 hr (zn_bool g40) ⟨_, _, rfl, rfl, h⟩ (Nat.le_of_ble_eq_true rfl) (Nat.le_of_ble_eq_true rfl)
def w_X6_readOne_L7_15 (P : Int32 → zTs → Prop)  (st : zTs) (a1 : Int32) (b0 : Int32) : Prop := (b0 = 0 → ((zgF st 13 0 8) = 40 → w_X6_readOne_L7_29 P st a1 b0) ∧ (¬ (zgF st 13 0 8) = 40 → w_X6_measureOf st (zgP st 13 0 6) (fun (r104 : Int32) => ((r104 = (-1) → w_X6_fail st 1 (fun (r115 : Int32) (s115 : zTs) => ((r115 = 0 ∨ r115 = 1) ∧ (P r115 s115)))) ∧ (¬ r104 = (-1) → w_X6_advance st (fun (s120 : zTs) => (((zgF s120 13 0 8) = 62 → w_X6_readOne_L7_137 P s120 r104 (1)) ∧ (¬ (zgF s120 13 0 8) = 62 → w_X6_readOne_L7_137 P s120 r104 (0))))))))) ∧ (¬ b0 = 0 → w_X6_readOne_L7_29 P st a1 b0)
set_option maxHeartbeats 4000000 in
set_option maxRecDepth 100000 in
theorem j_X6_readOne_L7_15 {P : Int32 → zTs → Prop}  (hfl : l.stackTraces = false) (C : zC Z p s m args meth c cX6_readOne 5 RX6) (hr : meth.sig.returnType = (some .boolean)) (hn9 : True)  (st : zTs) (a1 : Int32) (b0 : Int32) (h : w_X6_readOne_L7_15 P st a1 b0) : zG Z ad0 h0 p l e ({ frames := 17, cells := 0, slots := 0, locals := 374 } : Room) s m args below meth c (MQ below (zQ Z ad0 h0 (zWi Z P)) args s 0 0 (zA Z)) 0 0 (zh Z zm1 st) 5 15 [some (.ref 13), some (.int (a1)), none, none, none] [.int (b0)] := by
  unfold w_X6_readOne_L7_15 at h
  refine z_istore_n C dX6_readOne_15 (i := 2) (lc' := [some (.ref 13), some (.int (a1)), some (.int (b0)), none, none]) rfl (by decide) rfl ?_
  refine z_iload_n C dX6_readOne_16 (i := 2) rfl rfl ?_
  refine z_if_ne C dX6_readOne_17 (tgt := 29) (by decide) (fun c17 => ?_) (fun c17 => ?_)
  · have h := h.2 c17
    exact t_drop [true, true, true, false, false] rfl (j_X6_readOne_L7_29 hfl C hr hn9  st a1 b0 h)
  · have h := h.1 c17
    refine z_aload_n C dX6_readOne_20 (i := 0) rfl rfl ?_
    refine t_get C dX6_readOne_21 fl_X6_28 (k := 13) (i := 0) (by decide) rfl (fg_13_8 _ _ _) ?_
    refine z_bipush C dX6_readOne_24 (v := 40) (by decide) ?_
    refine z_icmp_ne C dX6_readOne_26 (tgt := 100) (by decide) (fun c26 => ?_) (fun c26 => ?_)
    · have h := h.2 c26
      refine z_aload_n C dX6_readOne_100 (i := 0) rfl rfl ?_
      refine t_get C dX6_readOne_101 fl_X6_21 (k := 13) (i := 0) (by decide) rfl (fg_13_6 _ _ _) ?_
      refine t_callS C (rest := []) (c2 := 0) (s2 := 0) [.ref (201 + 256 * (zgP st 13 0 6))] dX6_readOne_104 lk_X6_208 ls_X6_measureOf (c_X6_measureOf hfl h) rfl rfl ⟨Nat.le_of_ble_eq_true rfl, Nat.le_of_ble_eq_true rfl⟩ (Nat.le_of_ble_eq_true rfl) ⟨Nat.le_of_ble_eq_true rfl, Nat.le_of_ble_eq_true rfl, Nat.le_of_ble_eq_true rfl, Nat.le_of_ble_eq_true rfl⟩ (k_Ri fun r104 h => ?_)
      refine z_istore_n C dX6_readOne_107 (i := 3) (lc' := [some (.ref 13), some (.int (a1)), some (.int (b0)), some (.int (r104)), none]) rfl (by decide) rfl ?_
      refine z_iload_n C dX6_readOne_108 (i := 3) rfl rfl ?_
      refine z_iconst C dX6_readOne_109 (v := (-1)) (by decide) ?_
      refine z_icmp_ne C dX6_readOne_110 (tgt := 119) (by decide) (fun c110 => ?_) (fun c110 => ?_)
      · have h := h.2 c110
        refine z_aload_n C dX6_readOne_119 (i := 0) rfl rfl ?_
        refine t_callV C (rest := []) (c2 := 0) (s2 := 0) (kd := 13) (i := 0) [] dX6_readOne_120 lk_X6_61 li_X6_advance le_X6_advance (c_X6_advance hfl h) rfl rfl (by decide) rfl ⟨_, rfl⟩ rfl ⟨Nat.le_of_ble_eq_true rfl, Nat.le_of_ble_eq_true rfl⟩ (Nat.le_of_ble_eq_true rfl) ⟨Nat.le_of_ble_eq_true rfl, Nat.le_of_ble_eq_true rfl, Nat.le_of_ble_eq_true rfl, Nat.le_of_ble_eq_true rfl⟩ (k_Wv fun s120 h => ?_)
        refine z_aload_n C dX6_readOne_123 (i := 0) rfl rfl ?_
        refine t_get C dX6_readOne_124 fl_X6_28 (k := 13) (i := 0) (by decide) rfl (fg_13_8 _ _ _) ?_
        refine z_bipush C dX6_readOne_127 (v := 62) (by decide) ?_
        refine z_icmp_ne C dX6_readOne_129 (tgt := 136) (by decide) (fun c129 => ?_) (fun c129 => ?_)
        · have h := h.2 c129
          refine z_iconst C dX6_readOne_136 (v := 0) (by decide) ?_
          exact t_drop [true, false, false, true, false] rfl (j_X6_readOne_L7_137 hfl C hr hn9  s120 r104 (0) h)
        · have h := h.1 c129
          refine z_iconst C dX6_readOne_132 (v := 1) (by decide) ?_
          refine z_goto C dX6_readOne_133 (tgt := 137) (by decide) ?_
          exact t_drop [true, false, false, true, false] rfl (j_X6_readOne_L7_137 hfl C hr hn9  s120 r104 (1) h)
      · have h := h.1 c110
        refine z_aload_n C dX6_readOne_113 (i := 0) rfl rfl ?_
        refine z_iconst C dX6_readOne_114 (v := 1) (by decide) ?_
        refine t_callV C (rest := []) (c2 := 0) (s2 := 0) (kd := 13) (i := 0) [.int (1)] dX6_readOne_115 lk_X6_79 li_X6_fail le_X6_fail (c_X6_fail hfl h) rfl rfl (by decide) rfl ⟨_, rfl⟩ rfl ⟨Nat.le_of_ble_eq_true rfl, Nat.le_of_ble_eq_true rfl⟩ (Nat.le_of_ble_eq_true rfl) ⟨Nat.le_of_ble_eq_true rfl, Nat.le_of_ble_eq_true rfl, Nat.le_of_ble_eq_true rfl, Nat.le_of_ble_eq_true rfl⟩ (k_Wi fun r115 s115 h => ?_)
        obtain ⟨g118, h⟩ := h
        exact z_iret C dX6_readOne_118 hr (zn_bool g118) ⟨_, _, rfl, rfl, h⟩ (Nat.le_of_ble_eq_true rfl) (Nat.le_of_ble_eq_true rfl)
    · have h := h.1 c26
      exact t_drop [true, true, true, false, false] rfl (j_X6_readOne_L7_29 hfl C hr hn9  st a1 b0 h)
def w_X6_readOne_L7 (st : zTs) (a1 : Int32) (P : Int32 → zTs → Prop) : Prop := (zgP st 13 0 6 < 24) ∧ ((((zgP st 13 0 6) : Nat) = 20 → w_X6_readOne_L7_15 P st a1 (1)) ∧ (¬ ((zgP st 13 0 6) : Nat) = 20 → w_X6_readOne_L7_15 P st a1 (0)))
set_option maxHeartbeats 4000000 in
set_option maxRecDepth 100000 in
theorem c_X6_readOne_L7 {Z : zZ} {l : Launch} (hfl : l.stackTraces = false) {st : zTs} {a1 : Int32} {P : Int32 → zTs → Prop} (h : w_X6_readOne_L7 st a1 P) : zN Z l yX6_readOne cX6_readOne 5 (some .boolean) ({ frames := 17, cells := 0, slots := 0, locals := 374 } : Room) (zh Z zm1 st) [.ref 13, .int (a1)] (zWi Z P) := by
  unfold w_X6_readOne_L7 at h
  refine z_enterN (by decide) (Nat.le_of_ble_eq_true rfl) (lc0 := [some (.ref 13), some (.int (a1)), none, none, none]) rfl ?_
  intro p e s m args below meth c ad0 C hr _
  have hn9 : True := trivial
  replace C : zC Z p s m args meth c cX6_readOne 5 RX6 := C
  refine z_aload_n C dX6_readOne_0 (i := 0) rfl rfl ?_
  refine t_get C dX6_readOne_1 fl_X6_21 (k := 13) (i := 0) (by decide) rfl (fg_13_6 _ _ _) ?_
  refine z_gets C dX6_readOne_4 (q := 201 + 256 * 20) (by decide) gl_X6_205 (fun z => (z.2.2.2.1.1.1 20 (by decide)).1) ?_
  obtain ⟨g7a, h⟩ := h
  refine z_acmpW_ne C dX6_readOne_7 (i := (zgP st 13 0 6)) (j := 20) (tgt := 14) (by decide) g7a (by decide) (fun c7 => ?_) (fun c7 => ?_)
  · have h := h.2 c7
    refine z_iconst C dX6_readOne_14 (v := 0) (by decide) ?_
    exact t_drop [true, true, false, false, false] rfl (j_X6_readOne_L7_15 hfl C hr hn9  st a1 (0) h)
  · have h := h.1 c7
    refine z_iconst C dX6_readOne_10 (v := 1) (by decide) ?_
    refine z_goto C dX6_readOne_11 (tgt := 15) (by decide) ?_
    exact t_drop [true, true, false, false, false] rfl (j_X6_readOne_L7_15 hfl C hr hn9  st a1 (1) h)
def w_X6_readAllOf_L7_56 (P : Int32 → zTs → Prop) (K8 : zTs → Int32 → Int32 → Int32 → Prop) (st : zTs) (a1 : Int32) (a3 : Int32) (b0 : Int32) : Prop := ∀ x57 : Int32, x57 = a3 + 1 → (K8 st a1 b0 x57)
set_option maxHeartbeats 4000000 in
set_option maxRecDepth 100000 in
theorem j_X6_readAllOf_L7_56 {P : Int32 → zTs → Prop} {K8 : zTs → Int32 → Int32 → Int32 → Prop} (hfl : l.stackTraces = false) (C : zC Z p s m args meth c cX6_readAllOf 4 RX6) (hr : meth.sig.returnType = (some .boolean)) (hn9 : True) (hK8 : ∀ (st : zTs) (a1 : Int32) (a2 : Int32) (a3 : Int32), K8 st a1 a2 a3 → zG Z ad0 h0 p l e ({ frames := 18, cells := 0, slots := 0, locals := 398 } : Room) s m args below meth c (MQ below (zQ Z ad0 h0 (zWi Z P)) args s 0 0 (zA Z)) 0 0 (zh Z zm1 st) 4 8 [some (.ref 13), some (.int (a1)), some (.int (a2)), some (.int (a3))] []) (st : zTs) (a1 : Int32) (a3 : Int32) (b0 : Int32) (h : w_X6_readAllOf_L7_56 P K8 st a1 a3 b0) : zG Z ad0 h0 p l e ({ frames := 18, cells := 0, slots := 0, locals := 398 } : Room) s m args below meth c (MQ below (zQ Z ad0 h0 (zWi Z P)) args s 0 0 (zA Z)) 0 0 (zh Z zm1 st) 4 56 [some (.ref 13), some (.int (a1)), none, some (.int (a3))] [.int (b0)] := by
  unfold w_X6_readAllOf_L7_56 at h
  refine z_istore_n C dX6_readAllOf_56 (i := 2) (lc' := [some (.ref 13), some (.int (a1)), some (.int (b0)), some (.int (a3))]) rfl (by decide) rfl ?_
  obtain ⟨x57, ex57⟩ : ∃ z : Int32, z = a3 + 1 := ⟨_, rfl⟩
  have h := h x57 ex57
  refine z_iinc C dX6_readAllOf_57 (v := x57) (lc' := [some (.ref 13), some (.int (a1)), some (.int (b0)), some (.int (x57))]) rfl (by decide) (by rw [ex57]; rfl) rfl ?_
  refine z_goto C dX6_readAllOf_60 (tgt := 8) (by decide) ?_
  exact t_drop [true, true, true, true] rfl (hK8 st a1 b0 x57 h)
def w_X6_readAllOf_L7_55 (P : Int32 → zTs → Prop) (K8 : zTs → Int32 → Int32 → Int32 → Prop) (st : zTs) (a1 : Int32) (a3 : Int32) : Prop := w_X6_readAllOf_L7_56 P K8 st a1 a3 (0)
set_option maxHeartbeats 4000000 in
set_option maxRecDepth 100000 in
theorem j_X6_readAllOf_L7_55 {P : Int32 → zTs → Prop} {K8 : zTs → Int32 → Int32 → Int32 → Prop} (hfl : l.stackTraces = false) (C : zC Z p s m args meth c cX6_readAllOf 4 RX6) (hr : meth.sig.returnType = (some .boolean)) (hn9 : True) (hK8 : ∀ (st : zTs) (a1 : Int32) (a2 : Int32) (a3 : Int32), K8 st a1 a2 a3 → zG Z ad0 h0 p l e ({ frames := 18, cells := 0, slots := 0, locals := 398 } : Room) s m args below meth c (MQ below (zQ Z ad0 h0 (zWi Z P)) args s 0 0 (zA Z)) 0 0 (zh Z zm1 st) 4 8 [some (.ref 13), some (.int (a1)), some (.int (a2)), some (.int (a3))] []) (st : zTs) (a1 : Int32) (a3 : Int32) (h : w_X6_readAllOf_L7_55 P K8 st a1 a3) : zG Z ad0 h0 p l e ({ frames := 18, cells := 0, slots := 0, locals := 398 } : Room) s m args below meth c (MQ below (zQ Z ad0 h0 (zWi Z P)) args s 0 0 (zA Z)) 0 0 (zh Z zm1 st) 4 55 [some (.ref 13), some (.int (a1)), none, some (.int (a3))] [] := by
  unfold w_X6_readAllOf_L7_55 at h
  refine z_iconst C dX6_readAllOf_55 (v := 0) (by decide) ?_
  exact t_drop [true, true, false, true] rfl (j_X6_readAllOf_L7_56 hfl C hr hn9 hK8 st a1 a3 (0) h)
def w_X6_readAllOf_L7_8 (P : Int32 → zTs → Prop)  : Nat → zTs → Int32 → Int32 → Int32 → Prop
  | 0, _, _, _, _ => False
  | n9 + 1, st, a1, a2, a3 => ((zgF st 13 0 3) ≤ a3 → (a2 = 0 ∨ a2 = 1) ∧ (P a2 st)) ∧ (¬ (zgF st 13 0 3) ≤ a3 → (a2 = 0 → (a2 = 0 ∨ a2 = 1) ∧ (P a2 st)) ∧ (¬ a2 = 0 → (zgP st 13 0 6 < 24) ∧ ((((zgP st 13 0 6) : Nat) = 19 → w_X6_advance st (fun (s31 : zTs) => (w_X6_readOne_L7 s31 a1 (fun (r36 : Int32) (s36 : zTs) => ((r36 = 0 → w_X6_readAllOf_L7_55 P (w_X6_readAllOf_L7_8 P n9) s36 a1 a3) ∧ (¬ r36 = 0 → w_X6_addStep s36 (-2) (fun (r45 : Int32) (s45 : zTs) => ((r45 = 0 → w_X6_readAllOf_L7_55 P (w_X6_readAllOf_L7_8 P n9) s45 a1 a3) ∧ (¬ r45 = 0 → w_X6_readAllOf_L7_56 P (w_X6_readAllOf_L7_8 P n9) s45 a1 a3 (1)))))))))) ∧ (¬ ((zgP st 13 0 6) : Nat) = 19 → (a2 = 0 ∨ a2 = 1) ∧ (P a2 st)))))
set_option maxHeartbeats 4000000 in
set_option maxRecDepth 100000 in
theorem j_X6_readAllOf_L7_8 {P : Int32 → zTs → Prop}  (hfl : l.stackTraces = false) (C : zC Z p s m args meth c cX6_readAllOf 4 RX6) (hr : meth.sig.returnType = (some .boolean)) (hn9 : True)  : ∀ (n9 : Nat) (st : zTs) (a1 : Int32) (a2 : Int32) (a3 : Int32), w_X6_readAllOf_L7_8 P n9 st a1 a2 a3 → zG Z ad0 h0 p l e ({ frames := 18, cells := 0, slots := 0, locals := 398 } : Room) s m args below meth c (MQ below (zQ Z ad0 h0 (zWi Z P)) args s 0 0 (zA Z)) 0 0 (zh Z zm1 st) 4 8 [some (.ref 13), some (.int (a1)), some (.int (a2)), some (.int (a3))] [] := by
  intro n9
  induction n9 with
  | zero => intro st a1 a2 a3 h; exact h.elim
  | succ n9 hK8 =>
    intro st a1 a2 a3 h
    rw [w_X6_readAllOf_L7_8] at h
    refine z_iload_n C dX6_readAllOf_8 (i := 3) rfl rfl ?_
    refine z_aload_n C dX6_readAllOf_9 (i := 0) rfl rfl ?_
    refine t_get C dX6_readAllOf_10 fl_X6_55 (k := 13) (i := 0) (by decide) rfl (fg_13_3 _ _ _) ?_
    refine z_icmp_ge C dX6_readAllOf_13 (tgt := 63) (by decide) (fun c13 => ?_) (fun c13 => ?_)
    · have h := h.1 c13
      refine z_iload_n C dX6_readAllOf_63 (i := 2) rfl rfl ?_
      obtain ⟨g64, h⟩ := h
      exact z_iret C dX6_readAllOf_64 hr (zn_bool g64) ⟨_, _, rfl, rfl, h⟩ (Nat.le_of_ble_eq_true rfl) (Nat.le_of_ble_eq_true rfl)
    · have h := h.2 c13
      refine z_iload_n C dX6_readAllOf_16 (i := 2) rfl rfl ?_
      refine z_if_eq C dX6_readAllOf_17 (tgt := 63) (by decide) (fun c17 => ?_) (fun c17 => ?_)
      · have h := h.1 c17
        refine z_iload_n C dX6_readAllOf_63 (i := 2) rfl rfl ?_
        obtain ⟨g64, h⟩ := h
        exact z_iret C dX6_readAllOf_64 hr (zn_bool g64) ⟨_, _, rfl, rfl, h⟩ (Nat.le_of_ble_eq_true rfl) (Nat.le_of_ble_eq_true rfl)
      · have h := h.2 c17
        refine z_aload_n C dX6_readAllOf_20 (i := 0) rfl rfl ?_
        refine t_get C dX6_readAllOf_21 fl_X6_21 (k := 13) (i := 0) (by decide) rfl (fg_13_6 _ _ _) ?_
        refine z_gets C dX6_readAllOf_24 (q := 201 + 256 * 19) (by decide) gl_X6_202 (fun z => (z.2.2.2.1.1.1 19 (by decide)).1) ?_
        obtain ⟨g27a, h⟩ := h
        refine z_acmpW_ne C dX6_readAllOf_27 (i := (zgP st 13 0 6)) (j := 19) (tgt := 63) (by decide) g27a (by decide) (fun c27 => ?_) (fun c27 => ?_)
        · have h := h.2 c27
          refine z_iload_n C dX6_readAllOf_63 (i := 2) rfl rfl ?_
          obtain ⟨g64, h⟩ := h
          exact z_iret C dX6_readAllOf_64 hr (zn_bool g64) ⟨_, _, rfl, rfl, h⟩ (Nat.le_of_ble_eq_true rfl) (Nat.le_of_ble_eq_true rfl)
        · have h := h.1 c27
          refine z_aload_n C dX6_readAllOf_30 (i := 0) rfl rfl ?_
          refine t_callV C (rest := []) (c2 := 0) (s2 := 0) (kd := 13) (i := 0) [] dX6_readAllOf_31 lk_X6_61 li_X6_advance le_X6_advance (c_X6_advance hfl h) rfl rfl (by decide) rfl ⟨_, rfl⟩ rfl ⟨Nat.le_of_ble_eq_true rfl, Nat.le_of_ble_eq_true rfl⟩ (Nat.le_of_ble_eq_true rfl) ⟨Nat.le_of_ble_eq_true rfl, Nat.le_of_ble_eq_true rfl, Nat.le_of_ble_eq_true rfl, Nat.le_of_ble_eq_true rfl⟩ (k_Wv fun s31 h => ?_)
          refine z_aload_n C dX6_readAllOf_34 (i := 0) rfl rfl ?_
          refine z_iload_n C dX6_readAllOf_35 (i := 1) rfl rfl ?_
          refine t_callV C (rest := []) (c2 := 0) (s2 := 0) (kd := 13) (i := 0) [.int (a1)] dX6_readAllOf_36 lk_X6_199 li_X6_readOne le_X6_readOne (c_X6_readOne_L7 hfl h) rfl rfl (by decide) rfl ⟨_, rfl⟩ rfl ⟨Nat.le_of_ble_eq_true rfl, Nat.le_of_ble_eq_true rfl⟩ (Nat.le_of_ble_eq_true rfl) ⟨Nat.le_of_ble_eq_true rfl, Nat.le_of_ble_eq_true rfl, Nat.le_of_ble_eq_true rfl, Nat.le_of_ble_eq_true rfl⟩ (k_Wi fun r36 s36 h => ?_)
          refine z_if_eq C dX6_readAllOf_39 (tgt := 55) (by decide) (fun c39 => ?_) (fun c39 => ?_)
          · have h := h.1 c39
            exact t_drop [true, true, false, true] rfl (j_X6_readAllOf_L7_55 hfl C hr hn9 hK8 s36 a1 a3 h)
          · have h := h.2 c39
            refine z_aload_n C dX6_readAllOf_42 (i := 0) rfl rfl ?_
            refine z_bipush C dX6_readAllOf_43 (v := (-2)) (by decide) ?_
            refine t_callV C (rest := []) (c2 := 0) (s2 := 0) (kd := 13) (i := 0) [.int (-2)] dX6_readAllOf_45 lk_X6_196 li_X6_addStep le_X6_addStep (c_X6_addStep hfl h) rfl rfl (by decide) rfl ⟨_, rfl⟩ rfl ⟨Nat.le_of_ble_eq_true rfl, Nat.le_of_ble_eq_true rfl⟩ (Nat.le_of_ble_eq_true rfl) ⟨Nat.le_of_ble_eq_true rfl, Nat.le_of_ble_eq_true rfl, Nat.le_of_ble_eq_true rfl, Nat.le_of_ble_eq_true rfl⟩ (k_Wi fun r45 s45 h => ?_)
            refine z_if_eq C dX6_readAllOf_48 (tgt := 55) (by decide) (fun c48 => ?_) (fun c48 => ?_)
            · have h := h.1 c48
              exact t_drop [true, true, false, true] rfl (j_X6_readAllOf_L7_55 hfl C hr hn9 hK8 s45 a1 a3 h)
            · have h := h.2 c48
              refine z_iconst C dX6_readAllOf_51 (v := 1) (by decide) ?_
              refine z_goto C dX6_readAllOf_52 (tgt := 56) (by decide) ?_
              exact t_drop [true, true, false, true] rfl (j_X6_readAllOf_L7_56 hfl C hr hn9 hK8 s45 a1 a3 (1) h)
def w_X6_readAllOf_L7 (st : zTs) (a1 : Int32) (P : Int32 → zTs → Prop) : Prop := w_X6_readOne_L7 st a1 (fun (r2 : Int32) (s2 : zTs) => (w_X6_readAllOf_L7_8 P zfu s2 a1 r2 (0)))
set_option maxHeartbeats 4000000 in
set_option maxRecDepth 100000 in
theorem c_X6_readAllOf_L7 {Z : zZ} {l : Launch} (hfl : l.stackTraces = false) {st : zTs} {a1 : Int32} {P : Int32 → zTs → Prop} (h : w_X6_readAllOf_L7 st a1 P) : zN Z l yX6_readAllOf cX6_readAllOf 4 (some .boolean) ({ frames := 18, cells := 0, slots := 0, locals := 398 } : Room) (zh Z zm1 st) [.ref 13, .int (a1)] (zWi Z P) := by
  unfold w_X6_readAllOf_L7 at h
  refine z_enterN (by decide) (Nat.le_of_ble_eq_true rfl) (lc0 := [some (.ref 13), some (.int (a1)), none, none]) rfl ?_
  intro p e s m args below meth c ad0 C hr _
  have hn9 : True := trivial
  replace C : zC Z p s m args meth c cX6_readAllOf 4 RX6 := C
  refine z_aload_n C dX6_readAllOf_0 (i := 0) rfl rfl ?_
  refine z_iload_n C dX6_readAllOf_1 (i := 1) rfl rfl ?_
  refine t_callV C (rest := []) (c2 := 0) (s2 := 0) (kd := 13) (i := 0) [.int (a1)] dX6_readAllOf_2 lk_X6_199 li_X6_readOne le_X6_readOne (c_X6_readOne_L7 hfl h) rfl rfl (by decide) rfl ⟨_, rfl⟩ rfl ⟨Nat.le_of_ble_eq_true rfl, Nat.le_of_ble_eq_true rfl⟩ (Nat.le_of_ble_eq_true rfl) ⟨Nat.le_of_ble_eq_true rfl, Nat.le_of_ble_eq_true rfl, Nat.le_of_ble_eq_true rfl, Nat.le_of_ble_eq_true rfl⟩ (k_Wi fun r2 s2 h => ?_)
  refine z_istore_n C dX6_readAllOf_5 (i := 2) (lc' := [some (.ref 13), some (.int (a1)), some (.int (r2)), none]) rfl (by decide) rfl ?_
  refine z_iconst C dX6_readAllOf_6 (v := 0) (by decide) ?_
  refine z_istore_n C dX6_readAllOf_7 (i := 3) (lc' := [some (.ref 13), some (.int (a1)), some (.int (r2)), some (.int (0))]) rfl (by decide) rfl ?_
  exact t_drop [true, true, true, true] rfl (j_X6_readAllOf_L7_8 hfl C hr hn9  zfu s2 a1 r2 (0) h)
def w_X6_readAnyOf_L7_56 (P : Int32 → zTs → Prop) (K8 : zTs → Int32 → Int32 → Int32 → Prop) (st : zTs) (a1 : Int32) (a3 : Int32) (b0 : Int32) : Prop := ∀ x57 : Int32, x57 = a3 + 1 → (K8 st a1 b0 x57)
set_option maxHeartbeats 4000000 in
set_option maxRecDepth 100000 in
theorem j_X6_readAnyOf_L7_56 {P : Int32 → zTs → Prop} {K8 : zTs → Int32 → Int32 → Int32 → Prop} (hfl : l.stackTraces = false) (C : zC Z p s m args meth c cX6_readAnyOf 4 RX6) (hr : meth.sig.returnType = (some .boolean)) (hn9 : True) (hK8 : ∀ (st : zTs) (a1 : Int32) (a2 : Int32) (a3 : Int32), K8 st a1 a2 a3 → zG Z ad0 h0 p l e ({ frames := 19, cells := 0, slots := 0, locals := 421 } : Room) s m args below meth c (MQ below (zQ Z ad0 h0 (zWi Z P)) args s 0 0 (zA Z)) 0 0 (zh Z zm1 st) 4 8 [some (.ref 13), some (.int (a1)), some (.int (a2)), some (.int (a3))] []) (st : zTs) (a1 : Int32) (a3 : Int32) (b0 : Int32) (h : w_X6_readAnyOf_L7_56 P K8 st a1 a3 b0) : zG Z ad0 h0 p l e ({ frames := 19, cells := 0, slots := 0, locals := 421 } : Room) s m args below meth c (MQ below (zQ Z ad0 h0 (zWi Z P)) args s 0 0 (zA Z)) 0 0 (zh Z zm1 st) 4 56 [some (.ref 13), some (.int (a1)), none, some (.int (a3))] [.int (b0)] := by
  unfold w_X6_readAnyOf_L7_56 at h
  refine z_istore_n C dX6_readAnyOf_56 (i := 2) (lc' := [some (.ref 13), some (.int (a1)), some (.int (b0)), some (.int (a3))]) rfl (by decide) rfl ?_
  obtain ⟨x57, ex57⟩ : ∃ z : Int32, z = a3 + 1 := ⟨_, rfl⟩
  have h := h x57 ex57
  refine z_iinc C dX6_readAnyOf_57 (v := x57) (lc' := [some (.ref 13), some (.int (a1)), some (.int (b0)), some (.int (x57))]) rfl (by decide) (by rw [ex57]; rfl) rfl ?_
  refine z_goto C dX6_readAnyOf_60 (tgt := 8) (by decide) ?_
  exact t_drop [true, true, true, true] rfl (hK8 st a1 b0 x57 h)
def w_X6_readAnyOf_L7_55 (P : Int32 → zTs → Prop) (K8 : zTs → Int32 → Int32 → Int32 → Prop) (st : zTs) (a1 : Int32) (a3 : Int32) : Prop := w_X6_readAnyOf_L7_56 P K8 st a1 a3 (0)
set_option maxHeartbeats 4000000 in
set_option maxRecDepth 100000 in
theorem j_X6_readAnyOf_L7_55 {P : Int32 → zTs → Prop} {K8 : zTs → Int32 → Int32 → Int32 → Prop} (hfl : l.stackTraces = false) (C : zC Z p s m args meth c cX6_readAnyOf 4 RX6) (hr : meth.sig.returnType = (some .boolean)) (hn9 : True) (hK8 : ∀ (st : zTs) (a1 : Int32) (a2 : Int32) (a3 : Int32), K8 st a1 a2 a3 → zG Z ad0 h0 p l e ({ frames := 19, cells := 0, slots := 0, locals := 421 } : Room) s m args below meth c (MQ below (zQ Z ad0 h0 (zWi Z P)) args s 0 0 (zA Z)) 0 0 (zh Z zm1 st) 4 8 [some (.ref 13), some (.int (a1)), some (.int (a2)), some (.int (a3))] []) (st : zTs) (a1 : Int32) (a3 : Int32) (h : w_X6_readAnyOf_L7_55 P K8 st a1 a3) : zG Z ad0 h0 p l e ({ frames := 19, cells := 0, slots := 0, locals := 421 } : Room) s m args below meth c (MQ below (zQ Z ad0 h0 (zWi Z P)) args s 0 0 (zA Z)) 0 0 (zh Z zm1 st) 4 55 [some (.ref 13), some (.int (a1)), none, some (.int (a3))] [] := by
  unfold w_X6_readAnyOf_L7_55 at h
  refine z_iconst C dX6_readAnyOf_55 (v := 0) (by decide) ?_
  exact t_drop [true, true, false, true] rfl (j_X6_readAnyOf_L7_56 hfl C hr hn9 hK8 st a1 a3 (0) h)
def w_X6_readAnyOf_L7_8 (P : Int32 → zTs → Prop)  : Nat → zTs → Int32 → Int32 → Int32 → Prop
  | 0, _, _, _, _ => False
  | n9 + 1, st, a1, a2, a3 => ((zgF st 13 0 3) ≤ a3 → (a2 = 0 ∨ a2 = 1) ∧ (P a2 st)) ∧ (¬ (zgF st 13 0 3) ≤ a3 → (a2 = 0 → (a2 = 0 ∨ a2 = 1) ∧ (P a2 st)) ∧ (¬ a2 = 0 → (zgP st 13 0 6 < 24) ∧ ((((zgP st 13 0 6) : Nat) = 18 → w_X6_advance st (fun (s31 : zTs) => (w_X6_readAllOf_L7 s31 a1 (fun (r36 : Int32) (s36 : zTs) => ((r36 = 0 → w_X6_readAnyOf_L7_55 P (w_X6_readAnyOf_L7_8 P n9) s36 a1 a3) ∧ (¬ r36 = 0 → w_X6_addStep s36 (-3) (fun (r45 : Int32) (s45 : zTs) => ((r45 = 0 → w_X6_readAnyOf_L7_55 P (w_X6_readAnyOf_L7_8 P n9) s45 a1 a3) ∧ (¬ r45 = 0 → w_X6_readAnyOf_L7_56 P (w_X6_readAnyOf_L7_8 P n9) s45 a1 a3 (1)))))))))) ∧ (¬ ((zgP st 13 0 6) : Nat) = 18 → (a2 = 0 ∨ a2 = 1) ∧ (P a2 st)))))
set_option maxHeartbeats 4000000 in
set_option maxRecDepth 100000 in
theorem j_X6_readAnyOf_L7_8 {P : Int32 → zTs → Prop}  (hfl : l.stackTraces = false) (C : zC Z p s m args meth c cX6_readAnyOf 4 RX6) (hr : meth.sig.returnType = (some .boolean)) (hn9 : True)  : ∀ (n9 : Nat) (st : zTs) (a1 : Int32) (a2 : Int32) (a3 : Int32), w_X6_readAnyOf_L7_8 P n9 st a1 a2 a3 → zG Z ad0 h0 p l e ({ frames := 19, cells := 0, slots := 0, locals := 421 } : Room) s m args below meth c (MQ below (zQ Z ad0 h0 (zWi Z P)) args s 0 0 (zA Z)) 0 0 (zh Z zm1 st) 4 8 [some (.ref 13), some (.int (a1)), some (.int (a2)), some (.int (a3))] [] := by
  intro n9
  induction n9 with
  | zero => intro st a1 a2 a3 h; exact h.elim
  | succ n9 hK8 =>
    intro st a1 a2 a3 h
    rw [w_X6_readAnyOf_L7_8] at h
    refine z_iload_n C dX6_readAnyOf_8 (i := 3) rfl rfl ?_
    refine z_aload_n C dX6_readAnyOf_9 (i := 0) rfl rfl ?_
    refine t_get C dX6_readAnyOf_10 fl_X6_55 (k := 13) (i := 0) (by decide) rfl (fg_13_3 _ _ _) ?_
    refine z_icmp_ge C dX6_readAnyOf_13 (tgt := 63) (by decide) (fun c13 => ?_) (fun c13 => ?_)
    · have h := h.1 c13
      refine z_iload_n C dX6_readAnyOf_63 (i := 2) rfl rfl ?_
      obtain ⟨g64, h⟩ := h
      exact z_iret C dX6_readAnyOf_64 hr (zn_bool g64) ⟨_, _, rfl, rfl, h⟩ (Nat.le_of_ble_eq_true rfl) (Nat.le_of_ble_eq_true rfl)
    · have h := h.2 c13
      refine z_iload_n C dX6_readAnyOf_16 (i := 2) rfl rfl ?_
      refine z_if_eq C dX6_readAnyOf_17 (tgt := 63) (by decide) (fun c17 => ?_) (fun c17 => ?_)
      · have h := h.1 c17
        refine z_iload_n C dX6_readAnyOf_63 (i := 2) rfl rfl ?_
        obtain ⟨g64, h⟩ := h
        exact z_iret C dX6_readAnyOf_64 hr (zn_bool g64) ⟨_, _, rfl, rfl, h⟩ (Nat.le_of_ble_eq_true rfl) (Nat.le_of_ble_eq_true rfl)
      · have h := h.2 c17
        refine z_aload_n C dX6_readAnyOf_20 (i := 0) rfl rfl ?_
        refine t_get C dX6_readAnyOf_21 fl_X6_21 (k := 13) (i := 0) (by decide) rfl (fg_13_6 _ _ _) ?_
        refine z_gets C dX6_readAnyOf_24 (q := 201 + 256 * 18) (by decide) gl_X6_193 (fun z => (z.2.2.2.1.1.1 18 (by decide)).1) ?_
        obtain ⟨g27a, h⟩ := h
        refine z_acmpW_ne C dX6_readAnyOf_27 (i := (zgP st 13 0 6)) (j := 18) (tgt := 63) (by decide) g27a (by decide) (fun c27 => ?_) (fun c27 => ?_)
        · have h := h.2 c27
          refine z_iload_n C dX6_readAnyOf_63 (i := 2) rfl rfl ?_
          obtain ⟨g64, h⟩ := h
          exact z_iret C dX6_readAnyOf_64 hr (zn_bool g64) ⟨_, _, rfl, rfl, h⟩ (Nat.le_of_ble_eq_true rfl) (Nat.le_of_ble_eq_true rfl)
        · have h := h.1 c27
          refine z_aload_n C dX6_readAnyOf_30 (i := 0) rfl rfl ?_
          refine t_callV C (rest := []) (c2 := 0) (s2 := 0) (kd := 13) (i := 0) [] dX6_readAnyOf_31 lk_X6_61 li_X6_advance le_X6_advance (c_X6_advance hfl h) rfl rfl (by decide) rfl ⟨_, rfl⟩ rfl ⟨Nat.le_of_ble_eq_true rfl, Nat.le_of_ble_eq_true rfl⟩ (Nat.le_of_ble_eq_true rfl) ⟨Nat.le_of_ble_eq_true rfl, Nat.le_of_ble_eq_true rfl, Nat.le_of_ble_eq_true rfl, Nat.le_of_ble_eq_true rfl⟩ (k_Wv fun s31 h => ?_)
          refine z_aload_n C dX6_readAnyOf_34 (i := 0) rfl rfl ?_
          refine z_iload_n C dX6_readAnyOf_35 (i := 1) rfl rfl ?_
          refine t_callV C (rest := []) (c2 := 0) (s2 := 0) (kd := 13) (i := 0) [.int (a1)] dX6_readAnyOf_36 lk_X6_190 li_X6_readAllOf le_X6_readAllOf (c_X6_readAllOf_L7 hfl h) rfl rfl (by decide) rfl ⟨_, rfl⟩ rfl ⟨Nat.le_of_ble_eq_true rfl, Nat.le_of_ble_eq_true rfl⟩ (Nat.le_of_ble_eq_true rfl) ⟨Nat.le_of_ble_eq_true rfl, Nat.le_of_ble_eq_true rfl, Nat.le_of_ble_eq_true rfl, Nat.le_of_ble_eq_true rfl⟩ (k_Wi fun r36 s36 h => ?_)
          refine z_if_eq C dX6_readAnyOf_39 (tgt := 55) (by decide) (fun c39 => ?_) (fun c39 => ?_)
          · have h := h.1 c39
            exact t_drop [true, true, false, true] rfl (j_X6_readAnyOf_L7_55 hfl C hr hn9 hK8 s36 a1 a3 h)
          · have h := h.2 c39
            refine z_aload_n C dX6_readAnyOf_42 (i := 0) rfl rfl ?_
            refine z_bipush C dX6_readAnyOf_43 (v := (-3)) (by decide) ?_
            refine t_callV C (rest := []) (c2 := 0) (s2 := 0) (kd := 13) (i := 0) [.int (-3)] dX6_readAnyOf_45 lk_X6_196 li_X6_addStep le_X6_addStep (c_X6_addStep hfl h) rfl rfl (by decide) rfl ⟨_, rfl⟩ rfl ⟨Nat.le_of_ble_eq_true rfl, Nat.le_of_ble_eq_true rfl⟩ (Nat.le_of_ble_eq_true rfl) ⟨Nat.le_of_ble_eq_true rfl, Nat.le_of_ble_eq_true rfl, Nat.le_of_ble_eq_true rfl, Nat.le_of_ble_eq_true rfl⟩ (k_Wi fun r45 s45 h => ?_)
            refine z_if_eq C dX6_readAnyOf_48 (tgt := 55) (by decide) (fun c48 => ?_) (fun c48 => ?_)
            · have h := h.1 c48
              exact t_drop [true, true, false, true] rfl (j_X6_readAnyOf_L7_55 hfl C hr hn9 hK8 s45 a1 a3 h)
            · have h := h.2 c48
              refine z_iconst C dX6_readAnyOf_51 (v := 1) (by decide) ?_
              refine z_goto C dX6_readAnyOf_52 (tgt := 56) (by decide) ?_
              exact t_drop [true, true, false, true] rfl (j_X6_readAnyOf_L7_56 hfl C hr hn9 hK8 s45 a1 a3 (1) h)
def w_X6_readAnyOf_L7 (st : zTs) (a1 : Int32) (P : Int32 → zTs → Prop) : Prop := w_X6_readAllOf_L7 st a1 (fun (r2 : Int32) (s2 : zTs) => (w_X6_readAnyOf_L7_8 P zfu s2 a1 r2 (0)))
set_option maxHeartbeats 4000000 in
set_option maxRecDepth 100000 in
theorem c_X6_readAnyOf_L7 {Z : zZ} {l : Launch} (hfl : l.stackTraces = false) {st : zTs} {a1 : Int32} {P : Int32 → zTs → Prop} (h : w_X6_readAnyOf_L7 st a1 P) : zN Z l yX6_readAnyOf cX6_readAnyOf 4 (some .boolean) ({ frames := 19, cells := 0, slots := 0, locals := 421 } : Room) (zh Z zm1 st) [.ref 13, .int (a1)] (zWi Z P) := by
  unfold w_X6_readAnyOf_L7 at h
  refine z_enterN (by decide) (Nat.le_of_ble_eq_true rfl) (lc0 := [some (.ref 13), some (.int (a1)), none, none]) rfl ?_
  intro p e s m args below meth c ad0 C hr _
  have hn9 : True := trivial
  replace C : zC Z p s m args meth c cX6_readAnyOf 4 RX6 := C
  refine z_aload_n C dX6_readAnyOf_0 (i := 0) rfl rfl ?_
  refine z_iload_n C dX6_readAnyOf_1 (i := 1) rfl rfl ?_
  refine t_callV C (rest := []) (c2 := 0) (s2 := 0) (kd := 13) (i := 0) [.int (a1)] dX6_readAnyOf_2 lk_X6_190 li_X6_readAllOf le_X6_readAllOf (c_X6_readAllOf_L7 hfl h) rfl rfl (by decide) rfl ⟨_, rfl⟩ rfl ⟨Nat.le_of_ble_eq_true rfl, Nat.le_of_ble_eq_true rfl⟩ (Nat.le_of_ble_eq_true rfl) ⟨Nat.le_of_ble_eq_true rfl, Nat.le_of_ble_eq_true rfl, Nat.le_of_ble_eq_true rfl, Nat.le_of_ble_eq_true rfl⟩ (k_Wi fun r2 s2 h => ?_)
  refine z_istore_n C dX6_readAnyOf_5 (i := 2) (lc' := [some (.ref 13), some (.int (a1)), some (.int (r2)), none]) rfl (by decide) rfl ?_
  refine z_iconst C dX6_readAnyOf_6 (v := 0) (by decide) ?_
  refine z_istore_n C dX6_readAnyOf_7 (i := 3) (lc' := [some (.ref 13), some (.int (a1)), some (.int (r2)), some (.int (0))]) rfl (by decide) rfl ?_
  exact t_drop [true, true, true, true] rfl (j_X6_readAnyOf_L7_8 hfl C hr hn9  zfu s2 a1 r2 (0) h)
def w_X6_readOne_L6_188 (P : Int32 → zTs → Prop)  (st : zTs) (b0 : Int32) (b1 : Int32) : Prop := w_X6_addStep st (((b1 + b0) * 10000) + (zgF st 13 0 9)) (fun (r198 : Int32) (s198 : zTs) => ((r198 = 0 → P 0 s198) ∧ (¬ r198 = 0 → P 1 s198)))
set_option maxHeartbeats 4000000 in
set_option maxRecDepth 100000 in
theorem j_X6_readOne_L6_188 {P : Int32 → zTs → Prop}  (hfl : l.stackTraces = false) (C : zC Z p s m args meth c cX6_readOne 5 RX6) (hr : meth.sig.returnType = (some .boolean)) (hn9 : True)  (st : zTs) (b0 : Int32) (b1 : Int32) (h : w_X6_readOne_L6_188 P st b0 b1) : zG Z ad0 h0 p l e ({ frames := 20, cells := 0, slots := 0, locals := 444 } : Room) s m args below meth c (MQ below (zQ Z ad0 h0 (zWi Z P)) args s 0 0 (zA Z)) 0 0 (zh Z zm1 st) 5 188 [some (.ref 13), none, none, none, none] [.int (b0), .int (b1), .ref 13] := by
  unfold w_X6_readOne_L6_188 at h
  refine z_iadd C dX6_readOne_188 ?_
  refine z_sipush C dX6_readOne_189 (v := 10000) (by decide) ?_
  refine z_imul C dX6_readOne_192 ?_
  refine z_aload_n C dX6_readOne_193 (i := 0) rfl rfl ?_
  refine t_get C dX6_readOne_194 fl_X6_83 (k := 13) (i := 0) (by decide) rfl (fg_13_9 _ _ _) ?_
  refine z_iadd C dX6_readOne_197 ?_
  refine t_callV C (rest := []) (c2 := 0) (s2 := 0) (kd := 13) (i := 0) [.int (((b1 + b0) * 10000) + (zgF st 13 0 9))] dX6_readOne_198 lk_X6_196 li_X6_addStep le_X6_addStep (c_X6_addStep hfl h) rfl rfl (by decide) rfl ⟨_, rfl⟩ rfl ⟨Nat.le_of_ble_eq_true rfl, Nat.le_of_ble_eq_true rfl⟩ (Nat.le_of_ble_eq_true rfl) ⟨Nat.le_of_ble_eq_true rfl, Nat.le_of_ble_eq_true rfl, Nat.le_of_ble_eq_true rfl, Nat.le_of_ble_eq_true rfl⟩ (k_Wi fun r198 s198 h => ?_)
  refine z_if_eq C dX6_readOne_201 (tgt := 208) (by decide) (fun c201 => ?_) (fun c201 => ?_)
  · have h := h.1 c201
    refine z_iconst C dX6_readOne_208 (v := 0) (by decide) ?_
    exact z_iret C dX6_readOne_209 hr rfl ⟨_, _, rfl, rfl, h⟩ (Nat.le_of_ble_eq_true rfl) (Nat.le_of_ble_eq_true rfl)
  · have h := h.2 c201
    refine z_iconst C dX6_readOne_204 (v := 1) (by decide) ?_
    refine z_goto C dX6_readOne_205 (tgt := 209) (by decide) ?_
    exact z_iret C dX6_readOne_209 hr rfl ⟨_, _, rfl, rfl, h⟩ (Nat.le_of_ble_eq_true rfl) (Nat.le_of_ble_eq_true rfl)
def w_X6_readOne_L6_159 (P : Int32 → zTs → Prop)  (st : zTs) (a3 : Int32) (a4 : Int32) : Prop := w_X6_advance st (fun (s160 : zTs) => (w_X6_takeNumber s160 0 9999 (fun (r168 : Int32) (s168 : zTs) => ((r168 = 0 → P 0 s168) ∧ (¬ r168 = 0 → (a4 = 0 → w_X6_readOne_L6_188 P s168 (0) (2 * a3)) ∧ (¬ a4 = 0 → w_X6_readOne_L6_188 P s168 (1) (2 * a3)))))))
set_option maxHeartbeats 4000000 in
set_option maxRecDepth 100000 in
theorem j_X6_readOne_L6_159 {P : Int32 → zTs → Prop}  (hfl : l.stackTraces = false) (C : zC Z p s m args meth c cX6_readOne 5 RX6) (hr : meth.sig.returnType = (some .boolean)) (hn9 : True)  (st : zTs) (a3 : Int32) (a4 : Int32) (h : w_X6_readOne_L6_159 P st a3 a4) : zG Z ad0 h0 p l e ({ frames := 20, cells := 0, slots := 0, locals := 444 } : Room) s m args below meth c (MQ below (zQ Z ad0 h0 (zWi Z P)) args s 0 0 (zA Z)) 0 0 (zh Z zm1 st) 5 159 [some (.ref 13), none, none, some (.int (a3)), some (.int (a4))] [] := by
  unfold w_X6_readOne_L6_159 at h
  refine z_aload_n C dX6_readOne_159 (i := 0) rfl rfl ?_
  refine t_callV C (rest := []) (c2 := 0) (s2 := 0) (kd := 13) (i := 0) [] dX6_readOne_160 lk_X6_61 li_X6_advance le_X6_advance (c_X6_advance hfl h) rfl rfl (by decide) rfl ⟨_, rfl⟩ rfl ⟨Nat.le_of_ble_eq_true rfl, Nat.le_of_ble_eq_true rfl⟩ (Nat.le_of_ble_eq_true rfl) ⟨Nat.le_of_ble_eq_true rfl, Nat.le_of_ble_eq_true rfl, Nat.le_of_ble_eq_true rfl, Nat.le_of_ble_eq_true rfl⟩ (k_Wv fun s160 h => ?_)
  refine z_aload_n C dX6_readOne_163 (i := 0) rfl rfl ?_
  refine z_iconst C dX6_readOne_164 (v := 0) (by decide) ?_
  refine z_sipush C dX6_readOne_165 (v := 9999) (by decide) ?_
  refine t_callV C (rest := []) (c2 := 0) (s2 := 0) (kd := 13) (i := 0) [.int (0), .int (9999)] dX6_readOne_168 lk_X6_125 li_X6_takeNumber le_X6_takeNumber (c_X6_takeNumber hfl h) rfl rfl (by decide) rfl ⟨_, rfl⟩ rfl ⟨Nat.le_of_ble_eq_true rfl, Nat.le_of_ble_eq_true rfl⟩ (Nat.le_of_ble_eq_true rfl) ⟨Nat.le_of_ble_eq_true rfl, Nat.le_of_ble_eq_true rfl, Nat.le_of_ble_eq_true rfl, Nat.le_of_ble_eq_true rfl⟩ (k_Wi fun r168 s168 h => ?_)
  refine z_if_eq C dX6_readOne_171 (tgt := 208) (by decide) (fun c171 => ?_) (fun c171 => ?_)
  · have h := h.1 c171
    refine z_iconst C dX6_readOne_208 (v := 0) (by decide) ?_
    exact z_iret C dX6_readOne_209 hr rfl ⟨_, _, rfl, rfl, h⟩ (Nat.le_of_ble_eq_true rfl) (Nat.le_of_ble_eq_true rfl)
  · have h := h.2 c171
    refine z_aload_n C dX6_readOne_174 (i := 0) rfl rfl ?_
    refine z_iconst C dX6_readOne_175 (v := 2) (by decide) ?_
    refine z_iload_n C dX6_readOne_176 (i := 3) rfl rfl ?_
    refine z_imul C dX6_readOne_177 ?_
    refine z_iload C dX6_readOne_178 rfl ?_
    refine z_if_eq C dX6_readOne_180 (tgt := 187) (by decide) (fun c180 => ?_) (fun c180 => ?_)
    · have h := h.1 c180
      refine z_iconst C dX6_readOne_187 (v := 0) (by decide) ?_
      exact t_drop [true, false, false, false, false] rfl (j_X6_readOne_L6_188 hfl C hr hn9  s168 (0) (2 * a3) h)
    · have h := h.2 c180
      refine z_iconst C dX6_readOne_183 (v := 1) (by decide) ?_
      refine z_goto C dX6_readOne_184 (tgt := 188) (by decide) ?_
      exact t_drop [true, false, false, false, false] rfl (j_X6_readOne_L6_188 hfl C hr hn9  s168 (1) (2 * a3) h)
def w_X6_readOne_L6_137 (P : Int32 → zTs → Prop)  (st : zTs) (a3 : Int32) (b0 : Int32) : Prop := (b0 = 0 → ((zgF st 13 0 8) = 60 → w_X6_readOne_L6_159 P st a3 b0) ∧ (¬ (zgF st 13 0 8) = 60 → w_X6_fail st 1 (fun (r155 : Int32) (s155 : zTs) => ((r155 = 0 ∨ r155 = 1) ∧ (P r155 s155))))) ∧ (¬ b0 = 0 → w_X6_readOne_L6_159 P st a3 b0)
set_option maxHeartbeats 4000000 in
set_option maxRecDepth 100000 in
theorem j_X6_readOne_L6_137 {P : Int32 → zTs → Prop}  (hfl : l.stackTraces = false) (C : zC Z p s m args meth c cX6_readOne 5 RX6) (hr : meth.sig.returnType = (some .boolean)) (hn9 : True)  (st : zTs) (a3 : Int32) (b0 : Int32) (h : w_X6_readOne_L6_137 P st a3 b0) : zG Z ad0 h0 p l e ({ frames := 20, cells := 0, slots := 0, locals := 444 } : Room) s m args below meth c (MQ below (zQ Z ad0 h0 (zWi Z P)) args s 0 0 (zA Z)) 0 0 (zh Z zm1 st) 5 137 [some (.ref 13), none, none, some (.int (a3)), none] [.int (b0)] := by
  unfold w_X6_readOne_L6_137 at h
  refine z_istore C dX6_readOne_137 (lc' := [some (.ref 13), none, none, some (.int (a3)), some (.int (b0))]) (by decide) rfl ?_
  refine z_iload C dX6_readOne_139 rfl ?_
  refine z_if_ne C dX6_readOne_141 (tgt := 159) (by decide) (fun c141 => ?_) (fun c141 => ?_)
  · have h := h.2 c141
    exact t_drop [true, false, false, true, true] rfl (j_X6_readOne_L6_159 hfl C hr hn9  st a3 b0 h)
  · have h := h.1 c141
    refine z_aload_n C dX6_readOne_144 (i := 0) rfl rfl ?_
    refine t_get C dX6_readOne_145 fl_X6_28 (k := 13) (i := 0) (by decide) rfl (fg_13_8 _ _ _) ?_
    refine z_bipush C dX6_readOne_148 (v := 60) (by decide) ?_
    refine z_icmp_eq C dX6_readOne_150 (tgt := 159) (by decide) (fun c150 => ?_) (fun c150 => ?_)
    · have h := h.1 c150
      exact t_drop [true, false, false, true, true] rfl (j_X6_readOne_L6_159 hfl C hr hn9  st a3 b0 h)
    · have h := h.2 c150
      refine z_aload_n C dX6_readOne_153 (i := 0) rfl rfl ?_
      refine z_iconst C dX6_readOne_154 (v := 1) (by decide) ?_
      refine t_callV C (rest := []) (c2 := 0) (s2 := 0) (kd := 13) (i := 0) [.int (1)] dX6_readOne_155 lk_X6_79 li_X6_fail le_X6_fail (c_X6_fail hfl h) rfl rfl (by decide) rfl ⟨_, rfl⟩ rfl ⟨Nat.le_of_ble_eq_true rfl, Nat.le_of_ble_eq_true rfl⟩ (Nat.le_of_ble_eq_true rfl) ⟨Nat.le_of_ble_eq_true rfl, Nat.le_of_ble_eq_true rfl, Nat.le_of_ble_eq_true rfl, Nat.le_of_ble_eq_true rfl⟩ (k_Wi fun r155 s155 h => ?_)
      obtain ⟨g158, h⟩ := h
      exact z_iret C dX6_readOne_158 hr (zn_bool g158) ⟨_, _, rfl, rfl, h⟩ (Nat.le_of_ble_eq_true rfl) (Nat.le_of_ble_eq_true rfl)
def w_X6_readOne_L6_29 (P : Int32 → zTs → Prop)  (st : zTs) (a1 : Int32) (a2 : Int32) : Prop := (a1 < 8 → w_X6_advance st (fun (s42 : zTs) => ((a2 = 0 → w_X6_readAnyOf_L7 s42 (a1 + 1) (fun (r79 : Int32) (s79 : zTs) => ((r79 = 0 → P 0 s79) ∧ (¬ r79 = 0 → w_X6_takeSign s79 41 (fun (r88 : Int32) (s88 : zTs) => ((r88 = 0 → P 0 s88) ∧ (¬ r88 = 0 → P 1 s88))))))) ∧ (¬ a2 = 0 → w_X6_readOne_L7 s42 (a1 + 1) (fun (r53 : Int32) (s53 : zTs) => ((r53 = 0 → P 0 s53) ∧ (¬ r53 = 0 → w_X6_addStep s53 (-1) (fun (r61 : Int32) (s61 : zTs) => ((r61 = 0 → P 0 s61) ∧ (¬ r61 = 0 → P 1 s61)))))))))) ∧ (¬ a1 < 8 → w_X6_fail st 3 (fun (r37 : Int32) (s37 : zTs) => ((r37 = 0 ∨ r37 = 1) ∧ (P r37 s37))))
set_option maxHeartbeats 4000000 in
set_option maxRecDepth 100000 in
theorem j_X6_readOne_L6_29 {P : Int32 → zTs → Prop}  (hfl : l.stackTraces = false) (C : zC Z p s m args meth c cX6_readOne 5 RX6) (hr : meth.sig.returnType = (some .boolean)) (hn9 : True)  (st : zTs) (a1 : Int32) (a2 : Int32) (h : w_X6_readOne_L6_29 P st a1 a2) : zG Z ad0 h0 p l e ({ frames := 20, cells := 0, slots := 0, locals := 444 } : Room) s m args below meth c (MQ below (zQ Z ad0 h0 (zWi Z P)) args s 0 0 (zA Z)) 0 0 (zh Z zm1 st) 5 29 [some (.ref 13), some (.int (a1)), some (.int (a2)), none, none] [] := by
  unfold w_X6_readOne_L6_29 at h
  refine z_iload_n C dX6_readOne_29 (i := 1) rfl rfl ?_
  refine z_bipush C dX6_readOne_30 (v := 8) (by decide) ?_
  refine z_icmp_lt C dX6_readOne_32 (tgt := 41) (by decide) (fun c32 => ?_) (fun c32 => ?_)
  · have h := h.1 c32
    refine z_aload_n C dX6_readOne_41 (i := 0) rfl rfl ?_
    refine t_callV C (rest := []) (c2 := 0) (s2 := 0) (kd := 13) (i := 0) [] dX6_readOne_42 lk_X6_61 li_X6_advance le_X6_advance (c_X6_advance hfl h) rfl rfl (by decide) rfl ⟨_, rfl⟩ rfl ⟨Nat.le_of_ble_eq_true rfl, Nat.le_of_ble_eq_true rfl⟩ (Nat.le_of_ble_eq_true rfl) ⟨Nat.le_of_ble_eq_true rfl, Nat.le_of_ble_eq_true rfl, Nat.le_of_ble_eq_true rfl, Nat.le_of_ble_eq_true rfl⟩ (k_Wv fun s42 h => ?_)
    refine z_iload_n C dX6_readOne_45 (i := 2) rfl rfl ?_
    refine z_if_eq C dX6_readOne_46 (tgt := 75) (by decide) (fun c46 => ?_) (fun c46 => ?_)
    · have h := h.1 c46
      refine z_aload_n C dX6_readOne_75 (i := 0) rfl rfl ?_
      refine z_iload_n C dX6_readOne_76 (i := 1) rfl rfl ?_
      refine z_iconst C dX6_readOne_77 (v := 1) (by decide) ?_
      refine z_iadd C dX6_readOne_78 ?_
      refine t_callV C (rest := []) (c2 := 0) (s2 := 0) (kd := 13) (i := 0) [.int (a1 + 1)] dX6_readOne_79 lk_X6_177 li_X6_readAnyOf le_X6_readAnyOf (c_X6_readAnyOf_L7 hfl h) rfl rfl (by decide) rfl ⟨_, rfl⟩ rfl ⟨Nat.le_of_ble_eq_true rfl, Nat.le_of_ble_eq_true rfl⟩ (Nat.le_of_ble_eq_true rfl) ⟨Nat.le_of_ble_eq_true rfl, Nat.le_of_ble_eq_true rfl, Nat.le_of_ble_eq_true rfl, Nat.le_of_ble_eq_true rfl⟩ (k_Wi fun r79 s79 h => ?_)
      refine z_if_eq C dX6_readOne_82 (tgt := 98) (by decide) (fun c82 => ?_) (fun c82 => ?_)
      · have h := h.1 c82
        refine z_iconst C dX6_readOne_98 (v := 0) (by decide) ?_
        exact z_iret C dX6_readOne_99 hr rfl ⟨_, _, rfl, rfl, h⟩ (Nat.le_of_ble_eq_true rfl) (Nat.le_of_ble_eq_true rfl)
      · have h := h.2 c82
        refine z_aload_n C dX6_readOne_85 (i := 0) rfl rfl ?_
        refine z_bipush C dX6_readOne_86 (v := 41) (by decide) ?_
        refine t_callV C (rest := []) (c2 := 0) (s2 := 0) (kd := 13) (i := 0) [.int (41)] dX6_readOne_88 lk_X6_118 li_X6_takeSign le_X6_takeSign (c_X6_takeSign hfl h) rfl rfl (by decide) rfl ⟨_, rfl⟩ rfl ⟨Nat.le_of_ble_eq_true rfl, Nat.le_of_ble_eq_true rfl⟩ (Nat.le_of_ble_eq_true rfl) ⟨Nat.le_of_ble_eq_true rfl, Nat.le_of_ble_eq_true rfl, Nat.le_of_ble_eq_true rfl, Nat.le_of_ble_eq_true rfl⟩ (k_Wi fun r88 s88 h => ?_)
        refine z_if_eq C dX6_readOne_91 (tgt := 98) (by decide) (fun c91 => ?_) (fun c91 => ?_)
        · have h := h.1 c91
          refine z_iconst C dX6_readOne_98 (v := 0) (by decide) ?_
          exact z_iret C dX6_readOne_99 hr rfl ⟨_, _, rfl, rfl, h⟩ (Nat.le_of_ble_eq_true rfl) (Nat.le_of_ble_eq_true rfl)
        · have h := h.2 c91
          refine z_iconst C dX6_readOne_94 (v := 1) (by decide) ?_
          refine z_goto C dX6_readOne_95 (tgt := 99) (by decide) ?_
          exact z_iret C dX6_readOne_99 hr rfl ⟨_, _, rfl, rfl, h⟩ (Nat.le_of_ble_eq_true rfl) (Nat.le_of_ble_eq_true rfl)
    · have h := h.2 c46
      refine z_aload_n C dX6_readOne_49 (i := 0) rfl rfl ?_
      refine z_iload_n C dX6_readOne_50 (i := 1) rfl rfl ?_
      refine z_iconst C dX6_readOne_51 (v := 1) (by decide) ?_
      refine z_iadd C dX6_readOne_52 ?_
      refine t_callV C (rest := []) (c2 := 0) (s2 := 0) (kd := 13) (i := 0) [.int (a1 + 1)] dX6_readOne_53 lk_X6_199 li_X6_readOne le_X6_readOne (c_X6_readOne_L7 hfl h) rfl rfl (by decide) rfl ⟨_, rfl⟩ rfl ⟨Nat.le_of_ble_eq_true rfl, Nat.le_of_ble_eq_true rfl⟩ (Nat.le_of_ble_eq_true rfl) ⟨Nat.le_of_ble_eq_true rfl, Nat.le_of_ble_eq_true rfl, Nat.le_of_ble_eq_true rfl, Nat.le_of_ble_eq_true rfl⟩ (k_Wi fun r53 s53 h => ?_)
      refine z_if_eq C dX6_readOne_56 (tgt := 71) (by decide) (fun c56 => ?_) (fun c56 => ?_)
      · have h := h.1 c56
        refine z_iconst C dX6_readOne_71 (v := 0) (by decide) ?_
        refine z_goto C dX6_readOne_72 (tgt := 99) (by decide) ?_
        exact z_iret C dX6_readOne_99 hr rfl ⟨_, _, rfl, rfl, h⟩ (Nat.le_of_ble_eq_true rfl) (Nat.le_of_ble_eq_true rfl)
      · have h := h.2 c56
        refine z_aload_n C dX6_readOne_59 (i := 0) rfl rfl ?_
        refine z_iconst C dX6_readOne_60 (v := (-1)) (by decide) ?_
        refine t_callV C (rest := []) (c2 := 0) (s2 := 0) (kd := 13) (i := 0) [.int (-1)] dX6_readOne_61 lk_X6_196 li_X6_addStep le_X6_addStep (c_X6_addStep hfl h) rfl rfl (by decide) rfl ⟨_, rfl⟩ rfl ⟨Nat.le_of_ble_eq_true rfl, Nat.le_of_ble_eq_true rfl⟩ (Nat.le_of_ble_eq_true rfl) ⟨Nat.le_of_ble_eq_true rfl, Nat.le_of_ble_eq_true rfl, Nat.le_of_ble_eq_true rfl, Nat.le_of_ble_eq_true rfl⟩ (k_Wi fun r61 s61 h => ?_)
        refine z_if_eq C dX6_readOne_64 (tgt := 71) (by decide) (fun c64 => ?_) (fun c64 => ?_)
        · have h := h.1 c64
          refine z_iconst C dX6_readOne_71 (v := 0) (by decide) ?_
          refine z_goto C dX6_readOne_72 (tgt := 99) (by decide) ?_
          exact z_iret C dX6_readOne_99 hr rfl ⟨_, _, rfl, rfl, h⟩ (Nat.le_of_ble_eq_true rfl) (Nat.le_of_ble_eq_true rfl)
        · have h := h.2 c64
          refine z_iconst C dX6_readOne_67 (v := 1) (by decide) ?_
          refine z_goto C dX6_readOne_68 (tgt := 99) (by decide) ?_
          exact z_iret C dX6_readOne_99 hr rfl ⟨_, _, rfl, rfl, h⟩ (Nat.le_of_ble_eq_true rfl) (Nat.le_of_ble_eq_true rfl)
  · have h := h.2 c32
    refine z_aload_n C dX6_readOne_35 (i := 0) rfl rfl ?_
    refine z_iconst C dX6_readOne_36 (v := 3) (by decide) ?_
    refine t_callV C (rest := []) (c2 := 0) (s2 := 0) (kd := 13) (i := 0) [.int (3)] dX6_readOne_37 lk_X6_79 li_X6_fail le_X6_fail (c_X6_fail hfl h) rfl rfl (by decide) rfl ⟨_, rfl⟩ rfl ⟨Nat.le_of_ble_eq_true rfl, Nat.le_of_ble_eq_true rfl⟩ (Nat.le_of_ble_eq_true rfl) ⟨Nat.le_of_ble_eq_true rfl, Nat.le_of_ble_eq_true rfl, Nat.le_of_ble_eq_true rfl, Nat.le_of_ble_eq_true rfl⟩ (k_Wi fun r37 s37 h => ?_)
    obtain ⟨g40, h⟩ := h
    exact z_iret C dX6_readOne_40 hr (zn_bool g40) ⟨_, _, rfl, rfl, h⟩ (Nat.le_of_ble_eq_true rfl) (Nat.le_of_ble_eq_true rfl)
def w_X6_readOne_L6_15 (P : Int32 → zTs → Prop)  (st : zTs) (a1 : Int32) (b0 : Int32) : Prop := (b0 = 0 → ((zgF st 13 0 8) = 40 → w_X6_readOne_L6_29 P st a1 b0) ∧ (¬ (zgF st 13 0 8) = 40 → w_X6_measureOf st (zgP st 13 0 6) (fun (r104 : Int32) => ((r104 = (-1) → w_X6_fail st 1 (fun (r115 : Int32) (s115 : zTs) => ((r115 = 0 ∨ r115 = 1) ∧ (P r115 s115)))) ∧ (¬ r104 = (-1) → w_X6_advance st (fun (s120 : zTs) => (((zgF s120 13 0 8) = 62 → w_X6_readOne_L6_137 P s120 r104 (1)) ∧ (¬ (zgF s120 13 0 8) = 62 → w_X6_readOne_L6_137 P s120 r104 (0))))))))) ∧ (¬ b0 = 0 → w_X6_readOne_L6_29 P st a1 b0)
set_option maxHeartbeats 4000000 in
set_option maxRecDepth 100000 in
theorem j_X6_readOne_L6_15 {P : Int32 → zTs → Prop}  (hfl : l.stackTraces = false) (C : zC Z p s m args meth c cX6_readOne 5 RX6) (hr : meth.sig.returnType = (some .boolean)) (hn9 : True)  (st : zTs) (a1 : Int32) (b0 : Int32) (h : w_X6_readOne_L6_15 P st a1 b0) : zG Z ad0 h0 p l e ({ frames := 20, cells := 0, slots := 0, locals := 444 } : Room) s m args below meth c (MQ below (zQ Z ad0 h0 (zWi Z P)) args s 0 0 (zA Z)) 0 0 (zh Z zm1 st) 5 15 [some (.ref 13), some (.int (a1)), none, none, none] [.int (b0)] := by
  unfold w_X6_readOne_L6_15 at h
  refine z_istore_n C dX6_readOne_15 (i := 2) (lc' := [some (.ref 13), some (.int (a1)), some (.int (b0)), none, none]) rfl (by decide) rfl ?_
  refine z_iload_n C dX6_readOne_16 (i := 2) rfl rfl ?_
  refine z_if_ne C dX6_readOne_17 (tgt := 29) (by decide) (fun c17 => ?_) (fun c17 => ?_)
  · have h := h.2 c17
    exact t_drop [true, true, true, false, false] rfl (j_X6_readOne_L6_29 hfl C hr hn9  st a1 b0 h)
  · have h := h.1 c17
    refine z_aload_n C dX6_readOne_20 (i := 0) rfl rfl ?_
    refine t_get C dX6_readOne_21 fl_X6_28 (k := 13) (i := 0) (by decide) rfl (fg_13_8 _ _ _) ?_
    refine z_bipush C dX6_readOne_24 (v := 40) (by decide) ?_
    refine z_icmp_ne C dX6_readOne_26 (tgt := 100) (by decide) (fun c26 => ?_) (fun c26 => ?_)
    · have h := h.2 c26
      refine z_aload_n C dX6_readOne_100 (i := 0) rfl rfl ?_
      refine t_get C dX6_readOne_101 fl_X6_21 (k := 13) (i := 0) (by decide) rfl (fg_13_6 _ _ _) ?_
      refine t_callS C (rest := []) (c2 := 0) (s2 := 0) [.ref (201 + 256 * (zgP st 13 0 6))] dX6_readOne_104 lk_X6_208 ls_X6_measureOf (c_X6_measureOf hfl h) rfl rfl ⟨Nat.le_of_ble_eq_true rfl, Nat.le_of_ble_eq_true rfl⟩ (Nat.le_of_ble_eq_true rfl) ⟨Nat.le_of_ble_eq_true rfl, Nat.le_of_ble_eq_true rfl, Nat.le_of_ble_eq_true rfl, Nat.le_of_ble_eq_true rfl⟩ (k_Ri fun r104 h => ?_)
      refine z_istore_n C dX6_readOne_107 (i := 3) (lc' := [some (.ref 13), some (.int (a1)), some (.int (b0)), some (.int (r104)), none]) rfl (by decide) rfl ?_
      refine z_iload_n C dX6_readOne_108 (i := 3) rfl rfl ?_
      refine z_iconst C dX6_readOne_109 (v := (-1)) (by decide) ?_
      refine z_icmp_ne C dX6_readOne_110 (tgt := 119) (by decide) (fun c110 => ?_) (fun c110 => ?_)
      · have h := h.2 c110
        refine z_aload_n C dX6_readOne_119 (i := 0) rfl rfl ?_
        refine t_callV C (rest := []) (c2 := 0) (s2 := 0) (kd := 13) (i := 0) [] dX6_readOne_120 lk_X6_61 li_X6_advance le_X6_advance (c_X6_advance hfl h) rfl rfl (by decide) rfl ⟨_, rfl⟩ rfl ⟨Nat.le_of_ble_eq_true rfl, Nat.le_of_ble_eq_true rfl⟩ (Nat.le_of_ble_eq_true rfl) ⟨Nat.le_of_ble_eq_true rfl, Nat.le_of_ble_eq_true rfl, Nat.le_of_ble_eq_true rfl, Nat.le_of_ble_eq_true rfl⟩ (k_Wv fun s120 h => ?_)
        refine z_aload_n C dX6_readOne_123 (i := 0) rfl rfl ?_
        refine t_get C dX6_readOne_124 fl_X6_28 (k := 13) (i := 0) (by decide) rfl (fg_13_8 _ _ _) ?_
        refine z_bipush C dX6_readOne_127 (v := 62) (by decide) ?_
        refine z_icmp_ne C dX6_readOne_129 (tgt := 136) (by decide) (fun c129 => ?_) (fun c129 => ?_)
        · have h := h.2 c129
          refine z_iconst C dX6_readOne_136 (v := 0) (by decide) ?_
          exact t_drop [true, false, false, true, false] rfl (j_X6_readOne_L6_137 hfl C hr hn9  s120 r104 (0) h)
        · have h := h.1 c129
          refine z_iconst C dX6_readOne_132 (v := 1) (by decide) ?_
          refine z_goto C dX6_readOne_133 (tgt := 137) (by decide) ?_
          exact t_drop [true, false, false, true, false] rfl (j_X6_readOne_L6_137 hfl C hr hn9  s120 r104 (1) h)
      · have h := h.1 c110
        refine z_aload_n C dX6_readOne_113 (i := 0) rfl rfl ?_
        refine z_iconst C dX6_readOne_114 (v := 1) (by decide) ?_
        refine t_callV C (rest := []) (c2 := 0) (s2 := 0) (kd := 13) (i := 0) [.int (1)] dX6_readOne_115 lk_X6_79 li_X6_fail le_X6_fail (c_X6_fail hfl h) rfl rfl (by decide) rfl ⟨_, rfl⟩ rfl ⟨Nat.le_of_ble_eq_true rfl, Nat.le_of_ble_eq_true rfl⟩ (Nat.le_of_ble_eq_true rfl) ⟨Nat.le_of_ble_eq_true rfl, Nat.le_of_ble_eq_true rfl, Nat.le_of_ble_eq_true rfl, Nat.le_of_ble_eq_true rfl⟩ (k_Wi fun r115 s115 h => ?_)
        obtain ⟨g118, h⟩ := h
        exact z_iret C dX6_readOne_118 hr (zn_bool g118) ⟨_, _, rfl, rfl, h⟩ (Nat.le_of_ble_eq_true rfl) (Nat.le_of_ble_eq_true rfl)
    · have h := h.1 c26
      exact t_drop [true, true, true, false, false] rfl (j_X6_readOne_L6_29 hfl C hr hn9  st a1 b0 h)
def w_X6_readOne_L6 (st : zTs) (a1 : Int32) (P : Int32 → zTs → Prop) : Prop := (zgP st 13 0 6 < 24) ∧ ((((zgP st 13 0 6) : Nat) = 20 → w_X6_readOne_L6_15 P st a1 (1)) ∧ (¬ ((zgP st 13 0 6) : Nat) = 20 → w_X6_readOne_L6_15 P st a1 (0)))
set_option maxHeartbeats 4000000 in
set_option maxRecDepth 100000 in
theorem c_X6_readOne_L6 {Z : zZ} {l : Launch} (hfl : l.stackTraces = false) {st : zTs} {a1 : Int32} {P : Int32 → zTs → Prop} (h : w_X6_readOne_L6 st a1 P) : zN Z l yX6_readOne cX6_readOne 5 (some .boolean) ({ frames := 20, cells := 0, slots := 0, locals := 444 } : Room) (zh Z zm1 st) [.ref 13, .int (a1)] (zWi Z P) := by
  unfold w_X6_readOne_L6 at h
  refine z_enterN (by decide) (Nat.le_of_ble_eq_true rfl) (lc0 := [some (.ref 13), some (.int (a1)), none, none, none]) rfl ?_
  intro p e s m args below meth c ad0 C hr _
  have hn9 : True := trivial
  replace C : zC Z p s m args meth c cX6_readOne 5 RX6 := C
  refine z_aload_n C dX6_readOne_0 (i := 0) rfl rfl ?_
  refine t_get C dX6_readOne_1 fl_X6_21 (k := 13) (i := 0) (by decide) rfl (fg_13_6 _ _ _) ?_
  refine z_gets C dX6_readOne_4 (q := 201 + 256 * 20) (by decide) gl_X6_205 (fun z => (z.2.2.2.1.1.1 20 (by decide)).1) ?_
  obtain ⟨g7a, h⟩ := h
  refine z_acmpW_ne C dX6_readOne_7 (i := (zgP st 13 0 6)) (j := 20) (tgt := 14) (by decide) g7a (by decide) (fun c7 => ?_) (fun c7 => ?_)
  · have h := h.2 c7
    refine z_iconst C dX6_readOne_14 (v := 0) (by decide) ?_
    exact t_drop [true, true, false, false, false] rfl (j_X6_readOne_L6_15 hfl C hr hn9  st a1 (0) h)
  · have h := h.1 c7
    refine z_iconst C dX6_readOne_10 (v := 1) (by decide) ?_
    refine z_goto C dX6_readOne_11 (tgt := 15) (by decide) ?_
    exact t_drop [true, true, false, false, false] rfl (j_X6_readOne_L6_15 hfl C hr hn9  st a1 (1) h)
def w_X6_readAllOf_L6_56 (P : Int32 → zTs → Prop) (K8 : zTs → Int32 → Int32 → Int32 → Prop) (st : zTs) (a1 : Int32) (a3 : Int32) (b0 : Int32) : Prop := ∀ x57 : Int32, x57 = a3 + 1 → (K8 st a1 b0 x57)
set_option maxHeartbeats 4000000 in
set_option maxRecDepth 100000 in
theorem j_X6_readAllOf_L6_56 {P : Int32 → zTs → Prop} {K8 : zTs → Int32 → Int32 → Int32 → Prop} (hfl : l.stackTraces = false) (C : zC Z p s m args meth c cX6_readAllOf 4 RX6) (hr : meth.sig.returnType = (some .boolean)) (hn9 : True) (hK8 : ∀ (st : zTs) (a1 : Int32) (a2 : Int32) (a3 : Int32), K8 st a1 a2 a3 → zG Z ad0 h0 p l e ({ frames := 21, cells := 0, slots := 0, locals := 468 } : Room) s m args below meth c (MQ below (zQ Z ad0 h0 (zWi Z P)) args s 0 0 (zA Z)) 0 0 (zh Z zm1 st) 4 8 [some (.ref 13), some (.int (a1)), some (.int (a2)), some (.int (a3))] []) (st : zTs) (a1 : Int32) (a3 : Int32) (b0 : Int32) (h : w_X6_readAllOf_L6_56 P K8 st a1 a3 b0) : zG Z ad0 h0 p l e ({ frames := 21, cells := 0, slots := 0, locals := 468 } : Room) s m args below meth c (MQ below (zQ Z ad0 h0 (zWi Z P)) args s 0 0 (zA Z)) 0 0 (zh Z zm1 st) 4 56 [some (.ref 13), some (.int (a1)), none, some (.int (a3))] [.int (b0)] := by
  unfold w_X6_readAllOf_L6_56 at h
  refine z_istore_n C dX6_readAllOf_56 (i := 2) (lc' := [some (.ref 13), some (.int (a1)), some (.int (b0)), some (.int (a3))]) rfl (by decide) rfl ?_
  obtain ⟨x57, ex57⟩ : ∃ z : Int32, z = a3 + 1 := ⟨_, rfl⟩
  have h := h x57 ex57
  refine z_iinc C dX6_readAllOf_57 (v := x57) (lc' := [some (.ref 13), some (.int (a1)), some (.int (b0)), some (.int (x57))]) rfl (by decide) (by rw [ex57]; rfl) rfl ?_
  refine z_goto C dX6_readAllOf_60 (tgt := 8) (by decide) ?_
  exact t_drop [true, true, true, true] rfl (hK8 st a1 b0 x57 h)
def w_X6_readAllOf_L6_55 (P : Int32 → zTs → Prop) (K8 : zTs → Int32 → Int32 → Int32 → Prop) (st : zTs) (a1 : Int32) (a3 : Int32) : Prop := w_X6_readAllOf_L6_56 P K8 st a1 a3 (0)
set_option maxHeartbeats 4000000 in
set_option maxRecDepth 100000 in
theorem j_X6_readAllOf_L6_55 {P : Int32 → zTs → Prop} {K8 : zTs → Int32 → Int32 → Int32 → Prop} (hfl : l.stackTraces = false) (C : zC Z p s m args meth c cX6_readAllOf 4 RX6) (hr : meth.sig.returnType = (some .boolean)) (hn9 : True) (hK8 : ∀ (st : zTs) (a1 : Int32) (a2 : Int32) (a3 : Int32), K8 st a1 a2 a3 → zG Z ad0 h0 p l e ({ frames := 21, cells := 0, slots := 0, locals := 468 } : Room) s m args below meth c (MQ below (zQ Z ad0 h0 (zWi Z P)) args s 0 0 (zA Z)) 0 0 (zh Z zm1 st) 4 8 [some (.ref 13), some (.int (a1)), some (.int (a2)), some (.int (a3))] []) (st : zTs) (a1 : Int32) (a3 : Int32) (h : w_X6_readAllOf_L6_55 P K8 st a1 a3) : zG Z ad0 h0 p l e ({ frames := 21, cells := 0, slots := 0, locals := 468 } : Room) s m args below meth c (MQ below (zQ Z ad0 h0 (zWi Z P)) args s 0 0 (zA Z)) 0 0 (zh Z zm1 st) 4 55 [some (.ref 13), some (.int (a1)), none, some (.int (a3))] [] := by
  unfold w_X6_readAllOf_L6_55 at h
  refine z_iconst C dX6_readAllOf_55 (v := 0) (by decide) ?_
  exact t_drop [true, true, false, true] rfl (j_X6_readAllOf_L6_56 hfl C hr hn9 hK8 st a1 a3 (0) h)
def w_X6_readAllOf_L6_8 (P : Int32 → zTs → Prop)  : Nat → zTs → Int32 → Int32 → Int32 → Prop
  | 0, _, _, _, _ => False
  | n9 + 1, st, a1, a2, a3 => ((zgF st 13 0 3) ≤ a3 → (a2 = 0 ∨ a2 = 1) ∧ (P a2 st)) ∧ (¬ (zgF st 13 0 3) ≤ a3 → (a2 = 0 → (a2 = 0 ∨ a2 = 1) ∧ (P a2 st)) ∧ (¬ a2 = 0 → (zgP st 13 0 6 < 24) ∧ ((((zgP st 13 0 6) : Nat) = 19 → w_X6_advance st (fun (s31 : zTs) => (w_X6_readOne_L6 s31 a1 (fun (r36 : Int32) (s36 : zTs) => ((r36 = 0 → w_X6_readAllOf_L6_55 P (w_X6_readAllOf_L6_8 P n9) s36 a1 a3) ∧ (¬ r36 = 0 → w_X6_addStep s36 (-2) (fun (r45 : Int32) (s45 : zTs) => ((r45 = 0 → w_X6_readAllOf_L6_55 P (w_X6_readAllOf_L6_8 P n9) s45 a1 a3) ∧ (¬ r45 = 0 → w_X6_readAllOf_L6_56 P (w_X6_readAllOf_L6_8 P n9) s45 a1 a3 (1)))))))))) ∧ (¬ ((zgP st 13 0 6) : Nat) = 19 → (a2 = 0 ∨ a2 = 1) ∧ (P a2 st)))))
set_option maxHeartbeats 4000000 in
set_option maxRecDepth 100000 in
theorem j_X6_readAllOf_L6_8 {P : Int32 → zTs → Prop}  (hfl : l.stackTraces = false) (C : zC Z p s m args meth c cX6_readAllOf 4 RX6) (hr : meth.sig.returnType = (some .boolean)) (hn9 : True)  : ∀ (n9 : Nat) (st : zTs) (a1 : Int32) (a2 : Int32) (a3 : Int32), w_X6_readAllOf_L6_8 P n9 st a1 a2 a3 → zG Z ad0 h0 p l e ({ frames := 21, cells := 0, slots := 0, locals := 468 } : Room) s m args below meth c (MQ below (zQ Z ad0 h0 (zWi Z P)) args s 0 0 (zA Z)) 0 0 (zh Z zm1 st) 4 8 [some (.ref 13), some (.int (a1)), some (.int (a2)), some (.int (a3))] [] := by
  intro n9
  induction n9 with
  | zero => intro st a1 a2 a3 h; exact h.elim
  | succ n9 hK8 =>
    intro st a1 a2 a3 h
    rw [w_X6_readAllOf_L6_8] at h
    refine z_iload_n C dX6_readAllOf_8 (i := 3) rfl rfl ?_
    refine z_aload_n C dX6_readAllOf_9 (i := 0) rfl rfl ?_
    refine t_get C dX6_readAllOf_10 fl_X6_55 (k := 13) (i := 0) (by decide) rfl (fg_13_3 _ _ _) ?_
    refine z_icmp_ge C dX6_readAllOf_13 (tgt := 63) (by decide) (fun c13 => ?_) (fun c13 => ?_)
    · have h := h.1 c13
      refine z_iload_n C dX6_readAllOf_63 (i := 2) rfl rfl ?_
      obtain ⟨g64, h⟩ := h
      exact z_iret C dX6_readAllOf_64 hr (zn_bool g64) ⟨_, _, rfl, rfl, h⟩ (Nat.le_of_ble_eq_true rfl) (Nat.le_of_ble_eq_true rfl)
    · have h := h.2 c13
      refine z_iload_n C dX6_readAllOf_16 (i := 2) rfl rfl ?_
      refine z_if_eq C dX6_readAllOf_17 (tgt := 63) (by decide) (fun c17 => ?_) (fun c17 => ?_)
      · have h := h.1 c17
        refine z_iload_n C dX6_readAllOf_63 (i := 2) rfl rfl ?_
        obtain ⟨g64, h⟩ := h
        exact z_iret C dX6_readAllOf_64 hr (zn_bool g64) ⟨_, _, rfl, rfl, h⟩ (Nat.le_of_ble_eq_true rfl) (Nat.le_of_ble_eq_true rfl)
      · have h := h.2 c17
        refine z_aload_n C dX6_readAllOf_20 (i := 0) rfl rfl ?_
        refine t_get C dX6_readAllOf_21 fl_X6_21 (k := 13) (i := 0) (by decide) rfl (fg_13_6 _ _ _) ?_
        refine z_gets C dX6_readAllOf_24 (q := 201 + 256 * 19) (by decide) gl_X6_202 (fun z => (z.2.2.2.1.1.1 19 (by decide)).1) ?_
        obtain ⟨g27a, h⟩ := h
        refine z_acmpW_ne C dX6_readAllOf_27 (i := (zgP st 13 0 6)) (j := 19) (tgt := 63) (by decide) g27a (by decide) (fun c27 => ?_) (fun c27 => ?_)
        · have h := h.2 c27
          refine z_iload_n C dX6_readAllOf_63 (i := 2) rfl rfl ?_
          obtain ⟨g64, h⟩ := h
          exact z_iret C dX6_readAllOf_64 hr (zn_bool g64) ⟨_, _, rfl, rfl, h⟩ (Nat.le_of_ble_eq_true rfl) (Nat.le_of_ble_eq_true rfl)
        · have h := h.1 c27
          refine z_aload_n C dX6_readAllOf_30 (i := 0) rfl rfl ?_
          refine t_callV C (rest := []) (c2 := 0) (s2 := 0) (kd := 13) (i := 0) [] dX6_readAllOf_31 lk_X6_61 li_X6_advance le_X6_advance (c_X6_advance hfl h) rfl rfl (by decide) rfl ⟨_, rfl⟩ rfl ⟨Nat.le_of_ble_eq_true rfl, Nat.le_of_ble_eq_true rfl⟩ (Nat.le_of_ble_eq_true rfl) ⟨Nat.le_of_ble_eq_true rfl, Nat.le_of_ble_eq_true rfl, Nat.le_of_ble_eq_true rfl, Nat.le_of_ble_eq_true rfl⟩ (k_Wv fun s31 h => ?_)
          refine z_aload_n C dX6_readAllOf_34 (i := 0) rfl rfl ?_
          refine z_iload_n C dX6_readAllOf_35 (i := 1) rfl rfl ?_
          refine t_callV C (rest := []) (c2 := 0) (s2 := 0) (kd := 13) (i := 0) [.int (a1)] dX6_readAllOf_36 lk_X6_199 li_X6_readOne le_X6_readOne (c_X6_readOne_L6 hfl h) rfl rfl (by decide) rfl ⟨_, rfl⟩ rfl ⟨Nat.le_of_ble_eq_true rfl, Nat.le_of_ble_eq_true rfl⟩ (Nat.le_of_ble_eq_true rfl) ⟨Nat.le_of_ble_eq_true rfl, Nat.le_of_ble_eq_true rfl, Nat.le_of_ble_eq_true rfl, Nat.le_of_ble_eq_true rfl⟩ (k_Wi fun r36 s36 h => ?_)
          refine z_if_eq C dX6_readAllOf_39 (tgt := 55) (by decide) (fun c39 => ?_) (fun c39 => ?_)
          · have h := h.1 c39
            exact t_drop [true, true, false, true] rfl (j_X6_readAllOf_L6_55 hfl C hr hn9 hK8 s36 a1 a3 h)
          · have h := h.2 c39
            refine z_aload_n C dX6_readAllOf_42 (i := 0) rfl rfl ?_
            refine z_bipush C dX6_readAllOf_43 (v := (-2)) (by decide) ?_
            refine t_callV C (rest := []) (c2 := 0) (s2 := 0) (kd := 13) (i := 0) [.int (-2)] dX6_readAllOf_45 lk_X6_196 li_X6_addStep le_X6_addStep (c_X6_addStep hfl h) rfl rfl (by decide) rfl ⟨_, rfl⟩ rfl ⟨Nat.le_of_ble_eq_true rfl, Nat.le_of_ble_eq_true rfl⟩ (Nat.le_of_ble_eq_true rfl) ⟨Nat.le_of_ble_eq_true rfl, Nat.le_of_ble_eq_true rfl, Nat.le_of_ble_eq_true rfl, Nat.le_of_ble_eq_true rfl⟩ (k_Wi fun r45 s45 h => ?_)
            refine z_if_eq C dX6_readAllOf_48 (tgt := 55) (by decide) (fun c48 => ?_) (fun c48 => ?_)
            · have h := h.1 c48
              exact t_drop [true, true, false, true] rfl (j_X6_readAllOf_L6_55 hfl C hr hn9 hK8 s45 a1 a3 h)
            · have h := h.2 c48
              refine z_iconst C dX6_readAllOf_51 (v := 1) (by decide) ?_
              refine z_goto C dX6_readAllOf_52 (tgt := 56) (by decide) ?_
              exact t_drop [true, true, false, true] rfl (j_X6_readAllOf_L6_56 hfl C hr hn9 hK8 s45 a1 a3 (1) h)
def w_X6_readAllOf_L6 (st : zTs) (a1 : Int32) (P : Int32 → zTs → Prop) : Prop := w_X6_readOne_L6 st a1 (fun (r2 : Int32) (s2 : zTs) => (w_X6_readAllOf_L6_8 P zfu s2 a1 r2 (0)))
set_option maxHeartbeats 4000000 in
set_option maxRecDepth 100000 in
theorem c_X6_readAllOf_L6 {Z : zZ} {l : Launch} (hfl : l.stackTraces = false) {st : zTs} {a1 : Int32} {P : Int32 → zTs → Prop} (h : w_X6_readAllOf_L6 st a1 P) : zN Z l yX6_readAllOf cX6_readAllOf 4 (some .boolean) ({ frames := 21, cells := 0, slots := 0, locals := 468 } : Room) (zh Z zm1 st) [.ref 13, .int (a1)] (zWi Z P) := by
  unfold w_X6_readAllOf_L6 at h
  refine z_enterN (by decide) (Nat.le_of_ble_eq_true rfl) (lc0 := [some (.ref 13), some (.int (a1)), none, none]) rfl ?_
  intro p e s m args below meth c ad0 C hr _
  have hn9 : True := trivial
  replace C : zC Z p s m args meth c cX6_readAllOf 4 RX6 := C
  refine z_aload_n C dX6_readAllOf_0 (i := 0) rfl rfl ?_
  refine z_iload_n C dX6_readAllOf_1 (i := 1) rfl rfl ?_
  refine t_callV C (rest := []) (c2 := 0) (s2 := 0) (kd := 13) (i := 0) [.int (a1)] dX6_readAllOf_2 lk_X6_199 li_X6_readOne le_X6_readOne (c_X6_readOne_L6 hfl h) rfl rfl (by decide) rfl ⟨_, rfl⟩ rfl ⟨Nat.le_of_ble_eq_true rfl, Nat.le_of_ble_eq_true rfl⟩ (Nat.le_of_ble_eq_true rfl) ⟨Nat.le_of_ble_eq_true rfl, Nat.le_of_ble_eq_true rfl, Nat.le_of_ble_eq_true rfl, Nat.le_of_ble_eq_true rfl⟩ (k_Wi fun r2 s2 h => ?_)
  refine z_istore_n C dX6_readAllOf_5 (i := 2) (lc' := [some (.ref 13), some (.int (a1)), some (.int (r2)), none]) rfl (by decide) rfl ?_
  refine z_iconst C dX6_readAllOf_6 (v := 0) (by decide) ?_
  refine z_istore_n C dX6_readAllOf_7 (i := 3) (lc' := [some (.ref 13), some (.int (a1)), some (.int (r2)), some (.int (0))]) rfl (by decide) rfl ?_
  exact t_drop [true, true, true, true] rfl (j_X6_readAllOf_L6_8 hfl C hr hn9  zfu s2 a1 r2 (0) h)
def w_X6_readAnyOf_L6_56 (P : Int32 → zTs → Prop) (K8 : zTs → Int32 → Int32 → Int32 → Prop) (st : zTs) (a1 : Int32) (a3 : Int32) (b0 : Int32) : Prop := ∀ x57 : Int32, x57 = a3 + 1 → (K8 st a1 b0 x57)
set_option maxHeartbeats 4000000 in
set_option maxRecDepth 100000 in
theorem j_X6_readAnyOf_L6_56 {P : Int32 → zTs → Prop} {K8 : zTs → Int32 → Int32 → Int32 → Prop} (hfl : l.stackTraces = false) (C : zC Z p s m args meth c cX6_readAnyOf 4 RX6) (hr : meth.sig.returnType = (some .boolean)) (hn9 : True) (hK8 : ∀ (st : zTs) (a1 : Int32) (a2 : Int32) (a3 : Int32), K8 st a1 a2 a3 → zG Z ad0 h0 p l e ({ frames := 22, cells := 0, slots := 0, locals := 491 } : Room) s m args below meth c (MQ below (zQ Z ad0 h0 (zWi Z P)) args s 0 0 (zA Z)) 0 0 (zh Z zm1 st) 4 8 [some (.ref 13), some (.int (a1)), some (.int (a2)), some (.int (a3))] []) (st : zTs) (a1 : Int32) (a3 : Int32) (b0 : Int32) (h : w_X6_readAnyOf_L6_56 P K8 st a1 a3 b0) : zG Z ad0 h0 p l e ({ frames := 22, cells := 0, slots := 0, locals := 491 } : Room) s m args below meth c (MQ below (zQ Z ad0 h0 (zWi Z P)) args s 0 0 (zA Z)) 0 0 (zh Z zm1 st) 4 56 [some (.ref 13), some (.int (a1)), none, some (.int (a3))] [.int (b0)] := by
  unfold w_X6_readAnyOf_L6_56 at h
  refine z_istore_n C dX6_readAnyOf_56 (i := 2) (lc' := [some (.ref 13), some (.int (a1)), some (.int (b0)), some (.int (a3))]) rfl (by decide) rfl ?_
  obtain ⟨x57, ex57⟩ : ∃ z : Int32, z = a3 + 1 := ⟨_, rfl⟩
  have h := h x57 ex57
  refine z_iinc C dX6_readAnyOf_57 (v := x57) (lc' := [some (.ref 13), some (.int (a1)), some (.int (b0)), some (.int (x57))]) rfl (by decide) (by rw [ex57]; rfl) rfl ?_
  refine z_goto C dX6_readAnyOf_60 (tgt := 8) (by decide) ?_
  exact t_drop [true, true, true, true] rfl (hK8 st a1 b0 x57 h)
def w_X6_readAnyOf_L6_55 (P : Int32 → zTs → Prop) (K8 : zTs → Int32 → Int32 → Int32 → Prop) (st : zTs) (a1 : Int32) (a3 : Int32) : Prop := w_X6_readAnyOf_L6_56 P K8 st a1 a3 (0)
set_option maxHeartbeats 4000000 in
set_option maxRecDepth 100000 in
theorem j_X6_readAnyOf_L6_55 {P : Int32 → zTs → Prop} {K8 : zTs → Int32 → Int32 → Int32 → Prop} (hfl : l.stackTraces = false) (C : zC Z p s m args meth c cX6_readAnyOf 4 RX6) (hr : meth.sig.returnType = (some .boolean)) (hn9 : True) (hK8 : ∀ (st : zTs) (a1 : Int32) (a2 : Int32) (a3 : Int32), K8 st a1 a2 a3 → zG Z ad0 h0 p l e ({ frames := 22, cells := 0, slots := 0, locals := 491 } : Room) s m args below meth c (MQ below (zQ Z ad0 h0 (zWi Z P)) args s 0 0 (zA Z)) 0 0 (zh Z zm1 st) 4 8 [some (.ref 13), some (.int (a1)), some (.int (a2)), some (.int (a3))] []) (st : zTs) (a1 : Int32) (a3 : Int32) (h : w_X6_readAnyOf_L6_55 P K8 st a1 a3) : zG Z ad0 h0 p l e ({ frames := 22, cells := 0, slots := 0, locals := 491 } : Room) s m args below meth c (MQ below (zQ Z ad0 h0 (zWi Z P)) args s 0 0 (zA Z)) 0 0 (zh Z zm1 st) 4 55 [some (.ref 13), some (.int (a1)), none, some (.int (a3))] [] := by
  unfold w_X6_readAnyOf_L6_55 at h
  refine z_iconst C dX6_readAnyOf_55 (v := 0) (by decide) ?_
  exact t_drop [true, true, false, true] rfl (j_X6_readAnyOf_L6_56 hfl C hr hn9 hK8 st a1 a3 (0) h)
def w_X6_readAnyOf_L6_8 (P : Int32 → zTs → Prop)  : Nat → zTs → Int32 → Int32 → Int32 → Prop
  | 0, _, _, _, _ => False
  | n9 + 1, st, a1, a2, a3 => ((zgF st 13 0 3) ≤ a3 → (a2 = 0 ∨ a2 = 1) ∧ (P a2 st)) ∧ (¬ (zgF st 13 0 3) ≤ a3 → (a2 = 0 → (a2 = 0 ∨ a2 = 1) ∧ (P a2 st)) ∧ (¬ a2 = 0 → (zgP st 13 0 6 < 24) ∧ ((((zgP st 13 0 6) : Nat) = 18 → w_X6_advance st (fun (s31 : zTs) => (w_X6_readAllOf_L6 s31 a1 (fun (r36 : Int32) (s36 : zTs) => ((r36 = 0 → w_X6_readAnyOf_L6_55 P (w_X6_readAnyOf_L6_8 P n9) s36 a1 a3) ∧ (¬ r36 = 0 → w_X6_addStep s36 (-3) (fun (r45 : Int32) (s45 : zTs) => ((r45 = 0 → w_X6_readAnyOf_L6_55 P (w_X6_readAnyOf_L6_8 P n9) s45 a1 a3) ∧ (¬ r45 = 0 → w_X6_readAnyOf_L6_56 P (w_X6_readAnyOf_L6_8 P n9) s45 a1 a3 (1)))))))))) ∧ (¬ ((zgP st 13 0 6) : Nat) = 18 → (a2 = 0 ∨ a2 = 1) ∧ (P a2 st)))))
set_option maxHeartbeats 4000000 in
set_option maxRecDepth 100000 in
theorem j_X6_readAnyOf_L6_8 {P : Int32 → zTs → Prop}  (hfl : l.stackTraces = false) (C : zC Z p s m args meth c cX6_readAnyOf 4 RX6) (hr : meth.sig.returnType = (some .boolean)) (hn9 : True)  : ∀ (n9 : Nat) (st : zTs) (a1 : Int32) (a2 : Int32) (a3 : Int32), w_X6_readAnyOf_L6_8 P n9 st a1 a2 a3 → zG Z ad0 h0 p l e ({ frames := 22, cells := 0, slots := 0, locals := 491 } : Room) s m args below meth c (MQ below (zQ Z ad0 h0 (zWi Z P)) args s 0 0 (zA Z)) 0 0 (zh Z zm1 st) 4 8 [some (.ref 13), some (.int (a1)), some (.int (a2)), some (.int (a3))] [] := by
  intro n9
  induction n9 with
  | zero => intro st a1 a2 a3 h; exact h.elim
  | succ n9 hK8 =>
    intro st a1 a2 a3 h
    rw [w_X6_readAnyOf_L6_8] at h
    refine z_iload_n C dX6_readAnyOf_8 (i := 3) rfl rfl ?_
    refine z_aload_n C dX6_readAnyOf_9 (i := 0) rfl rfl ?_
    refine t_get C dX6_readAnyOf_10 fl_X6_55 (k := 13) (i := 0) (by decide) rfl (fg_13_3 _ _ _) ?_
    refine z_icmp_ge C dX6_readAnyOf_13 (tgt := 63) (by decide) (fun c13 => ?_) (fun c13 => ?_)
    · have h := h.1 c13
      refine z_iload_n C dX6_readAnyOf_63 (i := 2) rfl rfl ?_
      obtain ⟨g64, h⟩ := h
      exact z_iret C dX6_readAnyOf_64 hr (zn_bool g64) ⟨_, _, rfl, rfl, h⟩ (Nat.le_of_ble_eq_true rfl) (Nat.le_of_ble_eq_true rfl)
    · have h := h.2 c13
      refine z_iload_n C dX6_readAnyOf_16 (i := 2) rfl rfl ?_
      refine z_if_eq C dX6_readAnyOf_17 (tgt := 63) (by decide) (fun c17 => ?_) (fun c17 => ?_)
      · have h := h.1 c17
        refine z_iload_n C dX6_readAnyOf_63 (i := 2) rfl rfl ?_
        obtain ⟨g64, h⟩ := h
        exact z_iret C dX6_readAnyOf_64 hr (zn_bool g64) ⟨_, _, rfl, rfl, h⟩ (Nat.le_of_ble_eq_true rfl) (Nat.le_of_ble_eq_true rfl)
      · have h := h.2 c17
        refine z_aload_n C dX6_readAnyOf_20 (i := 0) rfl rfl ?_
        refine t_get C dX6_readAnyOf_21 fl_X6_21 (k := 13) (i := 0) (by decide) rfl (fg_13_6 _ _ _) ?_
        refine z_gets C dX6_readAnyOf_24 (q := 201 + 256 * 18) (by decide) gl_X6_193 (fun z => (z.2.2.2.1.1.1 18 (by decide)).1) ?_
        obtain ⟨g27a, h⟩ := h
        refine z_acmpW_ne C dX6_readAnyOf_27 (i := (zgP st 13 0 6)) (j := 18) (tgt := 63) (by decide) g27a (by decide) (fun c27 => ?_) (fun c27 => ?_)
        · have h := h.2 c27
          refine z_iload_n C dX6_readAnyOf_63 (i := 2) rfl rfl ?_
          obtain ⟨g64, h⟩ := h
          exact z_iret C dX6_readAnyOf_64 hr (zn_bool g64) ⟨_, _, rfl, rfl, h⟩ (Nat.le_of_ble_eq_true rfl) (Nat.le_of_ble_eq_true rfl)
        · have h := h.1 c27
          refine z_aload_n C dX6_readAnyOf_30 (i := 0) rfl rfl ?_
          refine t_callV C (rest := []) (c2 := 0) (s2 := 0) (kd := 13) (i := 0) [] dX6_readAnyOf_31 lk_X6_61 li_X6_advance le_X6_advance (c_X6_advance hfl h) rfl rfl (by decide) rfl ⟨_, rfl⟩ rfl ⟨Nat.le_of_ble_eq_true rfl, Nat.le_of_ble_eq_true rfl⟩ (Nat.le_of_ble_eq_true rfl) ⟨Nat.le_of_ble_eq_true rfl, Nat.le_of_ble_eq_true rfl, Nat.le_of_ble_eq_true rfl, Nat.le_of_ble_eq_true rfl⟩ (k_Wv fun s31 h => ?_)
          refine z_aload_n C dX6_readAnyOf_34 (i := 0) rfl rfl ?_
          refine z_iload_n C dX6_readAnyOf_35 (i := 1) rfl rfl ?_
          refine t_callV C (rest := []) (c2 := 0) (s2 := 0) (kd := 13) (i := 0) [.int (a1)] dX6_readAnyOf_36 lk_X6_190 li_X6_readAllOf le_X6_readAllOf (c_X6_readAllOf_L6 hfl h) rfl rfl (by decide) rfl ⟨_, rfl⟩ rfl ⟨Nat.le_of_ble_eq_true rfl, Nat.le_of_ble_eq_true rfl⟩ (Nat.le_of_ble_eq_true rfl) ⟨Nat.le_of_ble_eq_true rfl, Nat.le_of_ble_eq_true rfl, Nat.le_of_ble_eq_true rfl, Nat.le_of_ble_eq_true rfl⟩ (k_Wi fun r36 s36 h => ?_)
          refine z_if_eq C dX6_readAnyOf_39 (tgt := 55) (by decide) (fun c39 => ?_) (fun c39 => ?_)
          · have h := h.1 c39
            exact t_drop [true, true, false, true] rfl (j_X6_readAnyOf_L6_55 hfl C hr hn9 hK8 s36 a1 a3 h)
          · have h := h.2 c39
            refine z_aload_n C dX6_readAnyOf_42 (i := 0) rfl rfl ?_
            refine z_bipush C dX6_readAnyOf_43 (v := (-3)) (by decide) ?_
            refine t_callV C (rest := []) (c2 := 0) (s2 := 0) (kd := 13) (i := 0) [.int (-3)] dX6_readAnyOf_45 lk_X6_196 li_X6_addStep le_X6_addStep (c_X6_addStep hfl h) rfl rfl (by decide) rfl ⟨_, rfl⟩ rfl ⟨Nat.le_of_ble_eq_true rfl, Nat.le_of_ble_eq_true rfl⟩ (Nat.le_of_ble_eq_true rfl) ⟨Nat.le_of_ble_eq_true rfl, Nat.le_of_ble_eq_true rfl, Nat.le_of_ble_eq_true rfl, Nat.le_of_ble_eq_true rfl⟩ (k_Wi fun r45 s45 h => ?_)
            refine z_if_eq C dX6_readAnyOf_48 (tgt := 55) (by decide) (fun c48 => ?_) (fun c48 => ?_)
            · have h := h.1 c48
              exact t_drop [true, true, false, true] rfl (j_X6_readAnyOf_L6_55 hfl C hr hn9 hK8 s45 a1 a3 h)
            · have h := h.2 c48
              refine z_iconst C dX6_readAnyOf_51 (v := 1) (by decide) ?_
              refine z_goto C dX6_readAnyOf_52 (tgt := 56) (by decide) ?_
              exact t_drop [true, true, false, true] rfl (j_X6_readAnyOf_L6_56 hfl C hr hn9 hK8 s45 a1 a3 (1) h)
def w_X6_readAnyOf_L6 (st : zTs) (a1 : Int32) (P : Int32 → zTs → Prop) : Prop := w_X6_readAllOf_L6 st a1 (fun (r2 : Int32) (s2 : zTs) => (w_X6_readAnyOf_L6_8 P zfu s2 a1 r2 (0)))
set_option maxHeartbeats 4000000 in
set_option maxRecDepth 100000 in
theorem c_X6_readAnyOf_L6 {Z : zZ} {l : Launch} (hfl : l.stackTraces = false) {st : zTs} {a1 : Int32} {P : Int32 → zTs → Prop} (h : w_X6_readAnyOf_L6 st a1 P) : zN Z l yX6_readAnyOf cX6_readAnyOf 4 (some .boolean) ({ frames := 22, cells := 0, slots := 0, locals := 491 } : Room) (zh Z zm1 st) [.ref 13, .int (a1)] (zWi Z P) := by
  unfold w_X6_readAnyOf_L6 at h
  refine z_enterN (by decide) (Nat.le_of_ble_eq_true rfl) (lc0 := [some (.ref 13), some (.int (a1)), none, none]) rfl ?_
  intro p e s m args below meth c ad0 C hr _
  have hn9 : True := trivial
  replace C : zC Z p s m args meth c cX6_readAnyOf 4 RX6 := C
  refine z_aload_n C dX6_readAnyOf_0 (i := 0) rfl rfl ?_
  refine z_iload_n C dX6_readAnyOf_1 (i := 1) rfl rfl ?_
  refine t_callV C (rest := []) (c2 := 0) (s2 := 0) (kd := 13) (i := 0) [.int (a1)] dX6_readAnyOf_2 lk_X6_190 li_X6_readAllOf le_X6_readAllOf (c_X6_readAllOf_L6 hfl h) rfl rfl (by decide) rfl ⟨_, rfl⟩ rfl ⟨Nat.le_of_ble_eq_true rfl, Nat.le_of_ble_eq_true rfl⟩ (Nat.le_of_ble_eq_true rfl) ⟨Nat.le_of_ble_eq_true rfl, Nat.le_of_ble_eq_true rfl, Nat.le_of_ble_eq_true rfl, Nat.le_of_ble_eq_true rfl⟩ (k_Wi fun r2 s2 h => ?_)
  refine z_istore_n C dX6_readAnyOf_5 (i := 2) (lc' := [some (.ref 13), some (.int (a1)), some (.int (r2)), none]) rfl (by decide) rfl ?_
  refine z_iconst C dX6_readAnyOf_6 (v := 0) (by decide) ?_
  refine z_istore_n C dX6_readAnyOf_7 (i := 3) (lc' := [some (.ref 13), some (.int (a1)), some (.int (r2)), some (.int (0))]) rfl (by decide) rfl ?_
  exact t_drop [true, true, true, true] rfl (j_X6_readAnyOf_L6_8 hfl C hr hn9  zfu s2 a1 r2 (0) h)
def w_X6_readOne_L5_188 (P : Int32 → zTs → Prop)  (st : zTs) (b0 : Int32) (b1 : Int32) : Prop := w_X6_addStep st (((b1 + b0) * 10000) + (zgF st 13 0 9)) (fun (r198 : Int32) (s198 : zTs) => ((r198 = 0 → P 0 s198) ∧ (¬ r198 = 0 → P 1 s198)))
set_option maxHeartbeats 4000000 in
set_option maxRecDepth 100000 in
theorem j_X6_readOne_L5_188 {P : Int32 → zTs → Prop}  (hfl : l.stackTraces = false) (C : zC Z p s m args meth c cX6_readOne 5 RX6) (hr : meth.sig.returnType = (some .boolean)) (hn9 : True)  (st : zTs) (b0 : Int32) (b1 : Int32) (h : w_X6_readOne_L5_188 P st b0 b1) : zG Z ad0 h0 p l e ({ frames := 23, cells := 0, slots := 0, locals := 514 } : Room) s m args below meth c (MQ below (zQ Z ad0 h0 (zWi Z P)) args s 0 0 (zA Z)) 0 0 (zh Z zm1 st) 5 188 [some (.ref 13), none, none, none, none] [.int (b0), .int (b1), .ref 13] := by
  unfold w_X6_readOne_L5_188 at h
  refine z_iadd C dX6_readOne_188 ?_
  refine z_sipush C dX6_readOne_189 (v := 10000) (by decide) ?_
  refine z_imul C dX6_readOne_192 ?_
  refine z_aload_n C dX6_readOne_193 (i := 0) rfl rfl ?_
  refine t_get C dX6_readOne_194 fl_X6_83 (k := 13) (i := 0) (by decide) rfl (fg_13_9 _ _ _) ?_
  refine z_iadd C dX6_readOne_197 ?_
  refine t_callV C (rest := []) (c2 := 0) (s2 := 0) (kd := 13) (i := 0) [.int (((b1 + b0) * 10000) + (zgF st 13 0 9))] dX6_readOne_198 lk_X6_196 li_X6_addStep le_X6_addStep (c_X6_addStep hfl h) rfl rfl (by decide) rfl ⟨_, rfl⟩ rfl ⟨Nat.le_of_ble_eq_true rfl, Nat.le_of_ble_eq_true rfl⟩ (Nat.le_of_ble_eq_true rfl) ⟨Nat.le_of_ble_eq_true rfl, Nat.le_of_ble_eq_true rfl, Nat.le_of_ble_eq_true rfl, Nat.le_of_ble_eq_true rfl⟩ (k_Wi fun r198 s198 h => ?_)
  refine z_if_eq C dX6_readOne_201 (tgt := 208) (by decide) (fun c201 => ?_) (fun c201 => ?_)
  · have h := h.1 c201
    refine z_iconst C dX6_readOne_208 (v := 0) (by decide) ?_
    exact z_iret C dX6_readOne_209 hr rfl ⟨_, _, rfl, rfl, h⟩ (Nat.le_of_ble_eq_true rfl) (Nat.le_of_ble_eq_true rfl)
  · have h := h.2 c201
    refine z_iconst C dX6_readOne_204 (v := 1) (by decide) ?_
    refine z_goto C dX6_readOne_205 (tgt := 209) (by decide) ?_
    exact z_iret C dX6_readOne_209 hr rfl ⟨_, _, rfl, rfl, h⟩ (Nat.le_of_ble_eq_true rfl) (Nat.le_of_ble_eq_true rfl)
def w_X6_readOne_L5_159 (P : Int32 → zTs → Prop)  (st : zTs) (a3 : Int32) (a4 : Int32) : Prop := w_X6_advance st (fun (s160 : zTs) => (w_X6_takeNumber s160 0 9999 (fun (r168 : Int32) (s168 : zTs) => ((r168 = 0 → P 0 s168) ∧ (¬ r168 = 0 → (a4 = 0 → w_X6_readOne_L5_188 P s168 (0) (2 * a3)) ∧ (¬ a4 = 0 → w_X6_readOne_L5_188 P s168 (1) (2 * a3)))))))
set_option maxHeartbeats 4000000 in
set_option maxRecDepth 100000 in
theorem j_X6_readOne_L5_159 {P : Int32 → zTs → Prop}  (hfl : l.stackTraces = false) (C : zC Z p s m args meth c cX6_readOne 5 RX6) (hr : meth.sig.returnType = (some .boolean)) (hn9 : True)  (st : zTs) (a3 : Int32) (a4 : Int32) (h : w_X6_readOne_L5_159 P st a3 a4) : zG Z ad0 h0 p l e ({ frames := 23, cells := 0, slots := 0, locals := 514 } : Room) s m args below meth c (MQ below (zQ Z ad0 h0 (zWi Z P)) args s 0 0 (zA Z)) 0 0 (zh Z zm1 st) 5 159 [some (.ref 13), none, none, some (.int (a3)), some (.int (a4))] [] := by
  unfold w_X6_readOne_L5_159 at h
  refine z_aload_n C dX6_readOne_159 (i := 0) rfl rfl ?_
  refine t_callV C (rest := []) (c2 := 0) (s2 := 0) (kd := 13) (i := 0) [] dX6_readOne_160 lk_X6_61 li_X6_advance le_X6_advance (c_X6_advance hfl h) rfl rfl (by decide) rfl ⟨_, rfl⟩ rfl ⟨Nat.le_of_ble_eq_true rfl, Nat.le_of_ble_eq_true rfl⟩ (Nat.le_of_ble_eq_true rfl) ⟨Nat.le_of_ble_eq_true rfl, Nat.le_of_ble_eq_true rfl, Nat.le_of_ble_eq_true rfl, Nat.le_of_ble_eq_true rfl⟩ (k_Wv fun s160 h => ?_)
  refine z_aload_n C dX6_readOne_163 (i := 0) rfl rfl ?_
  refine z_iconst C dX6_readOne_164 (v := 0) (by decide) ?_
  refine z_sipush C dX6_readOne_165 (v := 9999) (by decide) ?_
  refine t_callV C (rest := []) (c2 := 0) (s2 := 0) (kd := 13) (i := 0) [.int (0), .int (9999)] dX6_readOne_168 lk_X6_125 li_X6_takeNumber le_X6_takeNumber (c_X6_takeNumber hfl h) rfl rfl (by decide) rfl ⟨_, rfl⟩ rfl ⟨Nat.le_of_ble_eq_true rfl, Nat.le_of_ble_eq_true rfl⟩ (Nat.le_of_ble_eq_true rfl) ⟨Nat.le_of_ble_eq_true rfl, Nat.le_of_ble_eq_true rfl, Nat.le_of_ble_eq_true rfl, Nat.le_of_ble_eq_true rfl⟩ (k_Wi fun r168 s168 h => ?_)
  refine z_if_eq C dX6_readOne_171 (tgt := 208) (by decide) (fun c171 => ?_) (fun c171 => ?_)
  · have h := h.1 c171
    refine z_iconst C dX6_readOne_208 (v := 0) (by decide) ?_
    exact z_iret C dX6_readOne_209 hr rfl ⟨_, _, rfl, rfl, h⟩ (Nat.le_of_ble_eq_true rfl) (Nat.le_of_ble_eq_true rfl)
  · have h := h.2 c171
    refine z_aload_n C dX6_readOne_174 (i := 0) rfl rfl ?_
    refine z_iconst C dX6_readOne_175 (v := 2) (by decide) ?_
    refine z_iload_n C dX6_readOne_176 (i := 3) rfl rfl ?_
    refine z_imul C dX6_readOne_177 ?_
    refine z_iload C dX6_readOne_178 rfl ?_
    refine z_if_eq C dX6_readOne_180 (tgt := 187) (by decide) (fun c180 => ?_) (fun c180 => ?_)
    · have h := h.1 c180
      refine z_iconst C dX6_readOne_187 (v := 0) (by decide) ?_
      exact t_drop [true, false, false, false, false] rfl (j_X6_readOne_L5_188 hfl C hr hn9  s168 (0) (2 * a3) h)
    · have h := h.2 c180
      refine z_iconst C dX6_readOne_183 (v := 1) (by decide) ?_
      refine z_goto C dX6_readOne_184 (tgt := 188) (by decide) ?_
      exact t_drop [true, false, false, false, false] rfl (j_X6_readOne_L5_188 hfl C hr hn9  s168 (1) (2 * a3) h)
def w_X6_readOne_L5_137 (P : Int32 → zTs → Prop)  (st : zTs) (a3 : Int32) (b0 : Int32) : Prop := (b0 = 0 → ((zgF st 13 0 8) = 60 → w_X6_readOne_L5_159 P st a3 b0) ∧ (¬ (zgF st 13 0 8) = 60 → w_X6_fail st 1 (fun (r155 : Int32) (s155 : zTs) => ((r155 = 0 ∨ r155 = 1) ∧ (P r155 s155))))) ∧ (¬ b0 = 0 → w_X6_readOne_L5_159 P st a3 b0)
set_option maxHeartbeats 4000000 in
set_option maxRecDepth 100000 in
theorem j_X6_readOne_L5_137 {P : Int32 → zTs → Prop}  (hfl : l.stackTraces = false) (C : zC Z p s m args meth c cX6_readOne 5 RX6) (hr : meth.sig.returnType = (some .boolean)) (hn9 : True)  (st : zTs) (a3 : Int32) (b0 : Int32) (h : w_X6_readOne_L5_137 P st a3 b0) : zG Z ad0 h0 p l e ({ frames := 23, cells := 0, slots := 0, locals := 514 } : Room) s m args below meth c (MQ below (zQ Z ad0 h0 (zWi Z P)) args s 0 0 (zA Z)) 0 0 (zh Z zm1 st) 5 137 [some (.ref 13), none, none, some (.int (a3)), none] [.int (b0)] := by
  unfold w_X6_readOne_L5_137 at h
  refine z_istore C dX6_readOne_137 (lc' := [some (.ref 13), none, none, some (.int (a3)), some (.int (b0))]) (by decide) rfl ?_
  refine z_iload C dX6_readOne_139 rfl ?_
  refine z_if_ne C dX6_readOne_141 (tgt := 159) (by decide) (fun c141 => ?_) (fun c141 => ?_)
  · have h := h.2 c141
    exact t_drop [true, false, false, true, true] rfl (j_X6_readOne_L5_159 hfl C hr hn9  st a3 b0 h)
  · have h := h.1 c141
    refine z_aload_n C dX6_readOne_144 (i := 0) rfl rfl ?_
    refine t_get C dX6_readOne_145 fl_X6_28 (k := 13) (i := 0) (by decide) rfl (fg_13_8 _ _ _) ?_
    refine z_bipush C dX6_readOne_148 (v := 60) (by decide) ?_
    refine z_icmp_eq C dX6_readOne_150 (tgt := 159) (by decide) (fun c150 => ?_) (fun c150 => ?_)
    · have h := h.1 c150
      exact t_drop [true, false, false, true, true] rfl (j_X6_readOne_L5_159 hfl C hr hn9  st a3 b0 h)
    · have h := h.2 c150
      refine z_aload_n C dX6_readOne_153 (i := 0) rfl rfl ?_
      refine z_iconst C dX6_readOne_154 (v := 1) (by decide) ?_
      refine t_callV C (rest := []) (c2 := 0) (s2 := 0) (kd := 13) (i := 0) [.int (1)] dX6_readOne_155 lk_X6_79 li_X6_fail le_X6_fail (c_X6_fail hfl h) rfl rfl (by decide) rfl ⟨_, rfl⟩ rfl ⟨Nat.le_of_ble_eq_true rfl, Nat.le_of_ble_eq_true rfl⟩ (Nat.le_of_ble_eq_true rfl) ⟨Nat.le_of_ble_eq_true rfl, Nat.le_of_ble_eq_true rfl, Nat.le_of_ble_eq_true rfl, Nat.le_of_ble_eq_true rfl⟩ (k_Wi fun r155 s155 h => ?_)
      obtain ⟨g158, h⟩ := h
      exact z_iret C dX6_readOne_158 hr (zn_bool g158) ⟨_, _, rfl, rfl, h⟩ (Nat.le_of_ble_eq_true rfl) (Nat.le_of_ble_eq_true rfl)
def w_X6_readOne_L5_29 (P : Int32 → zTs → Prop)  (st : zTs) (a1 : Int32) (a2 : Int32) : Prop := (a1 < 8 → w_X6_advance st (fun (s42 : zTs) => ((a2 = 0 → w_X6_readAnyOf_L6 s42 (a1 + 1) (fun (r79 : Int32) (s79 : zTs) => ((r79 = 0 → P 0 s79) ∧ (¬ r79 = 0 → w_X6_takeSign s79 41 (fun (r88 : Int32) (s88 : zTs) => ((r88 = 0 → P 0 s88) ∧ (¬ r88 = 0 → P 1 s88))))))) ∧ (¬ a2 = 0 → w_X6_readOne_L6 s42 (a1 + 1) (fun (r53 : Int32) (s53 : zTs) => ((r53 = 0 → P 0 s53) ∧ (¬ r53 = 0 → w_X6_addStep s53 (-1) (fun (r61 : Int32) (s61 : zTs) => ((r61 = 0 → P 0 s61) ∧ (¬ r61 = 0 → P 1 s61)))))))))) ∧ (¬ a1 < 8 → w_X6_fail st 3 (fun (r37 : Int32) (s37 : zTs) => ((r37 = 0 ∨ r37 = 1) ∧ (P r37 s37))))
set_option maxHeartbeats 4000000 in
set_option maxRecDepth 100000 in
theorem j_X6_readOne_L5_29 {P : Int32 → zTs → Prop}  (hfl : l.stackTraces = false) (C : zC Z p s m args meth c cX6_readOne 5 RX6) (hr : meth.sig.returnType = (some .boolean)) (hn9 : True)  (st : zTs) (a1 : Int32) (a2 : Int32) (h : w_X6_readOne_L5_29 P st a1 a2) : zG Z ad0 h0 p l e ({ frames := 23, cells := 0, slots := 0, locals := 514 } : Room) s m args below meth c (MQ below (zQ Z ad0 h0 (zWi Z P)) args s 0 0 (zA Z)) 0 0 (zh Z zm1 st) 5 29 [some (.ref 13), some (.int (a1)), some (.int (a2)), none, none] [] := by
  unfold w_X6_readOne_L5_29 at h
  refine z_iload_n C dX6_readOne_29 (i := 1) rfl rfl ?_
  refine z_bipush C dX6_readOne_30 (v := 8) (by decide) ?_
  refine z_icmp_lt C dX6_readOne_32 (tgt := 41) (by decide) (fun c32 => ?_) (fun c32 => ?_)
  · have h := h.1 c32
    refine z_aload_n C dX6_readOne_41 (i := 0) rfl rfl ?_
    refine t_callV C (rest := []) (c2 := 0) (s2 := 0) (kd := 13) (i := 0) [] dX6_readOne_42 lk_X6_61 li_X6_advance le_X6_advance (c_X6_advance hfl h) rfl rfl (by decide) rfl ⟨_, rfl⟩ rfl ⟨Nat.le_of_ble_eq_true rfl, Nat.le_of_ble_eq_true rfl⟩ (Nat.le_of_ble_eq_true rfl) ⟨Nat.le_of_ble_eq_true rfl, Nat.le_of_ble_eq_true rfl, Nat.le_of_ble_eq_true rfl, Nat.le_of_ble_eq_true rfl⟩ (k_Wv fun s42 h => ?_)
    refine z_iload_n C dX6_readOne_45 (i := 2) rfl rfl ?_
    refine z_if_eq C dX6_readOne_46 (tgt := 75) (by decide) (fun c46 => ?_) (fun c46 => ?_)
    · have h := h.1 c46
      refine z_aload_n C dX6_readOne_75 (i := 0) rfl rfl ?_
      refine z_iload_n C dX6_readOne_76 (i := 1) rfl rfl ?_
      refine z_iconst C dX6_readOne_77 (v := 1) (by decide) ?_
      refine z_iadd C dX6_readOne_78 ?_
      refine t_callV C (rest := []) (c2 := 0) (s2 := 0) (kd := 13) (i := 0) [.int (a1 + 1)] dX6_readOne_79 lk_X6_177 li_X6_readAnyOf le_X6_readAnyOf (c_X6_readAnyOf_L6 hfl h) rfl rfl (by decide) rfl ⟨_, rfl⟩ rfl ⟨Nat.le_of_ble_eq_true rfl, Nat.le_of_ble_eq_true rfl⟩ (Nat.le_of_ble_eq_true rfl) ⟨Nat.le_of_ble_eq_true rfl, Nat.le_of_ble_eq_true rfl, Nat.le_of_ble_eq_true rfl, Nat.le_of_ble_eq_true rfl⟩ (k_Wi fun r79 s79 h => ?_)
      refine z_if_eq C dX6_readOne_82 (tgt := 98) (by decide) (fun c82 => ?_) (fun c82 => ?_)
      · have h := h.1 c82
        refine z_iconst C dX6_readOne_98 (v := 0) (by decide) ?_
        exact z_iret C dX6_readOne_99 hr rfl ⟨_, _, rfl, rfl, h⟩ (Nat.le_of_ble_eq_true rfl) (Nat.le_of_ble_eq_true rfl)
      · have h := h.2 c82
        refine z_aload_n C dX6_readOne_85 (i := 0) rfl rfl ?_
        refine z_bipush C dX6_readOne_86 (v := 41) (by decide) ?_
        refine t_callV C (rest := []) (c2 := 0) (s2 := 0) (kd := 13) (i := 0) [.int (41)] dX6_readOne_88 lk_X6_118 li_X6_takeSign le_X6_takeSign (c_X6_takeSign hfl h) rfl rfl (by decide) rfl ⟨_, rfl⟩ rfl ⟨Nat.le_of_ble_eq_true rfl, Nat.le_of_ble_eq_true rfl⟩ (Nat.le_of_ble_eq_true rfl) ⟨Nat.le_of_ble_eq_true rfl, Nat.le_of_ble_eq_true rfl, Nat.le_of_ble_eq_true rfl, Nat.le_of_ble_eq_true rfl⟩ (k_Wi fun r88 s88 h => ?_)
        refine z_if_eq C dX6_readOne_91 (tgt := 98) (by decide) (fun c91 => ?_) (fun c91 => ?_)
        · have h := h.1 c91
          refine z_iconst C dX6_readOne_98 (v := 0) (by decide) ?_
          exact z_iret C dX6_readOne_99 hr rfl ⟨_, _, rfl, rfl, h⟩ (Nat.le_of_ble_eq_true rfl) (Nat.le_of_ble_eq_true rfl)
        · have h := h.2 c91
          refine z_iconst C dX6_readOne_94 (v := 1) (by decide) ?_
          refine z_goto C dX6_readOne_95 (tgt := 99) (by decide) ?_
          exact z_iret C dX6_readOne_99 hr rfl ⟨_, _, rfl, rfl, h⟩ (Nat.le_of_ble_eq_true rfl) (Nat.le_of_ble_eq_true rfl)
    · have h := h.2 c46
      refine z_aload_n C dX6_readOne_49 (i := 0) rfl rfl ?_
      refine z_iload_n C dX6_readOne_50 (i := 1) rfl rfl ?_
      refine z_iconst C dX6_readOne_51 (v := 1) (by decide) ?_
      refine z_iadd C dX6_readOne_52 ?_
      refine t_callV C (rest := []) (c2 := 0) (s2 := 0) (kd := 13) (i := 0) [.int (a1 + 1)] dX6_readOne_53 lk_X6_199 li_X6_readOne le_X6_readOne (c_X6_readOne_L6 hfl h) rfl rfl (by decide) rfl ⟨_, rfl⟩ rfl ⟨Nat.le_of_ble_eq_true rfl, Nat.le_of_ble_eq_true rfl⟩ (Nat.le_of_ble_eq_true rfl) ⟨Nat.le_of_ble_eq_true rfl, Nat.le_of_ble_eq_true rfl, Nat.le_of_ble_eq_true rfl, Nat.le_of_ble_eq_true rfl⟩ (k_Wi fun r53 s53 h => ?_)
      refine z_if_eq C dX6_readOne_56 (tgt := 71) (by decide) (fun c56 => ?_) (fun c56 => ?_)
      · have h := h.1 c56
        refine z_iconst C dX6_readOne_71 (v := 0) (by decide) ?_
        refine z_goto C dX6_readOne_72 (tgt := 99) (by decide) ?_
        exact z_iret C dX6_readOne_99 hr rfl ⟨_, _, rfl, rfl, h⟩ (Nat.le_of_ble_eq_true rfl) (Nat.le_of_ble_eq_true rfl)
      · have h := h.2 c56
        refine z_aload_n C dX6_readOne_59 (i := 0) rfl rfl ?_
        refine z_iconst C dX6_readOne_60 (v := (-1)) (by decide) ?_
        refine t_callV C (rest := []) (c2 := 0) (s2 := 0) (kd := 13) (i := 0) [.int (-1)] dX6_readOne_61 lk_X6_196 li_X6_addStep le_X6_addStep (c_X6_addStep hfl h) rfl rfl (by decide) rfl ⟨_, rfl⟩ rfl ⟨Nat.le_of_ble_eq_true rfl, Nat.le_of_ble_eq_true rfl⟩ (Nat.le_of_ble_eq_true rfl) ⟨Nat.le_of_ble_eq_true rfl, Nat.le_of_ble_eq_true rfl, Nat.le_of_ble_eq_true rfl, Nat.le_of_ble_eq_true rfl⟩ (k_Wi fun r61 s61 h => ?_)
        refine z_if_eq C dX6_readOne_64 (tgt := 71) (by decide) (fun c64 => ?_) (fun c64 => ?_)
        · have h := h.1 c64
          refine z_iconst C dX6_readOne_71 (v := 0) (by decide) ?_
          refine z_goto C dX6_readOne_72 (tgt := 99) (by decide) ?_
          exact z_iret C dX6_readOne_99 hr rfl ⟨_, _, rfl, rfl, h⟩ (Nat.le_of_ble_eq_true rfl) (Nat.le_of_ble_eq_true rfl)
        · have h := h.2 c64
          refine z_iconst C dX6_readOne_67 (v := 1) (by decide) ?_
          refine z_goto C dX6_readOne_68 (tgt := 99) (by decide) ?_
          exact z_iret C dX6_readOne_99 hr rfl ⟨_, _, rfl, rfl, h⟩ (Nat.le_of_ble_eq_true rfl) (Nat.le_of_ble_eq_true rfl)
  · have h := h.2 c32
    refine z_aload_n C dX6_readOne_35 (i := 0) rfl rfl ?_
    refine z_iconst C dX6_readOne_36 (v := 3) (by decide) ?_
    refine t_callV C (rest := []) (c2 := 0) (s2 := 0) (kd := 13) (i := 0) [.int (3)] dX6_readOne_37 lk_X6_79 li_X6_fail le_X6_fail (c_X6_fail hfl h) rfl rfl (by decide) rfl ⟨_, rfl⟩ rfl ⟨Nat.le_of_ble_eq_true rfl, Nat.le_of_ble_eq_true rfl⟩ (Nat.le_of_ble_eq_true rfl) ⟨Nat.le_of_ble_eq_true rfl, Nat.le_of_ble_eq_true rfl, Nat.le_of_ble_eq_true rfl, Nat.le_of_ble_eq_true rfl⟩ (k_Wi fun r37 s37 h => ?_)
    obtain ⟨g40, h⟩ := h
    exact z_iret C dX6_readOne_40 hr (zn_bool g40) ⟨_, _, rfl, rfl, h⟩ (Nat.le_of_ble_eq_true rfl) (Nat.le_of_ble_eq_true rfl)
def w_X6_readOne_L5_15 (P : Int32 → zTs → Prop)  (st : zTs) (a1 : Int32) (b0 : Int32) : Prop := (b0 = 0 → ((zgF st 13 0 8) = 40 → w_X6_readOne_L5_29 P st a1 b0) ∧ (¬ (zgF st 13 0 8) = 40 → w_X6_measureOf st (zgP st 13 0 6) (fun (r104 : Int32) => ((r104 = (-1) → w_X6_fail st 1 (fun (r115 : Int32) (s115 : zTs) => ((r115 = 0 ∨ r115 = 1) ∧ (P r115 s115)))) ∧ (¬ r104 = (-1) → w_X6_advance st (fun (s120 : zTs) => (((zgF s120 13 0 8) = 62 → w_X6_readOne_L5_137 P s120 r104 (1)) ∧ (¬ (zgF s120 13 0 8) = 62 → w_X6_readOne_L5_137 P s120 r104 (0))))))))) ∧ (¬ b0 = 0 → w_X6_readOne_L5_29 P st a1 b0)
set_option maxHeartbeats 4000000 in
set_option maxRecDepth 100000 in
theorem j_X6_readOne_L5_15 {P : Int32 → zTs → Prop}  (hfl : l.stackTraces = false) (C : zC Z p s m args meth c cX6_readOne 5 RX6) (hr : meth.sig.returnType = (some .boolean)) (hn9 : True)  (st : zTs) (a1 : Int32) (b0 : Int32) (h : w_X6_readOne_L5_15 P st a1 b0) : zG Z ad0 h0 p l e ({ frames := 23, cells := 0, slots := 0, locals := 514 } : Room) s m args below meth c (MQ below (zQ Z ad0 h0 (zWi Z P)) args s 0 0 (zA Z)) 0 0 (zh Z zm1 st) 5 15 [some (.ref 13), some (.int (a1)), none, none, none] [.int (b0)] := by
  unfold w_X6_readOne_L5_15 at h
  refine z_istore_n C dX6_readOne_15 (i := 2) (lc' := [some (.ref 13), some (.int (a1)), some (.int (b0)), none, none]) rfl (by decide) rfl ?_
  refine z_iload_n C dX6_readOne_16 (i := 2) rfl rfl ?_
  refine z_if_ne C dX6_readOne_17 (tgt := 29) (by decide) (fun c17 => ?_) (fun c17 => ?_)
  · have h := h.2 c17
    exact t_drop [true, true, true, false, false] rfl (j_X6_readOne_L5_29 hfl C hr hn9  st a1 b0 h)
  · have h := h.1 c17
    refine z_aload_n C dX6_readOne_20 (i := 0) rfl rfl ?_
    refine t_get C dX6_readOne_21 fl_X6_28 (k := 13) (i := 0) (by decide) rfl (fg_13_8 _ _ _) ?_
    refine z_bipush C dX6_readOne_24 (v := 40) (by decide) ?_
    refine z_icmp_ne C dX6_readOne_26 (tgt := 100) (by decide) (fun c26 => ?_) (fun c26 => ?_)
    · have h := h.2 c26
      refine z_aload_n C dX6_readOne_100 (i := 0) rfl rfl ?_
      refine t_get C dX6_readOne_101 fl_X6_21 (k := 13) (i := 0) (by decide) rfl (fg_13_6 _ _ _) ?_
      refine t_callS C (rest := []) (c2 := 0) (s2 := 0) [.ref (201 + 256 * (zgP st 13 0 6))] dX6_readOne_104 lk_X6_208 ls_X6_measureOf (c_X6_measureOf hfl h) rfl rfl ⟨Nat.le_of_ble_eq_true rfl, Nat.le_of_ble_eq_true rfl⟩ (Nat.le_of_ble_eq_true rfl) ⟨Nat.le_of_ble_eq_true rfl, Nat.le_of_ble_eq_true rfl, Nat.le_of_ble_eq_true rfl, Nat.le_of_ble_eq_true rfl⟩ (k_Ri fun r104 h => ?_)
      refine z_istore_n C dX6_readOne_107 (i := 3) (lc' := [some (.ref 13), some (.int (a1)), some (.int (b0)), some (.int (r104)), none]) rfl (by decide) rfl ?_
      refine z_iload_n C dX6_readOne_108 (i := 3) rfl rfl ?_
      refine z_iconst C dX6_readOne_109 (v := (-1)) (by decide) ?_
      refine z_icmp_ne C dX6_readOne_110 (tgt := 119) (by decide) (fun c110 => ?_) (fun c110 => ?_)
      · have h := h.2 c110
        refine z_aload_n C dX6_readOne_119 (i := 0) rfl rfl ?_
        refine t_callV C (rest := []) (c2 := 0) (s2 := 0) (kd := 13) (i := 0) [] dX6_readOne_120 lk_X6_61 li_X6_advance le_X6_advance (c_X6_advance hfl h) rfl rfl (by decide) rfl ⟨_, rfl⟩ rfl ⟨Nat.le_of_ble_eq_true rfl, Nat.le_of_ble_eq_true rfl⟩ (Nat.le_of_ble_eq_true rfl) ⟨Nat.le_of_ble_eq_true rfl, Nat.le_of_ble_eq_true rfl, Nat.le_of_ble_eq_true rfl, Nat.le_of_ble_eq_true rfl⟩ (k_Wv fun s120 h => ?_)
        refine z_aload_n C dX6_readOne_123 (i := 0) rfl rfl ?_
        refine t_get C dX6_readOne_124 fl_X6_28 (k := 13) (i := 0) (by decide) rfl (fg_13_8 _ _ _) ?_
        refine z_bipush C dX6_readOne_127 (v := 62) (by decide) ?_
        refine z_icmp_ne C dX6_readOne_129 (tgt := 136) (by decide) (fun c129 => ?_) (fun c129 => ?_)
        · have h := h.2 c129
          refine z_iconst C dX6_readOne_136 (v := 0) (by decide) ?_
          exact t_drop [true, false, false, true, false] rfl (j_X6_readOne_L5_137 hfl C hr hn9  s120 r104 (0) h)
        · have h := h.1 c129
          refine z_iconst C dX6_readOne_132 (v := 1) (by decide) ?_
          refine z_goto C dX6_readOne_133 (tgt := 137) (by decide) ?_
          exact t_drop [true, false, false, true, false] rfl (j_X6_readOne_L5_137 hfl C hr hn9  s120 r104 (1) h)
      · have h := h.1 c110
        refine z_aload_n C dX6_readOne_113 (i := 0) rfl rfl ?_
        refine z_iconst C dX6_readOne_114 (v := 1) (by decide) ?_
        refine t_callV C (rest := []) (c2 := 0) (s2 := 0) (kd := 13) (i := 0) [.int (1)] dX6_readOne_115 lk_X6_79 li_X6_fail le_X6_fail (c_X6_fail hfl h) rfl rfl (by decide) rfl ⟨_, rfl⟩ rfl ⟨Nat.le_of_ble_eq_true rfl, Nat.le_of_ble_eq_true rfl⟩ (Nat.le_of_ble_eq_true rfl) ⟨Nat.le_of_ble_eq_true rfl, Nat.le_of_ble_eq_true rfl, Nat.le_of_ble_eq_true rfl, Nat.le_of_ble_eq_true rfl⟩ (k_Wi fun r115 s115 h => ?_)
        obtain ⟨g118, h⟩ := h
        exact z_iret C dX6_readOne_118 hr (zn_bool g118) ⟨_, _, rfl, rfl, h⟩ (Nat.le_of_ble_eq_true rfl) (Nat.le_of_ble_eq_true rfl)
    · have h := h.1 c26
      exact t_drop [true, true, true, false, false] rfl (j_X6_readOne_L5_29 hfl C hr hn9  st a1 b0 h)
def w_X6_readOne_L5 (st : zTs) (a1 : Int32) (P : Int32 → zTs → Prop) : Prop := (zgP st 13 0 6 < 24) ∧ ((((zgP st 13 0 6) : Nat) = 20 → w_X6_readOne_L5_15 P st a1 (1)) ∧ (¬ ((zgP st 13 0 6) : Nat) = 20 → w_X6_readOne_L5_15 P st a1 (0)))
set_option maxHeartbeats 4000000 in
set_option maxRecDepth 100000 in
theorem c_X6_readOne_L5 {Z : zZ} {l : Launch} (hfl : l.stackTraces = false) {st : zTs} {a1 : Int32} {P : Int32 → zTs → Prop} (h : w_X6_readOne_L5 st a1 P) : zN Z l yX6_readOne cX6_readOne 5 (some .boolean) ({ frames := 23, cells := 0, slots := 0, locals := 514 } : Room) (zh Z zm1 st) [.ref 13, .int (a1)] (zWi Z P) := by
  unfold w_X6_readOne_L5 at h
  refine z_enterN (by decide) (Nat.le_of_ble_eq_true rfl) (lc0 := [some (.ref 13), some (.int (a1)), none, none, none]) rfl ?_
  intro p e s m args below meth c ad0 C hr _
  have hn9 : True := trivial
  replace C : zC Z p s m args meth c cX6_readOne 5 RX6 := C
  refine z_aload_n C dX6_readOne_0 (i := 0) rfl rfl ?_
  refine t_get C dX6_readOne_1 fl_X6_21 (k := 13) (i := 0) (by decide) rfl (fg_13_6 _ _ _) ?_
  refine z_gets C dX6_readOne_4 (q := 201 + 256 * 20) (by decide) gl_X6_205 (fun z => (z.2.2.2.1.1.1 20 (by decide)).1) ?_
  obtain ⟨g7a, h⟩ := h
  refine z_acmpW_ne C dX6_readOne_7 (i := (zgP st 13 0 6)) (j := 20) (tgt := 14) (by decide) g7a (by decide) (fun c7 => ?_) (fun c7 => ?_)
  · have h := h.2 c7
    refine z_iconst C dX6_readOne_14 (v := 0) (by decide) ?_
    exact t_drop [true, true, false, false, false] rfl (j_X6_readOne_L5_15 hfl C hr hn9  st a1 (0) h)
  · have h := h.1 c7
    refine z_iconst C dX6_readOne_10 (v := 1) (by decide) ?_
    refine z_goto C dX6_readOne_11 (tgt := 15) (by decide) ?_
    exact t_drop [true, true, false, false, false] rfl (j_X6_readOne_L5_15 hfl C hr hn9  st a1 (1) h)
def w_X6_readAllOf_L5_56 (P : Int32 → zTs → Prop) (K8 : zTs → Int32 → Int32 → Int32 → Prop) (st : zTs) (a1 : Int32) (a3 : Int32) (b0 : Int32) : Prop := ∀ x57 : Int32, x57 = a3 + 1 → (K8 st a1 b0 x57)
set_option maxHeartbeats 4000000 in
set_option maxRecDepth 100000 in
theorem j_X6_readAllOf_L5_56 {P : Int32 → zTs → Prop} {K8 : zTs → Int32 → Int32 → Int32 → Prop} (hfl : l.stackTraces = false) (C : zC Z p s m args meth c cX6_readAllOf 4 RX6) (hr : meth.sig.returnType = (some .boolean)) (hn9 : True) (hK8 : ∀ (st : zTs) (a1 : Int32) (a2 : Int32) (a3 : Int32), K8 st a1 a2 a3 → zG Z ad0 h0 p l e ({ frames := 24, cells := 0, slots := 0, locals := 538 } : Room) s m args below meth c (MQ below (zQ Z ad0 h0 (zWi Z P)) args s 0 0 (zA Z)) 0 0 (zh Z zm1 st) 4 8 [some (.ref 13), some (.int (a1)), some (.int (a2)), some (.int (a3))] []) (st : zTs) (a1 : Int32) (a3 : Int32) (b0 : Int32) (h : w_X6_readAllOf_L5_56 P K8 st a1 a3 b0) : zG Z ad0 h0 p l e ({ frames := 24, cells := 0, slots := 0, locals := 538 } : Room) s m args below meth c (MQ below (zQ Z ad0 h0 (zWi Z P)) args s 0 0 (zA Z)) 0 0 (zh Z zm1 st) 4 56 [some (.ref 13), some (.int (a1)), none, some (.int (a3))] [.int (b0)] := by
  unfold w_X6_readAllOf_L5_56 at h
  refine z_istore_n C dX6_readAllOf_56 (i := 2) (lc' := [some (.ref 13), some (.int (a1)), some (.int (b0)), some (.int (a3))]) rfl (by decide) rfl ?_
  obtain ⟨x57, ex57⟩ : ∃ z : Int32, z = a3 + 1 := ⟨_, rfl⟩
  have h := h x57 ex57
  refine z_iinc C dX6_readAllOf_57 (v := x57) (lc' := [some (.ref 13), some (.int (a1)), some (.int (b0)), some (.int (x57))]) rfl (by decide) (by rw [ex57]; rfl) rfl ?_
  refine z_goto C dX6_readAllOf_60 (tgt := 8) (by decide) ?_
  exact t_drop [true, true, true, true] rfl (hK8 st a1 b0 x57 h)
def w_X6_readAllOf_L5_55 (P : Int32 → zTs → Prop) (K8 : zTs → Int32 → Int32 → Int32 → Prop) (st : zTs) (a1 : Int32) (a3 : Int32) : Prop := w_X6_readAllOf_L5_56 P K8 st a1 a3 (0)
set_option maxHeartbeats 4000000 in
set_option maxRecDepth 100000 in
theorem j_X6_readAllOf_L5_55 {P : Int32 → zTs → Prop} {K8 : zTs → Int32 → Int32 → Int32 → Prop} (hfl : l.stackTraces = false) (C : zC Z p s m args meth c cX6_readAllOf 4 RX6) (hr : meth.sig.returnType = (some .boolean)) (hn9 : True) (hK8 : ∀ (st : zTs) (a1 : Int32) (a2 : Int32) (a3 : Int32), K8 st a1 a2 a3 → zG Z ad0 h0 p l e ({ frames := 24, cells := 0, slots := 0, locals := 538 } : Room) s m args below meth c (MQ below (zQ Z ad0 h0 (zWi Z P)) args s 0 0 (zA Z)) 0 0 (zh Z zm1 st) 4 8 [some (.ref 13), some (.int (a1)), some (.int (a2)), some (.int (a3))] []) (st : zTs) (a1 : Int32) (a3 : Int32) (h : w_X6_readAllOf_L5_55 P K8 st a1 a3) : zG Z ad0 h0 p l e ({ frames := 24, cells := 0, slots := 0, locals := 538 } : Room) s m args below meth c (MQ below (zQ Z ad0 h0 (zWi Z P)) args s 0 0 (zA Z)) 0 0 (zh Z zm1 st) 4 55 [some (.ref 13), some (.int (a1)), none, some (.int (a3))] [] := by
  unfold w_X6_readAllOf_L5_55 at h
  refine z_iconst C dX6_readAllOf_55 (v := 0) (by decide) ?_
  exact t_drop [true, true, false, true] rfl (j_X6_readAllOf_L5_56 hfl C hr hn9 hK8 st a1 a3 (0) h)
def w_X6_readAllOf_L5_8 (P : Int32 → zTs → Prop)  : Nat → zTs → Int32 → Int32 → Int32 → Prop
  | 0, _, _, _, _ => False
  | n9 + 1, st, a1, a2, a3 => ((zgF st 13 0 3) ≤ a3 → (a2 = 0 ∨ a2 = 1) ∧ (P a2 st)) ∧ (¬ (zgF st 13 0 3) ≤ a3 → (a2 = 0 → (a2 = 0 ∨ a2 = 1) ∧ (P a2 st)) ∧ (¬ a2 = 0 → (zgP st 13 0 6 < 24) ∧ ((((zgP st 13 0 6) : Nat) = 19 → w_X6_advance st (fun (s31 : zTs) => (w_X6_readOne_L5 s31 a1 (fun (r36 : Int32) (s36 : zTs) => ((r36 = 0 → w_X6_readAllOf_L5_55 P (w_X6_readAllOf_L5_8 P n9) s36 a1 a3) ∧ (¬ r36 = 0 → w_X6_addStep s36 (-2) (fun (r45 : Int32) (s45 : zTs) => ((r45 = 0 → w_X6_readAllOf_L5_55 P (w_X6_readAllOf_L5_8 P n9) s45 a1 a3) ∧ (¬ r45 = 0 → w_X6_readAllOf_L5_56 P (w_X6_readAllOf_L5_8 P n9) s45 a1 a3 (1)))))))))) ∧ (¬ ((zgP st 13 0 6) : Nat) = 19 → (a2 = 0 ∨ a2 = 1) ∧ (P a2 st)))))
set_option maxHeartbeats 4000000 in
set_option maxRecDepth 100000 in
theorem j_X6_readAllOf_L5_8 {P : Int32 → zTs → Prop}  (hfl : l.stackTraces = false) (C : zC Z p s m args meth c cX6_readAllOf 4 RX6) (hr : meth.sig.returnType = (some .boolean)) (hn9 : True)  : ∀ (n9 : Nat) (st : zTs) (a1 : Int32) (a2 : Int32) (a3 : Int32), w_X6_readAllOf_L5_8 P n9 st a1 a2 a3 → zG Z ad0 h0 p l e ({ frames := 24, cells := 0, slots := 0, locals := 538 } : Room) s m args below meth c (MQ below (zQ Z ad0 h0 (zWi Z P)) args s 0 0 (zA Z)) 0 0 (zh Z zm1 st) 4 8 [some (.ref 13), some (.int (a1)), some (.int (a2)), some (.int (a3))] [] := by
  intro n9
  induction n9 with
  | zero => intro st a1 a2 a3 h; exact h.elim
  | succ n9 hK8 =>
    intro st a1 a2 a3 h
    rw [w_X6_readAllOf_L5_8] at h
    refine z_iload_n C dX6_readAllOf_8 (i := 3) rfl rfl ?_
    refine z_aload_n C dX6_readAllOf_9 (i := 0) rfl rfl ?_
    refine t_get C dX6_readAllOf_10 fl_X6_55 (k := 13) (i := 0) (by decide) rfl (fg_13_3 _ _ _) ?_
    refine z_icmp_ge C dX6_readAllOf_13 (tgt := 63) (by decide) (fun c13 => ?_) (fun c13 => ?_)
    · have h := h.1 c13
      refine z_iload_n C dX6_readAllOf_63 (i := 2) rfl rfl ?_
      obtain ⟨g64, h⟩ := h
      exact z_iret C dX6_readAllOf_64 hr (zn_bool g64) ⟨_, _, rfl, rfl, h⟩ (Nat.le_of_ble_eq_true rfl) (Nat.le_of_ble_eq_true rfl)
    · have h := h.2 c13
      refine z_iload_n C dX6_readAllOf_16 (i := 2) rfl rfl ?_
      refine z_if_eq C dX6_readAllOf_17 (tgt := 63) (by decide) (fun c17 => ?_) (fun c17 => ?_)
      · have h := h.1 c17
        refine z_iload_n C dX6_readAllOf_63 (i := 2) rfl rfl ?_
        obtain ⟨g64, h⟩ := h
        exact z_iret C dX6_readAllOf_64 hr (zn_bool g64) ⟨_, _, rfl, rfl, h⟩ (Nat.le_of_ble_eq_true rfl) (Nat.le_of_ble_eq_true rfl)
      · have h := h.2 c17
        refine z_aload_n C dX6_readAllOf_20 (i := 0) rfl rfl ?_
        refine t_get C dX6_readAllOf_21 fl_X6_21 (k := 13) (i := 0) (by decide) rfl (fg_13_6 _ _ _) ?_
        refine z_gets C dX6_readAllOf_24 (q := 201 + 256 * 19) (by decide) gl_X6_202 (fun z => (z.2.2.2.1.1.1 19 (by decide)).1) ?_
        obtain ⟨g27a, h⟩ := h
        refine z_acmpW_ne C dX6_readAllOf_27 (i := (zgP st 13 0 6)) (j := 19) (tgt := 63) (by decide) g27a (by decide) (fun c27 => ?_) (fun c27 => ?_)
        · have h := h.2 c27
          refine z_iload_n C dX6_readAllOf_63 (i := 2) rfl rfl ?_
          obtain ⟨g64, h⟩ := h
          exact z_iret C dX6_readAllOf_64 hr (zn_bool g64) ⟨_, _, rfl, rfl, h⟩ (Nat.le_of_ble_eq_true rfl) (Nat.le_of_ble_eq_true rfl)
        · have h := h.1 c27
          refine z_aload_n C dX6_readAllOf_30 (i := 0) rfl rfl ?_
          refine t_callV C (rest := []) (c2 := 0) (s2 := 0) (kd := 13) (i := 0) [] dX6_readAllOf_31 lk_X6_61 li_X6_advance le_X6_advance (c_X6_advance hfl h) rfl rfl (by decide) rfl ⟨_, rfl⟩ rfl ⟨Nat.le_of_ble_eq_true rfl, Nat.le_of_ble_eq_true rfl⟩ (Nat.le_of_ble_eq_true rfl) ⟨Nat.le_of_ble_eq_true rfl, Nat.le_of_ble_eq_true rfl, Nat.le_of_ble_eq_true rfl, Nat.le_of_ble_eq_true rfl⟩ (k_Wv fun s31 h => ?_)
          refine z_aload_n C dX6_readAllOf_34 (i := 0) rfl rfl ?_
          refine z_iload_n C dX6_readAllOf_35 (i := 1) rfl rfl ?_
          refine t_callV C (rest := []) (c2 := 0) (s2 := 0) (kd := 13) (i := 0) [.int (a1)] dX6_readAllOf_36 lk_X6_199 li_X6_readOne le_X6_readOne (c_X6_readOne_L5 hfl h) rfl rfl (by decide) rfl ⟨_, rfl⟩ rfl ⟨Nat.le_of_ble_eq_true rfl, Nat.le_of_ble_eq_true rfl⟩ (Nat.le_of_ble_eq_true rfl) ⟨Nat.le_of_ble_eq_true rfl, Nat.le_of_ble_eq_true rfl, Nat.le_of_ble_eq_true rfl, Nat.le_of_ble_eq_true rfl⟩ (k_Wi fun r36 s36 h => ?_)
          refine z_if_eq C dX6_readAllOf_39 (tgt := 55) (by decide) (fun c39 => ?_) (fun c39 => ?_)
          · have h := h.1 c39
            exact t_drop [true, true, false, true] rfl (j_X6_readAllOf_L5_55 hfl C hr hn9 hK8 s36 a1 a3 h)
          · have h := h.2 c39
            refine z_aload_n C dX6_readAllOf_42 (i := 0) rfl rfl ?_
            refine z_bipush C dX6_readAllOf_43 (v := (-2)) (by decide) ?_
            refine t_callV C (rest := []) (c2 := 0) (s2 := 0) (kd := 13) (i := 0) [.int (-2)] dX6_readAllOf_45 lk_X6_196 li_X6_addStep le_X6_addStep (c_X6_addStep hfl h) rfl rfl (by decide) rfl ⟨_, rfl⟩ rfl ⟨Nat.le_of_ble_eq_true rfl, Nat.le_of_ble_eq_true rfl⟩ (Nat.le_of_ble_eq_true rfl) ⟨Nat.le_of_ble_eq_true rfl, Nat.le_of_ble_eq_true rfl, Nat.le_of_ble_eq_true rfl, Nat.le_of_ble_eq_true rfl⟩ (k_Wi fun r45 s45 h => ?_)
            refine z_if_eq C dX6_readAllOf_48 (tgt := 55) (by decide) (fun c48 => ?_) (fun c48 => ?_)
            · have h := h.1 c48
              exact t_drop [true, true, false, true] rfl (j_X6_readAllOf_L5_55 hfl C hr hn9 hK8 s45 a1 a3 h)
            · have h := h.2 c48
              refine z_iconst C dX6_readAllOf_51 (v := 1) (by decide) ?_
              refine z_goto C dX6_readAllOf_52 (tgt := 56) (by decide) ?_
              exact t_drop [true, true, false, true] rfl (j_X6_readAllOf_L5_56 hfl C hr hn9 hK8 s45 a1 a3 (1) h)
def w_X6_readAllOf_L5 (st : zTs) (a1 : Int32) (P : Int32 → zTs → Prop) : Prop := w_X6_readOne_L5 st a1 (fun (r2 : Int32) (s2 : zTs) => (w_X6_readAllOf_L5_8 P zfu s2 a1 r2 (0)))
set_option maxHeartbeats 4000000 in
set_option maxRecDepth 100000 in
theorem c_X6_readAllOf_L5 {Z : zZ} {l : Launch} (hfl : l.stackTraces = false) {st : zTs} {a1 : Int32} {P : Int32 → zTs → Prop} (h : w_X6_readAllOf_L5 st a1 P) : zN Z l yX6_readAllOf cX6_readAllOf 4 (some .boolean) ({ frames := 24, cells := 0, slots := 0, locals := 538 } : Room) (zh Z zm1 st) [.ref 13, .int (a1)] (zWi Z P) := by
  unfold w_X6_readAllOf_L5 at h
  refine z_enterN (by decide) (Nat.le_of_ble_eq_true rfl) (lc0 := [some (.ref 13), some (.int (a1)), none, none]) rfl ?_
  intro p e s m args below meth c ad0 C hr _
  have hn9 : True := trivial
  replace C : zC Z p s m args meth c cX6_readAllOf 4 RX6 := C
  refine z_aload_n C dX6_readAllOf_0 (i := 0) rfl rfl ?_
  refine z_iload_n C dX6_readAllOf_1 (i := 1) rfl rfl ?_
  refine t_callV C (rest := []) (c2 := 0) (s2 := 0) (kd := 13) (i := 0) [.int (a1)] dX6_readAllOf_2 lk_X6_199 li_X6_readOne le_X6_readOne (c_X6_readOne_L5 hfl h) rfl rfl (by decide) rfl ⟨_, rfl⟩ rfl ⟨Nat.le_of_ble_eq_true rfl, Nat.le_of_ble_eq_true rfl⟩ (Nat.le_of_ble_eq_true rfl) ⟨Nat.le_of_ble_eq_true rfl, Nat.le_of_ble_eq_true rfl, Nat.le_of_ble_eq_true rfl, Nat.le_of_ble_eq_true rfl⟩ (k_Wi fun r2 s2 h => ?_)
  refine z_istore_n C dX6_readAllOf_5 (i := 2) (lc' := [some (.ref 13), some (.int (a1)), some (.int (r2)), none]) rfl (by decide) rfl ?_
  refine z_iconst C dX6_readAllOf_6 (v := 0) (by decide) ?_
  refine z_istore_n C dX6_readAllOf_7 (i := 3) (lc' := [some (.ref 13), some (.int (a1)), some (.int (r2)), some (.int (0))]) rfl (by decide) rfl ?_
  exact t_drop [true, true, true, true] rfl (j_X6_readAllOf_L5_8 hfl C hr hn9  zfu s2 a1 r2 (0) h)
def w_X6_readAnyOf_L5_56 (P : Int32 → zTs → Prop) (K8 : zTs → Int32 → Int32 → Int32 → Prop) (st : zTs) (a1 : Int32) (a3 : Int32) (b0 : Int32) : Prop := ∀ x57 : Int32, x57 = a3 + 1 → (K8 st a1 b0 x57)
set_option maxHeartbeats 4000000 in
set_option maxRecDepth 100000 in
theorem j_X6_readAnyOf_L5_56 {P : Int32 → zTs → Prop} {K8 : zTs → Int32 → Int32 → Int32 → Prop} (hfl : l.stackTraces = false) (C : zC Z p s m args meth c cX6_readAnyOf 4 RX6) (hr : meth.sig.returnType = (some .boolean)) (hn9 : True) (hK8 : ∀ (st : zTs) (a1 : Int32) (a2 : Int32) (a3 : Int32), K8 st a1 a2 a3 → zG Z ad0 h0 p l e ({ frames := 25, cells := 0, slots := 0, locals := 561 } : Room) s m args below meth c (MQ below (zQ Z ad0 h0 (zWi Z P)) args s 0 0 (zA Z)) 0 0 (zh Z zm1 st) 4 8 [some (.ref 13), some (.int (a1)), some (.int (a2)), some (.int (a3))] []) (st : zTs) (a1 : Int32) (a3 : Int32) (b0 : Int32) (h : w_X6_readAnyOf_L5_56 P K8 st a1 a3 b0) : zG Z ad0 h0 p l e ({ frames := 25, cells := 0, slots := 0, locals := 561 } : Room) s m args below meth c (MQ below (zQ Z ad0 h0 (zWi Z P)) args s 0 0 (zA Z)) 0 0 (zh Z zm1 st) 4 56 [some (.ref 13), some (.int (a1)), none, some (.int (a3))] [.int (b0)] := by
  unfold w_X6_readAnyOf_L5_56 at h
  refine z_istore_n C dX6_readAnyOf_56 (i := 2) (lc' := [some (.ref 13), some (.int (a1)), some (.int (b0)), some (.int (a3))]) rfl (by decide) rfl ?_
  obtain ⟨x57, ex57⟩ : ∃ z : Int32, z = a3 + 1 := ⟨_, rfl⟩
  have h := h x57 ex57
  refine z_iinc C dX6_readAnyOf_57 (v := x57) (lc' := [some (.ref 13), some (.int (a1)), some (.int (b0)), some (.int (x57))]) rfl (by decide) (by rw [ex57]; rfl) rfl ?_
  refine z_goto C dX6_readAnyOf_60 (tgt := 8) (by decide) ?_
  exact t_drop [true, true, true, true] rfl (hK8 st a1 b0 x57 h)
def w_X6_readAnyOf_L5_55 (P : Int32 → zTs → Prop) (K8 : zTs → Int32 → Int32 → Int32 → Prop) (st : zTs) (a1 : Int32) (a3 : Int32) : Prop := w_X6_readAnyOf_L5_56 P K8 st a1 a3 (0)
set_option maxHeartbeats 4000000 in
set_option maxRecDepth 100000 in
theorem j_X6_readAnyOf_L5_55 {P : Int32 → zTs → Prop} {K8 : zTs → Int32 → Int32 → Int32 → Prop} (hfl : l.stackTraces = false) (C : zC Z p s m args meth c cX6_readAnyOf 4 RX6) (hr : meth.sig.returnType = (some .boolean)) (hn9 : True) (hK8 : ∀ (st : zTs) (a1 : Int32) (a2 : Int32) (a3 : Int32), K8 st a1 a2 a3 → zG Z ad0 h0 p l e ({ frames := 25, cells := 0, slots := 0, locals := 561 } : Room) s m args below meth c (MQ below (zQ Z ad0 h0 (zWi Z P)) args s 0 0 (zA Z)) 0 0 (zh Z zm1 st) 4 8 [some (.ref 13), some (.int (a1)), some (.int (a2)), some (.int (a3))] []) (st : zTs) (a1 : Int32) (a3 : Int32) (h : w_X6_readAnyOf_L5_55 P K8 st a1 a3) : zG Z ad0 h0 p l e ({ frames := 25, cells := 0, slots := 0, locals := 561 } : Room) s m args below meth c (MQ below (zQ Z ad0 h0 (zWi Z P)) args s 0 0 (zA Z)) 0 0 (zh Z zm1 st) 4 55 [some (.ref 13), some (.int (a1)), none, some (.int (a3))] [] := by
  unfold w_X6_readAnyOf_L5_55 at h
  refine z_iconst C dX6_readAnyOf_55 (v := 0) (by decide) ?_
  exact t_drop [true, true, false, true] rfl (j_X6_readAnyOf_L5_56 hfl C hr hn9 hK8 st a1 a3 (0) h)
def w_X6_readAnyOf_L5_8 (P : Int32 → zTs → Prop)  : Nat → zTs → Int32 → Int32 → Int32 → Prop
  | 0, _, _, _, _ => False
  | n9 + 1, st, a1, a2, a3 => ((zgF st 13 0 3) ≤ a3 → (a2 = 0 ∨ a2 = 1) ∧ (P a2 st)) ∧ (¬ (zgF st 13 0 3) ≤ a3 → (a2 = 0 → (a2 = 0 ∨ a2 = 1) ∧ (P a2 st)) ∧ (¬ a2 = 0 → (zgP st 13 0 6 < 24) ∧ ((((zgP st 13 0 6) : Nat) = 18 → w_X6_advance st (fun (s31 : zTs) => (w_X6_readAllOf_L5 s31 a1 (fun (r36 : Int32) (s36 : zTs) => ((r36 = 0 → w_X6_readAnyOf_L5_55 P (w_X6_readAnyOf_L5_8 P n9) s36 a1 a3) ∧ (¬ r36 = 0 → w_X6_addStep s36 (-3) (fun (r45 : Int32) (s45 : zTs) => ((r45 = 0 → w_X6_readAnyOf_L5_55 P (w_X6_readAnyOf_L5_8 P n9) s45 a1 a3) ∧ (¬ r45 = 0 → w_X6_readAnyOf_L5_56 P (w_X6_readAnyOf_L5_8 P n9) s45 a1 a3 (1)))))))))) ∧ (¬ ((zgP st 13 0 6) : Nat) = 18 → (a2 = 0 ∨ a2 = 1) ∧ (P a2 st)))))
set_option maxHeartbeats 4000000 in
set_option maxRecDepth 100000 in
theorem j_X6_readAnyOf_L5_8 {P : Int32 → zTs → Prop}  (hfl : l.stackTraces = false) (C : zC Z p s m args meth c cX6_readAnyOf 4 RX6) (hr : meth.sig.returnType = (some .boolean)) (hn9 : True)  : ∀ (n9 : Nat) (st : zTs) (a1 : Int32) (a2 : Int32) (a3 : Int32), w_X6_readAnyOf_L5_8 P n9 st a1 a2 a3 → zG Z ad0 h0 p l e ({ frames := 25, cells := 0, slots := 0, locals := 561 } : Room) s m args below meth c (MQ below (zQ Z ad0 h0 (zWi Z P)) args s 0 0 (zA Z)) 0 0 (zh Z zm1 st) 4 8 [some (.ref 13), some (.int (a1)), some (.int (a2)), some (.int (a3))] [] := by
  intro n9
  induction n9 with
  | zero => intro st a1 a2 a3 h; exact h.elim
  | succ n9 hK8 =>
    intro st a1 a2 a3 h
    rw [w_X6_readAnyOf_L5_8] at h
    refine z_iload_n C dX6_readAnyOf_8 (i := 3) rfl rfl ?_
    refine z_aload_n C dX6_readAnyOf_9 (i := 0) rfl rfl ?_
    refine t_get C dX6_readAnyOf_10 fl_X6_55 (k := 13) (i := 0) (by decide) rfl (fg_13_3 _ _ _) ?_
    refine z_icmp_ge C dX6_readAnyOf_13 (tgt := 63) (by decide) (fun c13 => ?_) (fun c13 => ?_)
    · have h := h.1 c13
      refine z_iload_n C dX6_readAnyOf_63 (i := 2) rfl rfl ?_
      obtain ⟨g64, h⟩ := h
      exact z_iret C dX6_readAnyOf_64 hr (zn_bool g64) ⟨_, _, rfl, rfl, h⟩ (Nat.le_of_ble_eq_true rfl) (Nat.le_of_ble_eq_true rfl)
    · have h := h.2 c13
      refine z_iload_n C dX6_readAnyOf_16 (i := 2) rfl rfl ?_
      refine z_if_eq C dX6_readAnyOf_17 (tgt := 63) (by decide) (fun c17 => ?_) (fun c17 => ?_)
      · have h := h.1 c17
        refine z_iload_n C dX6_readAnyOf_63 (i := 2) rfl rfl ?_
        obtain ⟨g64, h⟩ := h
        exact z_iret C dX6_readAnyOf_64 hr (zn_bool g64) ⟨_, _, rfl, rfl, h⟩ (Nat.le_of_ble_eq_true rfl) (Nat.le_of_ble_eq_true rfl)
      · have h := h.2 c17
        refine z_aload_n C dX6_readAnyOf_20 (i := 0) rfl rfl ?_
        refine t_get C dX6_readAnyOf_21 fl_X6_21 (k := 13) (i := 0) (by decide) rfl (fg_13_6 _ _ _) ?_
        refine z_gets C dX6_readAnyOf_24 (q := 201 + 256 * 18) (by decide) gl_X6_193 (fun z => (z.2.2.2.1.1.1 18 (by decide)).1) ?_
        obtain ⟨g27a, h⟩ := h
        refine z_acmpW_ne C dX6_readAnyOf_27 (i := (zgP st 13 0 6)) (j := 18) (tgt := 63) (by decide) g27a (by decide) (fun c27 => ?_) (fun c27 => ?_)
        · have h := h.2 c27
          refine z_iload_n C dX6_readAnyOf_63 (i := 2) rfl rfl ?_
          obtain ⟨g64, h⟩ := h
          exact z_iret C dX6_readAnyOf_64 hr (zn_bool g64) ⟨_, _, rfl, rfl, h⟩ (Nat.le_of_ble_eq_true rfl) (Nat.le_of_ble_eq_true rfl)
        · have h := h.1 c27
          refine z_aload_n C dX6_readAnyOf_30 (i := 0) rfl rfl ?_
          refine t_callV C (rest := []) (c2 := 0) (s2 := 0) (kd := 13) (i := 0) [] dX6_readAnyOf_31 lk_X6_61 li_X6_advance le_X6_advance (c_X6_advance hfl h) rfl rfl (by decide) rfl ⟨_, rfl⟩ rfl ⟨Nat.le_of_ble_eq_true rfl, Nat.le_of_ble_eq_true rfl⟩ (Nat.le_of_ble_eq_true rfl) ⟨Nat.le_of_ble_eq_true rfl, Nat.le_of_ble_eq_true rfl, Nat.le_of_ble_eq_true rfl, Nat.le_of_ble_eq_true rfl⟩ (k_Wv fun s31 h => ?_)
          refine z_aload_n C dX6_readAnyOf_34 (i := 0) rfl rfl ?_
          refine z_iload_n C dX6_readAnyOf_35 (i := 1) rfl rfl ?_
          refine t_callV C (rest := []) (c2 := 0) (s2 := 0) (kd := 13) (i := 0) [.int (a1)] dX6_readAnyOf_36 lk_X6_190 li_X6_readAllOf le_X6_readAllOf (c_X6_readAllOf_L5 hfl h) rfl rfl (by decide) rfl ⟨_, rfl⟩ rfl ⟨Nat.le_of_ble_eq_true rfl, Nat.le_of_ble_eq_true rfl⟩ (Nat.le_of_ble_eq_true rfl) ⟨Nat.le_of_ble_eq_true rfl, Nat.le_of_ble_eq_true rfl, Nat.le_of_ble_eq_true rfl, Nat.le_of_ble_eq_true rfl⟩ (k_Wi fun r36 s36 h => ?_)
          refine z_if_eq C dX6_readAnyOf_39 (tgt := 55) (by decide) (fun c39 => ?_) (fun c39 => ?_)
          · have h := h.1 c39
            exact t_drop [true, true, false, true] rfl (j_X6_readAnyOf_L5_55 hfl C hr hn9 hK8 s36 a1 a3 h)
          · have h := h.2 c39
            refine z_aload_n C dX6_readAnyOf_42 (i := 0) rfl rfl ?_
            refine z_bipush C dX6_readAnyOf_43 (v := (-3)) (by decide) ?_
            refine t_callV C (rest := []) (c2 := 0) (s2 := 0) (kd := 13) (i := 0) [.int (-3)] dX6_readAnyOf_45 lk_X6_196 li_X6_addStep le_X6_addStep (c_X6_addStep hfl h) rfl rfl (by decide) rfl ⟨_, rfl⟩ rfl ⟨Nat.le_of_ble_eq_true rfl, Nat.le_of_ble_eq_true rfl⟩ (Nat.le_of_ble_eq_true rfl) ⟨Nat.le_of_ble_eq_true rfl, Nat.le_of_ble_eq_true rfl, Nat.le_of_ble_eq_true rfl, Nat.le_of_ble_eq_true rfl⟩ (k_Wi fun r45 s45 h => ?_)
            refine z_if_eq C dX6_readAnyOf_48 (tgt := 55) (by decide) (fun c48 => ?_) (fun c48 => ?_)
            · have h := h.1 c48
              exact t_drop [true, true, false, true] rfl (j_X6_readAnyOf_L5_55 hfl C hr hn9 hK8 s45 a1 a3 h)
            · have h := h.2 c48
              refine z_iconst C dX6_readAnyOf_51 (v := 1) (by decide) ?_
              refine z_goto C dX6_readAnyOf_52 (tgt := 56) (by decide) ?_
              exact t_drop [true, true, false, true] rfl (j_X6_readAnyOf_L5_56 hfl C hr hn9 hK8 s45 a1 a3 (1) h)
def w_X6_readAnyOf_L5 (st : zTs) (a1 : Int32) (P : Int32 → zTs → Prop) : Prop := w_X6_readAllOf_L5 st a1 (fun (r2 : Int32) (s2 : zTs) => (w_X6_readAnyOf_L5_8 P zfu s2 a1 r2 (0)))
set_option maxHeartbeats 4000000 in
set_option maxRecDepth 100000 in
theorem c_X6_readAnyOf_L5 {Z : zZ} {l : Launch} (hfl : l.stackTraces = false) {st : zTs} {a1 : Int32} {P : Int32 → zTs → Prop} (h : w_X6_readAnyOf_L5 st a1 P) : zN Z l yX6_readAnyOf cX6_readAnyOf 4 (some .boolean) ({ frames := 25, cells := 0, slots := 0, locals := 561 } : Room) (zh Z zm1 st) [.ref 13, .int (a1)] (zWi Z P) := by
  unfold w_X6_readAnyOf_L5 at h
  refine z_enterN (by decide) (Nat.le_of_ble_eq_true rfl) (lc0 := [some (.ref 13), some (.int (a1)), none, none]) rfl ?_
  intro p e s m args below meth c ad0 C hr _
  have hn9 : True := trivial
  replace C : zC Z p s m args meth c cX6_readAnyOf 4 RX6 := C
  refine z_aload_n C dX6_readAnyOf_0 (i := 0) rfl rfl ?_
  refine z_iload_n C dX6_readAnyOf_1 (i := 1) rfl rfl ?_
  refine t_callV C (rest := []) (c2 := 0) (s2 := 0) (kd := 13) (i := 0) [.int (a1)] dX6_readAnyOf_2 lk_X6_190 li_X6_readAllOf le_X6_readAllOf (c_X6_readAllOf_L5 hfl h) rfl rfl (by decide) rfl ⟨_, rfl⟩ rfl ⟨Nat.le_of_ble_eq_true rfl, Nat.le_of_ble_eq_true rfl⟩ (Nat.le_of_ble_eq_true rfl) ⟨Nat.le_of_ble_eq_true rfl, Nat.le_of_ble_eq_true rfl, Nat.le_of_ble_eq_true rfl, Nat.le_of_ble_eq_true rfl⟩ (k_Wi fun r2 s2 h => ?_)
  refine z_istore_n C dX6_readAnyOf_5 (i := 2) (lc' := [some (.ref 13), some (.int (a1)), some (.int (r2)), none]) rfl (by decide) rfl ?_
  refine z_iconst C dX6_readAnyOf_6 (v := 0) (by decide) ?_
  refine z_istore_n C dX6_readAnyOf_7 (i := 3) (lc' := [some (.ref 13), some (.int (a1)), some (.int (r2)), some (.int (0))]) rfl (by decide) rfl ?_
  exact t_drop [true, true, true, true] rfl (j_X6_readAnyOf_L5_8 hfl C hr hn9  zfu s2 a1 r2 (0) h)
def w_X6_readOne_L4_188 (P : Int32 → zTs → Prop)  (st : zTs) (b0 : Int32) (b1 : Int32) : Prop := w_X6_addStep st (((b1 + b0) * 10000) + (zgF st 13 0 9)) (fun (r198 : Int32) (s198 : zTs) => ((r198 = 0 → P 0 s198) ∧ (¬ r198 = 0 → P 1 s198)))
set_option maxHeartbeats 4000000 in
set_option maxRecDepth 100000 in
theorem j_X6_readOne_L4_188 {P : Int32 → zTs → Prop}  (hfl : l.stackTraces = false) (C : zC Z p s m args meth c cX6_readOne 5 RX6) (hr : meth.sig.returnType = (some .boolean)) (hn9 : True)  (st : zTs) (b0 : Int32) (b1 : Int32) (h : w_X6_readOne_L4_188 P st b0 b1) : zG Z ad0 h0 p l e ({ frames := 26, cells := 0, slots := 0, locals := 584 } : Room) s m args below meth c (MQ below (zQ Z ad0 h0 (zWi Z P)) args s 0 0 (zA Z)) 0 0 (zh Z zm1 st) 5 188 [some (.ref 13), none, none, none, none] [.int (b0), .int (b1), .ref 13] := by
  unfold w_X6_readOne_L4_188 at h
  refine z_iadd C dX6_readOne_188 ?_
  refine z_sipush C dX6_readOne_189 (v := 10000) (by decide) ?_
  refine z_imul C dX6_readOne_192 ?_
  refine z_aload_n C dX6_readOne_193 (i := 0) rfl rfl ?_
  refine t_get C dX6_readOne_194 fl_X6_83 (k := 13) (i := 0) (by decide) rfl (fg_13_9 _ _ _) ?_
  refine z_iadd C dX6_readOne_197 ?_
  refine t_callV C (rest := []) (c2 := 0) (s2 := 0) (kd := 13) (i := 0) [.int (((b1 + b0) * 10000) + (zgF st 13 0 9))] dX6_readOne_198 lk_X6_196 li_X6_addStep le_X6_addStep (c_X6_addStep hfl h) rfl rfl (by decide) rfl ⟨_, rfl⟩ rfl ⟨Nat.le_of_ble_eq_true rfl, Nat.le_of_ble_eq_true rfl⟩ (Nat.le_of_ble_eq_true rfl) ⟨Nat.le_of_ble_eq_true rfl, Nat.le_of_ble_eq_true rfl, Nat.le_of_ble_eq_true rfl, Nat.le_of_ble_eq_true rfl⟩ (k_Wi fun r198 s198 h => ?_)
  refine z_if_eq C dX6_readOne_201 (tgt := 208) (by decide) (fun c201 => ?_) (fun c201 => ?_)
  · have h := h.1 c201
    refine z_iconst C dX6_readOne_208 (v := 0) (by decide) ?_
    exact z_iret C dX6_readOne_209 hr rfl ⟨_, _, rfl, rfl, h⟩ (Nat.le_of_ble_eq_true rfl) (Nat.le_of_ble_eq_true rfl)
  · have h := h.2 c201
    refine z_iconst C dX6_readOne_204 (v := 1) (by decide) ?_
    refine z_goto C dX6_readOne_205 (tgt := 209) (by decide) ?_
    exact z_iret C dX6_readOne_209 hr rfl ⟨_, _, rfl, rfl, h⟩ (Nat.le_of_ble_eq_true rfl) (Nat.le_of_ble_eq_true rfl)
def w_X6_readOne_L4_159 (P : Int32 → zTs → Prop)  (st : zTs) (a3 : Int32) (a4 : Int32) : Prop := w_X6_advance st (fun (s160 : zTs) => (w_X6_takeNumber s160 0 9999 (fun (r168 : Int32) (s168 : zTs) => ((r168 = 0 → P 0 s168) ∧ (¬ r168 = 0 → (a4 = 0 → w_X6_readOne_L4_188 P s168 (0) (2 * a3)) ∧ (¬ a4 = 0 → w_X6_readOne_L4_188 P s168 (1) (2 * a3)))))))
set_option maxHeartbeats 4000000 in
set_option maxRecDepth 100000 in
theorem j_X6_readOne_L4_159 {P : Int32 → zTs → Prop}  (hfl : l.stackTraces = false) (C : zC Z p s m args meth c cX6_readOne 5 RX6) (hr : meth.sig.returnType = (some .boolean)) (hn9 : True)  (st : zTs) (a3 : Int32) (a4 : Int32) (h : w_X6_readOne_L4_159 P st a3 a4) : zG Z ad0 h0 p l e ({ frames := 26, cells := 0, slots := 0, locals := 584 } : Room) s m args below meth c (MQ below (zQ Z ad0 h0 (zWi Z P)) args s 0 0 (zA Z)) 0 0 (zh Z zm1 st) 5 159 [some (.ref 13), none, none, some (.int (a3)), some (.int (a4))] [] := by
  unfold w_X6_readOne_L4_159 at h
  refine z_aload_n C dX6_readOne_159 (i := 0) rfl rfl ?_
  refine t_callV C (rest := []) (c2 := 0) (s2 := 0) (kd := 13) (i := 0) [] dX6_readOne_160 lk_X6_61 li_X6_advance le_X6_advance (c_X6_advance hfl h) rfl rfl (by decide) rfl ⟨_, rfl⟩ rfl ⟨Nat.le_of_ble_eq_true rfl, Nat.le_of_ble_eq_true rfl⟩ (Nat.le_of_ble_eq_true rfl) ⟨Nat.le_of_ble_eq_true rfl, Nat.le_of_ble_eq_true rfl, Nat.le_of_ble_eq_true rfl, Nat.le_of_ble_eq_true rfl⟩ (k_Wv fun s160 h => ?_)
  refine z_aload_n C dX6_readOne_163 (i := 0) rfl rfl ?_
  refine z_iconst C dX6_readOne_164 (v := 0) (by decide) ?_
  refine z_sipush C dX6_readOne_165 (v := 9999) (by decide) ?_
  refine t_callV C (rest := []) (c2 := 0) (s2 := 0) (kd := 13) (i := 0) [.int (0), .int (9999)] dX6_readOne_168 lk_X6_125 li_X6_takeNumber le_X6_takeNumber (c_X6_takeNumber hfl h) rfl rfl (by decide) rfl ⟨_, rfl⟩ rfl ⟨Nat.le_of_ble_eq_true rfl, Nat.le_of_ble_eq_true rfl⟩ (Nat.le_of_ble_eq_true rfl) ⟨Nat.le_of_ble_eq_true rfl, Nat.le_of_ble_eq_true rfl, Nat.le_of_ble_eq_true rfl, Nat.le_of_ble_eq_true rfl⟩ (k_Wi fun r168 s168 h => ?_)
  refine z_if_eq C dX6_readOne_171 (tgt := 208) (by decide) (fun c171 => ?_) (fun c171 => ?_)
  · have h := h.1 c171
    refine z_iconst C dX6_readOne_208 (v := 0) (by decide) ?_
    exact z_iret C dX6_readOne_209 hr rfl ⟨_, _, rfl, rfl, h⟩ (Nat.le_of_ble_eq_true rfl) (Nat.le_of_ble_eq_true rfl)
  · have h := h.2 c171
    refine z_aload_n C dX6_readOne_174 (i := 0) rfl rfl ?_
    refine z_iconst C dX6_readOne_175 (v := 2) (by decide) ?_
    refine z_iload_n C dX6_readOne_176 (i := 3) rfl rfl ?_
    refine z_imul C dX6_readOne_177 ?_
    refine z_iload C dX6_readOne_178 rfl ?_
    refine z_if_eq C dX6_readOne_180 (tgt := 187) (by decide) (fun c180 => ?_) (fun c180 => ?_)
    · have h := h.1 c180
      refine z_iconst C dX6_readOne_187 (v := 0) (by decide) ?_
      exact t_drop [true, false, false, false, false] rfl (j_X6_readOne_L4_188 hfl C hr hn9  s168 (0) (2 * a3) h)
    · have h := h.2 c180
      refine z_iconst C dX6_readOne_183 (v := 1) (by decide) ?_
      refine z_goto C dX6_readOne_184 (tgt := 188) (by decide) ?_
      exact t_drop [true, false, false, false, false] rfl (j_X6_readOne_L4_188 hfl C hr hn9  s168 (1) (2 * a3) h)
def w_X6_readOne_L4_137 (P : Int32 → zTs → Prop)  (st : zTs) (a3 : Int32) (b0 : Int32) : Prop := (b0 = 0 → ((zgF st 13 0 8) = 60 → w_X6_readOne_L4_159 P st a3 b0) ∧ (¬ (zgF st 13 0 8) = 60 → w_X6_fail st 1 (fun (r155 : Int32) (s155 : zTs) => ((r155 = 0 ∨ r155 = 1) ∧ (P r155 s155))))) ∧ (¬ b0 = 0 → w_X6_readOne_L4_159 P st a3 b0)
set_option maxHeartbeats 4000000 in
set_option maxRecDepth 100000 in
theorem j_X6_readOne_L4_137 {P : Int32 → zTs → Prop}  (hfl : l.stackTraces = false) (C : zC Z p s m args meth c cX6_readOne 5 RX6) (hr : meth.sig.returnType = (some .boolean)) (hn9 : True)  (st : zTs) (a3 : Int32) (b0 : Int32) (h : w_X6_readOne_L4_137 P st a3 b0) : zG Z ad0 h0 p l e ({ frames := 26, cells := 0, slots := 0, locals := 584 } : Room) s m args below meth c (MQ below (zQ Z ad0 h0 (zWi Z P)) args s 0 0 (zA Z)) 0 0 (zh Z zm1 st) 5 137 [some (.ref 13), none, none, some (.int (a3)), none] [.int (b0)] := by
  unfold w_X6_readOne_L4_137 at h
  refine z_istore C dX6_readOne_137 (lc' := [some (.ref 13), none, none, some (.int (a3)), some (.int (b0))]) (by decide) rfl ?_
  refine z_iload C dX6_readOne_139 rfl ?_
  refine z_if_ne C dX6_readOne_141 (tgt := 159) (by decide) (fun c141 => ?_) (fun c141 => ?_)
  · have h := h.2 c141
    exact t_drop [true, false, false, true, true] rfl (j_X6_readOne_L4_159 hfl C hr hn9  st a3 b0 h)
  · have h := h.1 c141
    refine z_aload_n C dX6_readOne_144 (i := 0) rfl rfl ?_
    refine t_get C dX6_readOne_145 fl_X6_28 (k := 13) (i := 0) (by decide) rfl (fg_13_8 _ _ _) ?_
    refine z_bipush C dX6_readOne_148 (v := 60) (by decide) ?_
    refine z_icmp_eq C dX6_readOne_150 (tgt := 159) (by decide) (fun c150 => ?_) (fun c150 => ?_)
    · have h := h.1 c150
      exact t_drop [true, false, false, true, true] rfl (j_X6_readOne_L4_159 hfl C hr hn9  st a3 b0 h)
    · have h := h.2 c150
      refine z_aload_n C dX6_readOne_153 (i := 0) rfl rfl ?_
      refine z_iconst C dX6_readOne_154 (v := 1) (by decide) ?_
      refine t_callV C (rest := []) (c2 := 0) (s2 := 0) (kd := 13) (i := 0) [.int (1)] dX6_readOne_155 lk_X6_79 li_X6_fail le_X6_fail (c_X6_fail hfl h) rfl rfl (by decide) rfl ⟨_, rfl⟩ rfl ⟨Nat.le_of_ble_eq_true rfl, Nat.le_of_ble_eq_true rfl⟩ (Nat.le_of_ble_eq_true rfl) ⟨Nat.le_of_ble_eq_true rfl, Nat.le_of_ble_eq_true rfl, Nat.le_of_ble_eq_true rfl, Nat.le_of_ble_eq_true rfl⟩ (k_Wi fun r155 s155 h => ?_)
      obtain ⟨g158, h⟩ := h
      exact z_iret C dX6_readOne_158 hr (zn_bool g158) ⟨_, _, rfl, rfl, h⟩ (Nat.le_of_ble_eq_true rfl) (Nat.le_of_ble_eq_true rfl)
def w_X6_readOne_L4_29 (P : Int32 → zTs → Prop)  (st : zTs) (a1 : Int32) (a2 : Int32) : Prop := (a1 < 8 → w_X6_advance st (fun (s42 : zTs) => ((a2 = 0 → w_X6_readAnyOf_L5 s42 (a1 + 1) (fun (r79 : Int32) (s79 : zTs) => ((r79 = 0 → P 0 s79) ∧ (¬ r79 = 0 → w_X6_takeSign s79 41 (fun (r88 : Int32) (s88 : zTs) => ((r88 = 0 → P 0 s88) ∧ (¬ r88 = 0 → P 1 s88))))))) ∧ (¬ a2 = 0 → w_X6_readOne_L5 s42 (a1 + 1) (fun (r53 : Int32) (s53 : zTs) => ((r53 = 0 → P 0 s53) ∧ (¬ r53 = 0 → w_X6_addStep s53 (-1) (fun (r61 : Int32) (s61 : zTs) => ((r61 = 0 → P 0 s61) ∧ (¬ r61 = 0 → P 1 s61)))))))))) ∧ (¬ a1 < 8 → w_X6_fail st 3 (fun (r37 : Int32) (s37 : zTs) => ((r37 = 0 ∨ r37 = 1) ∧ (P r37 s37))))
set_option maxHeartbeats 4000000 in
set_option maxRecDepth 100000 in
theorem j_X6_readOne_L4_29 {P : Int32 → zTs → Prop}  (hfl : l.stackTraces = false) (C : zC Z p s m args meth c cX6_readOne 5 RX6) (hr : meth.sig.returnType = (some .boolean)) (hn9 : True)  (st : zTs) (a1 : Int32) (a2 : Int32) (h : w_X6_readOne_L4_29 P st a1 a2) : zG Z ad0 h0 p l e ({ frames := 26, cells := 0, slots := 0, locals := 584 } : Room) s m args below meth c (MQ below (zQ Z ad0 h0 (zWi Z P)) args s 0 0 (zA Z)) 0 0 (zh Z zm1 st) 5 29 [some (.ref 13), some (.int (a1)), some (.int (a2)), none, none] [] := by
  unfold w_X6_readOne_L4_29 at h
  refine z_iload_n C dX6_readOne_29 (i := 1) rfl rfl ?_
  refine z_bipush C dX6_readOne_30 (v := 8) (by decide) ?_
  refine z_icmp_lt C dX6_readOne_32 (tgt := 41) (by decide) (fun c32 => ?_) (fun c32 => ?_)
  · have h := h.1 c32
    refine z_aload_n C dX6_readOne_41 (i := 0) rfl rfl ?_
    refine t_callV C (rest := []) (c2 := 0) (s2 := 0) (kd := 13) (i := 0) [] dX6_readOne_42 lk_X6_61 li_X6_advance le_X6_advance (c_X6_advance hfl h) rfl rfl (by decide) rfl ⟨_, rfl⟩ rfl ⟨Nat.le_of_ble_eq_true rfl, Nat.le_of_ble_eq_true rfl⟩ (Nat.le_of_ble_eq_true rfl) ⟨Nat.le_of_ble_eq_true rfl, Nat.le_of_ble_eq_true rfl, Nat.le_of_ble_eq_true rfl, Nat.le_of_ble_eq_true rfl⟩ (k_Wv fun s42 h => ?_)
    refine z_iload_n C dX6_readOne_45 (i := 2) rfl rfl ?_
    refine z_if_eq C dX6_readOne_46 (tgt := 75) (by decide) (fun c46 => ?_) (fun c46 => ?_)
    · have h := h.1 c46
      refine z_aload_n C dX6_readOne_75 (i := 0) rfl rfl ?_
      refine z_iload_n C dX6_readOne_76 (i := 1) rfl rfl ?_
      refine z_iconst C dX6_readOne_77 (v := 1) (by decide) ?_
      refine z_iadd C dX6_readOne_78 ?_
      refine t_callV C (rest := []) (c2 := 0) (s2 := 0) (kd := 13) (i := 0) [.int (a1 + 1)] dX6_readOne_79 lk_X6_177 li_X6_readAnyOf le_X6_readAnyOf (c_X6_readAnyOf_L5 hfl h) rfl rfl (by decide) rfl ⟨_, rfl⟩ rfl ⟨Nat.le_of_ble_eq_true rfl, Nat.le_of_ble_eq_true rfl⟩ (Nat.le_of_ble_eq_true rfl) ⟨Nat.le_of_ble_eq_true rfl, Nat.le_of_ble_eq_true rfl, Nat.le_of_ble_eq_true rfl, Nat.le_of_ble_eq_true rfl⟩ (k_Wi fun r79 s79 h => ?_)
      refine z_if_eq C dX6_readOne_82 (tgt := 98) (by decide) (fun c82 => ?_) (fun c82 => ?_)
      · have h := h.1 c82
        refine z_iconst C dX6_readOne_98 (v := 0) (by decide) ?_
        exact z_iret C dX6_readOne_99 hr rfl ⟨_, _, rfl, rfl, h⟩ (Nat.le_of_ble_eq_true rfl) (Nat.le_of_ble_eq_true rfl)
      · have h := h.2 c82
        refine z_aload_n C dX6_readOne_85 (i := 0) rfl rfl ?_
        refine z_bipush C dX6_readOne_86 (v := 41) (by decide) ?_
        refine t_callV C (rest := []) (c2 := 0) (s2 := 0) (kd := 13) (i := 0) [.int (41)] dX6_readOne_88 lk_X6_118 li_X6_takeSign le_X6_takeSign (c_X6_takeSign hfl h) rfl rfl (by decide) rfl ⟨_, rfl⟩ rfl ⟨Nat.le_of_ble_eq_true rfl, Nat.le_of_ble_eq_true rfl⟩ (Nat.le_of_ble_eq_true rfl) ⟨Nat.le_of_ble_eq_true rfl, Nat.le_of_ble_eq_true rfl, Nat.le_of_ble_eq_true rfl, Nat.le_of_ble_eq_true rfl⟩ (k_Wi fun r88 s88 h => ?_)
        refine z_if_eq C dX6_readOne_91 (tgt := 98) (by decide) (fun c91 => ?_) (fun c91 => ?_)
        · have h := h.1 c91
          refine z_iconst C dX6_readOne_98 (v := 0) (by decide) ?_
          exact z_iret C dX6_readOne_99 hr rfl ⟨_, _, rfl, rfl, h⟩ (Nat.le_of_ble_eq_true rfl) (Nat.le_of_ble_eq_true rfl)
        · have h := h.2 c91
          refine z_iconst C dX6_readOne_94 (v := 1) (by decide) ?_
          refine z_goto C dX6_readOne_95 (tgt := 99) (by decide) ?_
          exact z_iret C dX6_readOne_99 hr rfl ⟨_, _, rfl, rfl, h⟩ (Nat.le_of_ble_eq_true rfl) (Nat.le_of_ble_eq_true rfl)
    · have h := h.2 c46
      refine z_aload_n C dX6_readOne_49 (i := 0) rfl rfl ?_
      refine z_iload_n C dX6_readOne_50 (i := 1) rfl rfl ?_
      refine z_iconst C dX6_readOne_51 (v := 1) (by decide) ?_
      refine z_iadd C dX6_readOne_52 ?_
      refine t_callV C (rest := []) (c2 := 0) (s2 := 0) (kd := 13) (i := 0) [.int (a1 + 1)] dX6_readOne_53 lk_X6_199 li_X6_readOne le_X6_readOne (c_X6_readOne_L5 hfl h) rfl rfl (by decide) rfl ⟨_, rfl⟩ rfl ⟨Nat.le_of_ble_eq_true rfl, Nat.le_of_ble_eq_true rfl⟩ (Nat.le_of_ble_eq_true rfl) ⟨Nat.le_of_ble_eq_true rfl, Nat.le_of_ble_eq_true rfl, Nat.le_of_ble_eq_true rfl, Nat.le_of_ble_eq_true rfl⟩ (k_Wi fun r53 s53 h => ?_)
      refine z_if_eq C dX6_readOne_56 (tgt := 71) (by decide) (fun c56 => ?_) (fun c56 => ?_)
      · have h := h.1 c56
        refine z_iconst C dX6_readOne_71 (v := 0) (by decide) ?_
        refine z_goto C dX6_readOne_72 (tgt := 99) (by decide) ?_
        exact z_iret C dX6_readOne_99 hr rfl ⟨_, _, rfl, rfl, h⟩ (Nat.le_of_ble_eq_true rfl) (Nat.le_of_ble_eq_true rfl)
      · have h := h.2 c56
        refine z_aload_n C dX6_readOne_59 (i := 0) rfl rfl ?_
        refine z_iconst C dX6_readOne_60 (v := (-1)) (by decide) ?_
        refine t_callV C (rest := []) (c2 := 0) (s2 := 0) (kd := 13) (i := 0) [.int (-1)] dX6_readOne_61 lk_X6_196 li_X6_addStep le_X6_addStep (c_X6_addStep hfl h) rfl rfl (by decide) rfl ⟨_, rfl⟩ rfl ⟨Nat.le_of_ble_eq_true rfl, Nat.le_of_ble_eq_true rfl⟩ (Nat.le_of_ble_eq_true rfl) ⟨Nat.le_of_ble_eq_true rfl, Nat.le_of_ble_eq_true rfl, Nat.le_of_ble_eq_true rfl, Nat.le_of_ble_eq_true rfl⟩ (k_Wi fun r61 s61 h => ?_)
        refine z_if_eq C dX6_readOne_64 (tgt := 71) (by decide) (fun c64 => ?_) (fun c64 => ?_)
        · have h := h.1 c64
          refine z_iconst C dX6_readOne_71 (v := 0) (by decide) ?_
          refine z_goto C dX6_readOne_72 (tgt := 99) (by decide) ?_
          exact z_iret C dX6_readOne_99 hr rfl ⟨_, _, rfl, rfl, h⟩ (Nat.le_of_ble_eq_true rfl) (Nat.le_of_ble_eq_true rfl)
        · have h := h.2 c64
          refine z_iconst C dX6_readOne_67 (v := 1) (by decide) ?_
          refine z_goto C dX6_readOne_68 (tgt := 99) (by decide) ?_
          exact z_iret C dX6_readOne_99 hr rfl ⟨_, _, rfl, rfl, h⟩ (Nat.le_of_ble_eq_true rfl) (Nat.le_of_ble_eq_true rfl)
  · have h := h.2 c32
    refine z_aload_n C dX6_readOne_35 (i := 0) rfl rfl ?_
    refine z_iconst C dX6_readOne_36 (v := 3) (by decide) ?_
    refine t_callV C (rest := []) (c2 := 0) (s2 := 0) (kd := 13) (i := 0) [.int (3)] dX6_readOne_37 lk_X6_79 li_X6_fail le_X6_fail (c_X6_fail hfl h) rfl rfl (by decide) rfl ⟨_, rfl⟩ rfl ⟨Nat.le_of_ble_eq_true rfl, Nat.le_of_ble_eq_true rfl⟩ (Nat.le_of_ble_eq_true rfl) ⟨Nat.le_of_ble_eq_true rfl, Nat.le_of_ble_eq_true rfl, Nat.le_of_ble_eq_true rfl, Nat.le_of_ble_eq_true rfl⟩ (k_Wi fun r37 s37 h => ?_)
    obtain ⟨g40, h⟩ := h
    exact z_iret C dX6_readOne_40 hr (zn_bool g40) ⟨_, _, rfl, rfl, h⟩ (Nat.le_of_ble_eq_true rfl) (Nat.le_of_ble_eq_true rfl)
def w_X6_readOne_L4_15 (P : Int32 → zTs → Prop)  (st : zTs) (a1 : Int32) (b0 : Int32) : Prop := (b0 = 0 → ((zgF st 13 0 8) = 40 → w_X6_readOne_L4_29 P st a1 b0) ∧ (¬ (zgF st 13 0 8) = 40 → w_X6_measureOf st (zgP st 13 0 6) (fun (r104 : Int32) => ((r104 = (-1) → w_X6_fail st 1 (fun (r115 : Int32) (s115 : zTs) => ((r115 = 0 ∨ r115 = 1) ∧ (P r115 s115)))) ∧ (¬ r104 = (-1) → w_X6_advance st (fun (s120 : zTs) => (((zgF s120 13 0 8) = 62 → w_X6_readOne_L4_137 P s120 r104 (1)) ∧ (¬ (zgF s120 13 0 8) = 62 → w_X6_readOne_L4_137 P s120 r104 (0))))))))) ∧ (¬ b0 = 0 → w_X6_readOne_L4_29 P st a1 b0)
set_option maxHeartbeats 4000000 in
set_option maxRecDepth 100000 in
theorem j_X6_readOne_L4_15 {P : Int32 → zTs → Prop}  (hfl : l.stackTraces = false) (C : zC Z p s m args meth c cX6_readOne 5 RX6) (hr : meth.sig.returnType = (some .boolean)) (hn9 : True)  (st : zTs) (a1 : Int32) (b0 : Int32) (h : w_X6_readOne_L4_15 P st a1 b0) : zG Z ad0 h0 p l e ({ frames := 26, cells := 0, slots := 0, locals := 584 } : Room) s m args below meth c (MQ below (zQ Z ad0 h0 (zWi Z P)) args s 0 0 (zA Z)) 0 0 (zh Z zm1 st) 5 15 [some (.ref 13), some (.int (a1)), none, none, none] [.int (b0)] := by
  unfold w_X6_readOne_L4_15 at h
  refine z_istore_n C dX6_readOne_15 (i := 2) (lc' := [some (.ref 13), some (.int (a1)), some (.int (b0)), none, none]) rfl (by decide) rfl ?_
  refine z_iload_n C dX6_readOne_16 (i := 2) rfl rfl ?_
  refine z_if_ne C dX6_readOne_17 (tgt := 29) (by decide) (fun c17 => ?_) (fun c17 => ?_)
  · have h := h.2 c17
    exact t_drop [true, true, true, false, false] rfl (j_X6_readOne_L4_29 hfl C hr hn9  st a1 b0 h)
  · have h := h.1 c17
    refine z_aload_n C dX6_readOne_20 (i := 0) rfl rfl ?_
    refine t_get C dX6_readOne_21 fl_X6_28 (k := 13) (i := 0) (by decide) rfl (fg_13_8 _ _ _) ?_
    refine z_bipush C dX6_readOne_24 (v := 40) (by decide) ?_
    refine z_icmp_ne C dX6_readOne_26 (tgt := 100) (by decide) (fun c26 => ?_) (fun c26 => ?_)
    · have h := h.2 c26
      refine z_aload_n C dX6_readOne_100 (i := 0) rfl rfl ?_
      refine t_get C dX6_readOne_101 fl_X6_21 (k := 13) (i := 0) (by decide) rfl (fg_13_6 _ _ _) ?_
      refine t_callS C (rest := []) (c2 := 0) (s2 := 0) [.ref (201 + 256 * (zgP st 13 0 6))] dX6_readOne_104 lk_X6_208 ls_X6_measureOf (c_X6_measureOf hfl h) rfl rfl ⟨Nat.le_of_ble_eq_true rfl, Nat.le_of_ble_eq_true rfl⟩ (Nat.le_of_ble_eq_true rfl) ⟨Nat.le_of_ble_eq_true rfl, Nat.le_of_ble_eq_true rfl, Nat.le_of_ble_eq_true rfl, Nat.le_of_ble_eq_true rfl⟩ (k_Ri fun r104 h => ?_)
      refine z_istore_n C dX6_readOne_107 (i := 3) (lc' := [some (.ref 13), some (.int (a1)), some (.int (b0)), some (.int (r104)), none]) rfl (by decide) rfl ?_
      refine z_iload_n C dX6_readOne_108 (i := 3) rfl rfl ?_
      refine z_iconst C dX6_readOne_109 (v := (-1)) (by decide) ?_
      refine z_icmp_ne C dX6_readOne_110 (tgt := 119) (by decide) (fun c110 => ?_) (fun c110 => ?_)
      · have h := h.2 c110
        refine z_aload_n C dX6_readOne_119 (i := 0) rfl rfl ?_
        refine t_callV C (rest := []) (c2 := 0) (s2 := 0) (kd := 13) (i := 0) [] dX6_readOne_120 lk_X6_61 li_X6_advance le_X6_advance (c_X6_advance hfl h) rfl rfl (by decide) rfl ⟨_, rfl⟩ rfl ⟨Nat.le_of_ble_eq_true rfl, Nat.le_of_ble_eq_true rfl⟩ (Nat.le_of_ble_eq_true rfl) ⟨Nat.le_of_ble_eq_true rfl, Nat.le_of_ble_eq_true rfl, Nat.le_of_ble_eq_true rfl, Nat.le_of_ble_eq_true rfl⟩ (k_Wv fun s120 h => ?_)
        refine z_aload_n C dX6_readOne_123 (i := 0) rfl rfl ?_
        refine t_get C dX6_readOne_124 fl_X6_28 (k := 13) (i := 0) (by decide) rfl (fg_13_8 _ _ _) ?_
        refine z_bipush C dX6_readOne_127 (v := 62) (by decide) ?_
        refine z_icmp_ne C dX6_readOne_129 (tgt := 136) (by decide) (fun c129 => ?_) (fun c129 => ?_)
        · have h := h.2 c129
          refine z_iconst C dX6_readOne_136 (v := 0) (by decide) ?_
          exact t_drop [true, false, false, true, false] rfl (j_X6_readOne_L4_137 hfl C hr hn9  s120 r104 (0) h)
        · have h := h.1 c129
          refine z_iconst C dX6_readOne_132 (v := 1) (by decide) ?_
          refine z_goto C dX6_readOne_133 (tgt := 137) (by decide) ?_
          exact t_drop [true, false, false, true, false] rfl (j_X6_readOne_L4_137 hfl C hr hn9  s120 r104 (1) h)
      · have h := h.1 c110
        refine z_aload_n C dX6_readOne_113 (i := 0) rfl rfl ?_
        refine z_iconst C dX6_readOne_114 (v := 1) (by decide) ?_
        refine t_callV C (rest := []) (c2 := 0) (s2 := 0) (kd := 13) (i := 0) [.int (1)] dX6_readOne_115 lk_X6_79 li_X6_fail le_X6_fail (c_X6_fail hfl h) rfl rfl (by decide) rfl ⟨_, rfl⟩ rfl ⟨Nat.le_of_ble_eq_true rfl, Nat.le_of_ble_eq_true rfl⟩ (Nat.le_of_ble_eq_true rfl) ⟨Nat.le_of_ble_eq_true rfl, Nat.le_of_ble_eq_true rfl, Nat.le_of_ble_eq_true rfl, Nat.le_of_ble_eq_true rfl⟩ (k_Wi fun r115 s115 h => ?_)
        obtain ⟨g118, h⟩ := h
        exact z_iret C dX6_readOne_118 hr (zn_bool g118) ⟨_, _, rfl, rfl, h⟩ (Nat.le_of_ble_eq_true rfl) (Nat.le_of_ble_eq_true rfl)
    · have h := h.1 c26
      exact t_drop [true, true, true, false, false] rfl (j_X6_readOne_L4_29 hfl C hr hn9  st a1 b0 h)
def w_X6_readOne_L4 (st : zTs) (a1 : Int32) (P : Int32 → zTs → Prop) : Prop := (zgP st 13 0 6 < 24) ∧ ((((zgP st 13 0 6) : Nat) = 20 → w_X6_readOne_L4_15 P st a1 (1)) ∧ (¬ ((zgP st 13 0 6) : Nat) = 20 → w_X6_readOne_L4_15 P st a1 (0)))
set_option maxHeartbeats 4000000 in
set_option maxRecDepth 100000 in
theorem c_X6_readOne_L4 {Z : zZ} {l : Launch} (hfl : l.stackTraces = false) {st : zTs} {a1 : Int32} {P : Int32 → zTs → Prop} (h : w_X6_readOne_L4 st a1 P) : zN Z l yX6_readOne cX6_readOne 5 (some .boolean) ({ frames := 26, cells := 0, slots := 0, locals := 584 } : Room) (zh Z zm1 st) [.ref 13, .int (a1)] (zWi Z P) := by
  unfold w_X6_readOne_L4 at h
  refine z_enterN (by decide) (Nat.le_of_ble_eq_true rfl) (lc0 := [some (.ref 13), some (.int (a1)), none, none, none]) rfl ?_
  intro p e s m args below meth c ad0 C hr _
  have hn9 : True := trivial
  replace C : zC Z p s m args meth c cX6_readOne 5 RX6 := C
  refine z_aload_n C dX6_readOne_0 (i := 0) rfl rfl ?_
  refine t_get C dX6_readOne_1 fl_X6_21 (k := 13) (i := 0) (by decide) rfl (fg_13_6 _ _ _) ?_
  refine z_gets C dX6_readOne_4 (q := 201 + 256 * 20) (by decide) gl_X6_205 (fun z => (z.2.2.2.1.1.1 20 (by decide)).1) ?_
  obtain ⟨g7a, h⟩ := h
  refine z_acmpW_ne C dX6_readOne_7 (i := (zgP st 13 0 6)) (j := 20) (tgt := 14) (by decide) g7a (by decide) (fun c7 => ?_) (fun c7 => ?_)
  · have h := h.2 c7
    refine z_iconst C dX6_readOne_14 (v := 0) (by decide) ?_
    exact t_drop [true, true, false, false, false] rfl (j_X6_readOne_L4_15 hfl C hr hn9  st a1 (0) h)
  · have h := h.1 c7
    refine z_iconst C dX6_readOne_10 (v := 1) (by decide) ?_
    refine z_goto C dX6_readOne_11 (tgt := 15) (by decide) ?_
    exact t_drop [true, true, false, false, false] rfl (j_X6_readOne_L4_15 hfl C hr hn9  st a1 (1) h)
def w_X6_readAllOf_L4_56 (P : Int32 → zTs → Prop) (K8 : zTs → Int32 → Int32 → Int32 → Prop) (st : zTs) (a1 : Int32) (a3 : Int32) (b0 : Int32) : Prop := ∀ x57 : Int32, x57 = a3 + 1 → (K8 st a1 b0 x57)
set_option maxHeartbeats 4000000 in
set_option maxRecDepth 100000 in
theorem j_X6_readAllOf_L4_56 {P : Int32 → zTs → Prop} {K8 : zTs → Int32 → Int32 → Int32 → Prop} (hfl : l.stackTraces = false) (C : zC Z p s m args meth c cX6_readAllOf 4 RX6) (hr : meth.sig.returnType = (some .boolean)) (hn9 : True) (hK8 : ∀ (st : zTs) (a1 : Int32) (a2 : Int32) (a3 : Int32), K8 st a1 a2 a3 → zG Z ad0 h0 p l e ({ frames := 27, cells := 0, slots := 0, locals := 608 } : Room) s m args below meth c (MQ below (zQ Z ad0 h0 (zWi Z P)) args s 0 0 (zA Z)) 0 0 (zh Z zm1 st) 4 8 [some (.ref 13), some (.int (a1)), some (.int (a2)), some (.int (a3))] []) (st : zTs) (a1 : Int32) (a3 : Int32) (b0 : Int32) (h : w_X6_readAllOf_L4_56 P K8 st a1 a3 b0) : zG Z ad0 h0 p l e ({ frames := 27, cells := 0, slots := 0, locals := 608 } : Room) s m args below meth c (MQ below (zQ Z ad0 h0 (zWi Z P)) args s 0 0 (zA Z)) 0 0 (zh Z zm1 st) 4 56 [some (.ref 13), some (.int (a1)), none, some (.int (a3))] [.int (b0)] := by
  unfold w_X6_readAllOf_L4_56 at h
  refine z_istore_n C dX6_readAllOf_56 (i := 2) (lc' := [some (.ref 13), some (.int (a1)), some (.int (b0)), some (.int (a3))]) rfl (by decide) rfl ?_
  obtain ⟨x57, ex57⟩ : ∃ z : Int32, z = a3 + 1 := ⟨_, rfl⟩
  have h := h x57 ex57
  refine z_iinc C dX6_readAllOf_57 (v := x57) (lc' := [some (.ref 13), some (.int (a1)), some (.int (b0)), some (.int (x57))]) rfl (by decide) (by rw [ex57]; rfl) rfl ?_
  refine z_goto C dX6_readAllOf_60 (tgt := 8) (by decide) ?_
  exact t_drop [true, true, true, true] rfl (hK8 st a1 b0 x57 h)
def w_X6_readAllOf_L4_55 (P : Int32 → zTs → Prop) (K8 : zTs → Int32 → Int32 → Int32 → Prop) (st : zTs) (a1 : Int32) (a3 : Int32) : Prop := w_X6_readAllOf_L4_56 P K8 st a1 a3 (0)
set_option maxHeartbeats 4000000 in
set_option maxRecDepth 100000 in
theorem j_X6_readAllOf_L4_55 {P : Int32 → zTs → Prop} {K8 : zTs → Int32 → Int32 → Int32 → Prop} (hfl : l.stackTraces = false) (C : zC Z p s m args meth c cX6_readAllOf 4 RX6) (hr : meth.sig.returnType = (some .boolean)) (hn9 : True) (hK8 : ∀ (st : zTs) (a1 : Int32) (a2 : Int32) (a3 : Int32), K8 st a1 a2 a3 → zG Z ad0 h0 p l e ({ frames := 27, cells := 0, slots := 0, locals := 608 } : Room) s m args below meth c (MQ below (zQ Z ad0 h0 (zWi Z P)) args s 0 0 (zA Z)) 0 0 (zh Z zm1 st) 4 8 [some (.ref 13), some (.int (a1)), some (.int (a2)), some (.int (a3))] []) (st : zTs) (a1 : Int32) (a3 : Int32) (h : w_X6_readAllOf_L4_55 P K8 st a1 a3) : zG Z ad0 h0 p l e ({ frames := 27, cells := 0, slots := 0, locals := 608 } : Room) s m args below meth c (MQ below (zQ Z ad0 h0 (zWi Z P)) args s 0 0 (zA Z)) 0 0 (zh Z zm1 st) 4 55 [some (.ref 13), some (.int (a1)), none, some (.int (a3))] [] := by
  unfold w_X6_readAllOf_L4_55 at h
  refine z_iconst C dX6_readAllOf_55 (v := 0) (by decide) ?_
  exact t_drop [true, true, false, true] rfl (j_X6_readAllOf_L4_56 hfl C hr hn9 hK8 st a1 a3 (0) h)
def w_X6_readAllOf_L4_8 (P : Int32 → zTs → Prop)  : Nat → zTs → Int32 → Int32 → Int32 → Prop
  | 0, _, _, _, _ => False
  | n9 + 1, st, a1, a2, a3 => ((zgF st 13 0 3) ≤ a3 → (a2 = 0 ∨ a2 = 1) ∧ (P a2 st)) ∧ (¬ (zgF st 13 0 3) ≤ a3 → (a2 = 0 → (a2 = 0 ∨ a2 = 1) ∧ (P a2 st)) ∧ (¬ a2 = 0 → (zgP st 13 0 6 < 24) ∧ ((((zgP st 13 0 6) : Nat) = 19 → w_X6_advance st (fun (s31 : zTs) => (w_X6_readOne_L4 s31 a1 (fun (r36 : Int32) (s36 : zTs) => ((r36 = 0 → w_X6_readAllOf_L4_55 P (w_X6_readAllOf_L4_8 P n9) s36 a1 a3) ∧ (¬ r36 = 0 → w_X6_addStep s36 (-2) (fun (r45 : Int32) (s45 : zTs) => ((r45 = 0 → w_X6_readAllOf_L4_55 P (w_X6_readAllOf_L4_8 P n9) s45 a1 a3) ∧ (¬ r45 = 0 → w_X6_readAllOf_L4_56 P (w_X6_readAllOf_L4_8 P n9) s45 a1 a3 (1)))))))))) ∧ (¬ ((zgP st 13 0 6) : Nat) = 19 → (a2 = 0 ∨ a2 = 1) ∧ (P a2 st)))))
set_option maxHeartbeats 4000000 in
set_option maxRecDepth 100000 in
theorem j_X6_readAllOf_L4_8 {P : Int32 → zTs → Prop}  (hfl : l.stackTraces = false) (C : zC Z p s m args meth c cX6_readAllOf 4 RX6) (hr : meth.sig.returnType = (some .boolean)) (hn9 : True)  : ∀ (n9 : Nat) (st : zTs) (a1 : Int32) (a2 : Int32) (a3 : Int32), w_X6_readAllOf_L4_8 P n9 st a1 a2 a3 → zG Z ad0 h0 p l e ({ frames := 27, cells := 0, slots := 0, locals := 608 } : Room) s m args below meth c (MQ below (zQ Z ad0 h0 (zWi Z P)) args s 0 0 (zA Z)) 0 0 (zh Z zm1 st) 4 8 [some (.ref 13), some (.int (a1)), some (.int (a2)), some (.int (a3))] [] := by
  intro n9
  induction n9 with
  | zero => intro st a1 a2 a3 h; exact h.elim
  | succ n9 hK8 =>
    intro st a1 a2 a3 h
    rw [w_X6_readAllOf_L4_8] at h
    refine z_iload_n C dX6_readAllOf_8 (i := 3) rfl rfl ?_
    refine z_aload_n C dX6_readAllOf_9 (i := 0) rfl rfl ?_
    refine t_get C dX6_readAllOf_10 fl_X6_55 (k := 13) (i := 0) (by decide) rfl (fg_13_3 _ _ _) ?_
    refine z_icmp_ge C dX6_readAllOf_13 (tgt := 63) (by decide) (fun c13 => ?_) (fun c13 => ?_)
    · have h := h.1 c13
      refine z_iload_n C dX6_readAllOf_63 (i := 2) rfl rfl ?_
      obtain ⟨g64, h⟩ := h
      exact z_iret C dX6_readAllOf_64 hr (zn_bool g64) ⟨_, _, rfl, rfl, h⟩ (Nat.le_of_ble_eq_true rfl) (Nat.le_of_ble_eq_true rfl)
    · have h := h.2 c13
      refine z_iload_n C dX6_readAllOf_16 (i := 2) rfl rfl ?_
      refine z_if_eq C dX6_readAllOf_17 (tgt := 63) (by decide) (fun c17 => ?_) (fun c17 => ?_)
      · have h := h.1 c17
        refine z_iload_n C dX6_readAllOf_63 (i := 2) rfl rfl ?_
        obtain ⟨g64, h⟩ := h
        exact z_iret C dX6_readAllOf_64 hr (zn_bool g64) ⟨_, _, rfl, rfl, h⟩ (Nat.le_of_ble_eq_true rfl) (Nat.le_of_ble_eq_true rfl)
      · have h := h.2 c17
        refine z_aload_n C dX6_readAllOf_20 (i := 0) rfl rfl ?_
        refine t_get C dX6_readAllOf_21 fl_X6_21 (k := 13) (i := 0) (by decide) rfl (fg_13_6 _ _ _) ?_
        refine z_gets C dX6_readAllOf_24 (q := 201 + 256 * 19) (by decide) gl_X6_202 (fun z => (z.2.2.2.1.1.1 19 (by decide)).1) ?_
        obtain ⟨g27a, h⟩ := h
        refine z_acmpW_ne C dX6_readAllOf_27 (i := (zgP st 13 0 6)) (j := 19) (tgt := 63) (by decide) g27a (by decide) (fun c27 => ?_) (fun c27 => ?_)
        · have h := h.2 c27
          refine z_iload_n C dX6_readAllOf_63 (i := 2) rfl rfl ?_
          obtain ⟨g64, h⟩ := h
          exact z_iret C dX6_readAllOf_64 hr (zn_bool g64) ⟨_, _, rfl, rfl, h⟩ (Nat.le_of_ble_eq_true rfl) (Nat.le_of_ble_eq_true rfl)
        · have h := h.1 c27
          refine z_aload_n C dX6_readAllOf_30 (i := 0) rfl rfl ?_
          refine t_callV C (rest := []) (c2 := 0) (s2 := 0) (kd := 13) (i := 0) [] dX6_readAllOf_31 lk_X6_61 li_X6_advance le_X6_advance (c_X6_advance hfl h) rfl rfl (by decide) rfl ⟨_, rfl⟩ rfl ⟨Nat.le_of_ble_eq_true rfl, Nat.le_of_ble_eq_true rfl⟩ (Nat.le_of_ble_eq_true rfl) ⟨Nat.le_of_ble_eq_true rfl, Nat.le_of_ble_eq_true rfl, Nat.le_of_ble_eq_true rfl, Nat.le_of_ble_eq_true rfl⟩ (k_Wv fun s31 h => ?_)
          refine z_aload_n C dX6_readAllOf_34 (i := 0) rfl rfl ?_
          refine z_iload_n C dX6_readAllOf_35 (i := 1) rfl rfl ?_
          refine t_callV C (rest := []) (c2 := 0) (s2 := 0) (kd := 13) (i := 0) [.int (a1)] dX6_readAllOf_36 lk_X6_199 li_X6_readOne le_X6_readOne (c_X6_readOne_L4 hfl h) rfl rfl (by decide) rfl ⟨_, rfl⟩ rfl ⟨Nat.le_of_ble_eq_true rfl, Nat.le_of_ble_eq_true rfl⟩ (Nat.le_of_ble_eq_true rfl) ⟨Nat.le_of_ble_eq_true rfl, Nat.le_of_ble_eq_true rfl, Nat.le_of_ble_eq_true rfl, Nat.le_of_ble_eq_true rfl⟩ (k_Wi fun r36 s36 h => ?_)
          refine z_if_eq C dX6_readAllOf_39 (tgt := 55) (by decide) (fun c39 => ?_) (fun c39 => ?_)
          · have h := h.1 c39
            exact t_drop [true, true, false, true] rfl (j_X6_readAllOf_L4_55 hfl C hr hn9 hK8 s36 a1 a3 h)
          · have h := h.2 c39
            refine z_aload_n C dX6_readAllOf_42 (i := 0) rfl rfl ?_
            refine z_bipush C dX6_readAllOf_43 (v := (-2)) (by decide) ?_
            refine t_callV C (rest := []) (c2 := 0) (s2 := 0) (kd := 13) (i := 0) [.int (-2)] dX6_readAllOf_45 lk_X6_196 li_X6_addStep le_X6_addStep (c_X6_addStep hfl h) rfl rfl (by decide) rfl ⟨_, rfl⟩ rfl ⟨Nat.le_of_ble_eq_true rfl, Nat.le_of_ble_eq_true rfl⟩ (Nat.le_of_ble_eq_true rfl) ⟨Nat.le_of_ble_eq_true rfl, Nat.le_of_ble_eq_true rfl, Nat.le_of_ble_eq_true rfl, Nat.le_of_ble_eq_true rfl⟩ (k_Wi fun r45 s45 h => ?_)
            refine z_if_eq C dX6_readAllOf_48 (tgt := 55) (by decide) (fun c48 => ?_) (fun c48 => ?_)
            · have h := h.1 c48
              exact t_drop [true, true, false, true] rfl (j_X6_readAllOf_L4_55 hfl C hr hn9 hK8 s45 a1 a3 h)
            · have h := h.2 c48
              refine z_iconst C dX6_readAllOf_51 (v := 1) (by decide) ?_
              refine z_goto C dX6_readAllOf_52 (tgt := 56) (by decide) ?_
              exact t_drop [true, true, false, true] rfl (j_X6_readAllOf_L4_56 hfl C hr hn9 hK8 s45 a1 a3 (1) h)
def w_X6_readAllOf_L4 (st : zTs) (a1 : Int32) (P : Int32 → zTs → Prop) : Prop := w_X6_readOne_L4 st a1 (fun (r2 : Int32) (s2 : zTs) => (w_X6_readAllOf_L4_8 P zfu s2 a1 r2 (0)))
set_option maxHeartbeats 4000000 in
set_option maxRecDepth 100000 in
theorem c_X6_readAllOf_L4 {Z : zZ} {l : Launch} (hfl : l.stackTraces = false) {st : zTs} {a1 : Int32} {P : Int32 → zTs → Prop} (h : w_X6_readAllOf_L4 st a1 P) : zN Z l yX6_readAllOf cX6_readAllOf 4 (some .boolean) ({ frames := 27, cells := 0, slots := 0, locals := 608 } : Room) (zh Z zm1 st) [.ref 13, .int (a1)] (zWi Z P) := by
  unfold w_X6_readAllOf_L4 at h
  refine z_enterN (by decide) (Nat.le_of_ble_eq_true rfl) (lc0 := [some (.ref 13), some (.int (a1)), none, none]) rfl ?_
  intro p e s m args below meth c ad0 C hr _
  have hn9 : True := trivial
  replace C : zC Z p s m args meth c cX6_readAllOf 4 RX6 := C
  refine z_aload_n C dX6_readAllOf_0 (i := 0) rfl rfl ?_
  refine z_iload_n C dX6_readAllOf_1 (i := 1) rfl rfl ?_
  refine t_callV C (rest := []) (c2 := 0) (s2 := 0) (kd := 13) (i := 0) [.int (a1)] dX6_readAllOf_2 lk_X6_199 li_X6_readOne le_X6_readOne (c_X6_readOne_L4 hfl h) rfl rfl (by decide) rfl ⟨_, rfl⟩ rfl ⟨Nat.le_of_ble_eq_true rfl, Nat.le_of_ble_eq_true rfl⟩ (Nat.le_of_ble_eq_true rfl) ⟨Nat.le_of_ble_eq_true rfl, Nat.le_of_ble_eq_true rfl, Nat.le_of_ble_eq_true rfl, Nat.le_of_ble_eq_true rfl⟩ (k_Wi fun r2 s2 h => ?_)
  refine z_istore_n C dX6_readAllOf_5 (i := 2) (lc' := [some (.ref 13), some (.int (a1)), some (.int (r2)), none]) rfl (by decide) rfl ?_
  refine z_iconst C dX6_readAllOf_6 (v := 0) (by decide) ?_
  refine z_istore_n C dX6_readAllOf_7 (i := 3) (lc' := [some (.ref 13), some (.int (a1)), some (.int (r2)), some (.int (0))]) rfl (by decide) rfl ?_
  exact t_drop [true, true, true, true] rfl (j_X6_readAllOf_L4_8 hfl C hr hn9  zfu s2 a1 r2 (0) h)
def w_X6_readAnyOf_L4_56 (P : Int32 → zTs → Prop) (K8 : zTs → Int32 → Int32 → Int32 → Prop) (st : zTs) (a1 : Int32) (a3 : Int32) (b0 : Int32) : Prop := ∀ x57 : Int32, x57 = a3 + 1 → (K8 st a1 b0 x57)
set_option maxHeartbeats 4000000 in
set_option maxRecDepth 100000 in
theorem j_X6_readAnyOf_L4_56 {P : Int32 → zTs → Prop} {K8 : zTs → Int32 → Int32 → Int32 → Prop} (hfl : l.stackTraces = false) (C : zC Z p s m args meth c cX6_readAnyOf 4 RX6) (hr : meth.sig.returnType = (some .boolean)) (hn9 : True) (hK8 : ∀ (st : zTs) (a1 : Int32) (a2 : Int32) (a3 : Int32), K8 st a1 a2 a3 → zG Z ad0 h0 p l e ({ frames := 28, cells := 0, slots := 0, locals := 631 } : Room) s m args below meth c (MQ below (zQ Z ad0 h0 (zWi Z P)) args s 0 0 (zA Z)) 0 0 (zh Z zm1 st) 4 8 [some (.ref 13), some (.int (a1)), some (.int (a2)), some (.int (a3))] []) (st : zTs) (a1 : Int32) (a3 : Int32) (b0 : Int32) (h : w_X6_readAnyOf_L4_56 P K8 st a1 a3 b0) : zG Z ad0 h0 p l e ({ frames := 28, cells := 0, slots := 0, locals := 631 } : Room) s m args below meth c (MQ below (zQ Z ad0 h0 (zWi Z P)) args s 0 0 (zA Z)) 0 0 (zh Z zm1 st) 4 56 [some (.ref 13), some (.int (a1)), none, some (.int (a3))] [.int (b0)] := by
  unfold w_X6_readAnyOf_L4_56 at h
  refine z_istore_n C dX6_readAnyOf_56 (i := 2) (lc' := [some (.ref 13), some (.int (a1)), some (.int (b0)), some (.int (a3))]) rfl (by decide) rfl ?_
  obtain ⟨x57, ex57⟩ : ∃ z : Int32, z = a3 + 1 := ⟨_, rfl⟩
  have h := h x57 ex57
  refine z_iinc C dX6_readAnyOf_57 (v := x57) (lc' := [some (.ref 13), some (.int (a1)), some (.int (b0)), some (.int (x57))]) rfl (by decide) (by rw [ex57]; rfl) rfl ?_
  refine z_goto C dX6_readAnyOf_60 (tgt := 8) (by decide) ?_
  exact t_drop [true, true, true, true] rfl (hK8 st a1 b0 x57 h)
def w_X6_readAnyOf_L4_55 (P : Int32 → zTs → Prop) (K8 : zTs → Int32 → Int32 → Int32 → Prop) (st : zTs) (a1 : Int32) (a3 : Int32) : Prop := w_X6_readAnyOf_L4_56 P K8 st a1 a3 (0)
set_option maxHeartbeats 4000000 in
set_option maxRecDepth 100000 in
theorem j_X6_readAnyOf_L4_55 {P : Int32 → zTs → Prop} {K8 : zTs → Int32 → Int32 → Int32 → Prop} (hfl : l.stackTraces = false) (C : zC Z p s m args meth c cX6_readAnyOf 4 RX6) (hr : meth.sig.returnType = (some .boolean)) (hn9 : True) (hK8 : ∀ (st : zTs) (a1 : Int32) (a2 : Int32) (a3 : Int32), K8 st a1 a2 a3 → zG Z ad0 h0 p l e ({ frames := 28, cells := 0, slots := 0, locals := 631 } : Room) s m args below meth c (MQ below (zQ Z ad0 h0 (zWi Z P)) args s 0 0 (zA Z)) 0 0 (zh Z zm1 st) 4 8 [some (.ref 13), some (.int (a1)), some (.int (a2)), some (.int (a3))] []) (st : zTs) (a1 : Int32) (a3 : Int32) (h : w_X6_readAnyOf_L4_55 P K8 st a1 a3) : zG Z ad0 h0 p l e ({ frames := 28, cells := 0, slots := 0, locals := 631 } : Room) s m args below meth c (MQ below (zQ Z ad0 h0 (zWi Z P)) args s 0 0 (zA Z)) 0 0 (zh Z zm1 st) 4 55 [some (.ref 13), some (.int (a1)), none, some (.int (a3))] [] := by
  unfold w_X6_readAnyOf_L4_55 at h
  refine z_iconst C dX6_readAnyOf_55 (v := 0) (by decide) ?_
  exact t_drop [true, true, false, true] rfl (j_X6_readAnyOf_L4_56 hfl C hr hn9 hK8 st a1 a3 (0) h)
def w_X6_readAnyOf_L4_8 (P : Int32 → zTs → Prop)  : Nat → zTs → Int32 → Int32 → Int32 → Prop
  | 0, _, _, _, _ => False
  | n9 + 1, st, a1, a2, a3 => ((zgF st 13 0 3) ≤ a3 → (a2 = 0 ∨ a2 = 1) ∧ (P a2 st)) ∧ (¬ (zgF st 13 0 3) ≤ a3 → (a2 = 0 → (a2 = 0 ∨ a2 = 1) ∧ (P a2 st)) ∧ (¬ a2 = 0 → (zgP st 13 0 6 < 24) ∧ ((((zgP st 13 0 6) : Nat) = 18 → w_X6_advance st (fun (s31 : zTs) => (w_X6_readAllOf_L4 s31 a1 (fun (r36 : Int32) (s36 : zTs) => ((r36 = 0 → w_X6_readAnyOf_L4_55 P (w_X6_readAnyOf_L4_8 P n9) s36 a1 a3) ∧ (¬ r36 = 0 → w_X6_addStep s36 (-3) (fun (r45 : Int32) (s45 : zTs) => ((r45 = 0 → w_X6_readAnyOf_L4_55 P (w_X6_readAnyOf_L4_8 P n9) s45 a1 a3) ∧ (¬ r45 = 0 → w_X6_readAnyOf_L4_56 P (w_X6_readAnyOf_L4_8 P n9) s45 a1 a3 (1)))))))))) ∧ (¬ ((zgP st 13 0 6) : Nat) = 18 → (a2 = 0 ∨ a2 = 1) ∧ (P a2 st)))))
set_option maxHeartbeats 4000000 in
set_option maxRecDepth 100000 in
theorem j_X6_readAnyOf_L4_8 {P : Int32 → zTs → Prop}  (hfl : l.stackTraces = false) (C : zC Z p s m args meth c cX6_readAnyOf 4 RX6) (hr : meth.sig.returnType = (some .boolean)) (hn9 : True)  : ∀ (n9 : Nat) (st : zTs) (a1 : Int32) (a2 : Int32) (a3 : Int32), w_X6_readAnyOf_L4_8 P n9 st a1 a2 a3 → zG Z ad0 h0 p l e ({ frames := 28, cells := 0, slots := 0, locals := 631 } : Room) s m args below meth c (MQ below (zQ Z ad0 h0 (zWi Z P)) args s 0 0 (zA Z)) 0 0 (zh Z zm1 st) 4 8 [some (.ref 13), some (.int (a1)), some (.int (a2)), some (.int (a3))] [] := by
  intro n9
  induction n9 with
  | zero => intro st a1 a2 a3 h; exact h.elim
  | succ n9 hK8 =>
    intro st a1 a2 a3 h
    rw [w_X6_readAnyOf_L4_8] at h
    refine z_iload_n C dX6_readAnyOf_8 (i := 3) rfl rfl ?_
    refine z_aload_n C dX6_readAnyOf_9 (i := 0) rfl rfl ?_
    refine t_get C dX6_readAnyOf_10 fl_X6_55 (k := 13) (i := 0) (by decide) rfl (fg_13_3 _ _ _) ?_
    refine z_icmp_ge C dX6_readAnyOf_13 (tgt := 63) (by decide) (fun c13 => ?_) (fun c13 => ?_)
    · have h := h.1 c13
      refine z_iload_n C dX6_readAnyOf_63 (i := 2) rfl rfl ?_
      obtain ⟨g64, h⟩ := h
      exact z_iret C dX6_readAnyOf_64 hr (zn_bool g64) ⟨_, _, rfl, rfl, h⟩ (Nat.le_of_ble_eq_true rfl) (Nat.le_of_ble_eq_true rfl)
    · have h := h.2 c13
      refine z_iload_n C dX6_readAnyOf_16 (i := 2) rfl rfl ?_
      refine z_if_eq C dX6_readAnyOf_17 (tgt := 63) (by decide) (fun c17 => ?_) (fun c17 => ?_)
      · have h := h.1 c17
        refine z_iload_n C dX6_readAnyOf_63 (i := 2) rfl rfl ?_
        obtain ⟨g64, h⟩ := h
        exact z_iret C dX6_readAnyOf_64 hr (zn_bool g64) ⟨_, _, rfl, rfl, h⟩ (Nat.le_of_ble_eq_true rfl) (Nat.le_of_ble_eq_true rfl)
      · have h := h.2 c17
        refine z_aload_n C dX6_readAnyOf_20 (i := 0) rfl rfl ?_
        refine t_get C dX6_readAnyOf_21 fl_X6_21 (k := 13) (i := 0) (by decide) rfl (fg_13_6 _ _ _) ?_
        refine z_gets C dX6_readAnyOf_24 (q := 201 + 256 * 18) (by decide) gl_X6_193 (fun z => (z.2.2.2.1.1.1 18 (by decide)).1) ?_
        obtain ⟨g27a, h⟩ := h
        refine z_acmpW_ne C dX6_readAnyOf_27 (i := (zgP st 13 0 6)) (j := 18) (tgt := 63) (by decide) g27a (by decide) (fun c27 => ?_) (fun c27 => ?_)
        · have h := h.2 c27
          refine z_iload_n C dX6_readAnyOf_63 (i := 2) rfl rfl ?_
          obtain ⟨g64, h⟩ := h
          exact z_iret C dX6_readAnyOf_64 hr (zn_bool g64) ⟨_, _, rfl, rfl, h⟩ (Nat.le_of_ble_eq_true rfl) (Nat.le_of_ble_eq_true rfl)
        · have h := h.1 c27
          refine z_aload_n C dX6_readAnyOf_30 (i := 0) rfl rfl ?_
          refine t_callV C (rest := []) (c2 := 0) (s2 := 0) (kd := 13) (i := 0) [] dX6_readAnyOf_31 lk_X6_61 li_X6_advance le_X6_advance (c_X6_advance hfl h) rfl rfl (by decide) rfl ⟨_, rfl⟩ rfl ⟨Nat.le_of_ble_eq_true rfl, Nat.le_of_ble_eq_true rfl⟩ (Nat.le_of_ble_eq_true rfl) ⟨Nat.le_of_ble_eq_true rfl, Nat.le_of_ble_eq_true rfl, Nat.le_of_ble_eq_true rfl, Nat.le_of_ble_eq_true rfl⟩ (k_Wv fun s31 h => ?_)
          refine z_aload_n C dX6_readAnyOf_34 (i := 0) rfl rfl ?_
          refine z_iload_n C dX6_readAnyOf_35 (i := 1) rfl rfl ?_
          refine t_callV C (rest := []) (c2 := 0) (s2 := 0) (kd := 13) (i := 0) [.int (a1)] dX6_readAnyOf_36 lk_X6_190 li_X6_readAllOf le_X6_readAllOf (c_X6_readAllOf_L4 hfl h) rfl rfl (by decide) rfl ⟨_, rfl⟩ rfl ⟨Nat.le_of_ble_eq_true rfl, Nat.le_of_ble_eq_true rfl⟩ (Nat.le_of_ble_eq_true rfl) ⟨Nat.le_of_ble_eq_true rfl, Nat.le_of_ble_eq_true rfl, Nat.le_of_ble_eq_true rfl, Nat.le_of_ble_eq_true rfl⟩ (k_Wi fun r36 s36 h => ?_)
          refine z_if_eq C dX6_readAnyOf_39 (tgt := 55) (by decide) (fun c39 => ?_) (fun c39 => ?_)
          · have h := h.1 c39
            exact t_drop [true, true, false, true] rfl (j_X6_readAnyOf_L4_55 hfl C hr hn9 hK8 s36 a1 a3 h)
          · have h := h.2 c39
            refine z_aload_n C dX6_readAnyOf_42 (i := 0) rfl rfl ?_
            refine z_bipush C dX6_readAnyOf_43 (v := (-3)) (by decide) ?_
            refine t_callV C (rest := []) (c2 := 0) (s2 := 0) (kd := 13) (i := 0) [.int (-3)] dX6_readAnyOf_45 lk_X6_196 li_X6_addStep le_X6_addStep (c_X6_addStep hfl h) rfl rfl (by decide) rfl ⟨_, rfl⟩ rfl ⟨Nat.le_of_ble_eq_true rfl, Nat.le_of_ble_eq_true rfl⟩ (Nat.le_of_ble_eq_true rfl) ⟨Nat.le_of_ble_eq_true rfl, Nat.le_of_ble_eq_true rfl, Nat.le_of_ble_eq_true rfl, Nat.le_of_ble_eq_true rfl⟩ (k_Wi fun r45 s45 h => ?_)
            refine z_if_eq C dX6_readAnyOf_48 (tgt := 55) (by decide) (fun c48 => ?_) (fun c48 => ?_)
            · have h := h.1 c48
              exact t_drop [true, true, false, true] rfl (j_X6_readAnyOf_L4_55 hfl C hr hn9 hK8 s45 a1 a3 h)
            · have h := h.2 c48
              refine z_iconst C dX6_readAnyOf_51 (v := 1) (by decide) ?_
              refine z_goto C dX6_readAnyOf_52 (tgt := 56) (by decide) ?_
              exact t_drop [true, true, false, true] rfl (j_X6_readAnyOf_L4_56 hfl C hr hn9 hK8 s45 a1 a3 (1) h)
def w_X6_readAnyOf_L4 (st : zTs) (a1 : Int32) (P : Int32 → zTs → Prop) : Prop := w_X6_readAllOf_L4 st a1 (fun (r2 : Int32) (s2 : zTs) => (w_X6_readAnyOf_L4_8 P zfu s2 a1 r2 (0)))
set_option maxHeartbeats 4000000 in
set_option maxRecDepth 100000 in
theorem c_X6_readAnyOf_L4 {Z : zZ} {l : Launch} (hfl : l.stackTraces = false) {st : zTs} {a1 : Int32} {P : Int32 → zTs → Prop} (h : w_X6_readAnyOf_L4 st a1 P) : zN Z l yX6_readAnyOf cX6_readAnyOf 4 (some .boolean) ({ frames := 28, cells := 0, slots := 0, locals := 631 } : Room) (zh Z zm1 st) [.ref 13, .int (a1)] (zWi Z P) := by
  unfold w_X6_readAnyOf_L4 at h
  refine z_enterN (by decide) (Nat.le_of_ble_eq_true rfl) (lc0 := [some (.ref 13), some (.int (a1)), none, none]) rfl ?_
  intro p e s m args below meth c ad0 C hr _
  have hn9 : True := trivial
  replace C : zC Z p s m args meth c cX6_readAnyOf 4 RX6 := C
  refine z_aload_n C dX6_readAnyOf_0 (i := 0) rfl rfl ?_
  refine z_iload_n C dX6_readAnyOf_1 (i := 1) rfl rfl ?_
  refine t_callV C (rest := []) (c2 := 0) (s2 := 0) (kd := 13) (i := 0) [.int (a1)] dX6_readAnyOf_2 lk_X6_190 li_X6_readAllOf le_X6_readAllOf (c_X6_readAllOf_L4 hfl h) rfl rfl (by decide) rfl ⟨_, rfl⟩ rfl ⟨Nat.le_of_ble_eq_true rfl, Nat.le_of_ble_eq_true rfl⟩ (Nat.le_of_ble_eq_true rfl) ⟨Nat.le_of_ble_eq_true rfl, Nat.le_of_ble_eq_true rfl, Nat.le_of_ble_eq_true rfl, Nat.le_of_ble_eq_true rfl⟩ (k_Wi fun r2 s2 h => ?_)
  refine z_istore_n C dX6_readAnyOf_5 (i := 2) (lc' := [some (.ref 13), some (.int (a1)), some (.int (r2)), none]) rfl (by decide) rfl ?_
  refine z_iconst C dX6_readAnyOf_6 (v := 0) (by decide) ?_
  refine z_istore_n C dX6_readAnyOf_7 (i := 3) (lc' := [some (.ref 13), some (.int (a1)), some (.int (r2)), some (.int (0))]) rfl (by decide) rfl ?_
  exact t_drop [true, true, true, true] rfl (j_X6_readAnyOf_L4_8 hfl C hr hn9  zfu s2 a1 r2 (0) h)
def w_X6_readOne_L3_188 (P : Int32 → zTs → Prop)  (st : zTs) (b0 : Int32) (b1 : Int32) : Prop := w_X6_addStep st (((b1 + b0) * 10000) + (zgF st 13 0 9)) (fun (r198 : Int32) (s198 : zTs) => ((r198 = 0 → P 0 s198) ∧ (¬ r198 = 0 → P 1 s198)))
set_option maxHeartbeats 4000000 in
set_option maxRecDepth 100000 in
theorem j_X6_readOne_L3_188 {P : Int32 → zTs → Prop}  (hfl : l.stackTraces = false) (C : zC Z p s m args meth c cX6_readOne 5 RX6) (hr : meth.sig.returnType = (some .boolean)) (hn9 : True)  (st : zTs) (b0 : Int32) (b1 : Int32) (h : w_X6_readOne_L3_188 P st b0 b1) : zG Z ad0 h0 p l e ({ frames := 29, cells := 0, slots := 0, locals := 654 } : Room) s m args below meth c (MQ below (zQ Z ad0 h0 (zWi Z P)) args s 0 0 (zA Z)) 0 0 (zh Z zm1 st) 5 188 [some (.ref 13), none, none, none, none] [.int (b0), .int (b1), .ref 13] := by
  unfold w_X6_readOne_L3_188 at h
  refine z_iadd C dX6_readOne_188 ?_
  refine z_sipush C dX6_readOne_189 (v := 10000) (by decide) ?_
  refine z_imul C dX6_readOne_192 ?_
  refine z_aload_n C dX6_readOne_193 (i := 0) rfl rfl ?_
  refine t_get C dX6_readOne_194 fl_X6_83 (k := 13) (i := 0) (by decide) rfl (fg_13_9 _ _ _) ?_
  refine z_iadd C dX6_readOne_197 ?_
  refine t_callV C (rest := []) (c2 := 0) (s2 := 0) (kd := 13) (i := 0) [.int (((b1 + b0) * 10000) + (zgF st 13 0 9))] dX6_readOne_198 lk_X6_196 li_X6_addStep le_X6_addStep (c_X6_addStep hfl h) rfl rfl (by decide) rfl ⟨_, rfl⟩ rfl ⟨Nat.le_of_ble_eq_true rfl, Nat.le_of_ble_eq_true rfl⟩ (Nat.le_of_ble_eq_true rfl) ⟨Nat.le_of_ble_eq_true rfl, Nat.le_of_ble_eq_true rfl, Nat.le_of_ble_eq_true rfl, Nat.le_of_ble_eq_true rfl⟩ (k_Wi fun r198 s198 h => ?_)
  refine z_if_eq C dX6_readOne_201 (tgt := 208) (by decide) (fun c201 => ?_) (fun c201 => ?_)
  · have h := h.1 c201
    refine z_iconst C dX6_readOne_208 (v := 0) (by decide) ?_
    exact z_iret C dX6_readOne_209 hr rfl ⟨_, _, rfl, rfl, h⟩ (Nat.le_of_ble_eq_true rfl) (Nat.le_of_ble_eq_true rfl)
  · have h := h.2 c201
    refine z_iconst C dX6_readOne_204 (v := 1) (by decide) ?_
    refine z_goto C dX6_readOne_205 (tgt := 209) (by decide) ?_
    exact z_iret C dX6_readOne_209 hr rfl ⟨_, _, rfl, rfl, h⟩ (Nat.le_of_ble_eq_true rfl) (Nat.le_of_ble_eq_true rfl)
def w_X6_readOne_L3_159 (P : Int32 → zTs → Prop)  (st : zTs) (a3 : Int32) (a4 : Int32) : Prop := w_X6_advance st (fun (s160 : zTs) => (w_X6_takeNumber s160 0 9999 (fun (r168 : Int32) (s168 : zTs) => ((r168 = 0 → P 0 s168) ∧ (¬ r168 = 0 → (a4 = 0 → w_X6_readOne_L3_188 P s168 (0) (2 * a3)) ∧ (¬ a4 = 0 → w_X6_readOne_L3_188 P s168 (1) (2 * a3)))))))
set_option maxHeartbeats 4000000 in
set_option maxRecDepth 100000 in
theorem j_X6_readOne_L3_159 {P : Int32 → zTs → Prop}  (hfl : l.stackTraces = false) (C : zC Z p s m args meth c cX6_readOne 5 RX6) (hr : meth.sig.returnType = (some .boolean)) (hn9 : True)  (st : zTs) (a3 : Int32) (a4 : Int32) (h : w_X6_readOne_L3_159 P st a3 a4) : zG Z ad0 h0 p l e ({ frames := 29, cells := 0, slots := 0, locals := 654 } : Room) s m args below meth c (MQ below (zQ Z ad0 h0 (zWi Z P)) args s 0 0 (zA Z)) 0 0 (zh Z zm1 st) 5 159 [some (.ref 13), none, none, some (.int (a3)), some (.int (a4))] [] := by
  unfold w_X6_readOne_L3_159 at h
  refine z_aload_n C dX6_readOne_159 (i := 0) rfl rfl ?_
  refine t_callV C (rest := []) (c2 := 0) (s2 := 0) (kd := 13) (i := 0) [] dX6_readOne_160 lk_X6_61 li_X6_advance le_X6_advance (c_X6_advance hfl h) rfl rfl (by decide) rfl ⟨_, rfl⟩ rfl ⟨Nat.le_of_ble_eq_true rfl, Nat.le_of_ble_eq_true rfl⟩ (Nat.le_of_ble_eq_true rfl) ⟨Nat.le_of_ble_eq_true rfl, Nat.le_of_ble_eq_true rfl, Nat.le_of_ble_eq_true rfl, Nat.le_of_ble_eq_true rfl⟩ (k_Wv fun s160 h => ?_)
  refine z_aload_n C dX6_readOne_163 (i := 0) rfl rfl ?_
  refine z_iconst C dX6_readOne_164 (v := 0) (by decide) ?_
  refine z_sipush C dX6_readOne_165 (v := 9999) (by decide) ?_
  refine t_callV C (rest := []) (c2 := 0) (s2 := 0) (kd := 13) (i := 0) [.int (0), .int (9999)] dX6_readOne_168 lk_X6_125 li_X6_takeNumber le_X6_takeNumber (c_X6_takeNumber hfl h) rfl rfl (by decide) rfl ⟨_, rfl⟩ rfl ⟨Nat.le_of_ble_eq_true rfl, Nat.le_of_ble_eq_true rfl⟩ (Nat.le_of_ble_eq_true rfl) ⟨Nat.le_of_ble_eq_true rfl, Nat.le_of_ble_eq_true rfl, Nat.le_of_ble_eq_true rfl, Nat.le_of_ble_eq_true rfl⟩ (k_Wi fun r168 s168 h => ?_)
  refine z_if_eq C dX6_readOne_171 (tgt := 208) (by decide) (fun c171 => ?_) (fun c171 => ?_)
  · have h := h.1 c171
    refine z_iconst C dX6_readOne_208 (v := 0) (by decide) ?_
    exact z_iret C dX6_readOne_209 hr rfl ⟨_, _, rfl, rfl, h⟩ (Nat.le_of_ble_eq_true rfl) (Nat.le_of_ble_eq_true rfl)
  · have h := h.2 c171
    refine z_aload_n C dX6_readOne_174 (i := 0) rfl rfl ?_
    refine z_iconst C dX6_readOne_175 (v := 2) (by decide) ?_
    refine z_iload_n C dX6_readOne_176 (i := 3) rfl rfl ?_
    refine z_imul C dX6_readOne_177 ?_
    refine z_iload C dX6_readOne_178 rfl ?_
    refine z_if_eq C dX6_readOne_180 (tgt := 187) (by decide) (fun c180 => ?_) (fun c180 => ?_)
    · have h := h.1 c180
      refine z_iconst C dX6_readOne_187 (v := 0) (by decide) ?_
      exact t_drop [true, false, false, false, false] rfl (j_X6_readOne_L3_188 hfl C hr hn9  s168 (0) (2 * a3) h)
    · have h := h.2 c180
      refine z_iconst C dX6_readOne_183 (v := 1) (by decide) ?_
      refine z_goto C dX6_readOne_184 (tgt := 188) (by decide) ?_
      exact t_drop [true, false, false, false, false] rfl (j_X6_readOne_L3_188 hfl C hr hn9  s168 (1) (2 * a3) h)
def w_X6_readOne_L3_137 (P : Int32 → zTs → Prop)  (st : zTs) (a3 : Int32) (b0 : Int32) : Prop := (b0 = 0 → ((zgF st 13 0 8) = 60 → w_X6_readOne_L3_159 P st a3 b0) ∧ (¬ (zgF st 13 0 8) = 60 → w_X6_fail st 1 (fun (r155 : Int32) (s155 : zTs) => ((r155 = 0 ∨ r155 = 1) ∧ (P r155 s155))))) ∧ (¬ b0 = 0 → w_X6_readOne_L3_159 P st a3 b0)
set_option maxHeartbeats 4000000 in
set_option maxRecDepth 100000 in
theorem j_X6_readOne_L3_137 {P : Int32 → zTs → Prop}  (hfl : l.stackTraces = false) (C : zC Z p s m args meth c cX6_readOne 5 RX6) (hr : meth.sig.returnType = (some .boolean)) (hn9 : True)  (st : zTs) (a3 : Int32) (b0 : Int32) (h : w_X6_readOne_L3_137 P st a3 b0) : zG Z ad0 h0 p l e ({ frames := 29, cells := 0, slots := 0, locals := 654 } : Room) s m args below meth c (MQ below (zQ Z ad0 h0 (zWi Z P)) args s 0 0 (zA Z)) 0 0 (zh Z zm1 st) 5 137 [some (.ref 13), none, none, some (.int (a3)), none] [.int (b0)] := by
  unfold w_X6_readOne_L3_137 at h
  refine z_istore C dX6_readOne_137 (lc' := [some (.ref 13), none, none, some (.int (a3)), some (.int (b0))]) (by decide) rfl ?_
  refine z_iload C dX6_readOne_139 rfl ?_
  refine z_if_ne C dX6_readOne_141 (tgt := 159) (by decide) (fun c141 => ?_) (fun c141 => ?_)
  · have h := h.2 c141
    exact t_drop [true, false, false, true, true] rfl (j_X6_readOne_L3_159 hfl C hr hn9  st a3 b0 h)
  · have h := h.1 c141
    refine z_aload_n C dX6_readOne_144 (i := 0) rfl rfl ?_
    refine t_get C dX6_readOne_145 fl_X6_28 (k := 13) (i := 0) (by decide) rfl (fg_13_8 _ _ _) ?_
    refine z_bipush C dX6_readOne_148 (v := 60) (by decide) ?_
    refine z_icmp_eq C dX6_readOne_150 (tgt := 159) (by decide) (fun c150 => ?_) (fun c150 => ?_)
    · have h := h.1 c150
      exact t_drop [true, false, false, true, true] rfl (j_X6_readOne_L3_159 hfl C hr hn9  st a3 b0 h)
    · have h := h.2 c150
      refine z_aload_n C dX6_readOne_153 (i := 0) rfl rfl ?_
      refine z_iconst C dX6_readOne_154 (v := 1) (by decide) ?_
      refine t_callV C (rest := []) (c2 := 0) (s2 := 0) (kd := 13) (i := 0) [.int (1)] dX6_readOne_155 lk_X6_79 li_X6_fail le_X6_fail (c_X6_fail hfl h) rfl rfl (by decide) rfl ⟨_, rfl⟩ rfl ⟨Nat.le_of_ble_eq_true rfl, Nat.le_of_ble_eq_true rfl⟩ (Nat.le_of_ble_eq_true rfl) ⟨Nat.le_of_ble_eq_true rfl, Nat.le_of_ble_eq_true rfl, Nat.le_of_ble_eq_true rfl, Nat.le_of_ble_eq_true rfl⟩ (k_Wi fun r155 s155 h => ?_)
      obtain ⟨g158, h⟩ := h
      exact z_iret C dX6_readOne_158 hr (zn_bool g158) ⟨_, _, rfl, rfl, h⟩ (Nat.le_of_ble_eq_true rfl) (Nat.le_of_ble_eq_true rfl)
def w_X6_readOne_L3_29 (P : Int32 → zTs → Prop)  (st : zTs) (a1 : Int32) (a2 : Int32) : Prop := (a1 < 8 → w_X6_advance st (fun (s42 : zTs) => ((a2 = 0 → w_X6_readAnyOf_L4 s42 (a1 + 1) (fun (r79 : Int32) (s79 : zTs) => ((r79 = 0 → P 0 s79) ∧ (¬ r79 = 0 → w_X6_takeSign s79 41 (fun (r88 : Int32) (s88 : zTs) => ((r88 = 0 → P 0 s88) ∧ (¬ r88 = 0 → P 1 s88))))))) ∧ (¬ a2 = 0 → w_X6_readOne_L4 s42 (a1 + 1) (fun (r53 : Int32) (s53 : zTs) => ((r53 = 0 → P 0 s53) ∧ (¬ r53 = 0 → w_X6_addStep s53 (-1) (fun (r61 : Int32) (s61 : zTs) => ((r61 = 0 → P 0 s61) ∧ (¬ r61 = 0 → P 1 s61)))))))))) ∧ (¬ a1 < 8 → w_X6_fail st 3 (fun (r37 : Int32) (s37 : zTs) => ((r37 = 0 ∨ r37 = 1) ∧ (P r37 s37))))
set_option maxHeartbeats 4000000 in
set_option maxRecDepth 100000 in
theorem j_X6_readOne_L3_29 {P : Int32 → zTs → Prop}  (hfl : l.stackTraces = false) (C : zC Z p s m args meth c cX6_readOne 5 RX6) (hr : meth.sig.returnType = (some .boolean)) (hn9 : True)  (st : zTs) (a1 : Int32) (a2 : Int32) (h : w_X6_readOne_L3_29 P st a1 a2) : zG Z ad0 h0 p l e ({ frames := 29, cells := 0, slots := 0, locals := 654 } : Room) s m args below meth c (MQ below (zQ Z ad0 h0 (zWi Z P)) args s 0 0 (zA Z)) 0 0 (zh Z zm1 st) 5 29 [some (.ref 13), some (.int (a1)), some (.int (a2)), none, none] [] := by
  unfold w_X6_readOne_L3_29 at h
  refine z_iload_n C dX6_readOne_29 (i := 1) rfl rfl ?_
  refine z_bipush C dX6_readOne_30 (v := 8) (by decide) ?_
  refine z_icmp_lt C dX6_readOne_32 (tgt := 41) (by decide) (fun c32 => ?_) (fun c32 => ?_)
  · have h := h.1 c32
    refine z_aload_n C dX6_readOne_41 (i := 0) rfl rfl ?_
    refine t_callV C (rest := []) (c2 := 0) (s2 := 0) (kd := 13) (i := 0) [] dX6_readOne_42 lk_X6_61 li_X6_advance le_X6_advance (c_X6_advance hfl h) rfl rfl (by decide) rfl ⟨_, rfl⟩ rfl ⟨Nat.le_of_ble_eq_true rfl, Nat.le_of_ble_eq_true rfl⟩ (Nat.le_of_ble_eq_true rfl) ⟨Nat.le_of_ble_eq_true rfl, Nat.le_of_ble_eq_true rfl, Nat.le_of_ble_eq_true rfl, Nat.le_of_ble_eq_true rfl⟩ (k_Wv fun s42 h => ?_)
    refine z_iload_n C dX6_readOne_45 (i := 2) rfl rfl ?_
    refine z_if_eq C dX6_readOne_46 (tgt := 75) (by decide) (fun c46 => ?_) (fun c46 => ?_)
    · have h := h.1 c46
      refine z_aload_n C dX6_readOne_75 (i := 0) rfl rfl ?_
      refine z_iload_n C dX6_readOne_76 (i := 1) rfl rfl ?_
      refine z_iconst C dX6_readOne_77 (v := 1) (by decide) ?_
      refine z_iadd C dX6_readOne_78 ?_
      refine t_callV C (rest := []) (c2 := 0) (s2 := 0) (kd := 13) (i := 0) [.int (a1 + 1)] dX6_readOne_79 lk_X6_177 li_X6_readAnyOf le_X6_readAnyOf (c_X6_readAnyOf_L4 hfl h) rfl rfl (by decide) rfl ⟨_, rfl⟩ rfl ⟨Nat.le_of_ble_eq_true rfl, Nat.le_of_ble_eq_true rfl⟩ (Nat.le_of_ble_eq_true rfl) ⟨Nat.le_of_ble_eq_true rfl, Nat.le_of_ble_eq_true rfl, Nat.le_of_ble_eq_true rfl, Nat.le_of_ble_eq_true rfl⟩ (k_Wi fun r79 s79 h => ?_)
      refine z_if_eq C dX6_readOne_82 (tgt := 98) (by decide) (fun c82 => ?_) (fun c82 => ?_)
      · have h := h.1 c82
        refine z_iconst C dX6_readOne_98 (v := 0) (by decide) ?_
        exact z_iret C dX6_readOne_99 hr rfl ⟨_, _, rfl, rfl, h⟩ (Nat.le_of_ble_eq_true rfl) (Nat.le_of_ble_eq_true rfl)
      · have h := h.2 c82
        refine z_aload_n C dX6_readOne_85 (i := 0) rfl rfl ?_
        refine z_bipush C dX6_readOne_86 (v := 41) (by decide) ?_
        refine t_callV C (rest := []) (c2 := 0) (s2 := 0) (kd := 13) (i := 0) [.int (41)] dX6_readOne_88 lk_X6_118 li_X6_takeSign le_X6_takeSign (c_X6_takeSign hfl h) rfl rfl (by decide) rfl ⟨_, rfl⟩ rfl ⟨Nat.le_of_ble_eq_true rfl, Nat.le_of_ble_eq_true rfl⟩ (Nat.le_of_ble_eq_true rfl) ⟨Nat.le_of_ble_eq_true rfl, Nat.le_of_ble_eq_true rfl, Nat.le_of_ble_eq_true rfl, Nat.le_of_ble_eq_true rfl⟩ (k_Wi fun r88 s88 h => ?_)
        refine z_if_eq C dX6_readOne_91 (tgt := 98) (by decide) (fun c91 => ?_) (fun c91 => ?_)
        · have h := h.1 c91
          refine z_iconst C dX6_readOne_98 (v := 0) (by decide) ?_
          exact z_iret C dX6_readOne_99 hr rfl ⟨_, _, rfl, rfl, h⟩ (Nat.le_of_ble_eq_true rfl) (Nat.le_of_ble_eq_true rfl)
        · have h := h.2 c91
          refine z_iconst C dX6_readOne_94 (v := 1) (by decide) ?_
          refine z_goto C dX6_readOne_95 (tgt := 99) (by decide) ?_
          exact z_iret C dX6_readOne_99 hr rfl ⟨_, _, rfl, rfl, h⟩ (Nat.le_of_ble_eq_true rfl) (Nat.le_of_ble_eq_true rfl)
    · have h := h.2 c46
      refine z_aload_n C dX6_readOne_49 (i := 0) rfl rfl ?_
      refine z_iload_n C dX6_readOne_50 (i := 1) rfl rfl ?_
      refine z_iconst C dX6_readOne_51 (v := 1) (by decide) ?_
      refine z_iadd C dX6_readOne_52 ?_
      refine t_callV C (rest := []) (c2 := 0) (s2 := 0) (kd := 13) (i := 0) [.int (a1 + 1)] dX6_readOne_53 lk_X6_199 li_X6_readOne le_X6_readOne (c_X6_readOne_L4 hfl h) rfl rfl (by decide) rfl ⟨_, rfl⟩ rfl ⟨Nat.le_of_ble_eq_true rfl, Nat.le_of_ble_eq_true rfl⟩ (Nat.le_of_ble_eq_true rfl) ⟨Nat.le_of_ble_eq_true rfl, Nat.le_of_ble_eq_true rfl, Nat.le_of_ble_eq_true rfl, Nat.le_of_ble_eq_true rfl⟩ (k_Wi fun r53 s53 h => ?_)
      refine z_if_eq C dX6_readOne_56 (tgt := 71) (by decide) (fun c56 => ?_) (fun c56 => ?_)
      · have h := h.1 c56
        refine z_iconst C dX6_readOne_71 (v := 0) (by decide) ?_
        refine z_goto C dX6_readOne_72 (tgt := 99) (by decide) ?_
        exact z_iret C dX6_readOne_99 hr rfl ⟨_, _, rfl, rfl, h⟩ (Nat.le_of_ble_eq_true rfl) (Nat.le_of_ble_eq_true rfl)
      · have h := h.2 c56
        refine z_aload_n C dX6_readOne_59 (i := 0) rfl rfl ?_
        refine z_iconst C dX6_readOne_60 (v := (-1)) (by decide) ?_
        refine t_callV C (rest := []) (c2 := 0) (s2 := 0) (kd := 13) (i := 0) [.int (-1)] dX6_readOne_61 lk_X6_196 li_X6_addStep le_X6_addStep (c_X6_addStep hfl h) rfl rfl (by decide) rfl ⟨_, rfl⟩ rfl ⟨Nat.le_of_ble_eq_true rfl, Nat.le_of_ble_eq_true rfl⟩ (Nat.le_of_ble_eq_true rfl) ⟨Nat.le_of_ble_eq_true rfl, Nat.le_of_ble_eq_true rfl, Nat.le_of_ble_eq_true rfl, Nat.le_of_ble_eq_true rfl⟩ (k_Wi fun r61 s61 h => ?_)
        refine z_if_eq C dX6_readOne_64 (tgt := 71) (by decide) (fun c64 => ?_) (fun c64 => ?_)
        · have h := h.1 c64
          refine z_iconst C dX6_readOne_71 (v := 0) (by decide) ?_
          refine z_goto C dX6_readOne_72 (tgt := 99) (by decide) ?_
          exact z_iret C dX6_readOne_99 hr rfl ⟨_, _, rfl, rfl, h⟩ (Nat.le_of_ble_eq_true rfl) (Nat.le_of_ble_eq_true rfl)
        · have h := h.2 c64
          refine z_iconst C dX6_readOne_67 (v := 1) (by decide) ?_
          refine z_goto C dX6_readOne_68 (tgt := 99) (by decide) ?_
          exact z_iret C dX6_readOne_99 hr rfl ⟨_, _, rfl, rfl, h⟩ (Nat.le_of_ble_eq_true rfl) (Nat.le_of_ble_eq_true rfl)
  · have h := h.2 c32
    refine z_aload_n C dX6_readOne_35 (i := 0) rfl rfl ?_
    refine z_iconst C dX6_readOne_36 (v := 3) (by decide) ?_
    refine t_callV C (rest := []) (c2 := 0) (s2 := 0) (kd := 13) (i := 0) [.int (3)] dX6_readOne_37 lk_X6_79 li_X6_fail le_X6_fail (c_X6_fail hfl h) rfl rfl (by decide) rfl ⟨_, rfl⟩ rfl ⟨Nat.le_of_ble_eq_true rfl, Nat.le_of_ble_eq_true rfl⟩ (Nat.le_of_ble_eq_true rfl) ⟨Nat.le_of_ble_eq_true rfl, Nat.le_of_ble_eq_true rfl, Nat.le_of_ble_eq_true rfl, Nat.le_of_ble_eq_true rfl⟩ (k_Wi fun r37 s37 h => ?_)
    obtain ⟨g40, h⟩ := h
    exact z_iret C dX6_readOne_40 hr (zn_bool g40) ⟨_, _, rfl, rfl, h⟩ (Nat.le_of_ble_eq_true rfl) (Nat.le_of_ble_eq_true rfl)
def w_X6_readOne_L3_15 (P : Int32 → zTs → Prop)  (st : zTs) (a1 : Int32) (b0 : Int32) : Prop := (b0 = 0 → ((zgF st 13 0 8) = 40 → w_X6_readOne_L3_29 P st a1 b0) ∧ (¬ (zgF st 13 0 8) = 40 → w_X6_measureOf st (zgP st 13 0 6) (fun (r104 : Int32) => ((r104 = (-1) → w_X6_fail st 1 (fun (r115 : Int32) (s115 : zTs) => ((r115 = 0 ∨ r115 = 1) ∧ (P r115 s115)))) ∧ (¬ r104 = (-1) → w_X6_advance st (fun (s120 : zTs) => (((zgF s120 13 0 8) = 62 → w_X6_readOne_L3_137 P s120 r104 (1)) ∧ (¬ (zgF s120 13 0 8) = 62 → w_X6_readOne_L3_137 P s120 r104 (0))))))))) ∧ (¬ b0 = 0 → w_X6_readOne_L3_29 P st a1 b0)
set_option maxHeartbeats 4000000 in
set_option maxRecDepth 100000 in
theorem j_X6_readOne_L3_15 {P : Int32 → zTs → Prop}  (hfl : l.stackTraces = false) (C : zC Z p s m args meth c cX6_readOne 5 RX6) (hr : meth.sig.returnType = (some .boolean)) (hn9 : True)  (st : zTs) (a1 : Int32) (b0 : Int32) (h : w_X6_readOne_L3_15 P st a1 b0) : zG Z ad0 h0 p l e ({ frames := 29, cells := 0, slots := 0, locals := 654 } : Room) s m args below meth c (MQ below (zQ Z ad0 h0 (zWi Z P)) args s 0 0 (zA Z)) 0 0 (zh Z zm1 st) 5 15 [some (.ref 13), some (.int (a1)), none, none, none] [.int (b0)] := by
  unfold w_X6_readOne_L3_15 at h
  refine z_istore_n C dX6_readOne_15 (i := 2) (lc' := [some (.ref 13), some (.int (a1)), some (.int (b0)), none, none]) rfl (by decide) rfl ?_
  refine z_iload_n C dX6_readOne_16 (i := 2) rfl rfl ?_
  refine z_if_ne C dX6_readOne_17 (tgt := 29) (by decide) (fun c17 => ?_) (fun c17 => ?_)
  · have h := h.2 c17
    exact t_drop [true, true, true, false, false] rfl (j_X6_readOne_L3_29 hfl C hr hn9  st a1 b0 h)
  · have h := h.1 c17
    refine z_aload_n C dX6_readOne_20 (i := 0) rfl rfl ?_
    refine t_get C dX6_readOne_21 fl_X6_28 (k := 13) (i := 0) (by decide) rfl (fg_13_8 _ _ _) ?_
    refine z_bipush C dX6_readOne_24 (v := 40) (by decide) ?_
    refine z_icmp_ne C dX6_readOne_26 (tgt := 100) (by decide) (fun c26 => ?_) (fun c26 => ?_)
    · have h := h.2 c26
      refine z_aload_n C dX6_readOne_100 (i := 0) rfl rfl ?_
      refine t_get C dX6_readOne_101 fl_X6_21 (k := 13) (i := 0) (by decide) rfl (fg_13_6 _ _ _) ?_
      refine t_callS C (rest := []) (c2 := 0) (s2 := 0) [.ref (201 + 256 * (zgP st 13 0 6))] dX6_readOne_104 lk_X6_208 ls_X6_measureOf (c_X6_measureOf hfl h) rfl rfl ⟨Nat.le_of_ble_eq_true rfl, Nat.le_of_ble_eq_true rfl⟩ (Nat.le_of_ble_eq_true rfl) ⟨Nat.le_of_ble_eq_true rfl, Nat.le_of_ble_eq_true rfl, Nat.le_of_ble_eq_true rfl, Nat.le_of_ble_eq_true rfl⟩ (k_Ri fun r104 h => ?_)
      refine z_istore_n C dX6_readOne_107 (i := 3) (lc' := [some (.ref 13), some (.int (a1)), some (.int (b0)), some (.int (r104)), none]) rfl (by decide) rfl ?_
      refine z_iload_n C dX6_readOne_108 (i := 3) rfl rfl ?_
      refine z_iconst C dX6_readOne_109 (v := (-1)) (by decide) ?_
      refine z_icmp_ne C dX6_readOne_110 (tgt := 119) (by decide) (fun c110 => ?_) (fun c110 => ?_)
      · have h := h.2 c110
        refine z_aload_n C dX6_readOne_119 (i := 0) rfl rfl ?_
        refine t_callV C (rest := []) (c2 := 0) (s2 := 0) (kd := 13) (i := 0) [] dX6_readOne_120 lk_X6_61 li_X6_advance le_X6_advance (c_X6_advance hfl h) rfl rfl (by decide) rfl ⟨_, rfl⟩ rfl ⟨Nat.le_of_ble_eq_true rfl, Nat.le_of_ble_eq_true rfl⟩ (Nat.le_of_ble_eq_true rfl) ⟨Nat.le_of_ble_eq_true rfl, Nat.le_of_ble_eq_true rfl, Nat.le_of_ble_eq_true rfl, Nat.le_of_ble_eq_true rfl⟩ (k_Wv fun s120 h => ?_)
        refine z_aload_n C dX6_readOne_123 (i := 0) rfl rfl ?_
        refine t_get C dX6_readOne_124 fl_X6_28 (k := 13) (i := 0) (by decide) rfl (fg_13_8 _ _ _) ?_
        refine z_bipush C dX6_readOne_127 (v := 62) (by decide) ?_
        refine z_icmp_ne C dX6_readOne_129 (tgt := 136) (by decide) (fun c129 => ?_) (fun c129 => ?_)
        · have h := h.2 c129
          refine z_iconst C dX6_readOne_136 (v := 0) (by decide) ?_
          exact t_drop [true, false, false, true, false] rfl (j_X6_readOne_L3_137 hfl C hr hn9  s120 r104 (0) h)
        · have h := h.1 c129
          refine z_iconst C dX6_readOne_132 (v := 1) (by decide) ?_
          refine z_goto C dX6_readOne_133 (tgt := 137) (by decide) ?_
          exact t_drop [true, false, false, true, false] rfl (j_X6_readOne_L3_137 hfl C hr hn9  s120 r104 (1) h)
      · have h := h.1 c110
        refine z_aload_n C dX6_readOne_113 (i := 0) rfl rfl ?_
        refine z_iconst C dX6_readOne_114 (v := 1) (by decide) ?_
        refine t_callV C (rest := []) (c2 := 0) (s2 := 0) (kd := 13) (i := 0) [.int (1)] dX6_readOne_115 lk_X6_79 li_X6_fail le_X6_fail (c_X6_fail hfl h) rfl rfl (by decide) rfl ⟨_, rfl⟩ rfl ⟨Nat.le_of_ble_eq_true rfl, Nat.le_of_ble_eq_true rfl⟩ (Nat.le_of_ble_eq_true rfl) ⟨Nat.le_of_ble_eq_true rfl, Nat.le_of_ble_eq_true rfl, Nat.le_of_ble_eq_true rfl, Nat.le_of_ble_eq_true rfl⟩ (k_Wi fun r115 s115 h => ?_)
        obtain ⟨g118, h⟩ := h
        exact z_iret C dX6_readOne_118 hr (zn_bool g118) ⟨_, _, rfl, rfl, h⟩ (Nat.le_of_ble_eq_true rfl) (Nat.le_of_ble_eq_true rfl)
    · have h := h.1 c26
      exact t_drop [true, true, true, false, false] rfl (j_X6_readOne_L3_29 hfl C hr hn9  st a1 b0 h)
def w_X6_readOne_L3 (st : zTs) (a1 : Int32) (P : Int32 → zTs → Prop) : Prop := (zgP st 13 0 6 < 24) ∧ ((((zgP st 13 0 6) : Nat) = 20 → w_X6_readOne_L3_15 P st a1 (1)) ∧ (¬ ((zgP st 13 0 6) : Nat) = 20 → w_X6_readOne_L3_15 P st a1 (0)))
set_option maxHeartbeats 4000000 in
set_option maxRecDepth 100000 in
theorem c_X6_readOne_L3 {Z : zZ} {l : Launch} (hfl : l.stackTraces = false) {st : zTs} {a1 : Int32} {P : Int32 → zTs → Prop} (h : w_X6_readOne_L3 st a1 P) : zN Z l yX6_readOne cX6_readOne 5 (some .boolean) ({ frames := 29, cells := 0, slots := 0, locals := 654 } : Room) (zh Z zm1 st) [.ref 13, .int (a1)] (zWi Z P) := by
  unfold w_X6_readOne_L3 at h
  refine z_enterN (by decide) (Nat.le_of_ble_eq_true rfl) (lc0 := [some (.ref 13), some (.int (a1)), none, none, none]) rfl ?_
  intro p e s m args below meth c ad0 C hr _
  have hn9 : True := trivial
  replace C : zC Z p s m args meth c cX6_readOne 5 RX6 := C
  refine z_aload_n C dX6_readOne_0 (i := 0) rfl rfl ?_
  refine t_get C dX6_readOne_1 fl_X6_21 (k := 13) (i := 0) (by decide) rfl (fg_13_6 _ _ _) ?_
  refine z_gets C dX6_readOne_4 (q := 201 + 256 * 20) (by decide) gl_X6_205 (fun z => (z.2.2.2.1.1.1 20 (by decide)).1) ?_
  obtain ⟨g7a, h⟩ := h
  refine z_acmpW_ne C dX6_readOne_7 (i := (zgP st 13 0 6)) (j := 20) (tgt := 14) (by decide) g7a (by decide) (fun c7 => ?_) (fun c7 => ?_)
  · have h := h.2 c7
    refine z_iconst C dX6_readOne_14 (v := 0) (by decide) ?_
    exact t_drop [true, true, false, false, false] rfl (j_X6_readOne_L3_15 hfl C hr hn9  st a1 (0) h)
  · have h := h.1 c7
    refine z_iconst C dX6_readOne_10 (v := 1) (by decide) ?_
    refine z_goto C dX6_readOne_11 (tgt := 15) (by decide) ?_
    exact t_drop [true, true, false, false, false] rfl (j_X6_readOne_L3_15 hfl C hr hn9  st a1 (1) h)
def w_X6_readAllOf_L3_56 (P : Int32 → zTs → Prop) (K8 : zTs → Int32 → Int32 → Int32 → Prop) (st : zTs) (a1 : Int32) (a3 : Int32) (b0 : Int32) : Prop := ∀ x57 : Int32, x57 = a3 + 1 → (K8 st a1 b0 x57)
set_option maxHeartbeats 4000000 in
set_option maxRecDepth 100000 in
theorem j_X6_readAllOf_L3_56 {P : Int32 → zTs → Prop} {K8 : zTs → Int32 → Int32 → Int32 → Prop} (hfl : l.stackTraces = false) (C : zC Z p s m args meth c cX6_readAllOf 4 RX6) (hr : meth.sig.returnType = (some .boolean)) (hn9 : True) (hK8 : ∀ (st : zTs) (a1 : Int32) (a2 : Int32) (a3 : Int32), K8 st a1 a2 a3 → zG Z ad0 h0 p l e ({ frames := 30, cells := 0, slots := 0, locals := 678 } : Room) s m args below meth c (MQ below (zQ Z ad0 h0 (zWi Z P)) args s 0 0 (zA Z)) 0 0 (zh Z zm1 st) 4 8 [some (.ref 13), some (.int (a1)), some (.int (a2)), some (.int (a3))] []) (st : zTs) (a1 : Int32) (a3 : Int32) (b0 : Int32) (h : w_X6_readAllOf_L3_56 P K8 st a1 a3 b0) : zG Z ad0 h0 p l e ({ frames := 30, cells := 0, slots := 0, locals := 678 } : Room) s m args below meth c (MQ below (zQ Z ad0 h0 (zWi Z P)) args s 0 0 (zA Z)) 0 0 (zh Z zm1 st) 4 56 [some (.ref 13), some (.int (a1)), none, some (.int (a3))] [.int (b0)] := by
  unfold w_X6_readAllOf_L3_56 at h
  refine z_istore_n C dX6_readAllOf_56 (i := 2) (lc' := [some (.ref 13), some (.int (a1)), some (.int (b0)), some (.int (a3))]) rfl (by decide) rfl ?_
  obtain ⟨x57, ex57⟩ : ∃ z : Int32, z = a3 + 1 := ⟨_, rfl⟩
  have h := h x57 ex57
  refine z_iinc C dX6_readAllOf_57 (v := x57) (lc' := [some (.ref 13), some (.int (a1)), some (.int (b0)), some (.int (x57))]) rfl (by decide) (by rw [ex57]; rfl) rfl ?_
  refine z_goto C dX6_readAllOf_60 (tgt := 8) (by decide) ?_
  exact t_drop [true, true, true, true] rfl (hK8 st a1 b0 x57 h)
def w_X6_readAllOf_L3_55 (P : Int32 → zTs → Prop) (K8 : zTs → Int32 → Int32 → Int32 → Prop) (st : zTs) (a1 : Int32) (a3 : Int32) : Prop := w_X6_readAllOf_L3_56 P K8 st a1 a3 (0)
set_option maxHeartbeats 4000000 in
set_option maxRecDepth 100000 in
theorem j_X6_readAllOf_L3_55 {P : Int32 → zTs → Prop} {K8 : zTs → Int32 → Int32 → Int32 → Prop} (hfl : l.stackTraces = false) (C : zC Z p s m args meth c cX6_readAllOf 4 RX6) (hr : meth.sig.returnType = (some .boolean)) (hn9 : True) (hK8 : ∀ (st : zTs) (a1 : Int32) (a2 : Int32) (a3 : Int32), K8 st a1 a2 a3 → zG Z ad0 h0 p l e ({ frames := 30, cells := 0, slots := 0, locals := 678 } : Room) s m args below meth c (MQ below (zQ Z ad0 h0 (zWi Z P)) args s 0 0 (zA Z)) 0 0 (zh Z zm1 st) 4 8 [some (.ref 13), some (.int (a1)), some (.int (a2)), some (.int (a3))] []) (st : zTs) (a1 : Int32) (a3 : Int32) (h : w_X6_readAllOf_L3_55 P K8 st a1 a3) : zG Z ad0 h0 p l e ({ frames := 30, cells := 0, slots := 0, locals := 678 } : Room) s m args below meth c (MQ below (zQ Z ad0 h0 (zWi Z P)) args s 0 0 (zA Z)) 0 0 (zh Z zm1 st) 4 55 [some (.ref 13), some (.int (a1)), none, some (.int (a3))] [] := by
  unfold w_X6_readAllOf_L3_55 at h
  refine z_iconst C dX6_readAllOf_55 (v := 0) (by decide) ?_
  exact t_drop [true, true, false, true] rfl (j_X6_readAllOf_L3_56 hfl C hr hn9 hK8 st a1 a3 (0) h)
def w_X6_readAllOf_L3_8 (P : Int32 → zTs → Prop)  : Nat → zTs → Int32 → Int32 → Int32 → Prop
  | 0, _, _, _, _ => False
  | n9 + 1, st, a1, a2, a3 => ((zgF st 13 0 3) ≤ a3 → (a2 = 0 ∨ a2 = 1) ∧ (P a2 st)) ∧ (¬ (zgF st 13 0 3) ≤ a3 → (a2 = 0 → (a2 = 0 ∨ a2 = 1) ∧ (P a2 st)) ∧ (¬ a2 = 0 → (zgP st 13 0 6 < 24) ∧ ((((zgP st 13 0 6) : Nat) = 19 → w_X6_advance st (fun (s31 : zTs) => (w_X6_readOne_L3 s31 a1 (fun (r36 : Int32) (s36 : zTs) => ((r36 = 0 → w_X6_readAllOf_L3_55 P (w_X6_readAllOf_L3_8 P n9) s36 a1 a3) ∧ (¬ r36 = 0 → w_X6_addStep s36 (-2) (fun (r45 : Int32) (s45 : zTs) => ((r45 = 0 → w_X6_readAllOf_L3_55 P (w_X6_readAllOf_L3_8 P n9) s45 a1 a3) ∧ (¬ r45 = 0 → w_X6_readAllOf_L3_56 P (w_X6_readAllOf_L3_8 P n9) s45 a1 a3 (1)))))))))) ∧ (¬ ((zgP st 13 0 6) : Nat) = 19 → (a2 = 0 ∨ a2 = 1) ∧ (P a2 st)))))
set_option maxHeartbeats 4000000 in
set_option maxRecDepth 100000 in
theorem j_X6_readAllOf_L3_8 {P : Int32 → zTs → Prop}  (hfl : l.stackTraces = false) (C : zC Z p s m args meth c cX6_readAllOf 4 RX6) (hr : meth.sig.returnType = (some .boolean)) (hn9 : True)  : ∀ (n9 : Nat) (st : zTs) (a1 : Int32) (a2 : Int32) (a3 : Int32), w_X6_readAllOf_L3_8 P n9 st a1 a2 a3 → zG Z ad0 h0 p l e ({ frames := 30, cells := 0, slots := 0, locals := 678 } : Room) s m args below meth c (MQ below (zQ Z ad0 h0 (zWi Z P)) args s 0 0 (zA Z)) 0 0 (zh Z zm1 st) 4 8 [some (.ref 13), some (.int (a1)), some (.int (a2)), some (.int (a3))] [] := by
  intro n9
  induction n9 with
  | zero => intro st a1 a2 a3 h; exact h.elim
  | succ n9 hK8 =>
    intro st a1 a2 a3 h
    rw [w_X6_readAllOf_L3_8] at h
    refine z_iload_n C dX6_readAllOf_8 (i := 3) rfl rfl ?_
    refine z_aload_n C dX6_readAllOf_9 (i := 0) rfl rfl ?_
    refine t_get C dX6_readAllOf_10 fl_X6_55 (k := 13) (i := 0) (by decide) rfl (fg_13_3 _ _ _) ?_
    refine z_icmp_ge C dX6_readAllOf_13 (tgt := 63) (by decide) (fun c13 => ?_) (fun c13 => ?_)
    · have h := h.1 c13
      refine z_iload_n C dX6_readAllOf_63 (i := 2) rfl rfl ?_
      obtain ⟨g64, h⟩ := h
      exact z_iret C dX6_readAllOf_64 hr (zn_bool g64) ⟨_, _, rfl, rfl, h⟩ (Nat.le_of_ble_eq_true rfl) (Nat.le_of_ble_eq_true rfl)
    · have h := h.2 c13
      refine z_iload_n C dX6_readAllOf_16 (i := 2) rfl rfl ?_
      refine z_if_eq C dX6_readAllOf_17 (tgt := 63) (by decide) (fun c17 => ?_) (fun c17 => ?_)
      · have h := h.1 c17
        refine z_iload_n C dX6_readAllOf_63 (i := 2) rfl rfl ?_
        obtain ⟨g64, h⟩ := h
        exact z_iret C dX6_readAllOf_64 hr (zn_bool g64) ⟨_, _, rfl, rfl, h⟩ (Nat.le_of_ble_eq_true rfl) (Nat.le_of_ble_eq_true rfl)
      · have h := h.2 c17
        refine z_aload_n C dX6_readAllOf_20 (i := 0) rfl rfl ?_
        refine t_get C dX6_readAllOf_21 fl_X6_21 (k := 13) (i := 0) (by decide) rfl (fg_13_6 _ _ _) ?_
        refine z_gets C dX6_readAllOf_24 (q := 201 + 256 * 19) (by decide) gl_X6_202 (fun z => (z.2.2.2.1.1.1 19 (by decide)).1) ?_
        obtain ⟨g27a, h⟩ := h
        refine z_acmpW_ne C dX6_readAllOf_27 (i := (zgP st 13 0 6)) (j := 19) (tgt := 63) (by decide) g27a (by decide) (fun c27 => ?_) (fun c27 => ?_)
        · have h := h.2 c27
          refine z_iload_n C dX6_readAllOf_63 (i := 2) rfl rfl ?_
          obtain ⟨g64, h⟩ := h
          exact z_iret C dX6_readAllOf_64 hr (zn_bool g64) ⟨_, _, rfl, rfl, h⟩ (Nat.le_of_ble_eq_true rfl) (Nat.le_of_ble_eq_true rfl)
        · have h := h.1 c27
          refine z_aload_n C dX6_readAllOf_30 (i := 0) rfl rfl ?_
          refine t_callV C (rest := []) (c2 := 0) (s2 := 0) (kd := 13) (i := 0) [] dX6_readAllOf_31 lk_X6_61 li_X6_advance le_X6_advance (c_X6_advance hfl h) rfl rfl (by decide) rfl ⟨_, rfl⟩ rfl ⟨Nat.le_of_ble_eq_true rfl, Nat.le_of_ble_eq_true rfl⟩ (Nat.le_of_ble_eq_true rfl) ⟨Nat.le_of_ble_eq_true rfl, Nat.le_of_ble_eq_true rfl, Nat.le_of_ble_eq_true rfl, Nat.le_of_ble_eq_true rfl⟩ (k_Wv fun s31 h => ?_)
          refine z_aload_n C dX6_readAllOf_34 (i := 0) rfl rfl ?_
          refine z_iload_n C dX6_readAllOf_35 (i := 1) rfl rfl ?_
          refine t_callV C (rest := []) (c2 := 0) (s2 := 0) (kd := 13) (i := 0) [.int (a1)] dX6_readAllOf_36 lk_X6_199 li_X6_readOne le_X6_readOne (c_X6_readOne_L3 hfl h) rfl rfl (by decide) rfl ⟨_, rfl⟩ rfl ⟨Nat.le_of_ble_eq_true rfl, Nat.le_of_ble_eq_true rfl⟩ (Nat.le_of_ble_eq_true rfl) ⟨Nat.le_of_ble_eq_true rfl, Nat.le_of_ble_eq_true rfl, Nat.le_of_ble_eq_true rfl, Nat.le_of_ble_eq_true rfl⟩ (k_Wi fun r36 s36 h => ?_)
          refine z_if_eq C dX6_readAllOf_39 (tgt := 55) (by decide) (fun c39 => ?_) (fun c39 => ?_)
          · have h := h.1 c39
            exact t_drop [true, true, false, true] rfl (j_X6_readAllOf_L3_55 hfl C hr hn9 hK8 s36 a1 a3 h)
          · have h := h.2 c39
            refine z_aload_n C dX6_readAllOf_42 (i := 0) rfl rfl ?_
            refine z_bipush C dX6_readAllOf_43 (v := (-2)) (by decide) ?_
            refine t_callV C (rest := []) (c2 := 0) (s2 := 0) (kd := 13) (i := 0) [.int (-2)] dX6_readAllOf_45 lk_X6_196 li_X6_addStep le_X6_addStep (c_X6_addStep hfl h) rfl rfl (by decide) rfl ⟨_, rfl⟩ rfl ⟨Nat.le_of_ble_eq_true rfl, Nat.le_of_ble_eq_true rfl⟩ (Nat.le_of_ble_eq_true rfl) ⟨Nat.le_of_ble_eq_true rfl, Nat.le_of_ble_eq_true rfl, Nat.le_of_ble_eq_true rfl, Nat.le_of_ble_eq_true rfl⟩ (k_Wi fun r45 s45 h => ?_)
            refine z_if_eq C dX6_readAllOf_48 (tgt := 55) (by decide) (fun c48 => ?_) (fun c48 => ?_)
            · have h := h.1 c48
              exact t_drop [true, true, false, true] rfl (j_X6_readAllOf_L3_55 hfl C hr hn9 hK8 s45 a1 a3 h)
            · have h := h.2 c48
              refine z_iconst C dX6_readAllOf_51 (v := 1) (by decide) ?_
              refine z_goto C dX6_readAllOf_52 (tgt := 56) (by decide) ?_
              exact t_drop [true, true, false, true] rfl (j_X6_readAllOf_L3_56 hfl C hr hn9 hK8 s45 a1 a3 (1) h)
def w_X6_readAllOf_L3 (st : zTs) (a1 : Int32) (P : Int32 → zTs → Prop) : Prop := w_X6_readOne_L3 st a1 (fun (r2 : Int32) (s2 : zTs) => (w_X6_readAllOf_L3_8 P zfu s2 a1 r2 (0)))
set_option maxHeartbeats 4000000 in
set_option maxRecDepth 100000 in
theorem c_X6_readAllOf_L3 {Z : zZ} {l : Launch} (hfl : l.stackTraces = false) {st : zTs} {a1 : Int32} {P : Int32 → zTs → Prop} (h : w_X6_readAllOf_L3 st a1 P) : zN Z l yX6_readAllOf cX6_readAllOf 4 (some .boolean) ({ frames := 30, cells := 0, slots := 0, locals := 678 } : Room) (zh Z zm1 st) [.ref 13, .int (a1)] (zWi Z P) := by
  unfold w_X6_readAllOf_L3 at h
  refine z_enterN (by decide) (Nat.le_of_ble_eq_true rfl) (lc0 := [some (.ref 13), some (.int (a1)), none, none]) rfl ?_
  intro p e s m args below meth c ad0 C hr _
  have hn9 : True := trivial
  replace C : zC Z p s m args meth c cX6_readAllOf 4 RX6 := C
  refine z_aload_n C dX6_readAllOf_0 (i := 0) rfl rfl ?_
  refine z_iload_n C dX6_readAllOf_1 (i := 1) rfl rfl ?_
  refine t_callV C (rest := []) (c2 := 0) (s2 := 0) (kd := 13) (i := 0) [.int (a1)] dX6_readAllOf_2 lk_X6_199 li_X6_readOne le_X6_readOne (c_X6_readOne_L3 hfl h) rfl rfl (by decide) rfl ⟨_, rfl⟩ rfl ⟨Nat.le_of_ble_eq_true rfl, Nat.le_of_ble_eq_true rfl⟩ (Nat.le_of_ble_eq_true rfl) ⟨Nat.le_of_ble_eq_true rfl, Nat.le_of_ble_eq_true rfl, Nat.le_of_ble_eq_true rfl, Nat.le_of_ble_eq_true rfl⟩ (k_Wi fun r2 s2 h => ?_)
  refine z_istore_n C dX6_readAllOf_5 (i := 2) (lc' := [some (.ref 13), some (.int (a1)), some (.int (r2)), none]) rfl (by decide) rfl ?_
  refine z_iconst C dX6_readAllOf_6 (v := 0) (by decide) ?_
  refine z_istore_n C dX6_readAllOf_7 (i := 3) (lc' := [some (.ref 13), some (.int (a1)), some (.int (r2)), some (.int (0))]) rfl (by decide) rfl ?_
  exact t_drop [true, true, true, true] rfl (j_X6_readAllOf_L3_8 hfl C hr hn9  zfu s2 a1 r2 (0) h)
def w_X6_readAnyOf_L3_56 (P : Int32 → zTs → Prop) (K8 : zTs → Int32 → Int32 → Int32 → Prop) (st : zTs) (a1 : Int32) (a3 : Int32) (b0 : Int32) : Prop := ∀ x57 : Int32, x57 = a3 + 1 → (K8 st a1 b0 x57)
set_option maxHeartbeats 4000000 in
set_option maxRecDepth 100000 in
theorem j_X6_readAnyOf_L3_56 {P : Int32 → zTs → Prop} {K8 : zTs → Int32 → Int32 → Int32 → Prop} (hfl : l.stackTraces = false) (C : zC Z p s m args meth c cX6_readAnyOf 4 RX6) (hr : meth.sig.returnType = (some .boolean)) (hn9 : True) (hK8 : ∀ (st : zTs) (a1 : Int32) (a2 : Int32) (a3 : Int32), K8 st a1 a2 a3 → zG Z ad0 h0 p l e ({ frames := 31, cells := 0, slots := 0, locals := 701 } : Room) s m args below meth c (MQ below (zQ Z ad0 h0 (zWi Z P)) args s 0 0 (zA Z)) 0 0 (zh Z zm1 st) 4 8 [some (.ref 13), some (.int (a1)), some (.int (a2)), some (.int (a3))] []) (st : zTs) (a1 : Int32) (a3 : Int32) (b0 : Int32) (h : w_X6_readAnyOf_L3_56 P K8 st a1 a3 b0) : zG Z ad0 h0 p l e ({ frames := 31, cells := 0, slots := 0, locals := 701 } : Room) s m args below meth c (MQ below (zQ Z ad0 h0 (zWi Z P)) args s 0 0 (zA Z)) 0 0 (zh Z zm1 st) 4 56 [some (.ref 13), some (.int (a1)), none, some (.int (a3))] [.int (b0)] := by
  unfold w_X6_readAnyOf_L3_56 at h
  refine z_istore_n C dX6_readAnyOf_56 (i := 2) (lc' := [some (.ref 13), some (.int (a1)), some (.int (b0)), some (.int (a3))]) rfl (by decide) rfl ?_
  obtain ⟨x57, ex57⟩ : ∃ z : Int32, z = a3 + 1 := ⟨_, rfl⟩
  have h := h x57 ex57
  refine z_iinc C dX6_readAnyOf_57 (v := x57) (lc' := [some (.ref 13), some (.int (a1)), some (.int (b0)), some (.int (x57))]) rfl (by decide) (by rw [ex57]; rfl) rfl ?_
  refine z_goto C dX6_readAnyOf_60 (tgt := 8) (by decide) ?_
  exact t_drop [true, true, true, true] rfl (hK8 st a1 b0 x57 h)
def w_X6_readAnyOf_L3_55 (P : Int32 → zTs → Prop) (K8 : zTs → Int32 → Int32 → Int32 → Prop) (st : zTs) (a1 : Int32) (a3 : Int32) : Prop := w_X6_readAnyOf_L3_56 P K8 st a1 a3 (0)
set_option maxHeartbeats 4000000 in
set_option maxRecDepth 100000 in
theorem j_X6_readAnyOf_L3_55 {P : Int32 → zTs → Prop} {K8 : zTs → Int32 → Int32 → Int32 → Prop} (hfl : l.stackTraces = false) (C : zC Z p s m args meth c cX6_readAnyOf 4 RX6) (hr : meth.sig.returnType = (some .boolean)) (hn9 : True) (hK8 : ∀ (st : zTs) (a1 : Int32) (a2 : Int32) (a3 : Int32), K8 st a1 a2 a3 → zG Z ad0 h0 p l e ({ frames := 31, cells := 0, slots := 0, locals := 701 } : Room) s m args below meth c (MQ below (zQ Z ad0 h0 (zWi Z P)) args s 0 0 (zA Z)) 0 0 (zh Z zm1 st) 4 8 [some (.ref 13), some (.int (a1)), some (.int (a2)), some (.int (a3))] []) (st : zTs) (a1 : Int32) (a3 : Int32) (h : w_X6_readAnyOf_L3_55 P K8 st a1 a3) : zG Z ad0 h0 p l e ({ frames := 31, cells := 0, slots := 0, locals := 701 } : Room) s m args below meth c (MQ below (zQ Z ad0 h0 (zWi Z P)) args s 0 0 (zA Z)) 0 0 (zh Z zm1 st) 4 55 [some (.ref 13), some (.int (a1)), none, some (.int (a3))] [] := by
  unfold w_X6_readAnyOf_L3_55 at h
  refine z_iconst C dX6_readAnyOf_55 (v := 0) (by decide) ?_
  exact t_drop [true, true, false, true] rfl (j_X6_readAnyOf_L3_56 hfl C hr hn9 hK8 st a1 a3 (0) h)
def w_X6_readAnyOf_L3_8 (P : Int32 → zTs → Prop)  : Nat → zTs → Int32 → Int32 → Int32 → Prop
  | 0, _, _, _, _ => False
  | n9 + 1, st, a1, a2, a3 => ((zgF st 13 0 3) ≤ a3 → (a2 = 0 ∨ a2 = 1) ∧ (P a2 st)) ∧ (¬ (zgF st 13 0 3) ≤ a3 → (a2 = 0 → (a2 = 0 ∨ a2 = 1) ∧ (P a2 st)) ∧ (¬ a2 = 0 → (zgP st 13 0 6 < 24) ∧ ((((zgP st 13 0 6) : Nat) = 18 → w_X6_advance st (fun (s31 : zTs) => (w_X6_readAllOf_L3 s31 a1 (fun (r36 : Int32) (s36 : zTs) => ((r36 = 0 → w_X6_readAnyOf_L3_55 P (w_X6_readAnyOf_L3_8 P n9) s36 a1 a3) ∧ (¬ r36 = 0 → w_X6_addStep s36 (-3) (fun (r45 : Int32) (s45 : zTs) => ((r45 = 0 → w_X6_readAnyOf_L3_55 P (w_X6_readAnyOf_L3_8 P n9) s45 a1 a3) ∧ (¬ r45 = 0 → w_X6_readAnyOf_L3_56 P (w_X6_readAnyOf_L3_8 P n9) s45 a1 a3 (1)))))))))) ∧ (¬ ((zgP st 13 0 6) : Nat) = 18 → (a2 = 0 ∨ a2 = 1) ∧ (P a2 st)))))
set_option maxHeartbeats 4000000 in
set_option maxRecDepth 100000 in
theorem j_X6_readAnyOf_L3_8 {P : Int32 → zTs → Prop}  (hfl : l.stackTraces = false) (C : zC Z p s m args meth c cX6_readAnyOf 4 RX6) (hr : meth.sig.returnType = (some .boolean)) (hn9 : True)  : ∀ (n9 : Nat) (st : zTs) (a1 : Int32) (a2 : Int32) (a3 : Int32), w_X6_readAnyOf_L3_8 P n9 st a1 a2 a3 → zG Z ad0 h0 p l e ({ frames := 31, cells := 0, slots := 0, locals := 701 } : Room) s m args below meth c (MQ below (zQ Z ad0 h0 (zWi Z P)) args s 0 0 (zA Z)) 0 0 (zh Z zm1 st) 4 8 [some (.ref 13), some (.int (a1)), some (.int (a2)), some (.int (a3))] [] := by
  intro n9
  induction n9 with
  | zero => intro st a1 a2 a3 h; exact h.elim
  | succ n9 hK8 =>
    intro st a1 a2 a3 h
    rw [w_X6_readAnyOf_L3_8] at h
    refine z_iload_n C dX6_readAnyOf_8 (i := 3) rfl rfl ?_
    refine z_aload_n C dX6_readAnyOf_9 (i := 0) rfl rfl ?_
    refine t_get C dX6_readAnyOf_10 fl_X6_55 (k := 13) (i := 0) (by decide) rfl (fg_13_3 _ _ _) ?_
    refine z_icmp_ge C dX6_readAnyOf_13 (tgt := 63) (by decide) (fun c13 => ?_) (fun c13 => ?_)
    · have h := h.1 c13
      refine z_iload_n C dX6_readAnyOf_63 (i := 2) rfl rfl ?_
      obtain ⟨g64, h⟩ := h
      exact z_iret C dX6_readAnyOf_64 hr (zn_bool g64) ⟨_, _, rfl, rfl, h⟩ (Nat.le_of_ble_eq_true rfl) (Nat.le_of_ble_eq_true rfl)
    · have h := h.2 c13
      refine z_iload_n C dX6_readAnyOf_16 (i := 2) rfl rfl ?_
      refine z_if_eq C dX6_readAnyOf_17 (tgt := 63) (by decide) (fun c17 => ?_) (fun c17 => ?_)
      · have h := h.1 c17
        refine z_iload_n C dX6_readAnyOf_63 (i := 2) rfl rfl ?_
        obtain ⟨g64, h⟩ := h
        exact z_iret C dX6_readAnyOf_64 hr (zn_bool g64) ⟨_, _, rfl, rfl, h⟩ (Nat.le_of_ble_eq_true rfl) (Nat.le_of_ble_eq_true rfl)
      · have h := h.2 c17
        refine z_aload_n C dX6_readAnyOf_20 (i := 0) rfl rfl ?_
        refine t_get C dX6_readAnyOf_21 fl_X6_21 (k := 13) (i := 0) (by decide) rfl (fg_13_6 _ _ _) ?_
        refine z_gets C dX6_readAnyOf_24 (q := 201 + 256 * 18) (by decide) gl_X6_193 (fun z => (z.2.2.2.1.1.1 18 (by decide)).1) ?_
        obtain ⟨g27a, h⟩ := h
        refine z_acmpW_ne C dX6_readAnyOf_27 (i := (zgP st 13 0 6)) (j := 18) (tgt := 63) (by decide) g27a (by decide) (fun c27 => ?_) (fun c27 => ?_)
        · have h := h.2 c27
          refine z_iload_n C dX6_readAnyOf_63 (i := 2) rfl rfl ?_
          obtain ⟨g64, h⟩ := h
          exact z_iret C dX6_readAnyOf_64 hr (zn_bool g64) ⟨_, _, rfl, rfl, h⟩ (Nat.le_of_ble_eq_true rfl) (Nat.le_of_ble_eq_true rfl)
        · have h := h.1 c27
          refine z_aload_n C dX6_readAnyOf_30 (i := 0) rfl rfl ?_
          refine t_callV C (rest := []) (c2 := 0) (s2 := 0) (kd := 13) (i := 0) [] dX6_readAnyOf_31 lk_X6_61 li_X6_advance le_X6_advance (c_X6_advance hfl h) rfl rfl (by decide) rfl ⟨_, rfl⟩ rfl ⟨Nat.le_of_ble_eq_true rfl, Nat.le_of_ble_eq_true rfl⟩ (Nat.le_of_ble_eq_true rfl) ⟨Nat.le_of_ble_eq_true rfl, Nat.le_of_ble_eq_true rfl, Nat.le_of_ble_eq_true rfl, Nat.le_of_ble_eq_true rfl⟩ (k_Wv fun s31 h => ?_)
          refine z_aload_n C dX6_readAnyOf_34 (i := 0) rfl rfl ?_
          refine z_iload_n C dX6_readAnyOf_35 (i := 1) rfl rfl ?_
          refine t_callV C (rest := []) (c2 := 0) (s2 := 0) (kd := 13) (i := 0) [.int (a1)] dX6_readAnyOf_36 lk_X6_190 li_X6_readAllOf le_X6_readAllOf (c_X6_readAllOf_L3 hfl h) rfl rfl (by decide) rfl ⟨_, rfl⟩ rfl ⟨Nat.le_of_ble_eq_true rfl, Nat.le_of_ble_eq_true rfl⟩ (Nat.le_of_ble_eq_true rfl) ⟨Nat.le_of_ble_eq_true rfl, Nat.le_of_ble_eq_true rfl, Nat.le_of_ble_eq_true rfl, Nat.le_of_ble_eq_true rfl⟩ (k_Wi fun r36 s36 h => ?_)
          refine z_if_eq C dX6_readAnyOf_39 (tgt := 55) (by decide) (fun c39 => ?_) (fun c39 => ?_)
          · have h := h.1 c39
            exact t_drop [true, true, false, true] rfl (j_X6_readAnyOf_L3_55 hfl C hr hn9 hK8 s36 a1 a3 h)
          · have h := h.2 c39
            refine z_aload_n C dX6_readAnyOf_42 (i := 0) rfl rfl ?_
            refine z_bipush C dX6_readAnyOf_43 (v := (-3)) (by decide) ?_
            refine t_callV C (rest := []) (c2 := 0) (s2 := 0) (kd := 13) (i := 0) [.int (-3)] dX6_readAnyOf_45 lk_X6_196 li_X6_addStep le_X6_addStep (c_X6_addStep hfl h) rfl rfl (by decide) rfl ⟨_, rfl⟩ rfl ⟨Nat.le_of_ble_eq_true rfl, Nat.le_of_ble_eq_true rfl⟩ (Nat.le_of_ble_eq_true rfl) ⟨Nat.le_of_ble_eq_true rfl, Nat.le_of_ble_eq_true rfl, Nat.le_of_ble_eq_true rfl, Nat.le_of_ble_eq_true rfl⟩ (k_Wi fun r45 s45 h => ?_)
            refine z_if_eq C dX6_readAnyOf_48 (tgt := 55) (by decide) (fun c48 => ?_) (fun c48 => ?_)
            · have h := h.1 c48
              exact t_drop [true, true, false, true] rfl (j_X6_readAnyOf_L3_55 hfl C hr hn9 hK8 s45 a1 a3 h)
            · have h := h.2 c48
              refine z_iconst C dX6_readAnyOf_51 (v := 1) (by decide) ?_
              refine z_goto C dX6_readAnyOf_52 (tgt := 56) (by decide) ?_
              exact t_drop [true, true, false, true] rfl (j_X6_readAnyOf_L3_56 hfl C hr hn9 hK8 s45 a1 a3 (1) h)
def w_X6_readAnyOf_L3 (st : zTs) (a1 : Int32) (P : Int32 → zTs → Prop) : Prop := w_X6_readAllOf_L3 st a1 (fun (r2 : Int32) (s2 : zTs) => (w_X6_readAnyOf_L3_8 P zfu s2 a1 r2 (0)))
set_option maxHeartbeats 4000000 in
set_option maxRecDepth 100000 in
theorem c_X6_readAnyOf_L3 {Z : zZ} {l : Launch} (hfl : l.stackTraces = false) {st : zTs} {a1 : Int32} {P : Int32 → zTs → Prop} (h : w_X6_readAnyOf_L3 st a1 P) : zN Z l yX6_readAnyOf cX6_readAnyOf 4 (some .boolean) ({ frames := 31, cells := 0, slots := 0, locals := 701 } : Room) (zh Z zm1 st) [.ref 13, .int (a1)] (zWi Z P) := by
  unfold w_X6_readAnyOf_L3 at h
  refine z_enterN (by decide) (Nat.le_of_ble_eq_true rfl) (lc0 := [some (.ref 13), some (.int (a1)), none, none]) rfl ?_
  intro p e s m args below meth c ad0 C hr _
  have hn9 : True := trivial
  replace C : zC Z p s m args meth c cX6_readAnyOf 4 RX6 := C
  refine z_aload_n C dX6_readAnyOf_0 (i := 0) rfl rfl ?_
  refine z_iload_n C dX6_readAnyOf_1 (i := 1) rfl rfl ?_
  refine t_callV C (rest := []) (c2 := 0) (s2 := 0) (kd := 13) (i := 0) [.int (a1)] dX6_readAnyOf_2 lk_X6_190 li_X6_readAllOf le_X6_readAllOf (c_X6_readAllOf_L3 hfl h) rfl rfl (by decide) rfl ⟨_, rfl⟩ rfl ⟨Nat.le_of_ble_eq_true rfl, Nat.le_of_ble_eq_true rfl⟩ (Nat.le_of_ble_eq_true rfl) ⟨Nat.le_of_ble_eq_true rfl, Nat.le_of_ble_eq_true rfl, Nat.le_of_ble_eq_true rfl, Nat.le_of_ble_eq_true rfl⟩ (k_Wi fun r2 s2 h => ?_)
  refine z_istore_n C dX6_readAnyOf_5 (i := 2) (lc' := [some (.ref 13), some (.int (a1)), some (.int (r2)), none]) rfl (by decide) rfl ?_
  refine z_iconst C dX6_readAnyOf_6 (v := 0) (by decide) ?_
  refine z_istore_n C dX6_readAnyOf_7 (i := 3) (lc' := [some (.ref 13), some (.int (a1)), some (.int (r2)), some (.int (0))]) rfl (by decide) rfl ?_
  exact t_drop [true, true, true, true] rfl (j_X6_readAnyOf_L3_8 hfl C hr hn9  zfu s2 a1 r2 (0) h)
def w_X6_readOne_L2_188 (P : Int32 → zTs → Prop)  (st : zTs) (b0 : Int32) (b1 : Int32) : Prop := w_X6_addStep st (((b1 + b0) * 10000) + (zgF st 13 0 9)) (fun (r198 : Int32) (s198 : zTs) => ((r198 = 0 → P 0 s198) ∧ (¬ r198 = 0 → P 1 s198)))
set_option maxHeartbeats 4000000 in
set_option maxRecDepth 100000 in
theorem j_X6_readOne_L2_188 {P : Int32 → zTs → Prop}  (hfl : l.stackTraces = false) (C : zC Z p s m args meth c cX6_readOne 5 RX6) (hr : meth.sig.returnType = (some .boolean)) (hn9 : True)  (st : zTs) (b0 : Int32) (b1 : Int32) (h : w_X6_readOne_L2_188 P st b0 b1) : zG Z ad0 h0 p l e ({ frames := 32, cells := 0, slots := 0, locals := 724 } : Room) s m args below meth c (MQ below (zQ Z ad0 h0 (zWi Z P)) args s 0 0 (zA Z)) 0 0 (zh Z zm1 st) 5 188 [some (.ref 13), none, none, none, none] [.int (b0), .int (b1), .ref 13] := by
  unfold w_X6_readOne_L2_188 at h
  refine z_iadd C dX6_readOne_188 ?_
  refine z_sipush C dX6_readOne_189 (v := 10000) (by decide) ?_
  refine z_imul C dX6_readOne_192 ?_
  refine z_aload_n C dX6_readOne_193 (i := 0) rfl rfl ?_
  refine t_get C dX6_readOne_194 fl_X6_83 (k := 13) (i := 0) (by decide) rfl (fg_13_9 _ _ _) ?_
  refine z_iadd C dX6_readOne_197 ?_
  refine t_callV C (rest := []) (c2 := 0) (s2 := 0) (kd := 13) (i := 0) [.int (((b1 + b0) * 10000) + (zgF st 13 0 9))] dX6_readOne_198 lk_X6_196 li_X6_addStep le_X6_addStep (c_X6_addStep hfl h) rfl rfl (by decide) rfl ⟨_, rfl⟩ rfl ⟨Nat.le_of_ble_eq_true rfl, Nat.le_of_ble_eq_true rfl⟩ (Nat.le_of_ble_eq_true rfl) ⟨Nat.le_of_ble_eq_true rfl, Nat.le_of_ble_eq_true rfl, Nat.le_of_ble_eq_true rfl, Nat.le_of_ble_eq_true rfl⟩ (k_Wi fun r198 s198 h => ?_)
  refine z_if_eq C dX6_readOne_201 (tgt := 208) (by decide) (fun c201 => ?_) (fun c201 => ?_)
  · have h := h.1 c201
    refine z_iconst C dX6_readOne_208 (v := 0) (by decide) ?_
    exact z_iret C dX6_readOne_209 hr rfl ⟨_, _, rfl, rfl, h⟩ (Nat.le_of_ble_eq_true rfl) (Nat.le_of_ble_eq_true rfl)
  · have h := h.2 c201
    refine z_iconst C dX6_readOne_204 (v := 1) (by decide) ?_
    refine z_goto C dX6_readOne_205 (tgt := 209) (by decide) ?_
    exact z_iret C dX6_readOne_209 hr rfl ⟨_, _, rfl, rfl, h⟩ (Nat.le_of_ble_eq_true rfl) (Nat.le_of_ble_eq_true rfl)
def w_X6_readOne_L2_159 (P : Int32 → zTs → Prop)  (st : zTs) (a3 : Int32) (a4 : Int32) : Prop := w_X6_advance st (fun (s160 : zTs) => (w_X6_takeNumber s160 0 9999 (fun (r168 : Int32) (s168 : zTs) => ((r168 = 0 → P 0 s168) ∧ (¬ r168 = 0 → (a4 = 0 → w_X6_readOne_L2_188 P s168 (0) (2 * a3)) ∧ (¬ a4 = 0 → w_X6_readOne_L2_188 P s168 (1) (2 * a3)))))))
set_option maxHeartbeats 4000000 in
set_option maxRecDepth 100000 in
theorem j_X6_readOne_L2_159 {P : Int32 → zTs → Prop}  (hfl : l.stackTraces = false) (C : zC Z p s m args meth c cX6_readOne 5 RX6) (hr : meth.sig.returnType = (some .boolean)) (hn9 : True)  (st : zTs) (a3 : Int32) (a4 : Int32) (h : w_X6_readOne_L2_159 P st a3 a4) : zG Z ad0 h0 p l e ({ frames := 32, cells := 0, slots := 0, locals := 724 } : Room) s m args below meth c (MQ below (zQ Z ad0 h0 (zWi Z P)) args s 0 0 (zA Z)) 0 0 (zh Z zm1 st) 5 159 [some (.ref 13), none, none, some (.int (a3)), some (.int (a4))] [] := by
  unfold w_X6_readOne_L2_159 at h
  refine z_aload_n C dX6_readOne_159 (i := 0) rfl rfl ?_
  refine t_callV C (rest := []) (c2 := 0) (s2 := 0) (kd := 13) (i := 0) [] dX6_readOne_160 lk_X6_61 li_X6_advance le_X6_advance (c_X6_advance hfl h) rfl rfl (by decide) rfl ⟨_, rfl⟩ rfl ⟨Nat.le_of_ble_eq_true rfl, Nat.le_of_ble_eq_true rfl⟩ (Nat.le_of_ble_eq_true rfl) ⟨Nat.le_of_ble_eq_true rfl, Nat.le_of_ble_eq_true rfl, Nat.le_of_ble_eq_true rfl, Nat.le_of_ble_eq_true rfl⟩ (k_Wv fun s160 h => ?_)
  refine z_aload_n C dX6_readOne_163 (i := 0) rfl rfl ?_
  refine z_iconst C dX6_readOne_164 (v := 0) (by decide) ?_
  refine z_sipush C dX6_readOne_165 (v := 9999) (by decide) ?_
  refine t_callV C (rest := []) (c2 := 0) (s2 := 0) (kd := 13) (i := 0) [.int (0), .int (9999)] dX6_readOne_168 lk_X6_125 li_X6_takeNumber le_X6_takeNumber (c_X6_takeNumber hfl h) rfl rfl (by decide) rfl ⟨_, rfl⟩ rfl ⟨Nat.le_of_ble_eq_true rfl, Nat.le_of_ble_eq_true rfl⟩ (Nat.le_of_ble_eq_true rfl) ⟨Nat.le_of_ble_eq_true rfl, Nat.le_of_ble_eq_true rfl, Nat.le_of_ble_eq_true rfl, Nat.le_of_ble_eq_true rfl⟩ (k_Wi fun r168 s168 h => ?_)
  refine z_if_eq C dX6_readOne_171 (tgt := 208) (by decide) (fun c171 => ?_) (fun c171 => ?_)
  · have h := h.1 c171
    refine z_iconst C dX6_readOne_208 (v := 0) (by decide) ?_
    exact z_iret C dX6_readOne_209 hr rfl ⟨_, _, rfl, rfl, h⟩ (Nat.le_of_ble_eq_true rfl) (Nat.le_of_ble_eq_true rfl)
  · have h := h.2 c171
    refine z_aload_n C dX6_readOne_174 (i := 0) rfl rfl ?_
    refine z_iconst C dX6_readOne_175 (v := 2) (by decide) ?_
    refine z_iload_n C dX6_readOne_176 (i := 3) rfl rfl ?_
    refine z_imul C dX6_readOne_177 ?_
    refine z_iload C dX6_readOne_178 rfl ?_
    refine z_if_eq C dX6_readOne_180 (tgt := 187) (by decide) (fun c180 => ?_) (fun c180 => ?_)
    · have h := h.1 c180
      refine z_iconst C dX6_readOne_187 (v := 0) (by decide) ?_
      exact t_drop [true, false, false, false, false] rfl (j_X6_readOne_L2_188 hfl C hr hn9  s168 (0) (2 * a3) h)
    · have h := h.2 c180
      refine z_iconst C dX6_readOne_183 (v := 1) (by decide) ?_
      refine z_goto C dX6_readOne_184 (tgt := 188) (by decide) ?_
      exact t_drop [true, false, false, false, false] rfl (j_X6_readOne_L2_188 hfl C hr hn9  s168 (1) (2 * a3) h)
def w_X6_readOne_L2_137 (P : Int32 → zTs → Prop)  (st : zTs) (a3 : Int32) (b0 : Int32) : Prop := (b0 = 0 → ((zgF st 13 0 8) = 60 → w_X6_readOne_L2_159 P st a3 b0) ∧ (¬ (zgF st 13 0 8) = 60 → w_X6_fail st 1 (fun (r155 : Int32) (s155 : zTs) => ((r155 = 0 ∨ r155 = 1) ∧ (P r155 s155))))) ∧ (¬ b0 = 0 → w_X6_readOne_L2_159 P st a3 b0)
set_option maxHeartbeats 4000000 in
set_option maxRecDepth 100000 in
theorem j_X6_readOne_L2_137 {P : Int32 → zTs → Prop}  (hfl : l.stackTraces = false) (C : zC Z p s m args meth c cX6_readOne 5 RX6) (hr : meth.sig.returnType = (some .boolean)) (hn9 : True)  (st : zTs) (a3 : Int32) (b0 : Int32) (h : w_X6_readOne_L2_137 P st a3 b0) : zG Z ad0 h0 p l e ({ frames := 32, cells := 0, slots := 0, locals := 724 } : Room) s m args below meth c (MQ below (zQ Z ad0 h0 (zWi Z P)) args s 0 0 (zA Z)) 0 0 (zh Z zm1 st) 5 137 [some (.ref 13), none, none, some (.int (a3)), none] [.int (b0)] := by
  unfold w_X6_readOne_L2_137 at h
  refine z_istore C dX6_readOne_137 (lc' := [some (.ref 13), none, none, some (.int (a3)), some (.int (b0))]) (by decide) rfl ?_
  refine z_iload C dX6_readOne_139 rfl ?_
  refine z_if_ne C dX6_readOne_141 (tgt := 159) (by decide) (fun c141 => ?_) (fun c141 => ?_)
  · have h := h.2 c141
    exact t_drop [true, false, false, true, true] rfl (j_X6_readOne_L2_159 hfl C hr hn9  st a3 b0 h)
  · have h := h.1 c141
    refine z_aload_n C dX6_readOne_144 (i := 0) rfl rfl ?_
    refine t_get C dX6_readOne_145 fl_X6_28 (k := 13) (i := 0) (by decide) rfl (fg_13_8 _ _ _) ?_
    refine z_bipush C dX6_readOne_148 (v := 60) (by decide) ?_
    refine z_icmp_eq C dX6_readOne_150 (tgt := 159) (by decide) (fun c150 => ?_) (fun c150 => ?_)
    · have h := h.1 c150
      exact t_drop [true, false, false, true, true] rfl (j_X6_readOne_L2_159 hfl C hr hn9  st a3 b0 h)
    · have h := h.2 c150
      refine z_aload_n C dX6_readOne_153 (i := 0) rfl rfl ?_
      refine z_iconst C dX6_readOne_154 (v := 1) (by decide) ?_
      refine t_callV C (rest := []) (c2 := 0) (s2 := 0) (kd := 13) (i := 0) [.int (1)] dX6_readOne_155 lk_X6_79 li_X6_fail le_X6_fail (c_X6_fail hfl h) rfl rfl (by decide) rfl ⟨_, rfl⟩ rfl ⟨Nat.le_of_ble_eq_true rfl, Nat.le_of_ble_eq_true rfl⟩ (Nat.le_of_ble_eq_true rfl) ⟨Nat.le_of_ble_eq_true rfl, Nat.le_of_ble_eq_true rfl, Nat.le_of_ble_eq_true rfl, Nat.le_of_ble_eq_true rfl⟩ (k_Wi fun r155 s155 h => ?_)
      obtain ⟨g158, h⟩ := h
      exact z_iret C dX6_readOne_158 hr (zn_bool g158) ⟨_, _, rfl, rfl, h⟩ (Nat.le_of_ble_eq_true rfl) (Nat.le_of_ble_eq_true rfl)
def w_X6_readOne_L2_29 (P : Int32 → zTs → Prop)  (st : zTs) (a1 : Int32) (a2 : Int32) : Prop := (a1 < 8 → w_X6_advance st (fun (s42 : zTs) => ((a2 = 0 → w_X6_readAnyOf_L3 s42 (a1 + 1) (fun (r79 : Int32) (s79 : zTs) => ((r79 = 0 → P 0 s79) ∧ (¬ r79 = 0 → w_X6_takeSign s79 41 (fun (r88 : Int32) (s88 : zTs) => ((r88 = 0 → P 0 s88) ∧ (¬ r88 = 0 → P 1 s88))))))) ∧ (¬ a2 = 0 → w_X6_readOne_L3 s42 (a1 + 1) (fun (r53 : Int32) (s53 : zTs) => ((r53 = 0 → P 0 s53) ∧ (¬ r53 = 0 → w_X6_addStep s53 (-1) (fun (r61 : Int32) (s61 : zTs) => ((r61 = 0 → P 0 s61) ∧ (¬ r61 = 0 → P 1 s61)))))))))) ∧ (¬ a1 < 8 → w_X6_fail st 3 (fun (r37 : Int32) (s37 : zTs) => ((r37 = 0 ∨ r37 = 1) ∧ (P r37 s37))))
set_option maxHeartbeats 4000000 in
set_option maxRecDepth 100000 in
theorem j_X6_readOne_L2_29 {P : Int32 → zTs → Prop}  (hfl : l.stackTraces = false) (C : zC Z p s m args meth c cX6_readOne 5 RX6) (hr : meth.sig.returnType = (some .boolean)) (hn9 : True)  (st : zTs) (a1 : Int32) (a2 : Int32) (h : w_X6_readOne_L2_29 P st a1 a2) : zG Z ad0 h0 p l e ({ frames := 32, cells := 0, slots := 0, locals := 724 } : Room) s m args below meth c (MQ below (zQ Z ad0 h0 (zWi Z P)) args s 0 0 (zA Z)) 0 0 (zh Z zm1 st) 5 29 [some (.ref 13), some (.int (a1)), some (.int (a2)), none, none] [] := by
  unfold w_X6_readOne_L2_29 at h
  refine z_iload_n C dX6_readOne_29 (i := 1) rfl rfl ?_
  refine z_bipush C dX6_readOne_30 (v := 8) (by decide) ?_
  refine z_icmp_lt C dX6_readOne_32 (tgt := 41) (by decide) (fun c32 => ?_) (fun c32 => ?_)
  · have h := h.1 c32
    refine z_aload_n C dX6_readOne_41 (i := 0) rfl rfl ?_
    refine t_callV C (rest := []) (c2 := 0) (s2 := 0) (kd := 13) (i := 0) [] dX6_readOne_42 lk_X6_61 li_X6_advance le_X6_advance (c_X6_advance hfl h) rfl rfl (by decide) rfl ⟨_, rfl⟩ rfl ⟨Nat.le_of_ble_eq_true rfl, Nat.le_of_ble_eq_true rfl⟩ (Nat.le_of_ble_eq_true rfl) ⟨Nat.le_of_ble_eq_true rfl, Nat.le_of_ble_eq_true rfl, Nat.le_of_ble_eq_true rfl, Nat.le_of_ble_eq_true rfl⟩ (k_Wv fun s42 h => ?_)
    refine z_iload_n C dX6_readOne_45 (i := 2) rfl rfl ?_
    refine z_if_eq C dX6_readOne_46 (tgt := 75) (by decide) (fun c46 => ?_) (fun c46 => ?_)
    · have h := h.1 c46
      refine z_aload_n C dX6_readOne_75 (i := 0) rfl rfl ?_
      refine z_iload_n C dX6_readOne_76 (i := 1) rfl rfl ?_
      refine z_iconst C dX6_readOne_77 (v := 1) (by decide) ?_
      refine z_iadd C dX6_readOne_78 ?_
      refine t_callV C (rest := []) (c2 := 0) (s2 := 0) (kd := 13) (i := 0) [.int (a1 + 1)] dX6_readOne_79 lk_X6_177 li_X6_readAnyOf le_X6_readAnyOf (c_X6_readAnyOf_L3 hfl h) rfl rfl (by decide) rfl ⟨_, rfl⟩ rfl ⟨Nat.le_of_ble_eq_true rfl, Nat.le_of_ble_eq_true rfl⟩ (Nat.le_of_ble_eq_true rfl) ⟨Nat.le_of_ble_eq_true rfl, Nat.le_of_ble_eq_true rfl, Nat.le_of_ble_eq_true rfl, Nat.le_of_ble_eq_true rfl⟩ (k_Wi fun r79 s79 h => ?_)
      refine z_if_eq C dX6_readOne_82 (tgt := 98) (by decide) (fun c82 => ?_) (fun c82 => ?_)
      · have h := h.1 c82
        refine z_iconst C dX6_readOne_98 (v := 0) (by decide) ?_
        exact z_iret C dX6_readOne_99 hr rfl ⟨_, _, rfl, rfl, h⟩ (Nat.le_of_ble_eq_true rfl) (Nat.le_of_ble_eq_true rfl)
      · have h := h.2 c82
        refine z_aload_n C dX6_readOne_85 (i := 0) rfl rfl ?_
        refine z_bipush C dX6_readOne_86 (v := 41) (by decide) ?_
        refine t_callV C (rest := []) (c2 := 0) (s2 := 0) (kd := 13) (i := 0) [.int (41)] dX6_readOne_88 lk_X6_118 li_X6_takeSign le_X6_takeSign (c_X6_takeSign hfl h) rfl rfl (by decide) rfl ⟨_, rfl⟩ rfl ⟨Nat.le_of_ble_eq_true rfl, Nat.le_of_ble_eq_true rfl⟩ (Nat.le_of_ble_eq_true rfl) ⟨Nat.le_of_ble_eq_true rfl, Nat.le_of_ble_eq_true rfl, Nat.le_of_ble_eq_true rfl, Nat.le_of_ble_eq_true rfl⟩ (k_Wi fun r88 s88 h => ?_)
        refine z_if_eq C dX6_readOne_91 (tgt := 98) (by decide) (fun c91 => ?_) (fun c91 => ?_)
        · have h := h.1 c91
          refine z_iconst C dX6_readOne_98 (v := 0) (by decide) ?_
          exact z_iret C dX6_readOne_99 hr rfl ⟨_, _, rfl, rfl, h⟩ (Nat.le_of_ble_eq_true rfl) (Nat.le_of_ble_eq_true rfl)
        · have h := h.2 c91
          refine z_iconst C dX6_readOne_94 (v := 1) (by decide) ?_
          refine z_goto C dX6_readOne_95 (tgt := 99) (by decide) ?_
          exact z_iret C dX6_readOne_99 hr rfl ⟨_, _, rfl, rfl, h⟩ (Nat.le_of_ble_eq_true rfl) (Nat.le_of_ble_eq_true rfl)
    · have h := h.2 c46
      refine z_aload_n C dX6_readOne_49 (i := 0) rfl rfl ?_
      refine z_iload_n C dX6_readOne_50 (i := 1) rfl rfl ?_
      refine z_iconst C dX6_readOne_51 (v := 1) (by decide) ?_
      refine z_iadd C dX6_readOne_52 ?_
      refine t_callV C (rest := []) (c2 := 0) (s2 := 0) (kd := 13) (i := 0) [.int (a1 + 1)] dX6_readOne_53 lk_X6_199 li_X6_readOne le_X6_readOne (c_X6_readOne_L3 hfl h) rfl rfl (by decide) rfl ⟨_, rfl⟩ rfl ⟨Nat.le_of_ble_eq_true rfl, Nat.le_of_ble_eq_true rfl⟩ (Nat.le_of_ble_eq_true rfl) ⟨Nat.le_of_ble_eq_true rfl, Nat.le_of_ble_eq_true rfl, Nat.le_of_ble_eq_true rfl, Nat.le_of_ble_eq_true rfl⟩ (k_Wi fun r53 s53 h => ?_)
      refine z_if_eq C dX6_readOne_56 (tgt := 71) (by decide) (fun c56 => ?_) (fun c56 => ?_)
      · have h := h.1 c56
        refine z_iconst C dX6_readOne_71 (v := 0) (by decide) ?_
        refine z_goto C dX6_readOne_72 (tgt := 99) (by decide) ?_
        exact z_iret C dX6_readOne_99 hr rfl ⟨_, _, rfl, rfl, h⟩ (Nat.le_of_ble_eq_true rfl) (Nat.le_of_ble_eq_true rfl)
      · have h := h.2 c56
        refine z_aload_n C dX6_readOne_59 (i := 0) rfl rfl ?_
        refine z_iconst C dX6_readOne_60 (v := (-1)) (by decide) ?_
        refine t_callV C (rest := []) (c2 := 0) (s2 := 0) (kd := 13) (i := 0) [.int (-1)] dX6_readOne_61 lk_X6_196 li_X6_addStep le_X6_addStep (c_X6_addStep hfl h) rfl rfl (by decide) rfl ⟨_, rfl⟩ rfl ⟨Nat.le_of_ble_eq_true rfl, Nat.le_of_ble_eq_true rfl⟩ (Nat.le_of_ble_eq_true rfl) ⟨Nat.le_of_ble_eq_true rfl, Nat.le_of_ble_eq_true rfl, Nat.le_of_ble_eq_true rfl, Nat.le_of_ble_eq_true rfl⟩ (k_Wi fun r61 s61 h => ?_)
        refine z_if_eq C dX6_readOne_64 (tgt := 71) (by decide) (fun c64 => ?_) (fun c64 => ?_)
        · have h := h.1 c64
          refine z_iconst C dX6_readOne_71 (v := 0) (by decide) ?_
          refine z_goto C dX6_readOne_72 (tgt := 99) (by decide) ?_
          exact z_iret C dX6_readOne_99 hr rfl ⟨_, _, rfl, rfl, h⟩ (Nat.le_of_ble_eq_true rfl) (Nat.le_of_ble_eq_true rfl)
        · have h := h.2 c64
          refine z_iconst C dX6_readOne_67 (v := 1) (by decide) ?_
          refine z_goto C dX6_readOne_68 (tgt := 99) (by decide) ?_
          exact z_iret C dX6_readOne_99 hr rfl ⟨_, _, rfl, rfl, h⟩ (Nat.le_of_ble_eq_true rfl) (Nat.le_of_ble_eq_true rfl)
  · have h := h.2 c32
    refine z_aload_n C dX6_readOne_35 (i := 0) rfl rfl ?_
    refine z_iconst C dX6_readOne_36 (v := 3) (by decide) ?_
    refine t_callV C (rest := []) (c2 := 0) (s2 := 0) (kd := 13) (i := 0) [.int (3)] dX6_readOne_37 lk_X6_79 li_X6_fail le_X6_fail (c_X6_fail hfl h) rfl rfl (by decide) rfl ⟨_, rfl⟩ rfl ⟨Nat.le_of_ble_eq_true rfl, Nat.le_of_ble_eq_true rfl⟩ (Nat.le_of_ble_eq_true rfl) ⟨Nat.le_of_ble_eq_true rfl, Nat.le_of_ble_eq_true rfl, Nat.le_of_ble_eq_true rfl, Nat.le_of_ble_eq_true rfl⟩ (k_Wi fun r37 s37 h => ?_)
    obtain ⟨g40, h⟩ := h
    exact z_iret C dX6_readOne_40 hr (zn_bool g40) ⟨_, _, rfl, rfl, h⟩ (Nat.le_of_ble_eq_true rfl) (Nat.le_of_ble_eq_true rfl)
def w_X6_readOne_L2_15 (P : Int32 → zTs → Prop)  (st : zTs) (a1 : Int32) (b0 : Int32) : Prop := (b0 = 0 → ((zgF st 13 0 8) = 40 → w_X6_readOne_L2_29 P st a1 b0) ∧ (¬ (zgF st 13 0 8) = 40 → w_X6_measureOf st (zgP st 13 0 6) (fun (r104 : Int32) => ((r104 = (-1) → w_X6_fail st 1 (fun (r115 : Int32) (s115 : zTs) => ((r115 = 0 ∨ r115 = 1) ∧ (P r115 s115)))) ∧ (¬ r104 = (-1) → w_X6_advance st (fun (s120 : zTs) => (((zgF s120 13 0 8) = 62 → w_X6_readOne_L2_137 P s120 r104 (1)) ∧ (¬ (zgF s120 13 0 8) = 62 → w_X6_readOne_L2_137 P s120 r104 (0))))))))) ∧ (¬ b0 = 0 → w_X6_readOne_L2_29 P st a1 b0)
set_option maxHeartbeats 4000000 in
set_option maxRecDepth 100000 in
theorem j_X6_readOne_L2_15 {P : Int32 → zTs → Prop}  (hfl : l.stackTraces = false) (C : zC Z p s m args meth c cX6_readOne 5 RX6) (hr : meth.sig.returnType = (some .boolean)) (hn9 : True)  (st : zTs) (a1 : Int32) (b0 : Int32) (h : w_X6_readOne_L2_15 P st a1 b0) : zG Z ad0 h0 p l e ({ frames := 32, cells := 0, slots := 0, locals := 724 } : Room) s m args below meth c (MQ below (zQ Z ad0 h0 (zWi Z P)) args s 0 0 (zA Z)) 0 0 (zh Z zm1 st) 5 15 [some (.ref 13), some (.int (a1)), none, none, none] [.int (b0)] := by
  unfold w_X6_readOne_L2_15 at h
  refine z_istore_n C dX6_readOne_15 (i := 2) (lc' := [some (.ref 13), some (.int (a1)), some (.int (b0)), none, none]) rfl (by decide) rfl ?_
  refine z_iload_n C dX6_readOne_16 (i := 2) rfl rfl ?_
  refine z_if_ne C dX6_readOne_17 (tgt := 29) (by decide) (fun c17 => ?_) (fun c17 => ?_)
  · have h := h.2 c17
    exact t_drop [true, true, true, false, false] rfl (j_X6_readOne_L2_29 hfl C hr hn9  st a1 b0 h)
  · have h := h.1 c17
    refine z_aload_n C dX6_readOne_20 (i := 0) rfl rfl ?_
    refine t_get C dX6_readOne_21 fl_X6_28 (k := 13) (i := 0) (by decide) rfl (fg_13_8 _ _ _) ?_
    refine z_bipush C dX6_readOne_24 (v := 40) (by decide) ?_
    refine z_icmp_ne C dX6_readOne_26 (tgt := 100) (by decide) (fun c26 => ?_) (fun c26 => ?_)
    · have h := h.2 c26
      refine z_aload_n C dX6_readOne_100 (i := 0) rfl rfl ?_
      refine t_get C dX6_readOne_101 fl_X6_21 (k := 13) (i := 0) (by decide) rfl (fg_13_6 _ _ _) ?_
      refine t_callS C (rest := []) (c2 := 0) (s2 := 0) [.ref (201 + 256 * (zgP st 13 0 6))] dX6_readOne_104 lk_X6_208 ls_X6_measureOf (c_X6_measureOf hfl h) rfl rfl ⟨Nat.le_of_ble_eq_true rfl, Nat.le_of_ble_eq_true rfl⟩ (Nat.le_of_ble_eq_true rfl) ⟨Nat.le_of_ble_eq_true rfl, Nat.le_of_ble_eq_true rfl, Nat.le_of_ble_eq_true rfl, Nat.le_of_ble_eq_true rfl⟩ (k_Ri fun r104 h => ?_)
      refine z_istore_n C dX6_readOne_107 (i := 3) (lc' := [some (.ref 13), some (.int (a1)), some (.int (b0)), some (.int (r104)), none]) rfl (by decide) rfl ?_
      refine z_iload_n C dX6_readOne_108 (i := 3) rfl rfl ?_
      refine z_iconst C dX6_readOne_109 (v := (-1)) (by decide) ?_
      refine z_icmp_ne C dX6_readOne_110 (tgt := 119) (by decide) (fun c110 => ?_) (fun c110 => ?_)
      · have h := h.2 c110
        refine z_aload_n C dX6_readOne_119 (i := 0) rfl rfl ?_
        refine t_callV C (rest := []) (c2 := 0) (s2 := 0) (kd := 13) (i := 0) [] dX6_readOne_120 lk_X6_61 li_X6_advance le_X6_advance (c_X6_advance hfl h) rfl rfl (by decide) rfl ⟨_, rfl⟩ rfl ⟨Nat.le_of_ble_eq_true rfl, Nat.le_of_ble_eq_true rfl⟩ (Nat.le_of_ble_eq_true rfl) ⟨Nat.le_of_ble_eq_true rfl, Nat.le_of_ble_eq_true rfl, Nat.le_of_ble_eq_true rfl, Nat.le_of_ble_eq_true rfl⟩ (k_Wv fun s120 h => ?_)
        refine z_aload_n C dX6_readOne_123 (i := 0) rfl rfl ?_
        refine t_get C dX6_readOne_124 fl_X6_28 (k := 13) (i := 0) (by decide) rfl (fg_13_8 _ _ _) ?_
        refine z_bipush C dX6_readOne_127 (v := 62) (by decide) ?_
        refine z_icmp_ne C dX6_readOne_129 (tgt := 136) (by decide) (fun c129 => ?_) (fun c129 => ?_)
        · have h := h.2 c129
          refine z_iconst C dX6_readOne_136 (v := 0) (by decide) ?_
          exact t_drop [true, false, false, true, false] rfl (j_X6_readOne_L2_137 hfl C hr hn9  s120 r104 (0) h)
        · have h := h.1 c129
          refine z_iconst C dX6_readOne_132 (v := 1) (by decide) ?_
          refine z_goto C dX6_readOne_133 (tgt := 137) (by decide) ?_
          exact t_drop [true, false, false, true, false] rfl (j_X6_readOne_L2_137 hfl C hr hn9  s120 r104 (1) h)
      · have h := h.1 c110
        refine z_aload_n C dX6_readOne_113 (i := 0) rfl rfl ?_
        refine z_iconst C dX6_readOne_114 (v := 1) (by decide) ?_
        refine t_callV C (rest := []) (c2 := 0) (s2 := 0) (kd := 13) (i := 0) [.int (1)] dX6_readOne_115 lk_X6_79 li_X6_fail le_X6_fail (c_X6_fail hfl h) rfl rfl (by decide) rfl ⟨_, rfl⟩ rfl ⟨Nat.le_of_ble_eq_true rfl, Nat.le_of_ble_eq_true rfl⟩ (Nat.le_of_ble_eq_true rfl) ⟨Nat.le_of_ble_eq_true rfl, Nat.le_of_ble_eq_true rfl, Nat.le_of_ble_eq_true rfl, Nat.le_of_ble_eq_true rfl⟩ (k_Wi fun r115 s115 h => ?_)
        obtain ⟨g118, h⟩ := h
        exact z_iret C dX6_readOne_118 hr (zn_bool g118) ⟨_, _, rfl, rfl, h⟩ (Nat.le_of_ble_eq_true rfl) (Nat.le_of_ble_eq_true rfl)
    · have h := h.1 c26
      exact t_drop [true, true, true, false, false] rfl (j_X6_readOne_L2_29 hfl C hr hn9  st a1 b0 h)
def w_X6_readOne_L2 (st : zTs) (a1 : Int32) (P : Int32 → zTs → Prop) : Prop := (zgP st 13 0 6 < 24) ∧ ((((zgP st 13 0 6) : Nat) = 20 → w_X6_readOne_L2_15 P st a1 (1)) ∧ (¬ ((zgP st 13 0 6) : Nat) = 20 → w_X6_readOne_L2_15 P st a1 (0)))
set_option maxHeartbeats 4000000 in
set_option maxRecDepth 100000 in
theorem c_X6_readOne_L2 {Z : zZ} {l : Launch} (hfl : l.stackTraces = false) {st : zTs} {a1 : Int32} {P : Int32 → zTs → Prop} (h : w_X6_readOne_L2 st a1 P) : zN Z l yX6_readOne cX6_readOne 5 (some .boolean) ({ frames := 32, cells := 0, slots := 0, locals := 724 } : Room) (zh Z zm1 st) [.ref 13, .int (a1)] (zWi Z P) := by
  unfold w_X6_readOne_L2 at h
  refine z_enterN (by decide) (Nat.le_of_ble_eq_true rfl) (lc0 := [some (.ref 13), some (.int (a1)), none, none, none]) rfl ?_
  intro p e s m args below meth c ad0 C hr _
  have hn9 : True := trivial
  replace C : zC Z p s m args meth c cX6_readOne 5 RX6 := C
  refine z_aload_n C dX6_readOne_0 (i := 0) rfl rfl ?_
  refine t_get C dX6_readOne_1 fl_X6_21 (k := 13) (i := 0) (by decide) rfl (fg_13_6 _ _ _) ?_
  refine z_gets C dX6_readOne_4 (q := 201 + 256 * 20) (by decide) gl_X6_205 (fun z => (z.2.2.2.1.1.1 20 (by decide)).1) ?_
  obtain ⟨g7a, h⟩ := h
  refine z_acmpW_ne C dX6_readOne_7 (i := (zgP st 13 0 6)) (j := 20) (tgt := 14) (by decide) g7a (by decide) (fun c7 => ?_) (fun c7 => ?_)
  · have h := h.2 c7
    refine z_iconst C dX6_readOne_14 (v := 0) (by decide) ?_
    exact t_drop [true, true, false, false, false] rfl (j_X6_readOne_L2_15 hfl C hr hn9  st a1 (0) h)
  · have h := h.1 c7
    refine z_iconst C dX6_readOne_10 (v := 1) (by decide) ?_
    refine z_goto C dX6_readOne_11 (tgt := 15) (by decide) ?_
    exact t_drop [true, true, false, false, false] rfl (j_X6_readOne_L2_15 hfl C hr hn9  st a1 (1) h)
def w_X6_readAllOf_L2_56 (P : Int32 → zTs → Prop) (K8 : zTs → Int32 → Int32 → Int32 → Prop) (st : zTs) (a1 : Int32) (a3 : Int32) (b0 : Int32) : Prop := ∀ x57 : Int32, x57 = a3 + 1 → (K8 st a1 b0 x57)
set_option maxHeartbeats 4000000 in
set_option maxRecDepth 100000 in
theorem j_X6_readAllOf_L2_56 {P : Int32 → zTs → Prop} {K8 : zTs → Int32 → Int32 → Int32 → Prop} (hfl : l.stackTraces = false) (C : zC Z p s m args meth c cX6_readAllOf 4 RX6) (hr : meth.sig.returnType = (some .boolean)) (hn9 : True) (hK8 : ∀ (st : zTs) (a1 : Int32) (a2 : Int32) (a3 : Int32), K8 st a1 a2 a3 → zG Z ad0 h0 p l e ({ frames := 33, cells := 0, slots := 0, locals := 748 } : Room) s m args below meth c (MQ below (zQ Z ad0 h0 (zWi Z P)) args s 0 0 (zA Z)) 0 0 (zh Z zm1 st) 4 8 [some (.ref 13), some (.int (a1)), some (.int (a2)), some (.int (a3))] []) (st : zTs) (a1 : Int32) (a3 : Int32) (b0 : Int32) (h : w_X6_readAllOf_L2_56 P K8 st a1 a3 b0) : zG Z ad0 h0 p l e ({ frames := 33, cells := 0, slots := 0, locals := 748 } : Room) s m args below meth c (MQ below (zQ Z ad0 h0 (zWi Z P)) args s 0 0 (zA Z)) 0 0 (zh Z zm1 st) 4 56 [some (.ref 13), some (.int (a1)), none, some (.int (a3))] [.int (b0)] := by
  unfold w_X6_readAllOf_L2_56 at h
  refine z_istore_n C dX6_readAllOf_56 (i := 2) (lc' := [some (.ref 13), some (.int (a1)), some (.int (b0)), some (.int (a3))]) rfl (by decide) rfl ?_
  obtain ⟨x57, ex57⟩ : ∃ z : Int32, z = a3 + 1 := ⟨_, rfl⟩
  have h := h x57 ex57
  refine z_iinc C dX6_readAllOf_57 (v := x57) (lc' := [some (.ref 13), some (.int (a1)), some (.int (b0)), some (.int (x57))]) rfl (by decide) (by rw [ex57]; rfl) rfl ?_
  refine z_goto C dX6_readAllOf_60 (tgt := 8) (by decide) ?_
  exact t_drop [true, true, true, true] rfl (hK8 st a1 b0 x57 h)
def w_X6_readAllOf_L2_55 (P : Int32 → zTs → Prop) (K8 : zTs → Int32 → Int32 → Int32 → Prop) (st : zTs) (a1 : Int32) (a3 : Int32) : Prop := w_X6_readAllOf_L2_56 P K8 st a1 a3 (0)
set_option maxHeartbeats 4000000 in
set_option maxRecDepth 100000 in
theorem j_X6_readAllOf_L2_55 {P : Int32 → zTs → Prop} {K8 : zTs → Int32 → Int32 → Int32 → Prop} (hfl : l.stackTraces = false) (C : zC Z p s m args meth c cX6_readAllOf 4 RX6) (hr : meth.sig.returnType = (some .boolean)) (hn9 : True) (hK8 : ∀ (st : zTs) (a1 : Int32) (a2 : Int32) (a3 : Int32), K8 st a1 a2 a3 → zG Z ad0 h0 p l e ({ frames := 33, cells := 0, slots := 0, locals := 748 } : Room) s m args below meth c (MQ below (zQ Z ad0 h0 (zWi Z P)) args s 0 0 (zA Z)) 0 0 (zh Z zm1 st) 4 8 [some (.ref 13), some (.int (a1)), some (.int (a2)), some (.int (a3))] []) (st : zTs) (a1 : Int32) (a3 : Int32) (h : w_X6_readAllOf_L2_55 P K8 st a1 a3) : zG Z ad0 h0 p l e ({ frames := 33, cells := 0, slots := 0, locals := 748 } : Room) s m args below meth c (MQ below (zQ Z ad0 h0 (zWi Z P)) args s 0 0 (zA Z)) 0 0 (zh Z zm1 st) 4 55 [some (.ref 13), some (.int (a1)), none, some (.int (a3))] [] := by
  unfold w_X6_readAllOf_L2_55 at h
  refine z_iconst C dX6_readAllOf_55 (v := 0) (by decide) ?_
  exact t_drop [true, true, false, true] rfl (j_X6_readAllOf_L2_56 hfl C hr hn9 hK8 st a1 a3 (0) h)
def w_X6_readAllOf_L2_8 (P : Int32 → zTs → Prop)  : Nat → zTs → Int32 → Int32 → Int32 → Prop
  | 0, _, _, _, _ => False
  | n9 + 1, st, a1, a2, a3 => ((zgF st 13 0 3) ≤ a3 → (a2 = 0 ∨ a2 = 1) ∧ (P a2 st)) ∧ (¬ (zgF st 13 0 3) ≤ a3 → (a2 = 0 → (a2 = 0 ∨ a2 = 1) ∧ (P a2 st)) ∧ (¬ a2 = 0 → (zgP st 13 0 6 < 24) ∧ ((((zgP st 13 0 6) : Nat) = 19 → w_X6_advance st (fun (s31 : zTs) => (w_X6_readOne_L2 s31 a1 (fun (r36 : Int32) (s36 : zTs) => ((r36 = 0 → w_X6_readAllOf_L2_55 P (w_X6_readAllOf_L2_8 P n9) s36 a1 a3) ∧ (¬ r36 = 0 → w_X6_addStep s36 (-2) (fun (r45 : Int32) (s45 : zTs) => ((r45 = 0 → w_X6_readAllOf_L2_55 P (w_X6_readAllOf_L2_8 P n9) s45 a1 a3) ∧ (¬ r45 = 0 → w_X6_readAllOf_L2_56 P (w_X6_readAllOf_L2_8 P n9) s45 a1 a3 (1)))))))))) ∧ (¬ ((zgP st 13 0 6) : Nat) = 19 → (a2 = 0 ∨ a2 = 1) ∧ (P a2 st)))))
set_option maxHeartbeats 4000000 in
set_option maxRecDepth 100000 in
theorem j_X6_readAllOf_L2_8 {P : Int32 → zTs → Prop}  (hfl : l.stackTraces = false) (C : zC Z p s m args meth c cX6_readAllOf 4 RX6) (hr : meth.sig.returnType = (some .boolean)) (hn9 : True)  : ∀ (n9 : Nat) (st : zTs) (a1 : Int32) (a2 : Int32) (a3 : Int32), w_X6_readAllOf_L2_8 P n9 st a1 a2 a3 → zG Z ad0 h0 p l e ({ frames := 33, cells := 0, slots := 0, locals := 748 } : Room) s m args below meth c (MQ below (zQ Z ad0 h0 (zWi Z P)) args s 0 0 (zA Z)) 0 0 (zh Z zm1 st) 4 8 [some (.ref 13), some (.int (a1)), some (.int (a2)), some (.int (a3))] [] := by
  intro n9
  induction n9 with
  | zero => intro st a1 a2 a3 h; exact h.elim
  | succ n9 hK8 =>
    intro st a1 a2 a3 h
    rw [w_X6_readAllOf_L2_8] at h
    refine z_iload_n C dX6_readAllOf_8 (i := 3) rfl rfl ?_
    refine z_aload_n C dX6_readAllOf_9 (i := 0) rfl rfl ?_
    refine t_get C dX6_readAllOf_10 fl_X6_55 (k := 13) (i := 0) (by decide) rfl (fg_13_3 _ _ _) ?_
    refine z_icmp_ge C dX6_readAllOf_13 (tgt := 63) (by decide) (fun c13 => ?_) (fun c13 => ?_)
    · have h := h.1 c13
      refine z_iload_n C dX6_readAllOf_63 (i := 2) rfl rfl ?_
      obtain ⟨g64, h⟩ := h
      exact z_iret C dX6_readAllOf_64 hr (zn_bool g64) ⟨_, _, rfl, rfl, h⟩ (Nat.le_of_ble_eq_true rfl) (Nat.le_of_ble_eq_true rfl)
    · have h := h.2 c13
      refine z_iload_n C dX6_readAllOf_16 (i := 2) rfl rfl ?_
      refine z_if_eq C dX6_readAllOf_17 (tgt := 63) (by decide) (fun c17 => ?_) (fun c17 => ?_)
      · have h := h.1 c17
        refine z_iload_n C dX6_readAllOf_63 (i := 2) rfl rfl ?_
        obtain ⟨g64, h⟩ := h
        exact z_iret C dX6_readAllOf_64 hr (zn_bool g64) ⟨_, _, rfl, rfl, h⟩ (Nat.le_of_ble_eq_true rfl) (Nat.le_of_ble_eq_true rfl)
      · have h := h.2 c17
        refine z_aload_n C dX6_readAllOf_20 (i := 0) rfl rfl ?_
        refine t_get C dX6_readAllOf_21 fl_X6_21 (k := 13) (i := 0) (by decide) rfl (fg_13_6 _ _ _) ?_
        refine z_gets C dX6_readAllOf_24 (q := 201 + 256 * 19) (by decide) gl_X6_202 (fun z => (z.2.2.2.1.1.1 19 (by decide)).1) ?_
        obtain ⟨g27a, h⟩ := h
        refine z_acmpW_ne C dX6_readAllOf_27 (i := (zgP st 13 0 6)) (j := 19) (tgt := 63) (by decide) g27a (by decide) (fun c27 => ?_) (fun c27 => ?_)
        · have h := h.2 c27
          refine z_iload_n C dX6_readAllOf_63 (i := 2) rfl rfl ?_
          obtain ⟨g64, h⟩ := h
          exact z_iret C dX6_readAllOf_64 hr (zn_bool g64) ⟨_, _, rfl, rfl, h⟩ (Nat.le_of_ble_eq_true rfl) (Nat.le_of_ble_eq_true rfl)
        · have h := h.1 c27
          refine z_aload_n C dX6_readAllOf_30 (i := 0) rfl rfl ?_
          refine t_callV C (rest := []) (c2 := 0) (s2 := 0) (kd := 13) (i := 0) [] dX6_readAllOf_31 lk_X6_61 li_X6_advance le_X6_advance (c_X6_advance hfl h) rfl rfl (by decide) rfl ⟨_, rfl⟩ rfl ⟨Nat.le_of_ble_eq_true rfl, Nat.le_of_ble_eq_true rfl⟩ (Nat.le_of_ble_eq_true rfl) ⟨Nat.le_of_ble_eq_true rfl, Nat.le_of_ble_eq_true rfl, Nat.le_of_ble_eq_true rfl, Nat.le_of_ble_eq_true rfl⟩ (k_Wv fun s31 h => ?_)
          refine z_aload_n C dX6_readAllOf_34 (i := 0) rfl rfl ?_
          refine z_iload_n C dX6_readAllOf_35 (i := 1) rfl rfl ?_
          refine t_callV C (rest := []) (c2 := 0) (s2 := 0) (kd := 13) (i := 0) [.int (a1)] dX6_readAllOf_36 lk_X6_199 li_X6_readOne le_X6_readOne (c_X6_readOne_L2 hfl h) rfl rfl (by decide) rfl ⟨_, rfl⟩ rfl ⟨Nat.le_of_ble_eq_true rfl, Nat.le_of_ble_eq_true rfl⟩ (Nat.le_of_ble_eq_true rfl) ⟨Nat.le_of_ble_eq_true rfl, Nat.le_of_ble_eq_true rfl, Nat.le_of_ble_eq_true rfl, Nat.le_of_ble_eq_true rfl⟩ (k_Wi fun r36 s36 h => ?_)
          refine z_if_eq C dX6_readAllOf_39 (tgt := 55) (by decide) (fun c39 => ?_) (fun c39 => ?_)
          · have h := h.1 c39
            exact t_drop [true, true, false, true] rfl (j_X6_readAllOf_L2_55 hfl C hr hn9 hK8 s36 a1 a3 h)
          · have h := h.2 c39
            refine z_aload_n C dX6_readAllOf_42 (i := 0) rfl rfl ?_
            refine z_bipush C dX6_readAllOf_43 (v := (-2)) (by decide) ?_
            refine t_callV C (rest := []) (c2 := 0) (s2 := 0) (kd := 13) (i := 0) [.int (-2)] dX6_readAllOf_45 lk_X6_196 li_X6_addStep le_X6_addStep (c_X6_addStep hfl h) rfl rfl (by decide) rfl ⟨_, rfl⟩ rfl ⟨Nat.le_of_ble_eq_true rfl, Nat.le_of_ble_eq_true rfl⟩ (Nat.le_of_ble_eq_true rfl) ⟨Nat.le_of_ble_eq_true rfl, Nat.le_of_ble_eq_true rfl, Nat.le_of_ble_eq_true rfl, Nat.le_of_ble_eq_true rfl⟩ (k_Wi fun r45 s45 h => ?_)
            refine z_if_eq C dX6_readAllOf_48 (tgt := 55) (by decide) (fun c48 => ?_) (fun c48 => ?_)
            · have h := h.1 c48
              exact t_drop [true, true, false, true] rfl (j_X6_readAllOf_L2_55 hfl C hr hn9 hK8 s45 a1 a3 h)
            · have h := h.2 c48
              refine z_iconst C dX6_readAllOf_51 (v := 1) (by decide) ?_
              refine z_goto C dX6_readAllOf_52 (tgt := 56) (by decide) ?_
              exact t_drop [true, true, false, true] rfl (j_X6_readAllOf_L2_56 hfl C hr hn9 hK8 s45 a1 a3 (1) h)
def w_X6_readAllOf_L2 (st : zTs) (a1 : Int32) (P : Int32 → zTs → Prop) : Prop := w_X6_readOne_L2 st a1 (fun (r2 : Int32) (s2 : zTs) => (w_X6_readAllOf_L2_8 P zfu s2 a1 r2 (0)))
set_option maxHeartbeats 4000000 in
set_option maxRecDepth 100000 in
theorem c_X6_readAllOf_L2 {Z : zZ} {l : Launch} (hfl : l.stackTraces = false) {st : zTs} {a1 : Int32} {P : Int32 → zTs → Prop} (h : w_X6_readAllOf_L2 st a1 P) : zN Z l yX6_readAllOf cX6_readAllOf 4 (some .boolean) ({ frames := 33, cells := 0, slots := 0, locals := 748 } : Room) (zh Z zm1 st) [.ref 13, .int (a1)] (zWi Z P) := by
  unfold w_X6_readAllOf_L2 at h
  refine z_enterN (by decide) (Nat.le_of_ble_eq_true rfl) (lc0 := [some (.ref 13), some (.int (a1)), none, none]) rfl ?_
  intro p e s m args below meth c ad0 C hr _
  have hn9 : True := trivial
  replace C : zC Z p s m args meth c cX6_readAllOf 4 RX6 := C
  refine z_aload_n C dX6_readAllOf_0 (i := 0) rfl rfl ?_
  refine z_iload_n C dX6_readAllOf_1 (i := 1) rfl rfl ?_
  refine t_callV C (rest := []) (c2 := 0) (s2 := 0) (kd := 13) (i := 0) [.int (a1)] dX6_readAllOf_2 lk_X6_199 li_X6_readOne le_X6_readOne (c_X6_readOne_L2 hfl h) rfl rfl (by decide) rfl ⟨_, rfl⟩ rfl ⟨Nat.le_of_ble_eq_true rfl, Nat.le_of_ble_eq_true rfl⟩ (Nat.le_of_ble_eq_true rfl) ⟨Nat.le_of_ble_eq_true rfl, Nat.le_of_ble_eq_true rfl, Nat.le_of_ble_eq_true rfl, Nat.le_of_ble_eq_true rfl⟩ (k_Wi fun r2 s2 h => ?_)
  refine z_istore_n C dX6_readAllOf_5 (i := 2) (lc' := [some (.ref 13), some (.int (a1)), some (.int (r2)), none]) rfl (by decide) rfl ?_
  refine z_iconst C dX6_readAllOf_6 (v := 0) (by decide) ?_
  refine z_istore_n C dX6_readAllOf_7 (i := 3) (lc' := [some (.ref 13), some (.int (a1)), some (.int (r2)), some (.int (0))]) rfl (by decide) rfl ?_
  exact t_drop [true, true, true, true] rfl (j_X6_readAllOf_L2_8 hfl C hr hn9  zfu s2 a1 r2 (0) h)
def w_X6_readAnyOf_L2_56 (P : Int32 → zTs → Prop) (K8 : zTs → Int32 → Int32 → Int32 → Prop) (st : zTs) (a1 : Int32) (a3 : Int32) (b0 : Int32) : Prop := ∀ x57 : Int32, x57 = a3 + 1 → (K8 st a1 b0 x57)
set_option maxHeartbeats 4000000 in
set_option maxRecDepth 100000 in
theorem j_X6_readAnyOf_L2_56 {P : Int32 → zTs → Prop} {K8 : zTs → Int32 → Int32 → Int32 → Prop} (hfl : l.stackTraces = false) (C : zC Z p s m args meth c cX6_readAnyOf 4 RX6) (hr : meth.sig.returnType = (some .boolean)) (hn9 : True) (hK8 : ∀ (st : zTs) (a1 : Int32) (a2 : Int32) (a3 : Int32), K8 st a1 a2 a3 → zG Z ad0 h0 p l e ({ frames := 34, cells := 0, slots := 0, locals := 771 } : Room) s m args below meth c (MQ below (zQ Z ad0 h0 (zWi Z P)) args s 0 0 (zA Z)) 0 0 (zh Z zm1 st) 4 8 [some (.ref 13), some (.int (a1)), some (.int (a2)), some (.int (a3))] []) (st : zTs) (a1 : Int32) (a3 : Int32) (b0 : Int32) (h : w_X6_readAnyOf_L2_56 P K8 st a1 a3 b0) : zG Z ad0 h0 p l e ({ frames := 34, cells := 0, slots := 0, locals := 771 } : Room) s m args below meth c (MQ below (zQ Z ad0 h0 (zWi Z P)) args s 0 0 (zA Z)) 0 0 (zh Z zm1 st) 4 56 [some (.ref 13), some (.int (a1)), none, some (.int (a3))] [.int (b0)] := by
  unfold w_X6_readAnyOf_L2_56 at h
  refine z_istore_n C dX6_readAnyOf_56 (i := 2) (lc' := [some (.ref 13), some (.int (a1)), some (.int (b0)), some (.int (a3))]) rfl (by decide) rfl ?_
  obtain ⟨x57, ex57⟩ : ∃ z : Int32, z = a3 + 1 := ⟨_, rfl⟩
  have h := h x57 ex57
  refine z_iinc C dX6_readAnyOf_57 (v := x57) (lc' := [some (.ref 13), some (.int (a1)), some (.int (b0)), some (.int (x57))]) rfl (by decide) (by rw [ex57]; rfl) rfl ?_
  refine z_goto C dX6_readAnyOf_60 (tgt := 8) (by decide) ?_
  exact t_drop [true, true, true, true] rfl (hK8 st a1 b0 x57 h)
def w_X6_readAnyOf_L2_55 (P : Int32 → zTs → Prop) (K8 : zTs → Int32 → Int32 → Int32 → Prop) (st : zTs) (a1 : Int32) (a3 : Int32) : Prop := w_X6_readAnyOf_L2_56 P K8 st a1 a3 (0)
set_option maxHeartbeats 4000000 in
set_option maxRecDepth 100000 in
theorem j_X6_readAnyOf_L2_55 {P : Int32 → zTs → Prop} {K8 : zTs → Int32 → Int32 → Int32 → Prop} (hfl : l.stackTraces = false) (C : zC Z p s m args meth c cX6_readAnyOf 4 RX6) (hr : meth.sig.returnType = (some .boolean)) (hn9 : True) (hK8 : ∀ (st : zTs) (a1 : Int32) (a2 : Int32) (a3 : Int32), K8 st a1 a2 a3 → zG Z ad0 h0 p l e ({ frames := 34, cells := 0, slots := 0, locals := 771 } : Room) s m args below meth c (MQ below (zQ Z ad0 h0 (zWi Z P)) args s 0 0 (zA Z)) 0 0 (zh Z zm1 st) 4 8 [some (.ref 13), some (.int (a1)), some (.int (a2)), some (.int (a3))] []) (st : zTs) (a1 : Int32) (a3 : Int32) (h : w_X6_readAnyOf_L2_55 P K8 st a1 a3) : zG Z ad0 h0 p l e ({ frames := 34, cells := 0, slots := 0, locals := 771 } : Room) s m args below meth c (MQ below (zQ Z ad0 h0 (zWi Z P)) args s 0 0 (zA Z)) 0 0 (zh Z zm1 st) 4 55 [some (.ref 13), some (.int (a1)), none, some (.int (a3))] [] := by
  unfold w_X6_readAnyOf_L2_55 at h
  refine z_iconst C dX6_readAnyOf_55 (v := 0) (by decide) ?_
  exact t_drop [true, true, false, true] rfl (j_X6_readAnyOf_L2_56 hfl C hr hn9 hK8 st a1 a3 (0) h)
def w_X6_readAnyOf_L2_8 (P : Int32 → zTs → Prop)  : Nat → zTs → Int32 → Int32 → Int32 → Prop
  | 0, _, _, _, _ => False
  | n9 + 1, st, a1, a2, a3 => ((zgF st 13 0 3) ≤ a3 → (a2 = 0 ∨ a2 = 1) ∧ (P a2 st)) ∧ (¬ (zgF st 13 0 3) ≤ a3 → (a2 = 0 → (a2 = 0 ∨ a2 = 1) ∧ (P a2 st)) ∧ (¬ a2 = 0 → (zgP st 13 0 6 < 24) ∧ ((((zgP st 13 0 6) : Nat) = 18 → w_X6_advance st (fun (s31 : zTs) => (w_X6_readAllOf_L2 s31 a1 (fun (r36 : Int32) (s36 : zTs) => ((r36 = 0 → w_X6_readAnyOf_L2_55 P (w_X6_readAnyOf_L2_8 P n9) s36 a1 a3) ∧ (¬ r36 = 0 → w_X6_addStep s36 (-3) (fun (r45 : Int32) (s45 : zTs) => ((r45 = 0 → w_X6_readAnyOf_L2_55 P (w_X6_readAnyOf_L2_8 P n9) s45 a1 a3) ∧ (¬ r45 = 0 → w_X6_readAnyOf_L2_56 P (w_X6_readAnyOf_L2_8 P n9) s45 a1 a3 (1)))))))))) ∧ (¬ ((zgP st 13 0 6) : Nat) = 18 → (a2 = 0 ∨ a2 = 1) ∧ (P a2 st)))))
set_option maxHeartbeats 4000000 in
set_option maxRecDepth 100000 in
theorem j_X6_readAnyOf_L2_8 {P : Int32 → zTs → Prop}  (hfl : l.stackTraces = false) (C : zC Z p s m args meth c cX6_readAnyOf 4 RX6) (hr : meth.sig.returnType = (some .boolean)) (hn9 : True)  : ∀ (n9 : Nat) (st : zTs) (a1 : Int32) (a2 : Int32) (a3 : Int32), w_X6_readAnyOf_L2_8 P n9 st a1 a2 a3 → zG Z ad0 h0 p l e ({ frames := 34, cells := 0, slots := 0, locals := 771 } : Room) s m args below meth c (MQ below (zQ Z ad0 h0 (zWi Z P)) args s 0 0 (zA Z)) 0 0 (zh Z zm1 st) 4 8 [some (.ref 13), some (.int (a1)), some (.int (a2)), some (.int (a3))] [] := by
  intro n9
  induction n9 with
  | zero => intro st a1 a2 a3 h; exact h.elim
  | succ n9 hK8 =>
    intro st a1 a2 a3 h
    rw [w_X6_readAnyOf_L2_8] at h
    refine z_iload_n C dX6_readAnyOf_8 (i := 3) rfl rfl ?_
    refine z_aload_n C dX6_readAnyOf_9 (i := 0) rfl rfl ?_
    refine t_get C dX6_readAnyOf_10 fl_X6_55 (k := 13) (i := 0) (by decide) rfl (fg_13_3 _ _ _) ?_
    refine z_icmp_ge C dX6_readAnyOf_13 (tgt := 63) (by decide) (fun c13 => ?_) (fun c13 => ?_)
    · have h := h.1 c13
      refine z_iload_n C dX6_readAnyOf_63 (i := 2) rfl rfl ?_
      obtain ⟨g64, h⟩ := h
      exact z_iret C dX6_readAnyOf_64 hr (zn_bool g64) ⟨_, _, rfl, rfl, h⟩ (Nat.le_of_ble_eq_true rfl) (Nat.le_of_ble_eq_true rfl)
    · have h := h.2 c13
      refine z_iload_n C dX6_readAnyOf_16 (i := 2) rfl rfl ?_
      refine z_if_eq C dX6_readAnyOf_17 (tgt := 63) (by decide) (fun c17 => ?_) (fun c17 => ?_)
      · have h := h.1 c17
        refine z_iload_n C dX6_readAnyOf_63 (i := 2) rfl rfl ?_
        obtain ⟨g64, h⟩ := h
        exact z_iret C dX6_readAnyOf_64 hr (zn_bool g64) ⟨_, _, rfl, rfl, h⟩ (Nat.le_of_ble_eq_true rfl) (Nat.le_of_ble_eq_true rfl)
      · have h := h.2 c17
        refine z_aload_n C dX6_readAnyOf_20 (i := 0) rfl rfl ?_
        refine t_get C dX6_readAnyOf_21 fl_X6_21 (k := 13) (i := 0) (by decide) rfl (fg_13_6 _ _ _) ?_
        refine z_gets C dX6_readAnyOf_24 (q := 201 + 256 * 18) (by decide) gl_X6_193 (fun z => (z.2.2.2.1.1.1 18 (by decide)).1) ?_
        obtain ⟨g27a, h⟩ := h
        refine z_acmpW_ne C dX6_readAnyOf_27 (i := (zgP st 13 0 6)) (j := 18) (tgt := 63) (by decide) g27a (by decide) (fun c27 => ?_) (fun c27 => ?_)
        · have h := h.2 c27
          refine z_iload_n C dX6_readAnyOf_63 (i := 2) rfl rfl ?_
          obtain ⟨g64, h⟩ := h
          exact z_iret C dX6_readAnyOf_64 hr (zn_bool g64) ⟨_, _, rfl, rfl, h⟩ (Nat.le_of_ble_eq_true rfl) (Nat.le_of_ble_eq_true rfl)
        · have h := h.1 c27
          refine z_aload_n C dX6_readAnyOf_30 (i := 0) rfl rfl ?_
          refine t_callV C (rest := []) (c2 := 0) (s2 := 0) (kd := 13) (i := 0) [] dX6_readAnyOf_31 lk_X6_61 li_X6_advance le_X6_advance (c_X6_advance hfl h) rfl rfl (by decide) rfl ⟨_, rfl⟩ rfl ⟨Nat.le_of_ble_eq_true rfl, Nat.le_of_ble_eq_true rfl⟩ (Nat.le_of_ble_eq_true rfl) ⟨Nat.le_of_ble_eq_true rfl, Nat.le_of_ble_eq_true rfl, Nat.le_of_ble_eq_true rfl, Nat.le_of_ble_eq_true rfl⟩ (k_Wv fun s31 h => ?_)
          refine z_aload_n C dX6_readAnyOf_34 (i := 0) rfl rfl ?_
          refine z_iload_n C dX6_readAnyOf_35 (i := 1) rfl rfl ?_
          refine t_callV C (rest := []) (c2 := 0) (s2 := 0) (kd := 13) (i := 0) [.int (a1)] dX6_readAnyOf_36 lk_X6_190 li_X6_readAllOf le_X6_readAllOf (c_X6_readAllOf_L2 hfl h) rfl rfl (by decide) rfl ⟨_, rfl⟩ rfl ⟨Nat.le_of_ble_eq_true rfl, Nat.le_of_ble_eq_true rfl⟩ (Nat.le_of_ble_eq_true rfl) ⟨Nat.le_of_ble_eq_true rfl, Nat.le_of_ble_eq_true rfl, Nat.le_of_ble_eq_true rfl, Nat.le_of_ble_eq_true rfl⟩ (k_Wi fun r36 s36 h => ?_)
          refine z_if_eq C dX6_readAnyOf_39 (tgt := 55) (by decide) (fun c39 => ?_) (fun c39 => ?_)
          · have h := h.1 c39
            exact t_drop [true, true, false, true] rfl (j_X6_readAnyOf_L2_55 hfl C hr hn9 hK8 s36 a1 a3 h)
          · have h := h.2 c39
            refine z_aload_n C dX6_readAnyOf_42 (i := 0) rfl rfl ?_
            refine z_bipush C dX6_readAnyOf_43 (v := (-3)) (by decide) ?_
            refine t_callV C (rest := []) (c2 := 0) (s2 := 0) (kd := 13) (i := 0) [.int (-3)] dX6_readAnyOf_45 lk_X6_196 li_X6_addStep le_X6_addStep (c_X6_addStep hfl h) rfl rfl (by decide) rfl ⟨_, rfl⟩ rfl ⟨Nat.le_of_ble_eq_true rfl, Nat.le_of_ble_eq_true rfl⟩ (Nat.le_of_ble_eq_true rfl) ⟨Nat.le_of_ble_eq_true rfl, Nat.le_of_ble_eq_true rfl, Nat.le_of_ble_eq_true rfl, Nat.le_of_ble_eq_true rfl⟩ (k_Wi fun r45 s45 h => ?_)
            refine z_if_eq C dX6_readAnyOf_48 (tgt := 55) (by decide) (fun c48 => ?_) (fun c48 => ?_)
            · have h := h.1 c48
              exact t_drop [true, true, false, true] rfl (j_X6_readAnyOf_L2_55 hfl C hr hn9 hK8 s45 a1 a3 h)
            · have h := h.2 c48
              refine z_iconst C dX6_readAnyOf_51 (v := 1) (by decide) ?_
              refine z_goto C dX6_readAnyOf_52 (tgt := 56) (by decide) ?_
              exact t_drop [true, true, false, true] rfl (j_X6_readAnyOf_L2_56 hfl C hr hn9 hK8 s45 a1 a3 (1) h)
def w_X6_readAnyOf_L2 (st : zTs) (a1 : Int32) (P : Int32 → zTs → Prop) : Prop := w_X6_readAllOf_L2 st a1 (fun (r2 : Int32) (s2 : zTs) => (w_X6_readAnyOf_L2_8 P zfu s2 a1 r2 (0)))
set_option maxHeartbeats 4000000 in
set_option maxRecDepth 100000 in
theorem c_X6_readAnyOf_L2 {Z : zZ} {l : Launch} (hfl : l.stackTraces = false) {st : zTs} {a1 : Int32} {P : Int32 → zTs → Prop} (h : w_X6_readAnyOf_L2 st a1 P) : zN Z l yX6_readAnyOf cX6_readAnyOf 4 (some .boolean) ({ frames := 34, cells := 0, slots := 0, locals := 771 } : Room) (zh Z zm1 st) [.ref 13, .int (a1)] (zWi Z P) := by
  unfold w_X6_readAnyOf_L2 at h
  refine z_enterN (by decide) (Nat.le_of_ble_eq_true rfl) (lc0 := [some (.ref 13), some (.int (a1)), none, none]) rfl ?_
  intro p e s m args below meth c ad0 C hr _
  have hn9 : True := trivial
  replace C : zC Z p s m args meth c cX6_readAnyOf 4 RX6 := C
  refine z_aload_n C dX6_readAnyOf_0 (i := 0) rfl rfl ?_
  refine z_iload_n C dX6_readAnyOf_1 (i := 1) rfl rfl ?_
  refine t_callV C (rest := []) (c2 := 0) (s2 := 0) (kd := 13) (i := 0) [.int (a1)] dX6_readAnyOf_2 lk_X6_190 li_X6_readAllOf le_X6_readAllOf (c_X6_readAllOf_L2 hfl h) rfl rfl (by decide) rfl ⟨_, rfl⟩ rfl ⟨Nat.le_of_ble_eq_true rfl, Nat.le_of_ble_eq_true rfl⟩ (Nat.le_of_ble_eq_true rfl) ⟨Nat.le_of_ble_eq_true rfl, Nat.le_of_ble_eq_true rfl, Nat.le_of_ble_eq_true rfl, Nat.le_of_ble_eq_true rfl⟩ (k_Wi fun r2 s2 h => ?_)
  refine z_istore_n C dX6_readAnyOf_5 (i := 2) (lc' := [some (.ref 13), some (.int (a1)), some (.int (r2)), none]) rfl (by decide) rfl ?_
  refine z_iconst C dX6_readAnyOf_6 (v := 0) (by decide) ?_
  refine z_istore_n C dX6_readAnyOf_7 (i := 3) (lc' := [some (.ref 13), some (.int (a1)), some (.int (r2)), some (.int (0))]) rfl (by decide) rfl ?_
  exact t_drop [true, true, true, true] rfl (j_X6_readAnyOf_L2_8 hfl C hr hn9  zfu s2 a1 r2 (0) h)
def w_X6_readOne_L1_188 (P : Int32 → zTs → Prop)  (st : zTs) (b0 : Int32) (b1 : Int32) : Prop := w_X6_addStep st (((b1 + b0) * 10000) + (zgF st 13 0 9)) (fun (r198 : Int32) (s198 : zTs) => ((r198 = 0 → P 0 s198) ∧ (¬ r198 = 0 → P 1 s198)))
set_option maxHeartbeats 4000000 in
set_option maxRecDepth 100000 in
theorem j_X6_readOne_L1_188 {P : Int32 → zTs → Prop}  (hfl : l.stackTraces = false) (C : zC Z p s m args meth c cX6_readOne 5 RX6) (hr : meth.sig.returnType = (some .boolean)) (hn9 : True)  (st : zTs) (b0 : Int32) (b1 : Int32) (h : w_X6_readOne_L1_188 P st b0 b1) : zG Z ad0 h0 p l e ({ frames := 35, cells := 0, slots := 0, locals := 794 } : Room) s m args below meth c (MQ below (zQ Z ad0 h0 (zWi Z P)) args s 0 0 (zA Z)) 0 0 (zh Z zm1 st) 5 188 [some (.ref 13), none, none, none, none] [.int (b0), .int (b1), .ref 13] := by
  unfold w_X6_readOne_L1_188 at h
  refine z_iadd C dX6_readOne_188 ?_
  refine z_sipush C dX6_readOne_189 (v := 10000) (by decide) ?_
  refine z_imul C dX6_readOne_192 ?_
  refine z_aload_n C dX6_readOne_193 (i := 0) rfl rfl ?_
  refine t_get C dX6_readOne_194 fl_X6_83 (k := 13) (i := 0) (by decide) rfl (fg_13_9 _ _ _) ?_
  refine z_iadd C dX6_readOne_197 ?_
  refine t_callV C (rest := []) (c2 := 0) (s2 := 0) (kd := 13) (i := 0) [.int (((b1 + b0) * 10000) + (zgF st 13 0 9))] dX6_readOne_198 lk_X6_196 li_X6_addStep le_X6_addStep (c_X6_addStep hfl h) rfl rfl (by decide) rfl ⟨_, rfl⟩ rfl ⟨Nat.le_of_ble_eq_true rfl, Nat.le_of_ble_eq_true rfl⟩ (Nat.le_of_ble_eq_true rfl) ⟨Nat.le_of_ble_eq_true rfl, Nat.le_of_ble_eq_true rfl, Nat.le_of_ble_eq_true rfl, Nat.le_of_ble_eq_true rfl⟩ (k_Wi fun r198 s198 h => ?_)
  refine z_if_eq C dX6_readOne_201 (tgt := 208) (by decide) (fun c201 => ?_) (fun c201 => ?_)
  · have h := h.1 c201
    refine z_iconst C dX6_readOne_208 (v := 0) (by decide) ?_
    exact z_iret C dX6_readOne_209 hr rfl ⟨_, _, rfl, rfl, h⟩ (Nat.le_of_ble_eq_true rfl) (Nat.le_of_ble_eq_true rfl)
  · have h := h.2 c201
    refine z_iconst C dX6_readOne_204 (v := 1) (by decide) ?_
    refine z_goto C dX6_readOne_205 (tgt := 209) (by decide) ?_
    exact z_iret C dX6_readOne_209 hr rfl ⟨_, _, rfl, rfl, h⟩ (Nat.le_of_ble_eq_true rfl) (Nat.le_of_ble_eq_true rfl)
def w_X6_readOne_L1_159 (P : Int32 → zTs → Prop)  (st : zTs) (a3 : Int32) (a4 : Int32) : Prop := w_X6_advance st (fun (s160 : zTs) => (w_X6_takeNumber s160 0 9999 (fun (r168 : Int32) (s168 : zTs) => ((r168 = 0 → P 0 s168) ∧ (¬ r168 = 0 → (a4 = 0 → w_X6_readOne_L1_188 P s168 (0) (2 * a3)) ∧ (¬ a4 = 0 → w_X6_readOne_L1_188 P s168 (1) (2 * a3)))))))
set_option maxHeartbeats 4000000 in
set_option maxRecDepth 100000 in
theorem j_X6_readOne_L1_159 {P : Int32 → zTs → Prop}  (hfl : l.stackTraces = false) (C : zC Z p s m args meth c cX6_readOne 5 RX6) (hr : meth.sig.returnType = (some .boolean)) (hn9 : True)  (st : zTs) (a3 : Int32) (a4 : Int32) (h : w_X6_readOne_L1_159 P st a3 a4) : zG Z ad0 h0 p l e ({ frames := 35, cells := 0, slots := 0, locals := 794 } : Room) s m args below meth c (MQ below (zQ Z ad0 h0 (zWi Z P)) args s 0 0 (zA Z)) 0 0 (zh Z zm1 st) 5 159 [some (.ref 13), none, none, some (.int (a3)), some (.int (a4))] [] := by
  unfold w_X6_readOne_L1_159 at h
  refine z_aload_n C dX6_readOne_159 (i := 0) rfl rfl ?_
  refine t_callV C (rest := []) (c2 := 0) (s2 := 0) (kd := 13) (i := 0) [] dX6_readOne_160 lk_X6_61 li_X6_advance le_X6_advance (c_X6_advance hfl h) rfl rfl (by decide) rfl ⟨_, rfl⟩ rfl ⟨Nat.le_of_ble_eq_true rfl, Nat.le_of_ble_eq_true rfl⟩ (Nat.le_of_ble_eq_true rfl) ⟨Nat.le_of_ble_eq_true rfl, Nat.le_of_ble_eq_true rfl, Nat.le_of_ble_eq_true rfl, Nat.le_of_ble_eq_true rfl⟩ (k_Wv fun s160 h => ?_)
  refine z_aload_n C dX6_readOne_163 (i := 0) rfl rfl ?_
  refine z_iconst C dX6_readOne_164 (v := 0) (by decide) ?_
  refine z_sipush C dX6_readOne_165 (v := 9999) (by decide) ?_
  refine t_callV C (rest := []) (c2 := 0) (s2 := 0) (kd := 13) (i := 0) [.int (0), .int (9999)] dX6_readOne_168 lk_X6_125 li_X6_takeNumber le_X6_takeNumber (c_X6_takeNumber hfl h) rfl rfl (by decide) rfl ⟨_, rfl⟩ rfl ⟨Nat.le_of_ble_eq_true rfl, Nat.le_of_ble_eq_true rfl⟩ (Nat.le_of_ble_eq_true rfl) ⟨Nat.le_of_ble_eq_true rfl, Nat.le_of_ble_eq_true rfl, Nat.le_of_ble_eq_true rfl, Nat.le_of_ble_eq_true rfl⟩ (k_Wi fun r168 s168 h => ?_)
  refine z_if_eq C dX6_readOne_171 (tgt := 208) (by decide) (fun c171 => ?_) (fun c171 => ?_)
  · have h := h.1 c171
    refine z_iconst C dX6_readOne_208 (v := 0) (by decide) ?_
    exact z_iret C dX6_readOne_209 hr rfl ⟨_, _, rfl, rfl, h⟩ (Nat.le_of_ble_eq_true rfl) (Nat.le_of_ble_eq_true rfl)
  · have h := h.2 c171
    refine z_aload_n C dX6_readOne_174 (i := 0) rfl rfl ?_
    refine z_iconst C dX6_readOne_175 (v := 2) (by decide) ?_
    refine z_iload_n C dX6_readOne_176 (i := 3) rfl rfl ?_
    refine z_imul C dX6_readOne_177 ?_
    refine z_iload C dX6_readOne_178 rfl ?_
    refine z_if_eq C dX6_readOne_180 (tgt := 187) (by decide) (fun c180 => ?_) (fun c180 => ?_)
    · have h := h.1 c180
      refine z_iconst C dX6_readOne_187 (v := 0) (by decide) ?_
      exact t_drop [true, false, false, false, false] rfl (j_X6_readOne_L1_188 hfl C hr hn9  s168 (0) (2 * a3) h)
    · have h := h.2 c180
      refine z_iconst C dX6_readOne_183 (v := 1) (by decide) ?_
      refine z_goto C dX6_readOne_184 (tgt := 188) (by decide) ?_
      exact t_drop [true, false, false, false, false] rfl (j_X6_readOne_L1_188 hfl C hr hn9  s168 (1) (2 * a3) h)
def w_X6_readOne_L1_137 (P : Int32 → zTs → Prop)  (st : zTs) (a3 : Int32) (b0 : Int32) : Prop := (b0 = 0 → ((zgF st 13 0 8) = 60 → w_X6_readOne_L1_159 P st a3 b0) ∧ (¬ (zgF st 13 0 8) = 60 → w_X6_fail st 1 (fun (r155 : Int32) (s155 : zTs) => ((r155 = 0 ∨ r155 = 1) ∧ (P r155 s155))))) ∧ (¬ b0 = 0 → w_X6_readOne_L1_159 P st a3 b0)
set_option maxHeartbeats 4000000 in
set_option maxRecDepth 100000 in
theorem j_X6_readOne_L1_137 {P : Int32 → zTs → Prop}  (hfl : l.stackTraces = false) (C : zC Z p s m args meth c cX6_readOne 5 RX6) (hr : meth.sig.returnType = (some .boolean)) (hn9 : True)  (st : zTs) (a3 : Int32) (b0 : Int32) (h : w_X6_readOne_L1_137 P st a3 b0) : zG Z ad0 h0 p l e ({ frames := 35, cells := 0, slots := 0, locals := 794 } : Room) s m args below meth c (MQ below (zQ Z ad0 h0 (zWi Z P)) args s 0 0 (zA Z)) 0 0 (zh Z zm1 st) 5 137 [some (.ref 13), none, none, some (.int (a3)), none] [.int (b0)] := by
  unfold w_X6_readOne_L1_137 at h
  refine z_istore C dX6_readOne_137 (lc' := [some (.ref 13), none, none, some (.int (a3)), some (.int (b0))]) (by decide) rfl ?_
  refine z_iload C dX6_readOne_139 rfl ?_
  refine z_if_ne C dX6_readOne_141 (tgt := 159) (by decide) (fun c141 => ?_) (fun c141 => ?_)
  · have h := h.2 c141
    exact t_drop [true, false, false, true, true] rfl (j_X6_readOne_L1_159 hfl C hr hn9  st a3 b0 h)
  · have h := h.1 c141
    refine z_aload_n C dX6_readOne_144 (i := 0) rfl rfl ?_
    refine t_get C dX6_readOne_145 fl_X6_28 (k := 13) (i := 0) (by decide) rfl (fg_13_8 _ _ _) ?_
    refine z_bipush C dX6_readOne_148 (v := 60) (by decide) ?_
    refine z_icmp_eq C dX6_readOne_150 (tgt := 159) (by decide) (fun c150 => ?_) (fun c150 => ?_)
    · have h := h.1 c150
      exact t_drop [true, false, false, true, true] rfl (j_X6_readOne_L1_159 hfl C hr hn9  st a3 b0 h)
    · have h := h.2 c150
      refine z_aload_n C dX6_readOne_153 (i := 0) rfl rfl ?_
      refine z_iconst C dX6_readOne_154 (v := 1) (by decide) ?_
      refine t_callV C (rest := []) (c2 := 0) (s2 := 0) (kd := 13) (i := 0) [.int (1)] dX6_readOne_155 lk_X6_79 li_X6_fail le_X6_fail (c_X6_fail hfl h) rfl rfl (by decide) rfl ⟨_, rfl⟩ rfl ⟨Nat.le_of_ble_eq_true rfl, Nat.le_of_ble_eq_true rfl⟩ (Nat.le_of_ble_eq_true rfl) ⟨Nat.le_of_ble_eq_true rfl, Nat.le_of_ble_eq_true rfl, Nat.le_of_ble_eq_true rfl, Nat.le_of_ble_eq_true rfl⟩ (k_Wi fun r155 s155 h => ?_)
      obtain ⟨g158, h⟩ := h
      exact z_iret C dX6_readOne_158 hr (zn_bool g158) ⟨_, _, rfl, rfl, h⟩ (Nat.le_of_ble_eq_true rfl) (Nat.le_of_ble_eq_true rfl)
def w_X6_readOne_L1_29 (P : Int32 → zTs → Prop)  (st : zTs) (a1 : Int32) (a2 : Int32) : Prop := (a1 < 8 → w_X6_advance st (fun (s42 : zTs) => ((a2 = 0 → w_X6_readAnyOf_L2 s42 (a1 + 1) (fun (r79 : Int32) (s79 : zTs) => ((r79 = 0 → P 0 s79) ∧ (¬ r79 = 0 → w_X6_takeSign s79 41 (fun (r88 : Int32) (s88 : zTs) => ((r88 = 0 → P 0 s88) ∧ (¬ r88 = 0 → P 1 s88))))))) ∧ (¬ a2 = 0 → w_X6_readOne_L2 s42 (a1 + 1) (fun (r53 : Int32) (s53 : zTs) => ((r53 = 0 → P 0 s53) ∧ (¬ r53 = 0 → w_X6_addStep s53 (-1) (fun (r61 : Int32) (s61 : zTs) => ((r61 = 0 → P 0 s61) ∧ (¬ r61 = 0 → P 1 s61)))))))))) ∧ (¬ a1 < 8 → w_X6_fail st 3 (fun (r37 : Int32) (s37 : zTs) => ((r37 = 0 ∨ r37 = 1) ∧ (P r37 s37))))
set_option maxHeartbeats 4000000 in
set_option maxRecDepth 100000 in
theorem j_X6_readOne_L1_29 {P : Int32 → zTs → Prop}  (hfl : l.stackTraces = false) (C : zC Z p s m args meth c cX6_readOne 5 RX6) (hr : meth.sig.returnType = (some .boolean)) (hn9 : True)  (st : zTs) (a1 : Int32) (a2 : Int32) (h : w_X6_readOne_L1_29 P st a1 a2) : zG Z ad0 h0 p l e ({ frames := 35, cells := 0, slots := 0, locals := 794 } : Room) s m args below meth c (MQ below (zQ Z ad0 h0 (zWi Z P)) args s 0 0 (zA Z)) 0 0 (zh Z zm1 st) 5 29 [some (.ref 13), some (.int (a1)), some (.int (a2)), none, none] [] := by
  unfold w_X6_readOne_L1_29 at h
  refine z_iload_n C dX6_readOne_29 (i := 1) rfl rfl ?_
  refine z_bipush C dX6_readOne_30 (v := 8) (by decide) ?_
  refine z_icmp_lt C dX6_readOne_32 (tgt := 41) (by decide) (fun c32 => ?_) (fun c32 => ?_)
  · have h := h.1 c32
    refine z_aload_n C dX6_readOne_41 (i := 0) rfl rfl ?_
    refine t_callV C (rest := []) (c2 := 0) (s2 := 0) (kd := 13) (i := 0) [] dX6_readOne_42 lk_X6_61 li_X6_advance le_X6_advance (c_X6_advance hfl h) rfl rfl (by decide) rfl ⟨_, rfl⟩ rfl ⟨Nat.le_of_ble_eq_true rfl, Nat.le_of_ble_eq_true rfl⟩ (Nat.le_of_ble_eq_true rfl) ⟨Nat.le_of_ble_eq_true rfl, Nat.le_of_ble_eq_true rfl, Nat.le_of_ble_eq_true rfl, Nat.le_of_ble_eq_true rfl⟩ (k_Wv fun s42 h => ?_)
    refine z_iload_n C dX6_readOne_45 (i := 2) rfl rfl ?_
    refine z_if_eq C dX6_readOne_46 (tgt := 75) (by decide) (fun c46 => ?_) (fun c46 => ?_)
    · have h := h.1 c46
      refine z_aload_n C dX6_readOne_75 (i := 0) rfl rfl ?_
      refine z_iload_n C dX6_readOne_76 (i := 1) rfl rfl ?_
      refine z_iconst C dX6_readOne_77 (v := 1) (by decide) ?_
      refine z_iadd C dX6_readOne_78 ?_
      refine t_callV C (rest := []) (c2 := 0) (s2 := 0) (kd := 13) (i := 0) [.int (a1 + 1)] dX6_readOne_79 lk_X6_177 li_X6_readAnyOf le_X6_readAnyOf (c_X6_readAnyOf_L2 hfl h) rfl rfl (by decide) rfl ⟨_, rfl⟩ rfl ⟨Nat.le_of_ble_eq_true rfl, Nat.le_of_ble_eq_true rfl⟩ (Nat.le_of_ble_eq_true rfl) ⟨Nat.le_of_ble_eq_true rfl, Nat.le_of_ble_eq_true rfl, Nat.le_of_ble_eq_true rfl, Nat.le_of_ble_eq_true rfl⟩ (k_Wi fun r79 s79 h => ?_)
      refine z_if_eq C dX6_readOne_82 (tgt := 98) (by decide) (fun c82 => ?_) (fun c82 => ?_)
      · have h := h.1 c82
        refine z_iconst C dX6_readOne_98 (v := 0) (by decide) ?_
        exact z_iret C dX6_readOne_99 hr rfl ⟨_, _, rfl, rfl, h⟩ (Nat.le_of_ble_eq_true rfl) (Nat.le_of_ble_eq_true rfl)
      · have h := h.2 c82
        refine z_aload_n C dX6_readOne_85 (i := 0) rfl rfl ?_
        refine z_bipush C dX6_readOne_86 (v := 41) (by decide) ?_
        refine t_callV C (rest := []) (c2 := 0) (s2 := 0) (kd := 13) (i := 0) [.int (41)] dX6_readOne_88 lk_X6_118 li_X6_takeSign le_X6_takeSign (c_X6_takeSign hfl h) rfl rfl (by decide) rfl ⟨_, rfl⟩ rfl ⟨Nat.le_of_ble_eq_true rfl, Nat.le_of_ble_eq_true rfl⟩ (Nat.le_of_ble_eq_true rfl) ⟨Nat.le_of_ble_eq_true rfl, Nat.le_of_ble_eq_true rfl, Nat.le_of_ble_eq_true rfl, Nat.le_of_ble_eq_true rfl⟩ (k_Wi fun r88 s88 h => ?_)
        refine z_if_eq C dX6_readOne_91 (tgt := 98) (by decide) (fun c91 => ?_) (fun c91 => ?_)
        · have h := h.1 c91
          refine z_iconst C dX6_readOne_98 (v := 0) (by decide) ?_
          exact z_iret C dX6_readOne_99 hr rfl ⟨_, _, rfl, rfl, h⟩ (Nat.le_of_ble_eq_true rfl) (Nat.le_of_ble_eq_true rfl)
        · have h := h.2 c91
          refine z_iconst C dX6_readOne_94 (v := 1) (by decide) ?_
          refine z_goto C dX6_readOne_95 (tgt := 99) (by decide) ?_
          exact z_iret C dX6_readOne_99 hr rfl ⟨_, _, rfl, rfl, h⟩ (Nat.le_of_ble_eq_true rfl) (Nat.le_of_ble_eq_true rfl)
    · have h := h.2 c46
      refine z_aload_n C dX6_readOne_49 (i := 0) rfl rfl ?_
      refine z_iload_n C dX6_readOne_50 (i := 1) rfl rfl ?_
      refine z_iconst C dX6_readOne_51 (v := 1) (by decide) ?_
      refine z_iadd C dX6_readOne_52 ?_
      refine t_callV C (rest := []) (c2 := 0) (s2 := 0) (kd := 13) (i := 0) [.int (a1 + 1)] dX6_readOne_53 lk_X6_199 li_X6_readOne le_X6_readOne (c_X6_readOne_L2 hfl h) rfl rfl (by decide) rfl ⟨_, rfl⟩ rfl ⟨Nat.le_of_ble_eq_true rfl, Nat.le_of_ble_eq_true rfl⟩ (Nat.le_of_ble_eq_true rfl) ⟨Nat.le_of_ble_eq_true rfl, Nat.le_of_ble_eq_true rfl, Nat.le_of_ble_eq_true rfl, Nat.le_of_ble_eq_true rfl⟩ (k_Wi fun r53 s53 h => ?_)
      refine z_if_eq C dX6_readOne_56 (tgt := 71) (by decide) (fun c56 => ?_) (fun c56 => ?_)
      · have h := h.1 c56
        refine z_iconst C dX6_readOne_71 (v := 0) (by decide) ?_
        refine z_goto C dX6_readOne_72 (tgt := 99) (by decide) ?_
        exact z_iret C dX6_readOne_99 hr rfl ⟨_, _, rfl, rfl, h⟩ (Nat.le_of_ble_eq_true rfl) (Nat.le_of_ble_eq_true rfl)
      · have h := h.2 c56
        refine z_aload_n C dX6_readOne_59 (i := 0) rfl rfl ?_
        refine z_iconst C dX6_readOne_60 (v := (-1)) (by decide) ?_
        refine t_callV C (rest := []) (c2 := 0) (s2 := 0) (kd := 13) (i := 0) [.int (-1)] dX6_readOne_61 lk_X6_196 li_X6_addStep le_X6_addStep (c_X6_addStep hfl h) rfl rfl (by decide) rfl ⟨_, rfl⟩ rfl ⟨Nat.le_of_ble_eq_true rfl, Nat.le_of_ble_eq_true rfl⟩ (Nat.le_of_ble_eq_true rfl) ⟨Nat.le_of_ble_eq_true rfl, Nat.le_of_ble_eq_true rfl, Nat.le_of_ble_eq_true rfl, Nat.le_of_ble_eq_true rfl⟩ (k_Wi fun r61 s61 h => ?_)
        refine z_if_eq C dX6_readOne_64 (tgt := 71) (by decide) (fun c64 => ?_) (fun c64 => ?_)
        · have h := h.1 c64
          refine z_iconst C dX6_readOne_71 (v := 0) (by decide) ?_
          refine z_goto C dX6_readOne_72 (tgt := 99) (by decide) ?_
          exact z_iret C dX6_readOne_99 hr rfl ⟨_, _, rfl, rfl, h⟩ (Nat.le_of_ble_eq_true rfl) (Nat.le_of_ble_eq_true rfl)
        · have h := h.2 c64
          refine z_iconst C dX6_readOne_67 (v := 1) (by decide) ?_
          refine z_goto C dX6_readOne_68 (tgt := 99) (by decide) ?_
          exact z_iret C dX6_readOne_99 hr rfl ⟨_, _, rfl, rfl, h⟩ (Nat.le_of_ble_eq_true rfl) (Nat.le_of_ble_eq_true rfl)
  · have h := h.2 c32
    refine z_aload_n C dX6_readOne_35 (i := 0) rfl rfl ?_
    refine z_iconst C dX6_readOne_36 (v := 3) (by decide) ?_
    refine t_callV C (rest := []) (c2 := 0) (s2 := 0) (kd := 13) (i := 0) [.int (3)] dX6_readOne_37 lk_X6_79 li_X6_fail le_X6_fail (c_X6_fail hfl h) rfl rfl (by decide) rfl ⟨_, rfl⟩ rfl ⟨Nat.le_of_ble_eq_true rfl, Nat.le_of_ble_eq_true rfl⟩ (Nat.le_of_ble_eq_true rfl) ⟨Nat.le_of_ble_eq_true rfl, Nat.le_of_ble_eq_true rfl, Nat.le_of_ble_eq_true rfl, Nat.le_of_ble_eq_true rfl⟩ (k_Wi fun r37 s37 h => ?_)
    obtain ⟨g40, h⟩ := h
    exact z_iret C dX6_readOne_40 hr (zn_bool g40) ⟨_, _, rfl, rfl, h⟩ (Nat.le_of_ble_eq_true rfl) (Nat.le_of_ble_eq_true rfl)
def w_X6_readOne_L1_15 (P : Int32 → zTs → Prop)  (st : zTs) (a1 : Int32) (b0 : Int32) : Prop := (b0 = 0 → ((zgF st 13 0 8) = 40 → w_X6_readOne_L1_29 P st a1 b0) ∧ (¬ (zgF st 13 0 8) = 40 → w_X6_measureOf st (zgP st 13 0 6) (fun (r104 : Int32) => ((r104 = (-1) → w_X6_fail st 1 (fun (r115 : Int32) (s115 : zTs) => ((r115 = 0 ∨ r115 = 1) ∧ (P r115 s115)))) ∧ (¬ r104 = (-1) → w_X6_advance st (fun (s120 : zTs) => (((zgF s120 13 0 8) = 62 → w_X6_readOne_L1_137 P s120 r104 (1)) ∧ (¬ (zgF s120 13 0 8) = 62 → w_X6_readOne_L1_137 P s120 r104 (0))))))))) ∧ (¬ b0 = 0 → w_X6_readOne_L1_29 P st a1 b0)
set_option maxHeartbeats 4000000 in
set_option maxRecDepth 100000 in
theorem j_X6_readOne_L1_15 {P : Int32 → zTs → Prop}  (hfl : l.stackTraces = false) (C : zC Z p s m args meth c cX6_readOne 5 RX6) (hr : meth.sig.returnType = (some .boolean)) (hn9 : True)  (st : zTs) (a1 : Int32) (b0 : Int32) (h : w_X6_readOne_L1_15 P st a1 b0) : zG Z ad0 h0 p l e ({ frames := 35, cells := 0, slots := 0, locals := 794 } : Room) s m args below meth c (MQ below (zQ Z ad0 h0 (zWi Z P)) args s 0 0 (zA Z)) 0 0 (zh Z zm1 st) 5 15 [some (.ref 13), some (.int (a1)), none, none, none] [.int (b0)] := by
  unfold w_X6_readOne_L1_15 at h
  refine z_istore_n C dX6_readOne_15 (i := 2) (lc' := [some (.ref 13), some (.int (a1)), some (.int (b0)), none, none]) rfl (by decide) rfl ?_
  refine z_iload_n C dX6_readOne_16 (i := 2) rfl rfl ?_
  refine z_if_ne C dX6_readOne_17 (tgt := 29) (by decide) (fun c17 => ?_) (fun c17 => ?_)
  · have h := h.2 c17
    exact t_drop [true, true, true, false, false] rfl (j_X6_readOne_L1_29 hfl C hr hn9  st a1 b0 h)
  · have h := h.1 c17
    refine z_aload_n C dX6_readOne_20 (i := 0) rfl rfl ?_
    refine t_get C dX6_readOne_21 fl_X6_28 (k := 13) (i := 0) (by decide) rfl (fg_13_8 _ _ _) ?_
    refine z_bipush C dX6_readOne_24 (v := 40) (by decide) ?_
    refine z_icmp_ne C dX6_readOne_26 (tgt := 100) (by decide) (fun c26 => ?_) (fun c26 => ?_)
    · have h := h.2 c26
      refine z_aload_n C dX6_readOne_100 (i := 0) rfl rfl ?_
      refine t_get C dX6_readOne_101 fl_X6_21 (k := 13) (i := 0) (by decide) rfl (fg_13_6 _ _ _) ?_
      refine t_callS C (rest := []) (c2 := 0) (s2 := 0) [.ref (201 + 256 * (zgP st 13 0 6))] dX6_readOne_104 lk_X6_208 ls_X6_measureOf (c_X6_measureOf hfl h) rfl rfl ⟨Nat.le_of_ble_eq_true rfl, Nat.le_of_ble_eq_true rfl⟩ (Nat.le_of_ble_eq_true rfl) ⟨Nat.le_of_ble_eq_true rfl, Nat.le_of_ble_eq_true rfl, Nat.le_of_ble_eq_true rfl, Nat.le_of_ble_eq_true rfl⟩ (k_Ri fun r104 h => ?_)
      refine z_istore_n C dX6_readOne_107 (i := 3) (lc' := [some (.ref 13), some (.int (a1)), some (.int (b0)), some (.int (r104)), none]) rfl (by decide) rfl ?_
      refine z_iload_n C dX6_readOne_108 (i := 3) rfl rfl ?_
      refine z_iconst C dX6_readOne_109 (v := (-1)) (by decide) ?_
      refine z_icmp_ne C dX6_readOne_110 (tgt := 119) (by decide) (fun c110 => ?_) (fun c110 => ?_)
      · have h := h.2 c110
        refine z_aload_n C dX6_readOne_119 (i := 0) rfl rfl ?_
        refine t_callV C (rest := []) (c2 := 0) (s2 := 0) (kd := 13) (i := 0) [] dX6_readOne_120 lk_X6_61 li_X6_advance le_X6_advance (c_X6_advance hfl h) rfl rfl (by decide) rfl ⟨_, rfl⟩ rfl ⟨Nat.le_of_ble_eq_true rfl, Nat.le_of_ble_eq_true rfl⟩ (Nat.le_of_ble_eq_true rfl) ⟨Nat.le_of_ble_eq_true rfl, Nat.le_of_ble_eq_true rfl, Nat.le_of_ble_eq_true rfl, Nat.le_of_ble_eq_true rfl⟩ (k_Wv fun s120 h => ?_)
        refine z_aload_n C dX6_readOne_123 (i := 0) rfl rfl ?_
        refine t_get C dX6_readOne_124 fl_X6_28 (k := 13) (i := 0) (by decide) rfl (fg_13_8 _ _ _) ?_
        refine z_bipush C dX6_readOne_127 (v := 62) (by decide) ?_
        refine z_icmp_ne C dX6_readOne_129 (tgt := 136) (by decide) (fun c129 => ?_) (fun c129 => ?_)
        · have h := h.2 c129
          refine z_iconst C dX6_readOne_136 (v := 0) (by decide) ?_
          exact t_drop [true, false, false, true, false] rfl (j_X6_readOne_L1_137 hfl C hr hn9  s120 r104 (0) h)
        · have h := h.1 c129
          refine z_iconst C dX6_readOne_132 (v := 1) (by decide) ?_
          refine z_goto C dX6_readOne_133 (tgt := 137) (by decide) ?_
          exact t_drop [true, false, false, true, false] rfl (j_X6_readOne_L1_137 hfl C hr hn9  s120 r104 (1) h)
      · have h := h.1 c110
        refine z_aload_n C dX6_readOne_113 (i := 0) rfl rfl ?_
        refine z_iconst C dX6_readOne_114 (v := 1) (by decide) ?_
        refine t_callV C (rest := []) (c2 := 0) (s2 := 0) (kd := 13) (i := 0) [.int (1)] dX6_readOne_115 lk_X6_79 li_X6_fail le_X6_fail (c_X6_fail hfl h) rfl rfl (by decide) rfl ⟨_, rfl⟩ rfl ⟨Nat.le_of_ble_eq_true rfl, Nat.le_of_ble_eq_true rfl⟩ (Nat.le_of_ble_eq_true rfl) ⟨Nat.le_of_ble_eq_true rfl, Nat.le_of_ble_eq_true rfl, Nat.le_of_ble_eq_true rfl, Nat.le_of_ble_eq_true rfl⟩ (k_Wi fun r115 s115 h => ?_)
        obtain ⟨g118, h⟩ := h
        exact z_iret C dX6_readOne_118 hr (zn_bool g118) ⟨_, _, rfl, rfl, h⟩ (Nat.le_of_ble_eq_true rfl) (Nat.le_of_ble_eq_true rfl)
    · have h := h.1 c26
      exact t_drop [true, true, true, false, false] rfl (j_X6_readOne_L1_29 hfl C hr hn9  st a1 b0 h)
def w_X6_readOne_L1 (st : zTs) (a1 : Int32) (P : Int32 → zTs → Prop) : Prop := (zgP st 13 0 6 < 24) ∧ ((((zgP st 13 0 6) : Nat) = 20 → w_X6_readOne_L1_15 P st a1 (1)) ∧ (¬ ((zgP st 13 0 6) : Nat) = 20 → w_X6_readOne_L1_15 P st a1 (0)))
set_option maxHeartbeats 4000000 in
set_option maxRecDepth 100000 in
theorem c_X6_readOne_L1 {Z : zZ} {l : Launch} (hfl : l.stackTraces = false) {st : zTs} {a1 : Int32} {P : Int32 → zTs → Prop} (h : w_X6_readOne_L1 st a1 P) : zN Z l yX6_readOne cX6_readOne 5 (some .boolean) ({ frames := 35, cells := 0, slots := 0, locals := 794 } : Room) (zh Z zm1 st) [.ref 13, .int (a1)] (zWi Z P) := by
  unfold w_X6_readOne_L1 at h
  refine z_enterN (by decide) (Nat.le_of_ble_eq_true rfl) (lc0 := [some (.ref 13), some (.int (a1)), none, none, none]) rfl ?_
  intro p e s m args below meth c ad0 C hr _
  have hn9 : True := trivial
  replace C : zC Z p s m args meth c cX6_readOne 5 RX6 := C
  refine z_aload_n C dX6_readOne_0 (i := 0) rfl rfl ?_
  refine t_get C dX6_readOne_1 fl_X6_21 (k := 13) (i := 0) (by decide) rfl (fg_13_6 _ _ _) ?_
  refine z_gets C dX6_readOne_4 (q := 201 + 256 * 20) (by decide) gl_X6_205 (fun z => (z.2.2.2.1.1.1 20 (by decide)).1) ?_
  obtain ⟨g7a, h⟩ := h
  refine z_acmpW_ne C dX6_readOne_7 (i := (zgP st 13 0 6)) (j := 20) (tgt := 14) (by decide) g7a (by decide) (fun c7 => ?_) (fun c7 => ?_)
  · have h := h.2 c7
    refine z_iconst C dX6_readOne_14 (v := 0) (by decide) ?_
    exact t_drop [true, true, false, false, false] rfl (j_X6_readOne_L1_15 hfl C hr hn9  st a1 (0) h)
  · have h := h.1 c7
    refine z_iconst C dX6_readOne_10 (v := 1) (by decide) ?_
    refine z_goto C dX6_readOne_11 (tgt := 15) (by decide) ?_
    exact t_drop [true, true, false, false, false] rfl (j_X6_readOne_L1_15 hfl C hr hn9  st a1 (1) h)
def w_X6_readAllOf_L1_56 (P : Int32 → zTs → Prop) (K8 : zTs → Int32 → Int32 → Int32 → Prop) (st : zTs) (a1 : Int32) (a3 : Int32) (b0 : Int32) : Prop := ∀ x57 : Int32, x57 = a3 + 1 → (K8 st a1 b0 x57)
set_option maxHeartbeats 4000000 in
set_option maxRecDepth 100000 in
theorem j_X6_readAllOf_L1_56 {P : Int32 → zTs → Prop} {K8 : zTs → Int32 → Int32 → Int32 → Prop} (hfl : l.stackTraces = false) (C : zC Z p s m args meth c cX6_readAllOf 4 RX6) (hr : meth.sig.returnType = (some .boolean)) (hn9 : True) (hK8 : ∀ (st : zTs) (a1 : Int32) (a2 : Int32) (a3 : Int32), K8 st a1 a2 a3 → zG Z ad0 h0 p l e ({ frames := 36, cells := 0, slots := 0, locals := 818 } : Room) s m args below meth c (MQ below (zQ Z ad0 h0 (zWi Z P)) args s 0 0 (zA Z)) 0 0 (zh Z zm1 st) 4 8 [some (.ref 13), some (.int (a1)), some (.int (a2)), some (.int (a3))] []) (st : zTs) (a1 : Int32) (a3 : Int32) (b0 : Int32) (h : w_X6_readAllOf_L1_56 P K8 st a1 a3 b0) : zG Z ad0 h0 p l e ({ frames := 36, cells := 0, slots := 0, locals := 818 } : Room) s m args below meth c (MQ below (zQ Z ad0 h0 (zWi Z P)) args s 0 0 (zA Z)) 0 0 (zh Z zm1 st) 4 56 [some (.ref 13), some (.int (a1)), none, some (.int (a3))] [.int (b0)] := by
  unfold w_X6_readAllOf_L1_56 at h
  refine z_istore_n C dX6_readAllOf_56 (i := 2) (lc' := [some (.ref 13), some (.int (a1)), some (.int (b0)), some (.int (a3))]) rfl (by decide) rfl ?_
  obtain ⟨x57, ex57⟩ : ∃ z : Int32, z = a3 + 1 := ⟨_, rfl⟩
  have h := h x57 ex57
  refine z_iinc C dX6_readAllOf_57 (v := x57) (lc' := [some (.ref 13), some (.int (a1)), some (.int (b0)), some (.int (x57))]) rfl (by decide) (by rw [ex57]; rfl) rfl ?_
  refine z_goto C dX6_readAllOf_60 (tgt := 8) (by decide) ?_
  exact t_drop [true, true, true, true] rfl (hK8 st a1 b0 x57 h)
def w_X6_readAllOf_L1_55 (P : Int32 → zTs → Prop) (K8 : zTs → Int32 → Int32 → Int32 → Prop) (st : zTs) (a1 : Int32) (a3 : Int32) : Prop := w_X6_readAllOf_L1_56 P K8 st a1 a3 (0)
set_option maxHeartbeats 4000000 in
set_option maxRecDepth 100000 in
theorem j_X6_readAllOf_L1_55 {P : Int32 → zTs → Prop} {K8 : zTs → Int32 → Int32 → Int32 → Prop} (hfl : l.stackTraces = false) (C : zC Z p s m args meth c cX6_readAllOf 4 RX6) (hr : meth.sig.returnType = (some .boolean)) (hn9 : True) (hK8 : ∀ (st : zTs) (a1 : Int32) (a2 : Int32) (a3 : Int32), K8 st a1 a2 a3 → zG Z ad0 h0 p l e ({ frames := 36, cells := 0, slots := 0, locals := 818 } : Room) s m args below meth c (MQ below (zQ Z ad0 h0 (zWi Z P)) args s 0 0 (zA Z)) 0 0 (zh Z zm1 st) 4 8 [some (.ref 13), some (.int (a1)), some (.int (a2)), some (.int (a3))] []) (st : zTs) (a1 : Int32) (a3 : Int32) (h : w_X6_readAllOf_L1_55 P K8 st a1 a3) : zG Z ad0 h0 p l e ({ frames := 36, cells := 0, slots := 0, locals := 818 } : Room) s m args below meth c (MQ below (zQ Z ad0 h0 (zWi Z P)) args s 0 0 (zA Z)) 0 0 (zh Z zm1 st) 4 55 [some (.ref 13), some (.int (a1)), none, some (.int (a3))] [] := by
  unfold w_X6_readAllOf_L1_55 at h
  refine z_iconst C dX6_readAllOf_55 (v := 0) (by decide) ?_
  exact t_drop [true, true, false, true] rfl (j_X6_readAllOf_L1_56 hfl C hr hn9 hK8 st a1 a3 (0) h)
def w_X6_readAllOf_L1_8 (P : Int32 → zTs → Prop)  : Nat → zTs → Int32 → Int32 → Int32 → Prop
  | 0, _, _, _, _ => False
  | n9 + 1, st, a1, a2, a3 => ((zgF st 13 0 3) ≤ a3 → (a2 = 0 ∨ a2 = 1) ∧ (P a2 st)) ∧ (¬ (zgF st 13 0 3) ≤ a3 → (a2 = 0 → (a2 = 0 ∨ a2 = 1) ∧ (P a2 st)) ∧ (¬ a2 = 0 → (zgP st 13 0 6 < 24) ∧ ((((zgP st 13 0 6) : Nat) = 19 → w_X6_advance st (fun (s31 : zTs) => (w_X6_readOne_L1 s31 a1 (fun (r36 : Int32) (s36 : zTs) => ((r36 = 0 → w_X6_readAllOf_L1_55 P (w_X6_readAllOf_L1_8 P n9) s36 a1 a3) ∧ (¬ r36 = 0 → w_X6_addStep s36 (-2) (fun (r45 : Int32) (s45 : zTs) => ((r45 = 0 → w_X6_readAllOf_L1_55 P (w_X6_readAllOf_L1_8 P n9) s45 a1 a3) ∧ (¬ r45 = 0 → w_X6_readAllOf_L1_56 P (w_X6_readAllOf_L1_8 P n9) s45 a1 a3 (1)))))))))) ∧ (¬ ((zgP st 13 0 6) : Nat) = 19 → (a2 = 0 ∨ a2 = 1) ∧ (P a2 st)))))
set_option maxHeartbeats 4000000 in
set_option maxRecDepth 100000 in
theorem j_X6_readAllOf_L1_8 {P : Int32 → zTs → Prop}  (hfl : l.stackTraces = false) (C : zC Z p s m args meth c cX6_readAllOf 4 RX6) (hr : meth.sig.returnType = (some .boolean)) (hn9 : True)  : ∀ (n9 : Nat) (st : zTs) (a1 : Int32) (a2 : Int32) (a3 : Int32), w_X6_readAllOf_L1_8 P n9 st a1 a2 a3 → zG Z ad0 h0 p l e ({ frames := 36, cells := 0, slots := 0, locals := 818 } : Room) s m args below meth c (MQ below (zQ Z ad0 h0 (zWi Z P)) args s 0 0 (zA Z)) 0 0 (zh Z zm1 st) 4 8 [some (.ref 13), some (.int (a1)), some (.int (a2)), some (.int (a3))] [] := by
  intro n9
  induction n9 with
  | zero => intro st a1 a2 a3 h; exact h.elim
  | succ n9 hK8 =>
    intro st a1 a2 a3 h
    rw [w_X6_readAllOf_L1_8] at h
    refine z_iload_n C dX6_readAllOf_8 (i := 3) rfl rfl ?_
    refine z_aload_n C dX6_readAllOf_9 (i := 0) rfl rfl ?_
    refine t_get C dX6_readAllOf_10 fl_X6_55 (k := 13) (i := 0) (by decide) rfl (fg_13_3 _ _ _) ?_
    refine z_icmp_ge C dX6_readAllOf_13 (tgt := 63) (by decide) (fun c13 => ?_) (fun c13 => ?_)
    · have h := h.1 c13
      refine z_iload_n C dX6_readAllOf_63 (i := 2) rfl rfl ?_
      obtain ⟨g64, h⟩ := h
      exact z_iret C dX6_readAllOf_64 hr (zn_bool g64) ⟨_, _, rfl, rfl, h⟩ (Nat.le_of_ble_eq_true rfl) (Nat.le_of_ble_eq_true rfl)
    · have h := h.2 c13
      refine z_iload_n C dX6_readAllOf_16 (i := 2) rfl rfl ?_
      refine z_if_eq C dX6_readAllOf_17 (tgt := 63) (by decide) (fun c17 => ?_) (fun c17 => ?_)
      · have h := h.1 c17
        refine z_iload_n C dX6_readAllOf_63 (i := 2) rfl rfl ?_
        obtain ⟨g64, h⟩ := h
        exact z_iret C dX6_readAllOf_64 hr (zn_bool g64) ⟨_, _, rfl, rfl, h⟩ (Nat.le_of_ble_eq_true rfl) (Nat.le_of_ble_eq_true rfl)
      · have h := h.2 c17
        refine z_aload_n C dX6_readAllOf_20 (i := 0) rfl rfl ?_
        refine t_get C dX6_readAllOf_21 fl_X6_21 (k := 13) (i := 0) (by decide) rfl (fg_13_6 _ _ _) ?_
        refine z_gets C dX6_readAllOf_24 (q := 201 + 256 * 19) (by decide) gl_X6_202 (fun z => (z.2.2.2.1.1.1 19 (by decide)).1) ?_
        obtain ⟨g27a, h⟩ := h
        refine z_acmpW_ne C dX6_readAllOf_27 (i := (zgP st 13 0 6)) (j := 19) (tgt := 63) (by decide) g27a (by decide) (fun c27 => ?_) (fun c27 => ?_)
        · have h := h.2 c27
          refine z_iload_n C dX6_readAllOf_63 (i := 2) rfl rfl ?_
          obtain ⟨g64, h⟩ := h
          exact z_iret C dX6_readAllOf_64 hr (zn_bool g64) ⟨_, _, rfl, rfl, h⟩ (Nat.le_of_ble_eq_true rfl) (Nat.le_of_ble_eq_true rfl)
        · have h := h.1 c27
          refine z_aload_n C dX6_readAllOf_30 (i := 0) rfl rfl ?_
          refine t_callV C (rest := []) (c2 := 0) (s2 := 0) (kd := 13) (i := 0) [] dX6_readAllOf_31 lk_X6_61 li_X6_advance le_X6_advance (c_X6_advance hfl h) rfl rfl (by decide) rfl ⟨_, rfl⟩ rfl ⟨Nat.le_of_ble_eq_true rfl, Nat.le_of_ble_eq_true rfl⟩ (Nat.le_of_ble_eq_true rfl) ⟨Nat.le_of_ble_eq_true rfl, Nat.le_of_ble_eq_true rfl, Nat.le_of_ble_eq_true rfl, Nat.le_of_ble_eq_true rfl⟩ (k_Wv fun s31 h => ?_)
          refine z_aload_n C dX6_readAllOf_34 (i := 0) rfl rfl ?_
          refine z_iload_n C dX6_readAllOf_35 (i := 1) rfl rfl ?_
          refine t_callV C (rest := []) (c2 := 0) (s2 := 0) (kd := 13) (i := 0) [.int (a1)] dX6_readAllOf_36 lk_X6_199 li_X6_readOne le_X6_readOne (c_X6_readOne_L1 hfl h) rfl rfl (by decide) rfl ⟨_, rfl⟩ rfl ⟨Nat.le_of_ble_eq_true rfl, Nat.le_of_ble_eq_true rfl⟩ (Nat.le_of_ble_eq_true rfl) ⟨Nat.le_of_ble_eq_true rfl, Nat.le_of_ble_eq_true rfl, Nat.le_of_ble_eq_true rfl, Nat.le_of_ble_eq_true rfl⟩ (k_Wi fun r36 s36 h => ?_)
          refine z_if_eq C dX6_readAllOf_39 (tgt := 55) (by decide) (fun c39 => ?_) (fun c39 => ?_)
          · have h := h.1 c39
            exact t_drop [true, true, false, true] rfl (j_X6_readAllOf_L1_55 hfl C hr hn9 hK8 s36 a1 a3 h)
          · have h := h.2 c39
            refine z_aload_n C dX6_readAllOf_42 (i := 0) rfl rfl ?_
            refine z_bipush C dX6_readAllOf_43 (v := (-2)) (by decide) ?_
            refine t_callV C (rest := []) (c2 := 0) (s2 := 0) (kd := 13) (i := 0) [.int (-2)] dX6_readAllOf_45 lk_X6_196 li_X6_addStep le_X6_addStep (c_X6_addStep hfl h) rfl rfl (by decide) rfl ⟨_, rfl⟩ rfl ⟨Nat.le_of_ble_eq_true rfl, Nat.le_of_ble_eq_true rfl⟩ (Nat.le_of_ble_eq_true rfl) ⟨Nat.le_of_ble_eq_true rfl, Nat.le_of_ble_eq_true rfl, Nat.le_of_ble_eq_true rfl, Nat.le_of_ble_eq_true rfl⟩ (k_Wi fun r45 s45 h => ?_)
            refine z_if_eq C dX6_readAllOf_48 (tgt := 55) (by decide) (fun c48 => ?_) (fun c48 => ?_)
            · have h := h.1 c48
              exact t_drop [true, true, false, true] rfl (j_X6_readAllOf_L1_55 hfl C hr hn9 hK8 s45 a1 a3 h)
            · have h := h.2 c48
              refine z_iconst C dX6_readAllOf_51 (v := 1) (by decide) ?_
              refine z_goto C dX6_readAllOf_52 (tgt := 56) (by decide) ?_
              exact t_drop [true, true, false, true] rfl (j_X6_readAllOf_L1_56 hfl C hr hn9 hK8 s45 a1 a3 (1) h)
def w_X6_readAllOf_L1 (st : zTs) (a1 : Int32) (P : Int32 → zTs → Prop) : Prop := w_X6_readOne_L1 st a1 (fun (r2 : Int32) (s2 : zTs) => (w_X6_readAllOf_L1_8 P zfu s2 a1 r2 (0)))
set_option maxHeartbeats 4000000 in
set_option maxRecDepth 100000 in
theorem c_X6_readAllOf_L1 {Z : zZ} {l : Launch} (hfl : l.stackTraces = false) {st : zTs} {a1 : Int32} {P : Int32 → zTs → Prop} (h : w_X6_readAllOf_L1 st a1 P) : zN Z l yX6_readAllOf cX6_readAllOf 4 (some .boolean) ({ frames := 36, cells := 0, slots := 0, locals := 818 } : Room) (zh Z zm1 st) [.ref 13, .int (a1)] (zWi Z P) := by
  unfold w_X6_readAllOf_L1 at h
  refine z_enterN (by decide) (Nat.le_of_ble_eq_true rfl) (lc0 := [some (.ref 13), some (.int (a1)), none, none]) rfl ?_
  intro p e s m args below meth c ad0 C hr _
  have hn9 : True := trivial
  replace C : zC Z p s m args meth c cX6_readAllOf 4 RX6 := C
  refine z_aload_n C dX6_readAllOf_0 (i := 0) rfl rfl ?_
  refine z_iload_n C dX6_readAllOf_1 (i := 1) rfl rfl ?_
  refine t_callV C (rest := []) (c2 := 0) (s2 := 0) (kd := 13) (i := 0) [.int (a1)] dX6_readAllOf_2 lk_X6_199 li_X6_readOne le_X6_readOne (c_X6_readOne_L1 hfl h) rfl rfl (by decide) rfl ⟨_, rfl⟩ rfl ⟨Nat.le_of_ble_eq_true rfl, Nat.le_of_ble_eq_true rfl⟩ (Nat.le_of_ble_eq_true rfl) ⟨Nat.le_of_ble_eq_true rfl, Nat.le_of_ble_eq_true rfl, Nat.le_of_ble_eq_true rfl, Nat.le_of_ble_eq_true rfl⟩ (k_Wi fun r2 s2 h => ?_)
  refine z_istore_n C dX6_readAllOf_5 (i := 2) (lc' := [some (.ref 13), some (.int (a1)), some (.int (r2)), none]) rfl (by decide) rfl ?_
  refine z_iconst C dX6_readAllOf_6 (v := 0) (by decide) ?_
  refine z_istore_n C dX6_readAllOf_7 (i := 3) (lc' := [some (.ref 13), some (.int (a1)), some (.int (r2)), some (.int (0))]) rfl (by decide) rfl ?_
  exact t_drop [true, true, true, true] rfl (j_X6_readAllOf_L1_8 hfl C hr hn9  zfu s2 a1 r2 (0) h)
def w_X6_readAnyOf_L1_56 (P : Int32 → zTs → Prop) (K8 : zTs → Int32 → Int32 → Int32 → Prop) (st : zTs) (a1 : Int32) (a3 : Int32) (b0 : Int32) : Prop := ∀ x57 : Int32, x57 = a3 + 1 → (K8 st a1 b0 x57)
set_option maxHeartbeats 4000000 in
set_option maxRecDepth 100000 in
theorem j_X6_readAnyOf_L1_56 {P : Int32 → zTs → Prop} {K8 : zTs → Int32 → Int32 → Int32 → Prop} (hfl : l.stackTraces = false) (C : zC Z p s m args meth c cX6_readAnyOf 4 RX6) (hr : meth.sig.returnType = (some .boolean)) (hn9 : True) (hK8 : ∀ (st : zTs) (a1 : Int32) (a2 : Int32) (a3 : Int32), K8 st a1 a2 a3 → zG Z ad0 h0 p l e ({ frames := 37, cells := 0, slots := 0, locals := 841 } : Room) s m args below meth c (MQ below (zQ Z ad0 h0 (zWi Z P)) args s 0 0 (zA Z)) 0 0 (zh Z zm1 st) 4 8 [some (.ref 13), some (.int (a1)), some (.int (a2)), some (.int (a3))] []) (st : zTs) (a1 : Int32) (a3 : Int32) (b0 : Int32) (h : w_X6_readAnyOf_L1_56 P K8 st a1 a3 b0) : zG Z ad0 h0 p l e ({ frames := 37, cells := 0, slots := 0, locals := 841 } : Room) s m args below meth c (MQ below (zQ Z ad0 h0 (zWi Z P)) args s 0 0 (zA Z)) 0 0 (zh Z zm1 st) 4 56 [some (.ref 13), some (.int (a1)), none, some (.int (a3))] [.int (b0)] := by
  unfold w_X6_readAnyOf_L1_56 at h
  refine z_istore_n C dX6_readAnyOf_56 (i := 2) (lc' := [some (.ref 13), some (.int (a1)), some (.int (b0)), some (.int (a3))]) rfl (by decide) rfl ?_
  obtain ⟨x57, ex57⟩ : ∃ z : Int32, z = a3 + 1 := ⟨_, rfl⟩
  have h := h x57 ex57
  refine z_iinc C dX6_readAnyOf_57 (v := x57) (lc' := [some (.ref 13), some (.int (a1)), some (.int (b0)), some (.int (x57))]) rfl (by decide) (by rw [ex57]; rfl) rfl ?_
  refine z_goto C dX6_readAnyOf_60 (tgt := 8) (by decide) ?_
  exact t_drop [true, true, true, true] rfl (hK8 st a1 b0 x57 h)
def w_X6_readAnyOf_L1_55 (P : Int32 → zTs → Prop) (K8 : zTs → Int32 → Int32 → Int32 → Prop) (st : zTs) (a1 : Int32) (a3 : Int32) : Prop := w_X6_readAnyOf_L1_56 P K8 st a1 a3 (0)
set_option maxHeartbeats 4000000 in
set_option maxRecDepth 100000 in
theorem j_X6_readAnyOf_L1_55 {P : Int32 → zTs → Prop} {K8 : zTs → Int32 → Int32 → Int32 → Prop} (hfl : l.stackTraces = false) (C : zC Z p s m args meth c cX6_readAnyOf 4 RX6) (hr : meth.sig.returnType = (some .boolean)) (hn9 : True) (hK8 : ∀ (st : zTs) (a1 : Int32) (a2 : Int32) (a3 : Int32), K8 st a1 a2 a3 → zG Z ad0 h0 p l e ({ frames := 37, cells := 0, slots := 0, locals := 841 } : Room) s m args below meth c (MQ below (zQ Z ad0 h0 (zWi Z P)) args s 0 0 (zA Z)) 0 0 (zh Z zm1 st) 4 8 [some (.ref 13), some (.int (a1)), some (.int (a2)), some (.int (a3))] []) (st : zTs) (a1 : Int32) (a3 : Int32) (h : w_X6_readAnyOf_L1_55 P K8 st a1 a3) : zG Z ad0 h0 p l e ({ frames := 37, cells := 0, slots := 0, locals := 841 } : Room) s m args below meth c (MQ below (zQ Z ad0 h0 (zWi Z P)) args s 0 0 (zA Z)) 0 0 (zh Z zm1 st) 4 55 [some (.ref 13), some (.int (a1)), none, some (.int (a3))] [] := by
  unfold w_X6_readAnyOf_L1_55 at h
  refine z_iconst C dX6_readAnyOf_55 (v := 0) (by decide) ?_
  exact t_drop [true, true, false, true] rfl (j_X6_readAnyOf_L1_56 hfl C hr hn9 hK8 st a1 a3 (0) h)
def w_X6_readAnyOf_L1_8 (P : Int32 → zTs → Prop)  : Nat → zTs → Int32 → Int32 → Int32 → Prop
  | 0, _, _, _, _ => False
  | n9 + 1, st, a1, a2, a3 => ((zgF st 13 0 3) ≤ a3 → (a2 = 0 ∨ a2 = 1) ∧ (P a2 st)) ∧ (¬ (zgF st 13 0 3) ≤ a3 → (a2 = 0 → (a2 = 0 ∨ a2 = 1) ∧ (P a2 st)) ∧ (¬ a2 = 0 → (zgP st 13 0 6 < 24) ∧ ((((zgP st 13 0 6) : Nat) = 18 → w_X6_advance st (fun (s31 : zTs) => (w_X6_readAllOf_L1 s31 a1 (fun (r36 : Int32) (s36 : zTs) => ((r36 = 0 → w_X6_readAnyOf_L1_55 P (w_X6_readAnyOf_L1_8 P n9) s36 a1 a3) ∧ (¬ r36 = 0 → w_X6_addStep s36 (-3) (fun (r45 : Int32) (s45 : zTs) => ((r45 = 0 → w_X6_readAnyOf_L1_55 P (w_X6_readAnyOf_L1_8 P n9) s45 a1 a3) ∧ (¬ r45 = 0 → w_X6_readAnyOf_L1_56 P (w_X6_readAnyOf_L1_8 P n9) s45 a1 a3 (1)))))))))) ∧ (¬ ((zgP st 13 0 6) : Nat) = 18 → (a2 = 0 ∨ a2 = 1) ∧ (P a2 st)))))
set_option maxHeartbeats 4000000 in
set_option maxRecDepth 100000 in
theorem j_X6_readAnyOf_L1_8 {P : Int32 → zTs → Prop}  (hfl : l.stackTraces = false) (C : zC Z p s m args meth c cX6_readAnyOf 4 RX6) (hr : meth.sig.returnType = (some .boolean)) (hn9 : True)  : ∀ (n9 : Nat) (st : zTs) (a1 : Int32) (a2 : Int32) (a3 : Int32), w_X6_readAnyOf_L1_8 P n9 st a1 a2 a3 → zG Z ad0 h0 p l e ({ frames := 37, cells := 0, slots := 0, locals := 841 } : Room) s m args below meth c (MQ below (zQ Z ad0 h0 (zWi Z P)) args s 0 0 (zA Z)) 0 0 (zh Z zm1 st) 4 8 [some (.ref 13), some (.int (a1)), some (.int (a2)), some (.int (a3))] [] := by
  intro n9
  induction n9 with
  | zero => intro st a1 a2 a3 h; exact h.elim
  | succ n9 hK8 =>
    intro st a1 a2 a3 h
    rw [w_X6_readAnyOf_L1_8] at h
    refine z_iload_n C dX6_readAnyOf_8 (i := 3) rfl rfl ?_
    refine z_aload_n C dX6_readAnyOf_9 (i := 0) rfl rfl ?_
    refine t_get C dX6_readAnyOf_10 fl_X6_55 (k := 13) (i := 0) (by decide) rfl (fg_13_3 _ _ _) ?_
    refine z_icmp_ge C dX6_readAnyOf_13 (tgt := 63) (by decide) (fun c13 => ?_) (fun c13 => ?_)
    · have h := h.1 c13
      refine z_iload_n C dX6_readAnyOf_63 (i := 2) rfl rfl ?_
      obtain ⟨g64, h⟩ := h
      exact z_iret C dX6_readAnyOf_64 hr (zn_bool g64) ⟨_, _, rfl, rfl, h⟩ (Nat.le_of_ble_eq_true rfl) (Nat.le_of_ble_eq_true rfl)
    · have h := h.2 c13
      refine z_iload_n C dX6_readAnyOf_16 (i := 2) rfl rfl ?_
      refine z_if_eq C dX6_readAnyOf_17 (tgt := 63) (by decide) (fun c17 => ?_) (fun c17 => ?_)
      · have h := h.1 c17
        refine z_iload_n C dX6_readAnyOf_63 (i := 2) rfl rfl ?_
        obtain ⟨g64, h⟩ := h
        exact z_iret C dX6_readAnyOf_64 hr (zn_bool g64) ⟨_, _, rfl, rfl, h⟩ (Nat.le_of_ble_eq_true rfl) (Nat.le_of_ble_eq_true rfl)
      · have h := h.2 c17
        refine z_aload_n C dX6_readAnyOf_20 (i := 0) rfl rfl ?_
        refine t_get C dX6_readAnyOf_21 fl_X6_21 (k := 13) (i := 0) (by decide) rfl (fg_13_6 _ _ _) ?_
        refine z_gets C dX6_readAnyOf_24 (q := 201 + 256 * 18) (by decide) gl_X6_193 (fun z => (z.2.2.2.1.1.1 18 (by decide)).1) ?_
        obtain ⟨g27a, h⟩ := h
        refine z_acmpW_ne C dX6_readAnyOf_27 (i := (zgP st 13 0 6)) (j := 18) (tgt := 63) (by decide) g27a (by decide) (fun c27 => ?_) (fun c27 => ?_)
        · have h := h.2 c27
          refine z_iload_n C dX6_readAnyOf_63 (i := 2) rfl rfl ?_
          obtain ⟨g64, h⟩ := h
          exact z_iret C dX6_readAnyOf_64 hr (zn_bool g64) ⟨_, _, rfl, rfl, h⟩ (Nat.le_of_ble_eq_true rfl) (Nat.le_of_ble_eq_true rfl)
        · have h := h.1 c27
          refine z_aload_n C dX6_readAnyOf_30 (i := 0) rfl rfl ?_
          refine t_callV C (rest := []) (c2 := 0) (s2 := 0) (kd := 13) (i := 0) [] dX6_readAnyOf_31 lk_X6_61 li_X6_advance le_X6_advance (c_X6_advance hfl h) rfl rfl (by decide) rfl ⟨_, rfl⟩ rfl ⟨Nat.le_of_ble_eq_true rfl, Nat.le_of_ble_eq_true rfl⟩ (Nat.le_of_ble_eq_true rfl) ⟨Nat.le_of_ble_eq_true rfl, Nat.le_of_ble_eq_true rfl, Nat.le_of_ble_eq_true rfl, Nat.le_of_ble_eq_true rfl⟩ (k_Wv fun s31 h => ?_)
          refine z_aload_n C dX6_readAnyOf_34 (i := 0) rfl rfl ?_
          refine z_iload_n C dX6_readAnyOf_35 (i := 1) rfl rfl ?_
          refine t_callV C (rest := []) (c2 := 0) (s2 := 0) (kd := 13) (i := 0) [.int (a1)] dX6_readAnyOf_36 lk_X6_190 li_X6_readAllOf le_X6_readAllOf (c_X6_readAllOf_L1 hfl h) rfl rfl (by decide) rfl ⟨_, rfl⟩ rfl ⟨Nat.le_of_ble_eq_true rfl, Nat.le_of_ble_eq_true rfl⟩ (Nat.le_of_ble_eq_true rfl) ⟨Nat.le_of_ble_eq_true rfl, Nat.le_of_ble_eq_true rfl, Nat.le_of_ble_eq_true rfl, Nat.le_of_ble_eq_true rfl⟩ (k_Wi fun r36 s36 h => ?_)
          refine z_if_eq C dX6_readAnyOf_39 (tgt := 55) (by decide) (fun c39 => ?_) (fun c39 => ?_)
          · have h := h.1 c39
            exact t_drop [true, true, false, true] rfl (j_X6_readAnyOf_L1_55 hfl C hr hn9 hK8 s36 a1 a3 h)
          · have h := h.2 c39
            refine z_aload_n C dX6_readAnyOf_42 (i := 0) rfl rfl ?_
            refine z_bipush C dX6_readAnyOf_43 (v := (-3)) (by decide) ?_
            refine t_callV C (rest := []) (c2 := 0) (s2 := 0) (kd := 13) (i := 0) [.int (-3)] dX6_readAnyOf_45 lk_X6_196 li_X6_addStep le_X6_addStep (c_X6_addStep hfl h) rfl rfl (by decide) rfl ⟨_, rfl⟩ rfl ⟨Nat.le_of_ble_eq_true rfl, Nat.le_of_ble_eq_true rfl⟩ (Nat.le_of_ble_eq_true rfl) ⟨Nat.le_of_ble_eq_true rfl, Nat.le_of_ble_eq_true rfl, Nat.le_of_ble_eq_true rfl, Nat.le_of_ble_eq_true rfl⟩ (k_Wi fun r45 s45 h => ?_)
            refine z_if_eq C dX6_readAnyOf_48 (tgt := 55) (by decide) (fun c48 => ?_) (fun c48 => ?_)
            · have h := h.1 c48
              exact t_drop [true, true, false, true] rfl (j_X6_readAnyOf_L1_55 hfl C hr hn9 hK8 s45 a1 a3 h)
            · have h := h.2 c48
              refine z_iconst C dX6_readAnyOf_51 (v := 1) (by decide) ?_
              refine z_goto C dX6_readAnyOf_52 (tgt := 56) (by decide) ?_
              exact t_drop [true, true, false, true] rfl (j_X6_readAnyOf_L1_56 hfl C hr hn9 hK8 s45 a1 a3 (1) h)
def w_X6_readAnyOf_L1 (st : zTs) (a1 : Int32) (P : Int32 → zTs → Prop) : Prop := w_X6_readAllOf_L1 st a1 (fun (r2 : Int32) (s2 : zTs) => (w_X6_readAnyOf_L1_8 P zfu s2 a1 r2 (0)))
set_option maxHeartbeats 4000000 in
set_option maxRecDepth 100000 in
theorem c_X6_readAnyOf_L1 {Z : zZ} {l : Launch} (hfl : l.stackTraces = false) {st : zTs} {a1 : Int32} {P : Int32 → zTs → Prop} (h : w_X6_readAnyOf_L1 st a1 P) : zN Z l yX6_readAnyOf cX6_readAnyOf 4 (some .boolean) ({ frames := 37, cells := 0, slots := 0, locals := 841 } : Room) (zh Z zm1 st) [.ref 13, .int (a1)] (zWi Z P) := by
  unfold w_X6_readAnyOf_L1 at h
  refine z_enterN (by decide) (Nat.le_of_ble_eq_true rfl) (lc0 := [some (.ref 13), some (.int (a1)), none, none]) rfl ?_
  intro p e s m args below meth c ad0 C hr _
  have hn9 : True := trivial
  replace C : zC Z p s m args meth c cX6_readAnyOf 4 RX6 := C
  refine z_aload_n C dX6_readAnyOf_0 (i := 0) rfl rfl ?_
  refine z_iload_n C dX6_readAnyOf_1 (i := 1) rfl rfl ?_
  refine t_callV C (rest := []) (c2 := 0) (s2 := 0) (kd := 13) (i := 0) [.int (a1)] dX6_readAnyOf_2 lk_X6_190 li_X6_readAllOf le_X6_readAllOf (c_X6_readAllOf_L1 hfl h) rfl rfl (by decide) rfl ⟨_, rfl⟩ rfl ⟨Nat.le_of_ble_eq_true rfl, Nat.le_of_ble_eq_true rfl⟩ (Nat.le_of_ble_eq_true rfl) ⟨Nat.le_of_ble_eq_true rfl, Nat.le_of_ble_eq_true rfl, Nat.le_of_ble_eq_true rfl, Nat.le_of_ble_eq_true rfl⟩ (k_Wi fun r2 s2 h => ?_)
  refine z_istore_n C dX6_readAnyOf_5 (i := 2) (lc' := [some (.ref 13), some (.int (a1)), some (.int (r2)), none]) rfl (by decide) rfl ?_
  refine z_iconst C dX6_readAnyOf_6 (v := 0) (by decide) ?_
  refine z_istore_n C dX6_readAnyOf_7 (i := 3) (lc' := [some (.ref 13), some (.int (a1)), some (.int (r2)), some (.int (0))]) rfl (by decide) rfl ?_
  exact t_drop [true, true, true, true] rfl (j_X6_readAnyOf_L1_8 hfl C hr hn9  zfu s2 a1 r2 (0) h)
def w_X6_readOne_L0_188 (P : Int32 → zTs → Prop)  (st : zTs) (b0 : Int32) (b1 : Int32) : Prop := w_X6_addStep st (((b1 + b0) * 10000) + (zgF st 13 0 9)) (fun (r198 : Int32) (s198 : zTs) => ((r198 = 0 → P 0 s198) ∧ (¬ r198 = 0 → P 1 s198)))
set_option maxHeartbeats 4000000 in
set_option maxRecDepth 100000 in
theorem j_X6_readOne_L0_188 {P : Int32 → zTs → Prop}  (hfl : l.stackTraces = false) (C : zC Z p s m args meth c cX6_readOne 5 RX6) (hr : meth.sig.returnType = (some .boolean)) (hn9 : True)  (st : zTs) (b0 : Int32) (b1 : Int32) (h : w_X6_readOne_L0_188 P st b0 b1) : zG Z ad0 h0 p l e ({ frames := 38, cells := 0, slots := 0, locals := 864 } : Room) s m args below meth c (MQ below (zQ Z ad0 h0 (zWi Z P)) args s 0 0 (zA Z)) 0 0 (zh Z zm1 st) 5 188 [some (.ref 13), none, none, none, none] [.int (b0), .int (b1), .ref 13] := by
  unfold w_X6_readOne_L0_188 at h
  refine z_iadd C dX6_readOne_188 ?_
  refine z_sipush C dX6_readOne_189 (v := 10000) (by decide) ?_
  refine z_imul C dX6_readOne_192 ?_
  refine z_aload_n C dX6_readOne_193 (i := 0) rfl rfl ?_
  refine t_get C dX6_readOne_194 fl_X6_83 (k := 13) (i := 0) (by decide) rfl (fg_13_9 _ _ _) ?_
  refine z_iadd C dX6_readOne_197 ?_
  refine t_callV C (rest := []) (c2 := 0) (s2 := 0) (kd := 13) (i := 0) [.int (((b1 + b0) * 10000) + (zgF st 13 0 9))] dX6_readOne_198 lk_X6_196 li_X6_addStep le_X6_addStep (c_X6_addStep hfl h) rfl rfl (by decide) rfl ⟨_, rfl⟩ rfl ⟨Nat.le_of_ble_eq_true rfl, Nat.le_of_ble_eq_true rfl⟩ (Nat.le_of_ble_eq_true rfl) ⟨Nat.le_of_ble_eq_true rfl, Nat.le_of_ble_eq_true rfl, Nat.le_of_ble_eq_true rfl, Nat.le_of_ble_eq_true rfl⟩ (k_Wi fun r198 s198 h => ?_)
  refine z_if_eq C dX6_readOne_201 (tgt := 208) (by decide) (fun c201 => ?_) (fun c201 => ?_)
  · have h := h.1 c201
    refine z_iconst C dX6_readOne_208 (v := 0) (by decide) ?_
    exact z_iret C dX6_readOne_209 hr rfl ⟨_, _, rfl, rfl, h⟩ (Nat.le_of_ble_eq_true rfl) (Nat.le_of_ble_eq_true rfl)
  · have h := h.2 c201
    refine z_iconst C dX6_readOne_204 (v := 1) (by decide) ?_
    refine z_goto C dX6_readOne_205 (tgt := 209) (by decide) ?_
    exact z_iret C dX6_readOne_209 hr rfl ⟨_, _, rfl, rfl, h⟩ (Nat.le_of_ble_eq_true rfl) (Nat.le_of_ble_eq_true rfl)
def w_X6_readOne_L0_159 (P : Int32 → zTs → Prop)  (st : zTs) (a3 : Int32) (a4 : Int32) : Prop := w_X6_advance st (fun (s160 : zTs) => (w_X6_takeNumber s160 0 9999 (fun (r168 : Int32) (s168 : zTs) => ((r168 = 0 → P 0 s168) ∧ (¬ r168 = 0 → (a4 = 0 → w_X6_readOne_L0_188 P s168 (0) (2 * a3)) ∧ (¬ a4 = 0 → w_X6_readOne_L0_188 P s168 (1) (2 * a3)))))))
set_option maxHeartbeats 4000000 in
set_option maxRecDepth 100000 in
theorem j_X6_readOne_L0_159 {P : Int32 → zTs → Prop}  (hfl : l.stackTraces = false) (C : zC Z p s m args meth c cX6_readOne 5 RX6) (hr : meth.sig.returnType = (some .boolean)) (hn9 : True)  (st : zTs) (a3 : Int32) (a4 : Int32) (h : w_X6_readOne_L0_159 P st a3 a4) : zG Z ad0 h0 p l e ({ frames := 38, cells := 0, slots := 0, locals := 864 } : Room) s m args below meth c (MQ below (zQ Z ad0 h0 (zWi Z P)) args s 0 0 (zA Z)) 0 0 (zh Z zm1 st) 5 159 [some (.ref 13), none, none, some (.int (a3)), some (.int (a4))] [] := by
  unfold w_X6_readOne_L0_159 at h
  refine z_aload_n C dX6_readOne_159 (i := 0) rfl rfl ?_
  refine t_callV C (rest := []) (c2 := 0) (s2 := 0) (kd := 13) (i := 0) [] dX6_readOne_160 lk_X6_61 li_X6_advance le_X6_advance (c_X6_advance hfl h) rfl rfl (by decide) rfl ⟨_, rfl⟩ rfl ⟨Nat.le_of_ble_eq_true rfl, Nat.le_of_ble_eq_true rfl⟩ (Nat.le_of_ble_eq_true rfl) ⟨Nat.le_of_ble_eq_true rfl, Nat.le_of_ble_eq_true rfl, Nat.le_of_ble_eq_true rfl, Nat.le_of_ble_eq_true rfl⟩ (k_Wv fun s160 h => ?_)
  refine z_aload_n C dX6_readOne_163 (i := 0) rfl rfl ?_
  refine z_iconst C dX6_readOne_164 (v := 0) (by decide) ?_
  refine z_sipush C dX6_readOne_165 (v := 9999) (by decide) ?_
  refine t_callV C (rest := []) (c2 := 0) (s2 := 0) (kd := 13) (i := 0) [.int (0), .int (9999)] dX6_readOne_168 lk_X6_125 li_X6_takeNumber le_X6_takeNumber (c_X6_takeNumber hfl h) rfl rfl (by decide) rfl ⟨_, rfl⟩ rfl ⟨Nat.le_of_ble_eq_true rfl, Nat.le_of_ble_eq_true rfl⟩ (Nat.le_of_ble_eq_true rfl) ⟨Nat.le_of_ble_eq_true rfl, Nat.le_of_ble_eq_true rfl, Nat.le_of_ble_eq_true rfl, Nat.le_of_ble_eq_true rfl⟩ (k_Wi fun r168 s168 h => ?_)
  refine z_if_eq C dX6_readOne_171 (tgt := 208) (by decide) (fun c171 => ?_) (fun c171 => ?_)
  · have h := h.1 c171
    refine z_iconst C dX6_readOne_208 (v := 0) (by decide) ?_
    exact z_iret C dX6_readOne_209 hr rfl ⟨_, _, rfl, rfl, h⟩ (Nat.le_of_ble_eq_true rfl) (Nat.le_of_ble_eq_true rfl)
  · have h := h.2 c171
    refine z_aload_n C dX6_readOne_174 (i := 0) rfl rfl ?_
    refine z_iconst C dX6_readOne_175 (v := 2) (by decide) ?_
    refine z_iload_n C dX6_readOne_176 (i := 3) rfl rfl ?_
    refine z_imul C dX6_readOne_177 ?_
    refine z_iload C dX6_readOne_178 rfl ?_
    refine z_if_eq C dX6_readOne_180 (tgt := 187) (by decide) (fun c180 => ?_) (fun c180 => ?_)
    · have h := h.1 c180
      refine z_iconst C dX6_readOne_187 (v := 0) (by decide) ?_
      exact t_drop [true, false, false, false, false] rfl (j_X6_readOne_L0_188 hfl C hr hn9  s168 (0) (2 * a3) h)
    · have h := h.2 c180
      refine z_iconst C dX6_readOne_183 (v := 1) (by decide) ?_
      refine z_goto C dX6_readOne_184 (tgt := 188) (by decide) ?_
      exact t_drop [true, false, false, false, false] rfl (j_X6_readOne_L0_188 hfl C hr hn9  s168 (1) (2 * a3) h)
def w_X6_readOne_L0_137 (P : Int32 → zTs → Prop)  (st : zTs) (a3 : Int32) (b0 : Int32) : Prop := (b0 = 0 → ((zgF st 13 0 8) = 60 → w_X6_readOne_L0_159 P st a3 b0) ∧ (¬ (zgF st 13 0 8) = 60 → w_X6_fail st 1 (fun (r155 : Int32) (s155 : zTs) => ((r155 = 0 ∨ r155 = 1) ∧ (P r155 s155))))) ∧ (¬ b0 = 0 → w_X6_readOne_L0_159 P st a3 b0)
set_option maxHeartbeats 4000000 in
set_option maxRecDepth 100000 in
theorem j_X6_readOne_L0_137 {P : Int32 → zTs → Prop}  (hfl : l.stackTraces = false) (C : zC Z p s m args meth c cX6_readOne 5 RX6) (hr : meth.sig.returnType = (some .boolean)) (hn9 : True)  (st : zTs) (a3 : Int32) (b0 : Int32) (h : w_X6_readOne_L0_137 P st a3 b0) : zG Z ad0 h0 p l e ({ frames := 38, cells := 0, slots := 0, locals := 864 } : Room) s m args below meth c (MQ below (zQ Z ad0 h0 (zWi Z P)) args s 0 0 (zA Z)) 0 0 (zh Z zm1 st) 5 137 [some (.ref 13), none, none, some (.int (a3)), none] [.int (b0)] := by
  unfold w_X6_readOne_L0_137 at h
  refine z_istore C dX6_readOne_137 (lc' := [some (.ref 13), none, none, some (.int (a3)), some (.int (b0))]) (by decide) rfl ?_
  refine z_iload C dX6_readOne_139 rfl ?_
  refine z_if_ne C dX6_readOne_141 (tgt := 159) (by decide) (fun c141 => ?_) (fun c141 => ?_)
  · have h := h.2 c141
    exact t_drop [true, false, false, true, true] rfl (j_X6_readOne_L0_159 hfl C hr hn9  st a3 b0 h)
  · have h := h.1 c141
    refine z_aload_n C dX6_readOne_144 (i := 0) rfl rfl ?_
    refine t_get C dX6_readOne_145 fl_X6_28 (k := 13) (i := 0) (by decide) rfl (fg_13_8 _ _ _) ?_
    refine z_bipush C dX6_readOne_148 (v := 60) (by decide) ?_
    refine z_icmp_eq C dX6_readOne_150 (tgt := 159) (by decide) (fun c150 => ?_) (fun c150 => ?_)
    · have h := h.1 c150
      exact t_drop [true, false, false, true, true] rfl (j_X6_readOne_L0_159 hfl C hr hn9  st a3 b0 h)
    · have h := h.2 c150
      refine z_aload_n C dX6_readOne_153 (i := 0) rfl rfl ?_
      refine z_iconst C dX6_readOne_154 (v := 1) (by decide) ?_
      refine t_callV C (rest := []) (c2 := 0) (s2 := 0) (kd := 13) (i := 0) [.int (1)] dX6_readOne_155 lk_X6_79 li_X6_fail le_X6_fail (c_X6_fail hfl h) rfl rfl (by decide) rfl ⟨_, rfl⟩ rfl ⟨Nat.le_of_ble_eq_true rfl, Nat.le_of_ble_eq_true rfl⟩ (Nat.le_of_ble_eq_true rfl) ⟨Nat.le_of_ble_eq_true rfl, Nat.le_of_ble_eq_true rfl, Nat.le_of_ble_eq_true rfl, Nat.le_of_ble_eq_true rfl⟩ (k_Wi fun r155 s155 h => ?_)
      obtain ⟨g158, h⟩ := h
      exact z_iret C dX6_readOne_158 hr (zn_bool g158) ⟨_, _, rfl, rfl, h⟩ (Nat.le_of_ble_eq_true rfl) (Nat.le_of_ble_eq_true rfl)
def w_X6_readOne_L0_29 (P : Int32 → zTs → Prop)  (st : zTs) (a1 : Int32) (a2 : Int32) : Prop := (a1 < 8 → w_X6_advance st (fun (s42 : zTs) => ((a2 = 0 → w_X6_readAnyOf_L1 s42 (a1 + 1) (fun (r79 : Int32) (s79 : zTs) => ((r79 = 0 → P 0 s79) ∧ (¬ r79 = 0 → w_X6_takeSign s79 41 (fun (r88 : Int32) (s88 : zTs) => ((r88 = 0 → P 0 s88) ∧ (¬ r88 = 0 → P 1 s88))))))) ∧ (¬ a2 = 0 → w_X6_readOne_L1 s42 (a1 + 1) (fun (r53 : Int32) (s53 : zTs) => ((r53 = 0 → P 0 s53) ∧ (¬ r53 = 0 → w_X6_addStep s53 (-1) (fun (r61 : Int32) (s61 : zTs) => ((r61 = 0 → P 0 s61) ∧ (¬ r61 = 0 → P 1 s61)))))))))) ∧ (¬ a1 < 8 → w_X6_fail st 3 (fun (r37 : Int32) (s37 : zTs) => ((r37 = 0 ∨ r37 = 1) ∧ (P r37 s37))))
set_option maxHeartbeats 4000000 in
set_option maxRecDepth 100000 in
theorem j_X6_readOne_L0_29 {P : Int32 → zTs → Prop}  (hfl : l.stackTraces = false) (C : zC Z p s m args meth c cX6_readOne 5 RX6) (hr : meth.sig.returnType = (some .boolean)) (hn9 : True)  (st : zTs) (a1 : Int32) (a2 : Int32) (h : w_X6_readOne_L0_29 P st a1 a2) : zG Z ad0 h0 p l e ({ frames := 38, cells := 0, slots := 0, locals := 864 } : Room) s m args below meth c (MQ below (zQ Z ad0 h0 (zWi Z P)) args s 0 0 (zA Z)) 0 0 (zh Z zm1 st) 5 29 [some (.ref 13), some (.int (a1)), some (.int (a2)), none, none] [] := by
  unfold w_X6_readOne_L0_29 at h
  refine z_iload_n C dX6_readOne_29 (i := 1) rfl rfl ?_
  refine z_bipush C dX6_readOne_30 (v := 8) (by decide) ?_
  refine z_icmp_lt C dX6_readOne_32 (tgt := 41) (by decide) (fun c32 => ?_) (fun c32 => ?_)
  · have h := h.1 c32
    refine z_aload_n C dX6_readOne_41 (i := 0) rfl rfl ?_
    refine t_callV C (rest := []) (c2 := 0) (s2 := 0) (kd := 13) (i := 0) [] dX6_readOne_42 lk_X6_61 li_X6_advance le_X6_advance (c_X6_advance hfl h) rfl rfl (by decide) rfl ⟨_, rfl⟩ rfl ⟨Nat.le_of_ble_eq_true rfl, Nat.le_of_ble_eq_true rfl⟩ (Nat.le_of_ble_eq_true rfl) ⟨Nat.le_of_ble_eq_true rfl, Nat.le_of_ble_eq_true rfl, Nat.le_of_ble_eq_true rfl, Nat.le_of_ble_eq_true rfl⟩ (k_Wv fun s42 h => ?_)
    refine z_iload_n C dX6_readOne_45 (i := 2) rfl rfl ?_
    refine z_if_eq C dX6_readOne_46 (tgt := 75) (by decide) (fun c46 => ?_) (fun c46 => ?_)
    · have h := h.1 c46
      refine z_aload_n C dX6_readOne_75 (i := 0) rfl rfl ?_
      refine z_iload_n C dX6_readOne_76 (i := 1) rfl rfl ?_
      refine z_iconst C dX6_readOne_77 (v := 1) (by decide) ?_
      refine z_iadd C dX6_readOne_78 ?_
      refine t_callV C (rest := []) (c2 := 0) (s2 := 0) (kd := 13) (i := 0) [.int (a1 + 1)] dX6_readOne_79 lk_X6_177 li_X6_readAnyOf le_X6_readAnyOf (c_X6_readAnyOf_L1 hfl h) rfl rfl (by decide) rfl ⟨_, rfl⟩ rfl ⟨Nat.le_of_ble_eq_true rfl, Nat.le_of_ble_eq_true rfl⟩ (Nat.le_of_ble_eq_true rfl) ⟨Nat.le_of_ble_eq_true rfl, Nat.le_of_ble_eq_true rfl, Nat.le_of_ble_eq_true rfl, Nat.le_of_ble_eq_true rfl⟩ (k_Wi fun r79 s79 h => ?_)
      refine z_if_eq C dX6_readOne_82 (tgt := 98) (by decide) (fun c82 => ?_) (fun c82 => ?_)
      · have h := h.1 c82
        refine z_iconst C dX6_readOne_98 (v := 0) (by decide) ?_
        exact z_iret C dX6_readOne_99 hr rfl ⟨_, _, rfl, rfl, h⟩ (Nat.le_of_ble_eq_true rfl) (Nat.le_of_ble_eq_true rfl)
      · have h := h.2 c82
        refine z_aload_n C dX6_readOne_85 (i := 0) rfl rfl ?_
        refine z_bipush C dX6_readOne_86 (v := 41) (by decide) ?_
        refine t_callV C (rest := []) (c2 := 0) (s2 := 0) (kd := 13) (i := 0) [.int (41)] dX6_readOne_88 lk_X6_118 li_X6_takeSign le_X6_takeSign (c_X6_takeSign hfl h) rfl rfl (by decide) rfl ⟨_, rfl⟩ rfl ⟨Nat.le_of_ble_eq_true rfl, Nat.le_of_ble_eq_true rfl⟩ (Nat.le_of_ble_eq_true rfl) ⟨Nat.le_of_ble_eq_true rfl, Nat.le_of_ble_eq_true rfl, Nat.le_of_ble_eq_true rfl, Nat.le_of_ble_eq_true rfl⟩ (k_Wi fun r88 s88 h => ?_)
        refine z_if_eq C dX6_readOne_91 (tgt := 98) (by decide) (fun c91 => ?_) (fun c91 => ?_)
        · have h := h.1 c91
          refine z_iconst C dX6_readOne_98 (v := 0) (by decide) ?_
          exact z_iret C dX6_readOne_99 hr rfl ⟨_, _, rfl, rfl, h⟩ (Nat.le_of_ble_eq_true rfl) (Nat.le_of_ble_eq_true rfl)
        · have h := h.2 c91
          refine z_iconst C dX6_readOne_94 (v := 1) (by decide) ?_
          refine z_goto C dX6_readOne_95 (tgt := 99) (by decide) ?_
          exact z_iret C dX6_readOne_99 hr rfl ⟨_, _, rfl, rfl, h⟩ (Nat.le_of_ble_eq_true rfl) (Nat.le_of_ble_eq_true rfl)
    · have h := h.2 c46
      refine z_aload_n C dX6_readOne_49 (i := 0) rfl rfl ?_
      refine z_iload_n C dX6_readOne_50 (i := 1) rfl rfl ?_
      refine z_iconst C dX6_readOne_51 (v := 1) (by decide) ?_
      refine z_iadd C dX6_readOne_52 ?_
      refine t_callV C (rest := []) (c2 := 0) (s2 := 0) (kd := 13) (i := 0) [.int (a1 + 1)] dX6_readOne_53 lk_X6_199 li_X6_readOne le_X6_readOne (c_X6_readOne_L1 hfl h) rfl rfl (by decide) rfl ⟨_, rfl⟩ rfl ⟨Nat.le_of_ble_eq_true rfl, Nat.le_of_ble_eq_true rfl⟩ (Nat.le_of_ble_eq_true rfl) ⟨Nat.le_of_ble_eq_true rfl, Nat.le_of_ble_eq_true rfl, Nat.le_of_ble_eq_true rfl, Nat.le_of_ble_eq_true rfl⟩ (k_Wi fun r53 s53 h => ?_)
      refine z_if_eq C dX6_readOne_56 (tgt := 71) (by decide) (fun c56 => ?_) (fun c56 => ?_)
      · have h := h.1 c56
        refine z_iconst C dX6_readOne_71 (v := 0) (by decide) ?_
        refine z_goto C dX6_readOne_72 (tgt := 99) (by decide) ?_
        exact z_iret C dX6_readOne_99 hr rfl ⟨_, _, rfl, rfl, h⟩ (Nat.le_of_ble_eq_true rfl) (Nat.le_of_ble_eq_true rfl)
      · have h := h.2 c56
        refine z_aload_n C dX6_readOne_59 (i := 0) rfl rfl ?_
        refine z_iconst C dX6_readOne_60 (v := (-1)) (by decide) ?_
        refine t_callV C (rest := []) (c2 := 0) (s2 := 0) (kd := 13) (i := 0) [.int (-1)] dX6_readOne_61 lk_X6_196 li_X6_addStep le_X6_addStep (c_X6_addStep hfl h) rfl rfl (by decide) rfl ⟨_, rfl⟩ rfl ⟨Nat.le_of_ble_eq_true rfl, Nat.le_of_ble_eq_true rfl⟩ (Nat.le_of_ble_eq_true rfl) ⟨Nat.le_of_ble_eq_true rfl, Nat.le_of_ble_eq_true rfl, Nat.le_of_ble_eq_true rfl, Nat.le_of_ble_eq_true rfl⟩ (k_Wi fun r61 s61 h => ?_)
        refine z_if_eq C dX6_readOne_64 (tgt := 71) (by decide) (fun c64 => ?_) (fun c64 => ?_)
        · have h := h.1 c64
          refine z_iconst C dX6_readOne_71 (v := 0) (by decide) ?_
          refine z_goto C dX6_readOne_72 (tgt := 99) (by decide) ?_
          exact z_iret C dX6_readOne_99 hr rfl ⟨_, _, rfl, rfl, h⟩ (Nat.le_of_ble_eq_true rfl) (Nat.le_of_ble_eq_true rfl)
        · have h := h.2 c64
          refine z_iconst C dX6_readOne_67 (v := 1) (by decide) ?_
          refine z_goto C dX6_readOne_68 (tgt := 99) (by decide) ?_
          exact z_iret C dX6_readOne_99 hr rfl ⟨_, _, rfl, rfl, h⟩ (Nat.le_of_ble_eq_true rfl) (Nat.le_of_ble_eq_true rfl)
  · have h := h.2 c32
    refine z_aload_n C dX6_readOne_35 (i := 0) rfl rfl ?_
    refine z_iconst C dX6_readOne_36 (v := 3) (by decide) ?_
    refine t_callV C (rest := []) (c2 := 0) (s2 := 0) (kd := 13) (i := 0) [.int (3)] dX6_readOne_37 lk_X6_79 li_X6_fail le_X6_fail (c_X6_fail hfl h) rfl rfl (by decide) rfl ⟨_, rfl⟩ rfl ⟨Nat.le_of_ble_eq_true rfl, Nat.le_of_ble_eq_true rfl⟩ (Nat.le_of_ble_eq_true rfl) ⟨Nat.le_of_ble_eq_true rfl, Nat.le_of_ble_eq_true rfl, Nat.le_of_ble_eq_true rfl, Nat.le_of_ble_eq_true rfl⟩ (k_Wi fun r37 s37 h => ?_)
    obtain ⟨g40, h⟩ := h
    exact z_iret C dX6_readOne_40 hr (zn_bool g40) ⟨_, _, rfl, rfl, h⟩ (Nat.le_of_ble_eq_true rfl) (Nat.le_of_ble_eq_true rfl)
def w_X6_readOne_L0_15 (P : Int32 → zTs → Prop)  (st : zTs) (a1 : Int32) (b0 : Int32) : Prop := (b0 = 0 → ((zgF st 13 0 8) = 40 → w_X6_readOne_L0_29 P st a1 b0) ∧ (¬ (zgF st 13 0 8) = 40 → w_X6_measureOf st (zgP st 13 0 6) (fun (r104 : Int32) => ((r104 = (-1) → w_X6_fail st 1 (fun (r115 : Int32) (s115 : zTs) => ((r115 = 0 ∨ r115 = 1) ∧ (P r115 s115)))) ∧ (¬ r104 = (-1) → w_X6_advance st (fun (s120 : zTs) => (((zgF s120 13 0 8) = 62 → w_X6_readOne_L0_137 P s120 r104 (1)) ∧ (¬ (zgF s120 13 0 8) = 62 → w_X6_readOne_L0_137 P s120 r104 (0))))))))) ∧ (¬ b0 = 0 → w_X6_readOne_L0_29 P st a1 b0)
set_option maxHeartbeats 4000000 in
set_option maxRecDepth 100000 in
theorem j_X6_readOne_L0_15 {P : Int32 → zTs → Prop}  (hfl : l.stackTraces = false) (C : zC Z p s m args meth c cX6_readOne 5 RX6) (hr : meth.sig.returnType = (some .boolean)) (hn9 : True)  (st : zTs) (a1 : Int32) (b0 : Int32) (h : w_X6_readOne_L0_15 P st a1 b0) : zG Z ad0 h0 p l e ({ frames := 38, cells := 0, slots := 0, locals := 864 } : Room) s m args below meth c (MQ below (zQ Z ad0 h0 (zWi Z P)) args s 0 0 (zA Z)) 0 0 (zh Z zm1 st) 5 15 [some (.ref 13), some (.int (a1)), none, none, none] [.int (b0)] := by
  unfold w_X6_readOne_L0_15 at h
  refine z_istore_n C dX6_readOne_15 (i := 2) (lc' := [some (.ref 13), some (.int (a1)), some (.int (b0)), none, none]) rfl (by decide) rfl ?_
  refine z_iload_n C dX6_readOne_16 (i := 2) rfl rfl ?_
  refine z_if_ne C dX6_readOne_17 (tgt := 29) (by decide) (fun c17 => ?_) (fun c17 => ?_)
  · have h := h.2 c17
    exact t_drop [true, true, true, false, false] rfl (j_X6_readOne_L0_29 hfl C hr hn9  st a1 b0 h)
  · have h := h.1 c17
    refine z_aload_n C dX6_readOne_20 (i := 0) rfl rfl ?_
    refine t_get C dX6_readOne_21 fl_X6_28 (k := 13) (i := 0) (by decide) rfl (fg_13_8 _ _ _) ?_
    refine z_bipush C dX6_readOne_24 (v := 40) (by decide) ?_
    refine z_icmp_ne C dX6_readOne_26 (tgt := 100) (by decide) (fun c26 => ?_) (fun c26 => ?_)
    · have h := h.2 c26
      refine z_aload_n C dX6_readOne_100 (i := 0) rfl rfl ?_
      refine t_get C dX6_readOne_101 fl_X6_21 (k := 13) (i := 0) (by decide) rfl (fg_13_6 _ _ _) ?_
      refine t_callS C (rest := []) (c2 := 0) (s2 := 0) [.ref (201 + 256 * (zgP st 13 0 6))] dX6_readOne_104 lk_X6_208 ls_X6_measureOf (c_X6_measureOf hfl h) rfl rfl ⟨Nat.le_of_ble_eq_true rfl, Nat.le_of_ble_eq_true rfl⟩ (Nat.le_of_ble_eq_true rfl) ⟨Nat.le_of_ble_eq_true rfl, Nat.le_of_ble_eq_true rfl, Nat.le_of_ble_eq_true rfl, Nat.le_of_ble_eq_true rfl⟩ (k_Ri fun r104 h => ?_)
      refine z_istore_n C dX6_readOne_107 (i := 3) (lc' := [some (.ref 13), some (.int (a1)), some (.int (b0)), some (.int (r104)), none]) rfl (by decide) rfl ?_
      refine z_iload_n C dX6_readOne_108 (i := 3) rfl rfl ?_
      refine z_iconst C dX6_readOne_109 (v := (-1)) (by decide) ?_
      refine z_icmp_ne C dX6_readOne_110 (tgt := 119) (by decide) (fun c110 => ?_) (fun c110 => ?_)
      · have h := h.2 c110
        refine z_aload_n C dX6_readOne_119 (i := 0) rfl rfl ?_
        refine t_callV C (rest := []) (c2 := 0) (s2 := 0) (kd := 13) (i := 0) [] dX6_readOne_120 lk_X6_61 li_X6_advance le_X6_advance (c_X6_advance hfl h) rfl rfl (by decide) rfl ⟨_, rfl⟩ rfl ⟨Nat.le_of_ble_eq_true rfl, Nat.le_of_ble_eq_true rfl⟩ (Nat.le_of_ble_eq_true rfl) ⟨Nat.le_of_ble_eq_true rfl, Nat.le_of_ble_eq_true rfl, Nat.le_of_ble_eq_true rfl, Nat.le_of_ble_eq_true rfl⟩ (k_Wv fun s120 h => ?_)
        refine z_aload_n C dX6_readOne_123 (i := 0) rfl rfl ?_
        refine t_get C dX6_readOne_124 fl_X6_28 (k := 13) (i := 0) (by decide) rfl (fg_13_8 _ _ _) ?_
        refine z_bipush C dX6_readOne_127 (v := 62) (by decide) ?_
        refine z_icmp_ne C dX6_readOne_129 (tgt := 136) (by decide) (fun c129 => ?_) (fun c129 => ?_)
        · have h := h.2 c129
          refine z_iconst C dX6_readOne_136 (v := 0) (by decide) ?_
          exact t_drop [true, false, false, true, false] rfl (j_X6_readOne_L0_137 hfl C hr hn9  s120 r104 (0) h)
        · have h := h.1 c129
          refine z_iconst C dX6_readOne_132 (v := 1) (by decide) ?_
          refine z_goto C dX6_readOne_133 (tgt := 137) (by decide) ?_
          exact t_drop [true, false, false, true, false] rfl (j_X6_readOne_L0_137 hfl C hr hn9  s120 r104 (1) h)
      · have h := h.1 c110
        refine z_aload_n C dX6_readOne_113 (i := 0) rfl rfl ?_
        refine z_iconst C dX6_readOne_114 (v := 1) (by decide) ?_
        refine t_callV C (rest := []) (c2 := 0) (s2 := 0) (kd := 13) (i := 0) [.int (1)] dX6_readOne_115 lk_X6_79 li_X6_fail le_X6_fail (c_X6_fail hfl h) rfl rfl (by decide) rfl ⟨_, rfl⟩ rfl ⟨Nat.le_of_ble_eq_true rfl, Nat.le_of_ble_eq_true rfl⟩ (Nat.le_of_ble_eq_true rfl) ⟨Nat.le_of_ble_eq_true rfl, Nat.le_of_ble_eq_true rfl, Nat.le_of_ble_eq_true rfl, Nat.le_of_ble_eq_true rfl⟩ (k_Wi fun r115 s115 h => ?_)
        obtain ⟨g118, h⟩ := h
        exact z_iret C dX6_readOne_118 hr (zn_bool g118) ⟨_, _, rfl, rfl, h⟩ (Nat.le_of_ble_eq_true rfl) (Nat.le_of_ble_eq_true rfl)
    · have h := h.1 c26
      exact t_drop [true, true, true, false, false] rfl (j_X6_readOne_L0_29 hfl C hr hn9  st a1 b0 h)
def w_X6_readOne_L0 (st : zTs) (a1 : Int32) (P : Int32 → zTs → Prop) : Prop := (zgP st 13 0 6 < 24) ∧ ((((zgP st 13 0 6) : Nat) = 20 → w_X6_readOne_L0_15 P st a1 (1)) ∧ (¬ ((zgP st 13 0 6) : Nat) = 20 → w_X6_readOne_L0_15 P st a1 (0)))
set_option maxHeartbeats 4000000 in
set_option maxRecDepth 100000 in
theorem c_X6_readOne_L0 {Z : zZ} {l : Launch} (hfl : l.stackTraces = false) {st : zTs} {a1 : Int32} {P : Int32 → zTs → Prop} (h : w_X6_readOne_L0 st a1 P) : zN Z l yX6_readOne cX6_readOne 5 (some .boolean) ({ frames := 38, cells := 0, slots := 0, locals := 864 } : Room) (zh Z zm1 st) [.ref 13, .int (a1)] (zWi Z P) := by
  unfold w_X6_readOne_L0 at h
  refine z_enterN (by decide) (Nat.le_of_ble_eq_true rfl) (lc0 := [some (.ref 13), some (.int (a1)), none, none, none]) rfl ?_
  intro p e s m args below meth c ad0 C hr _
  have hn9 : True := trivial
  replace C : zC Z p s m args meth c cX6_readOne 5 RX6 := C
  refine z_aload_n C dX6_readOne_0 (i := 0) rfl rfl ?_
  refine t_get C dX6_readOne_1 fl_X6_21 (k := 13) (i := 0) (by decide) rfl (fg_13_6 _ _ _) ?_
  refine z_gets C dX6_readOne_4 (q := 201 + 256 * 20) (by decide) gl_X6_205 (fun z => (z.2.2.2.1.1.1 20 (by decide)).1) ?_
  obtain ⟨g7a, h⟩ := h
  refine z_acmpW_ne C dX6_readOne_7 (i := (zgP st 13 0 6)) (j := 20) (tgt := 14) (by decide) g7a (by decide) (fun c7 => ?_) (fun c7 => ?_)
  · have h := h.2 c7
    refine z_iconst C dX6_readOne_14 (v := 0) (by decide) ?_
    exact t_drop [true, true, false, false, false] rfl (j_X6_readOne_L0_15 hfl C hr hn9  st a1 (0) h)
  · have h := h.1 c7
    refine z_iconst C dX6_readOne_10 (v := 1) (by decide) ?_
    refine z_goto C dX6_readOne_11 (tgt := 15) (by decide) ?_
    exact t_drop [true, true, false, false, false] rfl (j_X6_readOne_L0_15 hfl C hr hn9  st a1 (1) h)
def w_X6_readAllOf_L0_56 (P : Int32 → zTs → Prop) (K8 : zTs → Int32 → Int32 → Int32 → Prop) (st : zTs) (a1 : Int32) (a3 : Int32) (b0 : Int32) : Prop := ∀ x57 : Int32, x57 = a3 + 1 → (K8 st a1 b0 x57)
set_option maxHeartbeats 4000000 in
set_option maxRecDepth 100000 in
theorem j_X6_readAllOf_L0_56 {P : Int32 → zTs → Prop} {K8 : zTs → Int32 → Int32 → Int32 → Prop} (hfl : l.stackTraces = false) (C : zC Z p s m args meth c cX6_readAllOf 4 RX6) (hr : meth.sig.returnType = (some .boolean)) (hn9 : True) (hK8 : ∀ (st : zTs) (a1 : Int32) (a2 : Int32) (a3 : Int32), K8 st a1 a2 a3 → zG Z ad0 h0 p l e ({ frames := 39, cells := 0, slots := 0, locals := 888 } : Room) s m args below meth c (MQ below (zQ Z ad0 h0 (zWi Z P)) args s 0 0 (zA Z)) 0 0 (zh Z zm1 st) 4 8 [some (.ref 13), some (.int (a1)), some (.int (a2)), some (.int (a3))] []) (st : zTs) (a1 : Int32) (a3 : Int32) (b0 : Int32) (h : w_X6_readAllOf_L0_56 P K8 st a1 a3 b0) : zG Z ad0 h0 p l e ({ frames := 39, cells := 0, slots := 0, locals := 888 } : Room) s m args below meth c (MQ below (zQ Z ad0 h0 (zWi Z P)) args s 0 0 (zA Z)) 0 0 (zh Z zm1 st) 4 56 [some (.ref 13), some (.int (a1)), none, some (.int (a3))] [.int (b0)] := by
  unfold w_X6_readAllOf_L0_56 at h
  refine z_istore_n C dX6_readAllOf_56 (i := 2) (lc' := [some (.ref 13), some (.int (a1)), some (.int (b0)), some (.int (a3))]) rfl (by decide) rfl ?_
  obtain ⟨x57, ex57⟩ : ∃ z : Int32, z = a3 + 1 := ⟨_, rfl⟩
  have h := h x57 ex57
  refine z_iinc C dX6_readAllOf_57 (v := x57) (lc' := [some (.ref 13), some (.int (a1)), some (.int (b0)), some (.int (x57))]) rfl (by decide) (by rw [ex57]; rfl) rfl ?_
  refine z_goto C dX6_readAllOf_60 (tgt := 8) (by decide) ?_
  exact t_drop [true, true, true, true] rfl (hK8 st a1 b0 x57 h)
def w_X6_readAllOf_L0_55 (P : Int32 → zTs → Prop) (K8 : zTs → Int32 → Int32 → Int32 → Prop) (st : zTs) (a1 : Int32) (a3 : Int32) : Prop := w_X6_readAllOf_L0_56 P K8 st a1 a3 (0)
set_option maxHeartbeats 4000000 in
set_option maxRecDepth 100000 in
theorem j_X6_readAllOf_L0_55 {P : Int32 → zTs → Prop} {K8 : zTs → Int32 → Int32 → Int32 → Prop} (hfl : l.stackTraces = false) (C : zC Z p s m args meth c cX6_readAllOf 4 RX6) (hr : meth.sig.returnType = (some .boolean)) (hn9 : True) (hK8 : ∀ (st : zTs) (a1 : Int32) (a2 : Int32) (a3 : Int32), K8 st a1 a2 a3 → zG Z ad0 h0 p l e ({ frames := 39, cells := 0, slots := 0, locals := 888 } : Room) s m args below meth c (MQ below (zQ Z ad0 h0 (zWi Z P)) args s 0 0 (zA Z)) 0 0 (zh Z zm1 st) 4 8 [some (.ref 13), some (.int (a1)), some (.int (a2)), some (.int (a3))] []) (st : zTs) (a1 : Int32) (a3 : Int32) (h : w_X6_readAllOf_L0_55 P K8 st a1 a3) : zG Z ad0 h0 p l e ({ frames := 39, cells := 0, slots := 0, locals := 888 } : Room) s m args below meth c (MQ below (zQ Z ad0 h0 (zWi Z P)) args s 0 0 (zA Z)) 0 0 (zh Z zm1 st) 4 55 [some (.ref 13), some (.int (a1)), none, some (.int (a3))] [] := by
  unfold w_X6_readAllOf_L0_55 at h
  refine z_iconst C dX6_readAllOf_55 (v := 0) (by decide) ?_
  exact t_drop [true, true, false, true] rfl (j_X6_readAllOf_L0_56 hfl C hr hn9 hK8 st a1 a3 (0) h)
def w_X6_readAllOf_L0_8 (P : Int32 → zTs → Prop)  : Nat → zTs → Int32 → Int32 → Int32 → Prop
  | 0, _, _, _, _ => False
  | n9 + 1, st, a1, a2, a3 => ((zgF st 13 0 3) ≤ a3 → (a2 = 0 ∨ a2 = 1) ∧ (P a2 st)) ∧ (¬ (zgF st 13 0 3) ≤ a3 → (a2 = 0 → (a2 = 0 ∨ a2 = 1) ∧ (P a2 st)) ∧ (¬ a2 = 0 → (zgP st 13 0 6 < 24) ∧ ((((zgP st 13 0 6) : Nat) = 19 → w_X6_advance st (fun (s31 : zTs) => (w_X6_readOne_L0 s31 a1 (fun (r36 : Int32) (s36 : zTs) => ((r36 = 0 → w_X6_readAllOf_L0_55 P (w_X6_readAllOf_L0_8 P n9) s36 a1 a3) ∧ (¬ r36 = 0 → w_X6_addStep s36 (-2) (fun (r45 : Int32) (s45 : zTs) => ((r45 = 0 → w_X6_readAllOf_L0_55 P (w_X6_readAllOf_L0_8 P n9) s45 a1 a3) ∧ (¬ r45 = 0 → w_X6_readAllOf_L0_56 P (w_X6_readAllOf_L0_8 P n9) s45 a1 a3 (1)))))))))) ∧ (¬ ((zgP st 13 0 6) : Nat) = 19 → (a2 = 0 ∨ a2 = 1) ∧ (P a2 st)))))
set_option maxHeartbeats 4000000 in
set_option maxRecDepth 100000 in
theorem j_X6_readAllOf_L0_8 {P : Int32 → zTs → Prop}  (hfl : l.stackTraces = false) (C : zC Z p s m args meth c cX6_readAllOf 4 RX6) (hr : meth.sig.returnType = (some .boolean)) (hn9 : True)  : ∀ (n9 : Nat) (st : zTs) (a1 : Int32) (a2 : Int32) (a3 : Int32), w_X6_readAllOf_L0_8 P n9 st a1 a2 a3 → zG Z ad0 h0 p l e ({ frames := 39, cells := 0, slots := 0, locals := 888 } : Room) s m args below meth c (MQ below (zQ Z ad0 h0 (zWi Z P)) args s 0 0 (zA Z)) 0 0 (zh Z zm1 st) 4 8 [some (.ref 13), some (.int (a1)), some (.int (a2)), some (.int (a3))] [] := by
  intro n9
  induction n9 with
  | zero => intro st a1 a2 a3 h; exact h.elim
  | succ n9 hK8 =>
    intro st a1 a2 a3 h
    rw [w_X6_readAllOf_L0_8] at h
    refine z_iload_n C dX6_readAllOf_8 (i := 3) rfl rfl ?_
    refine z_aload_n C dX6_readAllOf_9 (i := 0) rfl rfl ?_
    refine t_get C dX6_readAllOf_10 fl_X6_55 (k := 13) (i := 0) (by decide) rfl (fg_13_3 _ _ _) ?_
    refine z_icmp_ge C dX6_readAllOf_13 (tgt := 63) (by decide) (fun c13 => ?_) (fun c13 => ?_)
    · have h := h.1 c13
      refine z_iload_n C dX6_readAllOf_63 (i := 2) rfl rfl ?_
      obtain ⟨g64, h⟩ := h
      exact z_iret C dX6_readAllOf_64 hr (zn_bool g64) ⟨_, _, rfl, rfl, h⟩ (Nat.le_of_ble_eq_true rfl) (Nat.le_of_ble_eq_true rfl)
    · have h := h.2 c13
      refine z_iload_n C dX6_readAllOf_16 (i := 2) rfl rfl ?_
      refine z_if_eq C dX6_readAllOf_17 (tgt := 63) (by decide) (fun c17 => ?_) (fun c17 => ?_)
      · have h := h.1 c17
        refine z_iload_n C dX6_readAllOf_63 (i := 2) rfl rfl ?_
        obtain ⟨g64, h⟩ := h
        exact z_iret C dX6_readAllOf_64 hr (zn_bool g64) ⟨_, _, rfl, rfl, h⟩ (Nat.le_of_ble_eq_true rfl) (Nat.le_of_ble_eq_true rfl)
      · have h := h.2 c17
        refine z_aload_n C dX6_readAllOf_20 (i := 0) rfl rfl ?_
        refine t_get C dX6_readAllOf_21 fl_X6_21 (k := 13) (i := 0) (by decide) rfl (fg_13_6 _ _ _) ?_
        refine z_gets C dX6_readAllOf_24 (q := 201 + 256 * 19) (by decide) gl_X6_202 (fun z => (z.2.2.2.1.1.1 19 (by decide)).1) ?_
        obtain ⟨g27a, h⟩ := h
        refine z_acmpW_ne C dX6_readAllOf_27 (i := (zgP st 13 0 6)) (j := 19) (tgt := 63) (by decide) g27a (by decide) (fun c27 => ?_) (fun c27 => ?_)
        · have h := h.2 c27
          refine z_iload_n C dX6_readAllOf_63 (i := 2) rfl rfl ?_
          obtain ⟨g64, h⟩ := h
          exact z_iret C dX6_readAllOf_64 hr (zn_bool g64) ⟨_, _, rfl, rfl, h⟩ (Nat.le_of_ble_eq_true rfl) (Nat.le_of_ble_eq_true rfl)
        · have h := h.1 c27
          refine z_aload_n C dX6_readAllOf_30 (i := 0) rfl rfl ?_
          refine t_callV C (rest := []) (c2 := 0) (s2 := 0) (kd := 13) (i := 0) [] dX6_readAllOf_31 lk_X6_61 li_X6_advance le_X6_advance (c_X6_advance hfl h) rfl rfl (by decide) rfl ⟨_, rfl⟩ rfl ⟨Nat.le_of_ble_eq_true rfl, Nat.le_of_ble_eq_true rfl⟩ (Nat.le_of_ble_eq_true rfl) ⟨Nat.le_of_ble_eq_true rfl, Nat.le_of_ble_eq_true rfl, Nat.le_of_ble_eq_true rfl, Nat.le_of_ble_eq_true rfl⟩ (k_Wv fun s31 h => ?_)
          refine z_aload_n C dX6_readAllOf_34 (i := 0) rfl rfl ?_
          refine z_iload_n C dX6_readAllOf_35 (i := 1) rfl rfl ?_
          refine t_callV C (rest := []) (c2 := 0) (s2 := 0) (kd := 13) (i := 0) [.int (a1)] dX6_readAllOf_36 lk_X6_199 li_X6_readOne le_X6_readOne (c_X6_readOne_L0 hfl h) rfl rfl (by decide) rfl ⟨_, rfl⟩ rfl ⟨Nat.le_of_ble_eq_true rfl, Nat.le_of_ble_eq_true rfl⟩ (Nat.le_of_ble_eq_true rfl) ⟨Nat.le_of_ble_eq_true rfl, Nat.le_of_ble_eq_true rfl, Nat.le_of_ble_eq_true rfl, Nat.le_of_ble_eq_true rfl⟩ (k_Wi fun r36 s36 h => ?_)
          refine z_if_eq C dX6_readAllOf_39 (tgt := 55) (by decide) (fun c39 => ?_) (fun c39 => ?_)
          · have h := h.1 c39
            exact t_drop [true, true, false, true] rfl (j_X6_readAllOf_L0_55 hfl C hr hn9 hK8 s36 a1 a3 h)
          · have h := h.2 c39
            refine z_aload_n C dX6_readAllOf_42 (i := 0) rfl rfl ?_
            refine z_bipush C dX6_readAllOf_43 (v := (-2)) (by decide) ?_
            refine t_callV C (rest := []) (c2 := 0) (s2 := 0) (kd := 13) (i := 0) [.int (-2)] dX6_readAllOf_45 lk_X6_196 li_X6_addStep le_X6_addStep (c_X6_addStep hfl h) rfl rfl (by decide) rfl ⟨_, rfl⟩ rfl ⟨Nat.le_of_ble_eq_true rfl, Nat.le_of_ble_eq_true rfl⟩ (Nat.le_of_ble_eq_true rfl) ⟨Nat.le_of_ble_eq_true rfl, Nat.le_of_ble_eq_true rfl, Nat.le_of_ble_eq_true rfl, Nat.le_of_ble_eq_true rfl⟩ (k_Wi fun r45 s45 h => ?_)
            refine z_if_eq C dX6_readAllOf_48 (tgt := 55) (by decide) (fun c48 => ?_) (fun c48 => ?_)
            · have h := h.1 c48
              exact t_drop [true, true, false, true] rfl (j_X6_readAllOf_L0_55 hfl C hr hn9 hK8 s45 a1 a3 h)
            · have h := h.2 c48
              refine z_iconst C dX6_readAllOf_51 (v := 1) (by decide) ?_
              refine z_goto C dX6_readAllOf_52 (tgt := 56) (by decide) ?_
              exact t_drop [true, true, false, true] rfl (j_X6_readAllOf_L0_56 hfl C hr hn9 hK8 s45 a1 a3 (1) h)
def w_X6_readAllOf_L0 (st : zTs) (a1 : Int32) (P : Int32 → zTs → Prop) : Prop := w_X6_readOne_L0 st a1 (fun (r2 : Int32) (s2 : zTs) => (w_X6_readAllOf_L0_8 P zfu s2 a1 r2 (0)))
set_option maxHeartbeats 4000000 in
set_option maxRecDepth 100000 in
theorem c_X6_readAllOf_L0 {Z : zZ} {l : Launch} (hfl : l.stackTraces = false) {st : zTs} {a1 : Int32} {P : Int32 → zTs → Prop} (h : w_X6_readAllOf_L0 st a1 P) : zN Z l yX6_readAllOf cX6_readAllOf 4 (some .boolean) ({ frames := 39, cells := 0, slots := 0, locals := 888 } : Room) (zh Z zm1 st) [.ref 13, .int (a1)] (zWi Z P) := by
  unfold w_X6_readAllOf_L0 at h
  refine z_enterN (by decide) (Nat.le_of_ble_eq_true rfl) (lc0 := [some (.ref 13), some (.int (a1)), none, none]) rfl ?_
  intro p e s m args below meth c ad0 C hr _
  have hn9 : True := trivial
  replace C : zC Z p s m args meth c cX6_readAllOf 4 RX6 := C
  refine z_aload_n C dX6_readAllOf_0 (i := 0) rfl rfl ?_
  refine z_iload_n C dX6_readAllOf_1 (i := 1) rfl rfl ?_
  refine t_callV C (rest := []) (c2 := 0) (s2 := 0) (kd := 13) (i := 0) [.int (a1)] dX6_readAllOf_2 lk_X6_199 li_X6_readOne le_X6_readOne (c_X6_readOne_L0 hfl h) rfl rfl (by decide) rfl ⟨_, rfl⟩ rfl ⟨Nat.le_of_ble_eq_true rfl, Nat.le_of_ble_eq_true rfl⟩ (Nat.le_of_ble_eq_true rfl) ⟨Nat.le_of_ble_eq_true rfl, Nat.le_of_ble_eq_true rfl, Nat.le_of_ble_eq_true rfl, Nat.le_of_ble_eq_true rfl⟩ (k_Wi fun r2 s2 h => ?_)
  refine z_istore_n C dX6_readAllOf_5 (i := 2) (lc' := [some (.ref 13), some (.int (a1)), some (.int (r2)), none]) rfl (by decide) rfl ?_
  refine z_iconst C dX6_readAllOf_6 (v := 0) (by decide) ?_
  refine z_istore_n C dX6_readAllOf_7 (i := 3) (lc' := [some (.ref 13), some (.int (a1)), some (.int (r2)), some (.int (0))]) rfl (by decide) rfl ?_
  exact t_drop [true, true, true, true] rfl (j_X6_readAllOf_L0_8 hfl C hr hn9  zfu s2 a1 r2 (0) h)
def w_X6_readAnyOf_L0_56 (P : Int32 → zTs → Prop) (K8 : zTs → Int32 → Int32 → Int32 → Prop) (st : zTs) (a1 : Int32) (a3 : Int32) (b0 : Int32) : Prop := ∀ x57 : Int32, x57 = a3 + 1 → (K8 st a1 b0 x57)
set_option maxHeartbeats 4000000 in
set_option maxRecDepth 100000 in
theorem j_X6_readAnyOf_L0_56 {P : Int32 → zTs → Prop} {K8 : zTs → Int32 → Int32 → Int32 → Prop} (hfl : l.stackTraces = false) (C : zC Z p s m args meth c cX6_readAnyOf 4 RX6) (hr : meth.sig.returnType = (some .boolean)) (hn9 : True) (hK8 : ∀ (st : zTs) (a1 : Int32) (a2 : Int32) (a3 : Int32), K8 st a1 a2 a3 → zG Z ad0 h0 p l e ({ frames := 40, cells := 0, slots := 0, locals := 911 } : Room) s m args below meth c (MQ below (zQ Z ad0 h0 (zWi Z P)) args s 0 0 (zA Z)) 0 0 (zh Z zm1 st) 4 8 [some (.ref 13), some (.int (a1)), some (.int (a2)), some (.int (a3))] []) (st : zTs) (a1 : Int32) (a3 : Int32) (b0 : Int32) (h : w_X6_readAnyOf_L0_56 P K8 st a1 a3 b0) : zG Z ad0 h0 p l e ({ frames := 40, cells := 0, slots := 0, locals := 911 } : Room) s m args below meth c (MQ below (zQ Z ad0 h0 (zWi Z P)) args s 0 0 (zA Z)) 0 0 (zh Z zm1 st) 4 56 [some (.ref 13), some (.int (a1)), none, some (.int (a3))] [.int (b0)] := by
  unfold w_X6_readAnyOf_L0_56 at h
  refine z_istore_n C dX6_readAnyOf_56 (i := 2) (lc' := [some (.ref 13), some (.int (a1)), some (.int (b0)), some (.int (a3))]) rfl (by decide) rfl ?_
  obtain ⟨x57, ex57⟩ : ∃ z : Int32, z = a3 + 1 := ⟨_, rfl⟩
  have h := h x57 ex57
  refine z_iinc C dX6_readAnyOf_57 (v := x57) (lc' := [some (.ref 13), some (.int (a1)), some (.int (b0)), some (.int (x57))]) rfl (by decide) (by rw [ex57]; rfl) rfl ?_
  refine z_goto C dX6_readAnyOf_60 (tgt := 8) (by decide) ?_
  exact t_drop [true, true, true, true] rfl (hK8 st a1 b0 x57 h)
def w_X6_readAnyOf_L0_55 (P : Int32 → zTs → Prop) (K8 : zTs → Int32 → Int32 → Int32 → Prop) (st : zTs) (a1 : Int32) (a3 : Int32) : Prop := w_X6_readAnyOf_L0_56 P K8 st a1 a3 (0)
set_option maxHeartbeats 4000000 in
set_option maxRecDepth 100000 in
theorem j_X6_readAnyOf_L0_55 {P : Int32 → zTs → Prop} {K8 : zTs → Int32 → Int32 → Int32 → Prop} (hfl : l.stackTraces = false) (C : zC Z p s m args meth c cX6_readAnyOf 4 RX6) (hr : meth.sig.returnType = (some .boolean)) (hn9 : True) (hK8 : ∀ (st : zTs) (a1 : Int32) (a2 : Int32) (a3 : Int32), K8 st a1 a2 a3 → zG Z ad0 h0 p l e ({ frames := 40, cells := 0, slots := 0, locals := 911 } : Room) s m args below meth c (MQ below (zQ Z ad0 h0 (zWi Z P)) args s 0 0 (zA Z)) 0 0 (zh Z zm1 st) 4 8 [some (.ref 13), some (.int (a1)), some (.int (a2)), some (.int (a3))] []) (st : zTs) (a1 : Int32) (a3 : Int32) (h : w_X6_readAnyOf_L0_55 P K8 st a1 a3) : zG Z ad0 h0 p l e ({ frames := 40, cells := 0, slots := 0, locals := 911 } : Room) s m args below meth c (MQ below (zQ Z ad0 h0 (zWi Z P)) args s 0 0 (zA Z)) 0 0 (zh Z zm1 st) 4 55 [some (.ref 13), some (.int (a1)), none, some (.int (a3))] [] := by
  unfold w_X6_readAnyOf_L0_55 at h
  refine z_iconst C dX6_readAnyOf_55 (v := 0) (by decide) ?_
  exact t_drop [true, true, false, true] rfl (j_X6_readAnyOf_L0_56 hfl C hr hn9 hK8 st a1 a3 (0) h)
def w_X6_readAnyOf_L0_8 (P : Int32 → zTs → Prop)  : Nat → zTs → Int32 → Int32 → Int32 → Prop
  | 0, _, _, _, _ => False
  | n9 + 1, st, a1, a2, a3 => ((zgF st 13 0 3) ≤ a3 → (a2 = 0 ∨ a2 = 1) ∧ (P a2 st)) ∧ (¬ (zgF st 13 0 3) ≤ a3 → (a2 = 0 → (a2 = 0 ∨ a2 = 1) ∧ (P a2 st)) ∧ (¬ a2 = 0 → (zgP st 13 0 6 < 24) ∧ ((((zgP st 13 0 6) : Nat) = 18 → w_X6_advance st (fun (s31 : zTs) => (w_X6_readAllOf_L0 s31 a1 (fun (r36 : Int32) (s36 : zTs) => ((r36 = 0 → w_X6_readAnyOf_L0_55 P (w_X6_readAnyOf_L0_8 P n9) s36 a1 a3) ∧ (¬ r36 = 0 → w_X6_addStep s36 (-3) (fun (r45 : Int32) (s45 : zTs) => ((r45 = 0 → w_X6_readAnyOf_L0_55 P (w_X6_readAnyOf_L0_8 P n9) s45 a1 a3) ∧ (¬ r45 = 0 → w_X6_readAnyOf_L0_56 P (w_X6_readAnyOf_L0_8 P n9) s45 a1 a3 (1)))))))))) ∧ (¬ ((zgP st 13 0 6) : Nat) = 18 → (a2 = 0 ∨ a2 = 1) ∧ (P a2 st)))))
set_option maxHeartbeats 4000000 in
set_option maxRecDepth 100000 in
theorem j_X6_readAnyOf_L0_8 {P : Int32 → zTs → Prop}  (hfl : l.stackTraces = false) (C : zC Z p s m args meth c cX6_readAnyOf 4 RX6) (hr : meth.sig.returnType = (some .boolean)) (hn9 : True)  : ∀ (n9 : Nat) (st : zTs) (a1 : Int32) (a2 : Int32) (a3 : Int32), w_X6_readAnyOf_L0_8 P n9 st a1 a2 a3 → zG Z ad0 h0 p l e ({ frames := 40, cells := 0, slots := 0, locals := 911 } : Room) s m args below meth c (MQ below (zQ Z ad0 h0 (zWi Z P)) args s 0 0 (zA Z)) 0 0 (zh Z zm1 st) 4 8 [some (.ref 13), some (.int (a1)), some (.int (a2)), some (.int (a3))] [] := by
  intro n9
  induction n9 with
  | zero => intro st a1 a2 a3 h; exact h.elim
  | succ n9 hK8 =>
    intro st a1 a2 a3 h
    rw [w_X6_readAnyOf_L0_8] at h
    refine z_iload_n C dX6_readAnyOf_8 (i := 3) rfl rfl ?_
    refine z_aload_n C dX6_readAnyOf_9 (i := 0) rfl rfl ?_
    refine t_get C dX6_readAnyOf_10 fl_X6_55 (k := 13) (i := 0) (by decide) rfl (fg_13_3 _ _ _) ?_
    refine z_icmp_ge C dX6_readAnyOf_13 (tgt := 63) (by decide) (fun c13 => ?_) (fun c13 => ?_)
    · have h := h.1 c13
      refine z_iload_n C dX6_readAnyOf_63 (i := 2) rfl rfl ?_
      obtain ⟨g64, h⟩ := h
      exact z_iret C dX6_readAnyOf_64 hr (zn_bool g64) ⟨_, _, rfl, rfl, h⟩ (Nat.le_of_ble_eq_true rfl) (Nat.le_of_ble_eq_true rfl)
    · have h := h.2 c13
      refine z_iload_n C dX6_readAnyOf_16 (i := 2) rfl rfl ?_
      refine z_if_eq C dX6_readAnyOf_17 (tgt := 63) (by decide) (fun c17 => ?_) (fun c17 => ?_)
      · have h := h.1 c17
        refine z_iload_n C dX6_readAnyOf_63 (i := 2) rfl rfl ?_
        obtain ⟨g64, h⟩ := h
        exact z_iret C dX6_readAnyOf_64 hr (zn_bool g64) ⟨_, _, rfl, rfl, h⟩ (Nat.le_of_ble_eq_true rfl) (Nat.le_of_ble_eq_true rfl)
      · have h := h.2 c17
        refine z_aload_n C dX6_readAnyOf_20 (i := 0) rfl rfl ?_
        refine t_get C dX6_readAnyOf_21 fl_X6_21 (k := 13) (i := 0) (by decide) rfl (fg_13_6 _ _ _) ?_
        refine z_gets C dX6_readAnyOf_24 (q := 201 + 256 * 18) (by decide) gl_X6_193 (fun z => (z.2.2.2.1.1.1 18 (by decide)).1) ?_
        obtain ⟨g27a, h⟩ := h
        refine z_acmpW_ne C dX6_readAnyOf_27 (i := (zgP st 13 0 6)) (j := 18) (tgt := 63) (by decide) g27a (by decide) (fun c27 => ?_) (fun c27 => ?_)
        · have h := h.2 c27
          refine z_iload_n C dX6_readAnyOf_63 (i := 2) rfl rfl ?_
          obtain ⟨g64, h⟩ := h
          exact z_iret C dX6_readAnyOf_64 hr (zn_bool g64) ⟨_, _, rfl, rfl, h⟩ (Nat.le_of_ble_eq_true rfl) (Nat.le_of_ble_eq_true rfl)
        · have h := h.1 c27
          refine z_aload_n C dX6_readAnyOf_30 (i := 0) rfl rfl ?_
          refine t_callV C (rest := []) (c2 := 0) (s2 := 0) (kd := 13) (i := 0) [] dX6_readAnyOf_31 lk_X6_61 li_X6_advance le_X6_advance (c_X6_advance hfl h) rfl rfl (by decide) rfl ⟨_, rfl⟩ rfl ⟨Nat.le_of_ble_eq_true rfl, Nat.le_of_ble_eq_true rfl⟩ (Nat.le_of_ble_eq_true rfl) ⟨Nat.le_of_ble_eq_true rfl, Nat.le_of_ble_eq_true rfl, Nat.le_of_ble_eq_true rfl, Nat.le_of_ble_eq_true rfl⟩ (k_Wv fun s31 h => ?_)
          refine z_aload_n C dX6_readAnyOf_34 (i := 0) rfl rfl ?_
          refine z_iload_n C dX6_readAnyOf_35 (i := 1) rfl rfl ?_
          refine t_callV C (rest := []) (c2 := 0) (s2 := 0) (kd := 13) (i := 0) [.int (a1)] dX6_readAnyOf_36 lk_X6_190 li_X6_readAllOf le_X6_readAllOf (c_X6_readAllOf_L0 hfl h) rfl rfl (by decide) rfl ⟨_, rfl⟩ rfl ⟨Nat.le_of_ble_eq_true rfl, Nat.le_of_ble_eq_true rfl⟩ (Nat.le_of_ble_eq_true rfl) ⟨Nat.le_of_ble_eq_true rfl, Nat.le_of_ble_eq_true rfl, Nat.le_of_ble_eq_true rfl, Nat.le_of_ble_eq_true rfl⟩ (k_Wi fun r36 s36 h => ?_)
          refine z_if_eq C dX6_readAnyOf_39 (tgt := 55) (by decide) (fun c39 => ?_) (fun c39 => ?_)
          · have h := h.1 c39
            exact t_drop [true, true, false, true] rfl (j_X6_readAnyOf_L0_55 hfl C hr hn9 hK8 s36 a1 a3 h)
          · have h := h.2 c39
            refine z_aload_n C dX6_readAnyOf_42 (i := 0) rfl rfl ?_
            refine z_bipush C dX6_readAnyOf_43 (v := (-3)) (by decide) ?_
            refine t_callV C (rest := []) (c2 := 0) (s2 := 0) (kd := 13) (i := 0) [.int (-3)] dX6_readAnyOf_45 lk_X6_196 li_X6_addStep le_X6_addStep (c_X6_addStep hfl h) rfl rfl (by decide) rfl ⟨_, rfl⟩ rfl ⟨Nat.le_of_ble_eq_true rfl, Nat.le_of_ble_eq_true rfl⟩ (Nat.le_of_ble_eq_true rfl) ⟨Nat.le_of_ble_eq_true rfl, Nat.le_of_ble_eq_true rfl, Nat.le_of_ble_eq_true rfl, Nat.le_of_ble_eq_true rfl⟩ (k_Wi fun r45 s45 h => ?_)
            refine z_if_eq C dX6_readAnyOf_48 (tgt := 55) (by decide) (fun c48 => ?_) (fun c48 => ?_)
            · have h := h.1 c48
              exact t_drop [true, true, false, true] rfl (j_X6_readAnyOf_L0_55 hfl C hr hn9 hK8 s45 a1 a3 h)
            · have h := h.2 c48
              refine z_iconst C dX6_readAnyOf_51 (v := 1) (by decide) ?_
              refine z_goto C dX6_readAnyOf_52 (tgt := 56) (by decide) ?_
              exact t_drop [true, true, false, true] rfl (j_X6_readAnyOf_L0_56 hfl C hr hn9 hK8 s45 a1 a3 (1) h)
def w_X6_readAnyOf_L0 (st : zTs) (a1 : Int32) (P : Int32 → zTs → Prop) : Prop := w_X6_readAllOf_L0 st a1 (fun (r2 : Int32) (s2 : zTs) => (w_X6_readAnyOf_L0_8 P zfu s2 a1 r2 (0)))
set_option maxHeartbeats 4000000 in
set_option maxRecDepth 100000 in
theorem c_X6_readAnyOf_L0 {Z : zZ} {l : Launch} (hfl : l.stackTraces = false) {st : zTs} {a1 : Int32} {P : Int32 → zTs → Prop} (h : w_X6_readAnyOf_L0 st a1 P) : zN Z l yX6_readAnyOf cX6_readAnyOf 4 (some .boolean) ({ frames := 40, cells := 0, slots := 0, locals := 911 } : Room) (zh Z zm1 st) [.ref 13, .int (a1)] (zWi Z P) := by
  unfold w_X6_readAnyOf_L0 at h
  refine z_enterN (by decide) (Nat.le_of_ble_eq_true rfl) (lc0 := [some (.ref 13), some (.int (a1)), none, none]) rfl ?_
  intro p e s m args below meth c ad0 C hr _
  have hn9 : True := trivial
  replace C : zC Z p s m args meth c cX6_readAnyOf 4 RX6 := C
  refine z_aload_n C dX6_readAnyOf_0 (i := 0) rfl rfl ?_
  refine z_iload_n C dX6_readAnyOf_1 (i := 1) rfl rfl ?_
  refine t_callV C (rest := []) (c2 := 0) (s2 := 0) (kd := 13) (i := 0) [.int (a1)] dX6_readAnyOf_2 lk_X6_190 li_X6_readAllOf le_X6_readAllOf (c_X6_readAllOf_L0 hfl h) rfl rfl (by decide) rfl ⟨_, rfl⟩ rfl ⟨Nat.le_of_ble_eq_true rfl, Nat.le_of_ble_eq_true rfl⟩ (Nat.le_of_ble_eq_true rfl) ⟨Nat.le_of_ble_eq_true rfl, Nat.le_of_ble_eq_true rfl, Nat.le_of_ble_eq_true rfl, Nat.le_of_ble_eq_true rfl⟩ (k_Wi fun r2 s2 h => ?_)
  refine z_istore_n C dX6_readAnyOf_5 (i := 2) (lc' := [some (.ref 13), some (.int (a1)), some (.int (r2)), none]) rfl (by decide) rfl ?_
  refine z_iconst C dX6_readAnyOf_6 (v := 0) (by decide) ?_
  refine z_istore_n C dX6_readAnyOf_7 (i := 3) (lc' := [some (.ref 13), some (.int (a1)), some (.int (r2)), some (.int (0))]) rfl (by decide) rfl ?_
  exact t_drop [true, true, true, true] rfl (j_X6_readAnyOf_L0_8 hfl C hr hn9  zfu s2 a1 r2 (0) h)
def w_X12_one_L10_189 (P : zTs → Prop)  (st : zTs) (a1 : Int32) (a3 : Int32) (b0 : Int32) : Prop := w_X12_emits st b0 ((3 * a3) + a1) (fun (s194 : zTs) => (P s194))
set_option maxHeartbeats 4000000 in
set_option maxRecDepth 100000 in
theorem j_X12_one_L10_189 {P : zTs → Prop}  (hfl : l.stackTraces = false) (C : zC Z p s m args meth c cX12_one 4 RX12) (hr : meth.sig.returnType = none) (hn9 : True)  (st : zTs) (a1 : Int32) (a3 : Int32) (b0 : Int32) (h : w_X12_one_L10_189 P st a1 a3 b0) : zG Z ad0 h0 p l e ({ frames := 7, cells := 0, slots := 0, locals := 141 } : Room) s m args below meth c (MQ below (zQ Z ad0 h0 (zWv Z zm1 P)) args s 0 0 (zA Z)) 0 0 (zh Z zm1 st) 4 189 [none, some (.int (a1)), none, some (.int (a3))] [.int (b0), .ref 100] := by
  unfold w_X12_one_L10_189 at h
  refine z_iconst C dX12_one_189 (v := 3) (by decide) ?_
  refine z_iload_n C dX12_one_190 (i := 3) rfl rfl ?_
  refine z_imul C dX12_one_191 ?_
  refine z_iload_n C dX12_one_192 (i := 1) rfl rfl ?_
  refine z_iadd C dX12_one_193 ?_
  refine t_callV C (rest := []) (c2 := 0) (s2 := 0) (kd := 100) (i := 0) [.int (b0), .int ((3 * a3) + a1)] dX12_one_194 lk_X12_316 li_X12_emits le_X12_emits (c_X12_emits hfl h) rfl rfl (by decide) rfl ⟨_, rfl⟩ rfl ⟨Nat.le_of_ble_eq_true rfl, Nat.le_of_ble_eq_true rfl⟩ (Nat.le_of_ble_eq_true rfl) ⟨Nat.le_of_ble_eq_true rfl, Nat.le_of_ble_eq_true rfl, Nat.le_of_ble_eq_true rfl, Nat.le_of_ble_eq_true rfl⟩ (k_Wv fun s194 h => ?_)
  exact z_vret C dX12_one_197 hr ⟨_, rfl, rfl, h⟩ (Nat.le_of_ble_eq_true rfl) (Nat.le_of_ble_eq_true rfl)
def w_X12_one_L10_158 (P : zTs → Prop)  (st : zTs) (a1 : Int32) (a2 : Int32) : Prop := ∀ s165 : zTs, s165 = zuF st 100 0 8 ((zgF st 100 0 8) + 1) → (w_X12_number s165 0 9999 (fun (r173 : Int32) (s173 : zTs) => ((a2 = 60 → w_X12_one_L10_189 P s173 a1 r173 (4)) ∧ (¬ a2 = 60 → w_X12_one_L10_189 P s173 a1 r173 (5)))))
set_option maxHeartbeats 4000000 in
set_option maxRecDepth 100000 in
theorem j_X12_one_L10_158 {P : zTs → Prop}  (hfl : l.stackTraces = false) (C : zC Z p s m args meth c cX12_one 4 RX12) (hr : meth.sig.returnType = none) (hn9 : True)  (st : zTs) (a1 : Int32) (a2 : Int32) (h : w_X12_one_L10_158 P st a1 a2) : zG Z ad0 h0 p l e ({ frames := 7, cells := 0, slots := 0, locals := 141 } : Room) s m args below meth c (MQ below (zQ Z ad0 h0 (zWv Z zm1 P)) args s 0 0 (zA Z)) 0 0 (zh Z zm1 st) 4 158 [some (.ref 100), some (.int (a1)), some (.int (a2)), none] [] := by
  unfold w_X12_one_L10_158 at h
  refine z_aload_n C dX12_one_158 (i := 0) rfl rfl ?_
  refine z_dup C dX12_one_159 rfl ?_
  refine t_get C dX12_one_160 fl_X12_232 (k := 100) (i := 0) (by decide) rfl (fg_100_8 _ _ _) ?_
  refine z_iconst C dX12_one_163 (v := 1) (by decide) ?_
  refine z_iadd C dX12_one_164 ?_
  refine t_put C dX12_one_165 fq_X12_232 (Or.inl rfl) (k := 100) (i := 0) (by decide) rfl ⟨rfl, rfl⟩ (fp_100_8 _ _ _ _ _) ?_
  refine t_tops (fun s165 es165 => ?_)
  have h := h s165 es165
  refine z_aload_n C dX12_one_168 (i := 0) rfl rfl ?_
  refine z_iconst C dX12_one_169 (v := 0) (by decide) ?_
  refine z_sipush C dX12_one_170 (v := 9999) (by decide) ?_
  refine t_callV C (rest := []) (c2 := 0) (s2 := 0) (kd := 100) (i := 0) [.int (0), .int (9999)] dX12_one_173 lk_X12_342 li_X12_number le_X12_number (c_X12_number hfl h) rfl rfl (by decide) rfl ⟨_, rfl⟩ rfl ⟨Nat.le_of_ble_eq_true rfl, Nat.le_of_ble_eq_true rfl⟩ (Nat.le_of_ble_eq_true rfl) ⟨Nat.le_of_ble_eq_true rfl, Nat.le_of_ble_eq_true rfl, Nat.le_of_ble_eq_true rfl, Nat.le_of_ble_eq_true rfl⟩ (k_Wi fun r173 s173 h => ?_)
  refine z_istore_n C dX12_one_176 (i := 3) (lc' := [some (.ref 100), some (.int (a1)), some (.int (a2)), some (.int (r173))]) rfl (by decide) rfl ?_
  refine z_aload_n C dX12_one_177 (i := 0) rfl rfl ?_
  refine z_iload_n C dX12_one_178 (i := 2) rfl rfl ?_
  refine z_bipush C dX12_one_179 (v := 60) (by decide) ?_
  refine z_icmp_ne C dX12_one_181 (tgt := 188) (by decide) (fun c181 => ?_) (fun c181 => ?_)
  · have h := h.2 c181
    refine z_iconst C dX12_one_188 (v := 5) (by decide) ?_
    exact t_drop [false, true, false, true] rfl (j_X12_one_L10_189 hfl C hr hn9  s173 a1 r173 (5) h)
  · have h := h.1 c181
    refine z_iconst C dX12_one_184 (v := 4) (by decide) ?_
    refine z_goto C dX12_one_185 (tgt := 189) (by decide) ?_
    exact t_drop [false, true, false, true] rfl (j_X12_one_L10_189 hfl C hr hn9  s173 a1 r173 (4) h)
def w_X12_one_L10_148 (P : zTs → Prop)  (st : zTs) : Prop := w_X12_wrong st 1 (zgF st 100 0 8) (fun (s154 : zTs) => (P s154))
set_option maxHeartbeats 4000000 in
set_option maxRecDepth 100000 in
theorem j_X12_one_L10_148 {P : zTs → Prop}  (hfl : l.stackTraces = false) (C : zC Z p s m args meth c cX12_one 4 RX12) (hr : meth.sig.returnType = none) (hn9 : True)  (st : zTs) (h : w_X12_one_L10_148 P st) : zG Z ad0 h0 p l e ({ frames := 7, cells := 0, slots := 0, locals := 141 } : Room) s m args below meth c (MQ below (zQ Z ad0 h0 (zWv Z zm1 P)) args s 0 0 (zA Z)) 0 0 (zh Z zm1 st) 4 148 [some (.ref 100), none, none, none] [] := by
  unfold w_X12_one_L10_148 at h
  refine z_aload_n C dX12_one_148 (i := 0) rfl rfl ?_
  refine z_iconst C dX12_one_149 (v := 1) (by decide) ?_
  refine z_aload_n C dX12_one_150 (i := 0) rfl rfl ?_
  refine t_get C dX12_one_151 fl_X12_232 (k := 100) (i := 0) (by decide) rfl (fg_100_8 _ _ _) ?_
  refine t_callV C (rest := []) (c2 := 0) (s2 := 0) (kd := 100) (i := 0) [.int (1), .int (zgF st 100 0 8)] dX12_one_154 lk_X12_300 li_X12_wrong le_X12_wrong (c_X12_wrong hfl h) rfl rfl (by decide) rfl ⟨_, rfl⟩ rfl ⟨Nat.le_of_ble_eq_true rfl, Nat.le_of_ble_eq_true rfl⟩ (Nat.le_of_ble_eq_true rfl) ⟨Nat.le_of_ble_eq_true rfl, Nat.le_of_ble_eq_true rfl, Nat.le_of_ble_eq_true rfl, Nat.le_of_ble_eq_true rfl⟩ (k_Wv fun s154 h => ?_)
  exact z_vret C dX12_one_157 hr ⟨_, rfl, rfl, h⟩ (Nat.le_of_ble_eq_true rfl) (Nat.le_of_ble_eq_true rfl)
def w_X12_one_L10_119 (P : zTs → Prop)  (st : zTs) (a1 : Int32) : Prop := w_X12_blanks st (fun (s120 : zTs) => (w_X12_byteAt s120 (zgF s120 100 0 8) (fun (r128 : Int32) => ((a1 < 0 → w_X12_one_L10_148 P s120) ∧ (¬ a1 < 0 → (r128 = 60 → w_X12_one_L10_158 P s120 a1 r128) ∧ (¬ r128 = 60 → (r128 = 62 → w_X12_one_L10_158 P s120 a1 r128) ∧ (¬ r128 = 62 → w_X12_one_L10_148 P s120)))))))
set_option maxHeartbeats 4000000 in
set_option maxRecDepth 100000 in
theorem j_X12_one_L10_119 {P : zTs → Prop}  (hfl : l.stackTraces = false) (C : zC Z p s m args meth c cX12_one 4 RX12) (hr : meth.sig.returnType = none) (hn9 : True)  (st : zTs) (a1 : Int32) (h : w_X12_one_L10_119 P st a1) : zG Z ad0 h0 p l e ({ frames := 7, cells := 0, slots := 0, locals := 141 } : Room) s m args below meth c (MQ below (zQ Z ad0 h0 (zWv Z zm1 P)) args s 0 0 (zA Z)) 0 0 (zh Z zm1 st) 4 119 [some (.ref 100), some (.int (a1)), none, none] [] := by
  unfold w_X12_one_L10_119 at h
  refine z_aload_n C dX12_one_119 (i := 0) rfl rfl ?_
  refine t_callV C (rest := []) (c2 := 0) (s2 := 0) (kd := 100) (i := 0) [] dX12_one_120 lk_X12_242 li_X12_blanks le_X12_blanks (c_X12_blanks hfl h) rfl rfl (by decide) rfl ⟨_, rfl⟩ rfl ⟨Nat.le_of_ble_eq_true rfl, Nat.le_of_ble_eq_true rfl⟩ (Nat.le_of_ble_eq_true rfl) ⟨Nat.le_of_ble_eq_true rfl, Nat.le_of_ble_eq_true rfl, Nat.le_of_ble_eq_true rfl, Nat.le_of_ble_eq_true rfl⟩ (k_Wv fun s120 h => ?_)
  refine z_aload_n C dX12_one_123 (i := 0) rfl rfl ?_
  refine z_aload_n C dX12_one_124 (i := 0) rfl rfl ?_
  refine t_get C dX12_one_125 fl_X12_232 (k := 100) (i := 0) (by decide) rfl (fg_100_8 _ _ _) ?_
  refine t_callV C (rest := []) (c2 := 0) (s2 := 0) (kd := 100) (i := 0) [.int (zgF s120 100 0 8)] dX12_one_128 lk_X12_235 li_X12_byteAt le_X12_byteAt (c_X12_byteAt hfl h) rfl rfl (by decide) rfl ⟨_, rfl⟩ rfl ⟨Nat.le_of_ble_eq_true rfl, Nat.le_of_ble_eq_true rfl⟩ (Nat.le_of_ble_eq_true rfl) ⟨Nat.le_of_ble_eq_true rfl, Nat.le_of_ble_eq_true rfl, Nat.le_of_ble_eq_true rfl, Nat.le_of_ble_eq_true rfl⟩ (k_Ri fun r128 h => ?_)
  refine z_istore_n C dX12_one_131 (i := 2) (lc' := [some (.ref 100), some (.int (a1)), some (.int (r128)), none]) rfl (by decide) rfl ?_
  refine z_iload_n C dX12_one_132 (i := 1) rfl rfl ?_
  refine z_if_lt C dX12_one_133 (tgt := 148) (by decide) (fun c133 => ?_) (fun c133 => ?_)
  · have h := h.1 c133
    exact t_drop [true, false, false, false] rfl (j_X12_one_L10_148 hfl C hr hn9  s120 h)
  · have h := h.2 c133
    refine z_iload_n C dX12_one_136 (i := 2) rfl rfl ?_
    refine z_bipush C dX12_one_137 (v := 60) (by decide) ?_
    refine z_icmp_eq C dX12_one_139 (tgt := 158) (by decide) (fun c139 => ?_) (fun c139 => ?_)
    · have h := h.1 c139
      exact t_drop [true, true, true, false] rfl (j_X12_one_L10_158 hfl C hr hn9  s120 a1 r128 h)
    · have h := h.2 c139
      refine z_iload_n C dX12_one_142 (i := 2) rfl rfl ?_
      refine z_bipush C dX12_one_143 (v := 62) (by decide) ?_
      refine z_icmp_eq C dX12_one_145 (tgt := 158) (by decide) (fun c145 => ?_) (fun c145 => ?_)
      · have h := h.1 c145
        exact t_drop [true, true, true, false] rfl (j_X12_one_L10_158 hfl C hr hn9  s120 a1 r128 h)
      · have h := h.2 c145
        exact t_drop [true, false, false, false] rfl (j_X12_one_L10_148 hfl C hr hn9  s120 h)
def w_X12_one_L10_113 (P : zTs → Prop) (K91 : zTs → Int32 → Int32 → Prop) (st : zTs) (a1 : Int32) (a2 : Int32) : Prop := ∀ x113 : Int32, x113 = a2 + 1 → (K91 st a1 x113)
set_option maxHeartbeats 4000000 in
set_option maxRecDepth 100000 in
theorem j_X12_one_L10_113 {P : zTs → Prop} {K91 : zTs → Int32 → Int32 → Prop} (hfl : l.stackTraces = false) (C : zC Z p s m args meth c cX12_one 4 RX12) (hr : meth.sig.returnType = none) (hn9 : True) (hK91 : ∀ (st : zTs) (a1 : Int32) (a2 : Int32), K91 st a1 a2 → zG Z ad0 h0 p l e ({ frames := 7, cells := 0, slots := 0, locals := 141 } : Room) s m args below meth c (MQ below (zQ Z ad0 h0 (zWv Z zm1 P)) args s 0 0 (zA Z)) 0 0 (zh Z zm1 st) 4 91 [some (.ref 100), some (.int (a1)), some (.int (a2)), none] []) (st : zTs) (a1 : Int32) (a2 : Int32) (h : w_X12_one_L10_113 P K91 st a1 a2) : zG Z ad0 h0 p l e ({ frames := 7, cells := 0, slots := 0, locals := 141 } : Room) s m args below meth c (MQ below (zQ Z ad0 h0 (zWv Z zm1 P)) args s 0 0 (zA Z)) 0 0 (zh Z zm1 st) 4 113 [some (.ref 100), some (.int (a1)), some (.int (a2)), none] [] := by
  unfold w_X12_one_L10_113 at h
  obtain ⟨x113, ex113⟩ : ∃ z : Int32, z = a2 + 1 := ⟨_, rfl⟩
  have h := h x113 ex113
  refine z_iinc C dX12_one_113 (v := x113) (lc' := [some (.ref 100), some (.int (a1)), some (.int (x113)), none]) rfl (by decide) (by rw [ex113]; rfl) rfl ?_
  refine z_goto C dX12_one_116 (tgt := 91) (by decide) ?_
  exact t_drop [true, true, true, false] rfl (hK91 st a1 x113 h)
def w_X12_one_L10_91 (P : zTs → Prop)  : Nat → zTs → Int32 → Int32 → Prop
  | 0, _, _, _ => False
  | n9 + 1, st, a1, a2 => (3 ≤ a2 → w_X12_one_L10_119 P st a1) ∧ (¬ 3 ≤ a2 → (0 ≤ a1 → w_X12_one_L10_119 P st a1) ∧ (¬ 0 ≤ a1 → w_X12_measureOf st a2 (fun (r102 : Nat) => (w_X12_eat st r102 (fun (r105 : Int32) (s105 : zTs) => ((r105 = 0 → w_X12_one_L10_113 P (w_X12_one_L10_91 P n9) s105 a1 a2) ∧ (¬ r105 = 0 → w_X12_one_L10_113 P (w_X12_one_L10_91 P n9) s105 a2 a2)))))))
set_option maxHeartbeats 4000000 in
set_option maxRecDepth 100000 in
theorem j_X12_one_L10_91 {P : zTs → Prop}  (hfl : l.stackTraces = false) (C : zC Z p s m args meth c cX12_one 4 RX12) (hr : meth.sig.returnType = none) (hn9 : True)  : ∀ (n9 : Nat) (st : zTs) (a1 : Int32) (a2 : Int32), w_X12_one_L10_91 P n9 st a1 a2 → zG Z ad0 h0 p l e ({ frames := 7, cells := 0, slots := 0, locals := 141 } : Room) s m args below meth c (MQ below (zQ Z ad0 h0 (zWv Z zm1 P)) args s 0 0 (zA Z)) 0 0 (zh Z zm1 st) 4 91 [some (.ref 100), some (.int (a1)), some (.int (a2)), none] [] := by
  intro n9
  induction n9 with
  | zero => intro st a1 a2 h; exact h.elim
  | succ n9 hK91 =>
    intro st a1 a2 h
    rw [w_X12_one_L10_91] at h
    refine z_iload_n C dX12_one_91 (i := 2) rfl rfl ?_
    refine z_iconst C dX12_one_92 (v := 3) (by decide) ?_
    refine z_icmp_ge C dX12_one_93 (tgt := 119) (by decide) (fun c93 => ?_) (fun c93 => ?_)
    · have h := h.1 c93
      exact t_drop [true, true, false, false] rfl (j_X12_one_L10_119 hfl C hr hn9  st a1 h)
    · have h := h.2 c93
      refine z_iload_n C dX12_one_96 (i := 1) rfl rfl ?_
      refine z_if_ge C dX12_one_97 (tgt := 119) (by decide) (fun c97 => ?_) (fun c97 => ?_)
      · have h := h.1 c97
        exact t_drop [true, true, false, false] rfl (j_X12_one_L10_119 hfl C hr hn9  st a1 h)
      · have h := h.2 c97
        refine z_aload_n C dX12_one_100 (i := 0) rfl rfl ?_
        refine z_iload_n C dX12_one_101 (i := 2) rfl rfl ?_
        refine t_callS C (rest := [.ref 100]) (c2 := 0) (s2 := 0) [.int (a2)] dX12_one_102 lk_X12_339 ls_X12_measureOf (c_X12_measureOf hfl h) rfl rfl ⟨Nat.le_of_ble_eq_true rfl, Nat.le_of_ble_eq_true rfl⟩ (Nat.le_of_ble_eq_true rfl) ⟨Nat.le_of_ble_eq_true rfl, Nat.le_of_ble_eq_true rfl, Nat.le_of_ble_eq_true rfl, Nat.le_of_ble_eq_true rfl⟩ (k_Rr fun r102 h => ?_)
        refine t_callV C (rest := []) (c2 := 0) (s2 := 0) (kd := 100) (i := 0) [.ref (200 + 256 * r102)] dX12_one_105 lk_X12_313 li_X12_eat le_X12_eat (c_X12_eat hfl h) rfl rfl (by decide) rfl ⟨_, rfl⟩ rfl ⟨Nat.le_of_ble_eq_true rfl, Nat.le_of_ble_eq_true rfl⟩ (Nat.le_of_ble_eq_true rfl) ⟨Nat.le_of_ble_eq_true rfl, Nat.le_of_ble_eq_true rfl, Nat.le_of_ble_eq_true rfl, Nat.le_of_ble_eq_true rfl⟩ (k_Wi fun r105 s105 h => ?_)
        refine z_if_eq C dX12_one_108 (tgt := 113) (by decide) (fun c108 => ?_) (fun c108 => ?_)
        · have h := h.1 c108
          exact t_drop [true, true, true, false] rfl (j_X12_one_L10_113 hfl C hr hn9 hK91 s105 a1 a2 h)
        · have h := h.2 c108
          refine z_iload_n C dX12_one_111 (i := 2) rfl rfl ?_
          refine z_istore_n C dX12_one_112 (i := 1) (lc' := [some (.ref 100), some (.int (a2)), some (.int (a2)), none]) rfl (by decide) rfl ?_
          exact t_drop [true, true, true, false] rfl (j_X12_one_L10_113 hfl C hr hn9 hK91 s105 a2 a2 h)
def w_X12_one_L10 (st : zTs)  (P : zTs → Prop) : Prop := ((zgF st 100 0 9) ≤ 0 → w_X12_blanks st (fun (s9 : zTs) => (w_X12_isWord s9 20 (fun (r16 : Int32) (s16 : zTs) => ((r16 = 0 → w_X12_byteAt s16 (zgF s16 100 0 8) (fun (r53 : Int32) => ((r53 = 40 → w_X12_opens s16 1 (fun (s63 : zTs) => (False))) ∧ (¬ r53 = 40 → w_X12_one_L10_91 P zfu s16 (-1) (0))))) ∧ (¬ r16 = 0 → w_X12_opens s16 3 (fun (s24 : zTs) => (False)))))))) ∧ (¬ (zgF st 100 0 9) ≤ 0 → P st)
set_option maxHeartbeats 4000000 in
set_option maxRecDepth 100000 in
theorem c_X12_one_L10 {Z : zZ} {l : Launch} (hfl : l.stackTraces = false) {st : zTs}  {P : zTs → Prop} (h : w_X12_one_L10 st  P) : zN Z l yX12_one cX12_one 4 none ({ frames := 7, cells := 0, slots := 0, locals := 141 } : Room) (zh Z zm1 st) [.ref 100] (zWv Z zm1 P) := by
  unfold w_X12_one_L10 at h
  refine z_enterN (by decide) (Nat.le_of_ble_eq_true rfl) (lc0 := [some (.ref 100), none, none, none]) rfl ?_
  intro p e s m args below meth c ad0 C hr _
  have hn9 : True := trivial
  replace C : zC Z p s m args meth c cX12_one 4 RX12 := C
  refine z_aload_n C dX12_one_0 (i := 0) rfl rfl ?_
  refine t_get C dX12_one_1 fl_X12_239 (k := 100) (i := 0) (by decide) rfl (fg_100_9 _ _ _) ?_
  refine z_if_le C dX12_one_4 (tgt := 8) (by decide) (fun c4 => ?_) (fun c4 => ?_)
  · have h := h.1 c4
    refine z_aload_n C dX12_one_8 (i := 0) rfl rfl ?_
    refine t_callV C (rest := []) (c2 := 0) (s2 := 0) (kd := 100) (i := 0) [] dX12_one_9 lk_X12_242 li_X12_blanks le_X12_blanks (c_X12_blanks hfl h) rfl rfl (by decide) rfl ⟨_, rfl⟩ rfl ⟨Nat.le_of_ble_eq_true rfl, Nat.le_of_ble_eq_true rfl⟩ (Nat.le_of_ble_eq_true rfl) ⟨Nat.le_of_ble_eq_true rfl, Nat.le_of_ble_eq_true rfl, Nat.le_of_ble_eq_true rfl, Nat.le_of_ble_eq_true rfl⟩ (k_Wv fun s9 h => ?_)
    refine z_aload_n C dX12_one_12 (i := 0) rfl rfl ?_
    refine z_ldc_wS C dX12_one_13 (i := 20) (text := "not") (by decide) ?_
    refine t_callV C (rest := []) (c2 := 0) (s2 := 0) (kd := 100) (i := 0) [.ref (200 + 256 * 20)] dX12_one_16 lk_X12_255 li_X12_isWord le_X12_isWord (c_X12_isWord hfl h) rfl rfl (by decide) rfl ⟨_, rfl⟩ rfl ⟨Nat.le_of_ble_eq_true rfl, Nat.le_of_ble_eq_true rfl⟩ (Nat.le_of_ble_eq_true rfl) ⟨Nat.le_of_ble_eq_true rfl, Nat.le_of_ble_eq_true rfl, Nat.le_of_ble_eq_true rfl, Nat.le_of_ble_eq_true rfl⟩ (k_Wi fun r16 s16 h => ?_)
    refine z_if_eq C dX12_one_19 (tgt := 48) (by decide) (fun c19 => ?_) (fun c19 => ?_)
    · have h := h.1 c19
      refine z_aload_n C dX12_one_48 (i := 0) rfl rfl ?_
      refine z_aload_n C dX12_one_49 (i := 0) rfl rfl ?_
      refine t_get C dX12_one_50 fl_X12_232 (k := 100) (i := 0) (by decide) rfl (fg_100_8 _ _ _) ?_
      refine t_callV C (rest := []) (c2 := 0) (s2 := 0) (kd := 100) (i := 0) [.int (zgF s16 100 0 8)] dX12_one_53 lk_X12_235 li_X12_byteAt le_X12_byteAt (c_X12_byteAt hfl h) rfl rfl (by decide) rfl ⟨_, rfl⟩ rfl ⟨Nat.le_of_ble_eq_true rfl, Nat.le_of_ble_eq_true rfl⟩ (Nat.le_of_ble_eq_true rfl) ⟨Nat.le_of_ble_eq_true rfl, Nat.le_of_ble_eq_true rfl, Nat.le_of_ble_eq_true rfl, Nat.le_of_ble_eq_true rfl⟩ (k_Ri fun r53 h => ?_)
      refine z_bipush C dX12_one_56 (v := 40) (by decide) ?_
      refine z_icmp_ne C dX12_one_58 (tgt := 87) (by decide) (fun c58 => ?_) (fun c58 => ?_)
      · have h := h.2 c58
        refine z_iconst C dX12_one_87 (v := (-1)) (by decide) ?_
        refine z_istore_n C dX12_one_88 (i := 1) (lc' := [some (.ref 100), some (.int (-1)), none, none]) rfl (by decide) rfl ?_
        refine z_iconst C dX12_one_89 (v := 0) (by decide) ?_
        refine z_istore_n C dX12_one_90 (i := 2) (lc' := [some (.ref 100), some (.int (-1)), some (.int (0)), none]) rfl (by decide) rfl ?_
        exact t_drop [true, true, true, false] rfl (j_X12_one_L10_91 hfl C hr hn9  zfu s16 (-1) (0) h)
      · have h := h.1 c58
        refine z_aload_n C dX12_one_61 (i := 0) rfl rfl ?_
        refine z_iconst C dX12_one_62 (v := 1) (by decide) ?_
        refine t_callV C (rest := []) (c2 := 0) (s2 := 0) (kd := 100) (i := 0) [.int (1)] dX12_one_63 lk_X12_329 li_X12_opens le_X12_opens (c_X12_opens hfl h) rfl rfl (by decide) rfl ⟨_, rfl⟩ rfl ⟨Nat.le_of_ble_eq_true rfl, Nat.le_of_ble_eq_true rfl⟩ (Nat.le_of_ble_eq_true rfl) ⟨Nat.le_of_ble_eq_true rfl, Nat.le_of_ble_eq_true rfl, Nat.le_of_ble_eq_true rfl, Nat.le_of_ble_eq_true rfl⟩ (k_Wv fun s63 h => ?_)
        refine z_aload_n C dX12_one_66 (i := 0) rfl rfl ?_
        exact h.elim
    · have h := h.2 c19
      refine z_aload_n C dX12_one_22 (i := 0) rfl rfl ?_
      refine z_iconst C dX12_one_23 (v := 3) (by decide) ?_
      refine t_callV C (rest := []) (c2 := 0) (s2 := 0) (kd := 100) (i := 0) [.int (3)] dX12_one_24 lk_X12_329 li_X12_opens le_X12_opens (c_X12_opens hfl h) rfl rfl (by decide) rfl ⟨_, rfl⟩ rfl ⟨Nat.le_of_ble_eq_true rfl, Nat.le_of_ble_eq_true rfl⟩ (Nat.le_of_ble_eq_true rfl) ⟨Nat.le_of_ble_eq_true rfl, Nat.le_of_ble_eq_true rfl, Nat.le_of_ble_eq_true rfl, Nat.le_of_ble_eq_true rfl⟩ (k_Wv fun s24 h => ?_)
      refine z_aload_n C dX12_one_27 (i := 0) rfl rfl ?_
      exact h.elim
  · have h := h.2 c4
    exact z_vret C dX12_one_7 hr ⟨_, rfl, rfl, h⟩ (Nat.le_of_ble_eq_true rfl) (Nat.le_of_ble_eq_true rfl)
def w_X12_ands_L10_4 (P : zTs → Prop)  : Nat → zTs → Prop
  | 0, _ => False
  | n9 + 1, st => w_X12_eat st 19 (fun (r8 : Int32) (s8 : zTs) => ((r8 = 0 → P s8) ∧ (¬ r8 = 0 → w_X12_one_L10 s8 (fun (s15 : zTs) => (w_X12_emits s15 2 0 (fun (s21 : zTs) => ((w_X12_ands_L10_4 P n9) s21)))))))
set_option maxHeartbeats 4000000 in
set_option maxRecDepth 100000 in
theorem j_X12_ands_L10_4 {P : zTs → Prop}  (hfl : l.stackTraces = false) (C : zC Z p s m args meth c cX12_ands 1 RX12) (hr : meth.sig.returnType = none) (hn9 : True)  : ∀ (n9 : Nat) (st : zTs), w_X12_ands_L10_4 P n9 st → zG Z ad0 h0 p l e ({ frames := 8, cells := 0, slots := 0, locals := 164 } : Room) s m args below meth c (MQ below (zQ Z ad0 h0 (zWv Z zm1 P)) args s 0 0 (zA Z)) 0 0 (zh Z zm1 st) 1 4 [some (.ref 100)] [] := by
  intro n9
  induction n9 with
  | zero => intro st h; exact h.elim
  | succ n9 hK4 =>
    intro st h
    rw [w_X12_ands_L10_4] at h
    refine z_aload_n C dX12_ands_4 (i := 0) rfl rfl ?_
    refine z_ldc_wS C dX12_ands_5 (i := 19) (text := "and") (by decide) ?_
    refine t_callV C (rest := []) (c2 := 0) (s2 := 0) (kd := 100) (i := 0) [.ref (200 + 256 * 19)] dX12_ands_8 lk_X12_313 li_X12_eat le_X12_eat (c_X12_eat hfl h) rfl rfl (by decide) rfl ⟨_, rfl⟩ rfl ⟨Nat.le_of_ble_eq_true rfl, Nat.le_of_ble_eq_true rfl⟩ (Nat.le_of_ble_eq_true rfl) ⟨Nat.le_of_ble_eq_true rfl, Nat.le_of_ble_eq_true rfl, Nat.le_of_ble_eq_true rfl, Nat.le_of_ble_eq_true rfl⟩ (k_Wi fun r8 s8 h => ?_)
    refine z_if_eq C dX12_ands_11 (tgt := 27) (by decide) (fun c11 => ?_) (fun c11 => ?_)
    · have h := h.1 c11
      exact z_vret C dX12_ands_27 hr ⟨_, rfl, rfl, h⟩ (Nat.le_of_ble_eq_true rfl) (Nat.le_of_ble_eq_true rfl)
    · have h := h.2 c11
      refine z_aload_n C dX12_ands_14 (i := 0) rfl rfl ?_
      refine t_callV C (rest := []) (c2 := 0) (s2 := 0) (kd := 100) (i := 0) [] dX12_ands_15 lk_X12_319 li_X12_one le_X12_one (c_X12_one_L10 hfl h) rfl rfl (by decide) rfl ⟨_, rfl⟩ rfl ⟨Nat.le_of_ble_eq_true rfl, Nat.le_of_ble_eq_true rfl⟩ (Nat.le_of_ble_eq_true rfl) ⟨Nat.le_of_ble_eq_true rfl, Nat.le_of_ble_eq_true rfl, Nat.le_of_ble_eq_true rfl, Nat.le_of_ble_eq_true rfl⟩ (k_Wv fun s15 h => ?_)
      refine z_aload_n C dX12_ands_18 (i := 0) rfl rfl ?_
      refine z_iconst C dX12_ands_19 (v := 2) (by decide) ?_
      refine z_iconst C dX12_ands_20 (v := 0) (by decide) ?_
      refine t_callV C (rest := []) (c2 := 0) (s2 := 0) (kd := 100) (i := 0) [.int (2), .int (0)] dX12_ands_21 lk_X12_316 li_X12_emits le_X12_emits (c_X12_emits hfl h) rfl rfl (by decide) rfl ⟨_, rfl⟩ rfl ⟨Nat.le_of_ble_eq_true rfl, Nat.le_of_ble_eq_true rfl⟩ (Nat.le_of_ble_eq_true rfl) ⟨Nat.le_of_ble_eq_true rfl, Nat.le_of_ble_eq_true rfl, Nat.le_of_ble_eq_true rfl, Nat.le_of_ble_eq_true rfl⟩ (k_Wv fun s21 h => ?_)
      refine z_goto C dX12_ands_24 (tgt := 4) (by decide) ?_
      exact t_drop [true] rfl (hK4 s21 h)
def w_X12_ands_L10 (st : zTs)  (P : zTs → Prop) : Prop := w_X12_one_L10 st (fun (s1 : zTs) => (w_X12_ands_L10_4 P zfu s1))
set_option maxHeartbeats 4000000 in
set_option maxRecDepth 100000 in
theorem c_X12_ands_L10 {Z : zZ} {l : Launch} (hfl : l.stackTraces = false) {st : zTs}  {P : zTs → Prop} (h : w_X12_ands_L10 st  P) : zN Z l yX12_ands cX12_ands 1 none ({ frames := 8, cells := 0, slots := 0, locals := 164 } : Room) (zh Z zm1 st) [.ref 100] (zWv Z zm1 P) := by
  unfold w_X12_ands_L10 at h
  refine z_enterN (by decide) (Nat.le_of_ble_eq_true rfl) (lc0 := [some (.ref 100)]) rfl ?_
  intro p e s m args below meth c ad0 C hr _
  have hn9 : True := trivial
  replace C : zC Z p s m args meth c cX12_ands 1 RX12 := C
  refine z_aload_n C dX12_ands_0 (i := 0) rfl rfl ?_
  refine t_callV C (rest := []) (c2 := 0) (s2 := 0) (kd := 100) (i := 0) [] dX12_ands_1 lk_X12_319 li_X12_one le_X12_one (c_X12_one_L10 hfl h) rfl rfl (by decide) rfl ⟨_, rfl⟩ rfl ⟨Nat.le_of_ble_eq_true rfl, Nat.le_of_ble_eq_true rfl⟩ (Nat.le_of_ble_eq_true rfl) ⟨Nat.le_of_ble_eq_true rfl, Nat.le_of_ble_eq_true rfl, Nat.le_of_ble_eq_true rfl, Nat.le_of_ble_eq_true rfl⟩ (k_Wv fun s1 h => ?_)
  exact t_drop [true] rfl (j_X12_ands_L10_4 hfl C hr hn9  zfu s1 h)
def w_X12_ors_L10_4 (P : zTs → Prop)  : Nat → zTs → Prop
  | 0, _ => False
  | n9 + 1, st => w_X12_eat st 18 (fun (r8 : Int32) (s8 : zTs) => ((r8 = 0 → P s8) ∧ (¬ r8 = 0 → w_X12_ands_L10 s8 (fun (s15 : zTs) => (w_X12_emits s15 3 0 (fun (s21 : zTs) => ((w_X12_ors_L10_4 P n9) s21)))))))
set_option maxHeartbeats 4000000 in
set_option maxRecDepth 100000 in
theorem j_X12_ors_L10_4 {P : zTs → Prop}  (hfl : l.stackTraces = false) (C : zC Z p s m args meth c cX12_ors 1 RX12) (hr : meth.sig.returnType = none) (hn9 : True)  : ∀ (n9 : Nat) (st : zTs), w_X12_ors_L10_4 P n9 st → zG Z ad0 h0 p l e ({ frames := 9, cells := 0, slots := 0, locals := 184 } : Room) s m args below meth c (MQ below (zQ Z ad0 h0 (zWv Z zm1 P)) args s 0 0 (zA Z)) 0 0 (zh Z zm1 st) 1 4 [some (.ref 100)] [] := by
  intro n9
  induction n9 with
  | zero => intro st h; exact h.elim
  | succ n9 hK4 =>
    intro st h
    rw [w_X12_ors_L10_4] at h
    refine z_aload_n C dX12_ors_4 (i := 0) rfl rfl ?_
    refine z_ldc_wS C dX12_ors_5 (i := 18) (text := "or") (by decide) ?_
    refine t_callV C (rest := []) (c2 := 0) (s2 := 0) (kd := 100) (i := 0) [.ref (200 + 256 * 18)] dX12_ors_8 lk_X12_313 li_X12_eat le_X12_eat (c_X12_eat hfl h) rfl rfl (by decide) rfl ⟨_, rfl⟩ rfl ⟨Nat.le_of_ble_eq_true rfl, Nat.le_of_ble_eq_true rfl⟩ (Nat.le_of_ble_eq_true rfl) ⟨Nat.le_of_ble_eq_true rfl, Nat.le_of_ble_eq_true rfl, Nat.le_of_ble_eq_true rfl, Nat.le_of_ble_eq_true rfl⟩ (k_Wi fun r8 s8 h => ?_)
    refine z_if_eq C dX12_ors_11 (tgt := 27) (by decide) (fun c11 => ?_) (fun c11 => ?_)
    · have h := h.1 c11
      exact z_vret C dX12_ors_27 hr ⟨_, rfl, rfl, h⟩ (Nat.le_of_ble_eq_true rfl) (Nat.le_of_ble_eq_true rfl)
    · have h := h.2 c11
      refine z_aload_n C dX12_ors_14 (i := 0) rfl rfl ?_
      refine t_callV C (rest := []) (c2 := 0) (s2 := 0) (kd := 100) (i := 0) [] dX12_ors_15 lk_X12_308 li_X12_ands le_X12_ands (c_X12_ands_L10 hfl h) rfl rfl (by decide) rfl ⟨_, rfl⟩ rfl ⟨Nat.le_of_ble_eq_true rfl, Nat.le_of_ble_eq_true rfl⟩ (Nat.le_of_ble_eq_true rfl) ⟨Nat.le_of_ble_eq_true rfl, Nat.le_of_ble_eq_true rfl, Nat.le_of_ble_eq_true rfl, Nat.le_of_ble_eq_true rfl⟩ (k_Wv fun s15 h => ?_)
      refine z_aload_n C dX12_ors_18 (i := 0) rfl rfl ?_
      refine z_iconst C dX12_ors_19 (v := 3) (by decide) ?_
      refine z_iconst C dX12_ors_20 (v := 0) (by decide) ?_
      refine t_callV C (rest := []) (c2 := 0) (s2 := 0) (kd := 100) (i := 0) [.int (3), .int (0)] dX12_ors_21 lk_X12_316 li_X12_emits le_X12_emits (c_X12_emits hfl h) rfl rfl (by decide) rfl ⟨_, rfl⟩ rfl ⟨Nat.le_of_ble_eq_true rfl, Nat.le_of_ble_eq_true rfl⟩ (Nat.le_of_ble_eq_true rfl) ⟨Nat.le_of_ble_eq_true rfl, Nat.le_of_ble_eq_true rfl, Nat.le_of_ble_eq_true rfl, Nat.le_of_ble_eq_true rfl⟩ (k_Wv fun s21 h => ?_)
      refine z_goto C dX12_ors_24 (tgt := 4) (by decide) ?_
      exact t_drop [true] rfl (hK4 s21 h)
def w_X12_ors_L10 (st : zTs)  (P : zTs → Prop) : Prop := w_X12_ands_L10 st (fun (s1 : zTs) => (w_X12_ors_L10_4 P zfu s1))
set_option maxHeartbeats 4000000 in
set_option maxRecDepth 100000 in
theorem c_X12_ors_L10 {Z : zZ} {l : Launch} (hfl : l.stackTraces = false) {st : zTs}  {P : zTs → Prop} (h : w_X12_ors_L10 st  P) : zN Z l yX12_ors cX12_ors 1 none ({ frames := 9, cells := 0, slots := 0, locals := 184 } : Room) (zh Z zm1 st) [.ref 100] (zWv Z zm1 P) := by
  unfold w_X12_ors_L10 at h
  refine z_enterN (by decide) (Nat.le_of_ble_eq_true rfl) (lc0 := [some (.ref 100)]) rfl ?_
  intro p e s m args below meth c ad0 C hr _
  have hn9 : True := trivial
  replace C : zC Z p s m args meth c cX12_ors 1 RX12 := C
  refine z_aload_n C dX12_ors_0 (i := 0) rfl rfl ?_
  refine t_callV C (rest := []) (c2 := 0) (s2 := 0) (kd := 100) (i := 0) [] dX12_ors_1 lk_X12_308 li_X12_ands le_X12_ands (c_X12_ands_L10 hfl h) rfl rfl (by decide) rfl ⟨_, rfl⟩ rfl ⟨Nat.le_of_ble_eq_true rfl, Nat.le_of_ble_eq_true rfl⟩ (Nat.le_of_ble_eq_true rfl) ⟨Nat.le_of_ble_eq_true rfl, Nat.le_of_ble_eq_true rfl, Nat.le_of_ble_eq_true rfl, Nat.le_of_ble_eq_true rfl⟩ (k_Wv fun s1 h => ?_)
  exact t_drop [true] rfl (j_X12_ors_L10_4 hfl C hr hn9  zfu s1 h)
def w_X12_one_L9_189 (P : zTs → Prop)  (st : zTs) (a1 : Int32) (a3 : Int32) (b0 : Int32) : Prop := w_X12_emits st b0 ((3 * a3) + a1) (fun (s194 : zTs) => (P s194))
set_option maxHeartbeats 4000000 in
set_option maxRecDepth 100000 in
theorem j_X12_one_L9_189 {P : zTs → Prop}  (hfl : l.stackTraces = false) (C : zC Z p s m args meth c cX12_one 4 RX12) (hr : meth.sig.returnType = none) (hn9 : True)  (st : zTs) (a1 : Int32) (a3 : Int32) (b0 : Int32) (h : w_X12_one_L9_189 P st a1 a3 b0) : zG Z ad0 h0 p l e ({ frames := 10, cells := 0, slots := 0, locals := 204 } : Room) s m args below meth c (MQ below (zQ Z ad0 h0 (zWv Z zm1 P)) args s 0 0 (zA Z)) 0 0 (zh Z zm1 st) 4 189 [none, some (.int (a1)), none, some (.int (a3))] [.int (b0), .ref 100] := by
  unfold w_X12_one_L9_189 at h
  refine z_iconst C dX12_one_189 (v := 3) (by decide) ?_
  refine z_iload_n C dX12_one_190 (i := 3) rfl rfl ?_
  refine z_imul C dX12_one_191 ?_
  refine z_iload_n C dX12_one_192 (i := 1) rfl rfl ?_
  refine z_iadd C dX12_one_193 ?_
  refine t_callV C (rest := []) (c2 := 0) (s2 := 0) (kd := 100) (i := 0) [.int (b0), .int ((3 * a3) + a1)] dX12_one_194 lk_X12_316 li_X12_emits le_X12_emits (c_X12_emits hfl h) rfl rfl (by decide) rfl ⟨_, rfl⟩ rfl ⟨Nat.le_of_ble_eq_true rfl, Nat.le_of_ble_eq_true rfl⟩ (Nat.le_of_ble_eq_true rfl) ⟨Nat.le_of_ble_eq_true rfl, Nat.le_of_ble_eq_true rfl, Nat.le_of_ble_eq_true rfl, Nat.le_of_ble_eq_true rfl⟩ (k_Wv fun s194 h => ?_)
  exact z_vret C dX12_one_197 hr ⟨_, rfl, rfl, h⟩ (Nat.le_of_ble_eq_true rfl) (Nat.le_of_ble_eq_true rfl)
def w_X12_one_L9_158 (P : zTs → Prop)  (st : zTs) (a1 : Int32) (a2 : Int32) : Prop := ∀ s165 : zTs, s165 = zuF st 100 0 8 ((zgF st 100 0 8) + 1) → (w_X12_number s165 0 9999 (fun (r173 : Int32) (s173 : zTs) => ((a2 = 60 → w_X12_one_L9_189 P s173 a1 r173 (4)) ∧ (¬ a2 = 60 → w_X12_one_L9_189 P s173 a1 r173 (5)))))
set_option maxHeartbeats 4000000 in
set_option maxRecDepth 100000 in
theorem j_X12_one_L9_158 {P : zTs → Prop}  (hfl : l.stackTraces = false) (C : zC Z p s m args meth c cX12_one 4 RX12) (hr : meth.sig.returnType = none) (hn9 : True)  (st : zTs) (a1 : Int32) (a2 : Int32) (h : w_X12_one_L9_158 P st a1 a2) : zG Z ad0 h0 p l e ({ frames := 10, cells := 0, slots := 0, locals := 204 } : Room) s m args below meth c (MQ below (zQ Z ad0 h0 (zWv Z zm1 P)) args s 0 0 (zA Z)) 0 0 (zh Z zm1 st) 4 158 [some (.ref 100), some (.int (a1)), some (.int (a2)), none] [] := by
  unfold w_X12_one_L9_158 at h
  refine z_aload_n C dX12_one_158 (i := 0) rfl rfl ?_
  refine z_dup C dX12_one_159 rfl ?_
  refine t_get C dX12_one_160 fl_X12_232 (k := 100) (i := 0) (by decide) rfl (fg_100_8 _ _ _) ?_
  refine z_iconst C dX12_one_163 (v := 1) (by decide) ?_
  refine z_iadd C dX12_one_164 ?_
  refine t_put C dX12_one_165 fq_X12_232 (Or.inl rfl) (k := 100) (i := 0) (by decide) rfl ⟨rfl, rfl⟩ (fp_100_8 _ _ _ _ _) ?_
  refine t_tops (fun s165 es165 => ?_)
  have h := h s165 es165
  refine z_aload_n C dX12_one_168 (i := 0) rfl rfl ?_
  refine z_iconst C dX12_one_169 (v := 0) (by decide) ?_
  refine z_sipush C dX12_one_170 (v := 9999) (by decide) ?_
  refine t_callV C (rest := []) (c2 := 0) (s2 := 0) (kd := 100) (i := 0) [.int (0), .int (9999)] dX12_one_173 lk_X12_342 li_X12_number le_X12_number (c_X12_number hfl h) rfl rfl (by decide) rfl ⟨_, rfl⟩ rfl ⟨Nat.le_of_ble_eq_true rfl, Nat.le_of_ble_eq_true rfl⟩ (Nat.le_of_ble_eq_true rfl) ⟨Nat.le_of_ble_eq_true rfl, Nat.le_of_ble_eq_true rfl, Nat.le_of_ble_eq_true rfl, Nat.le_of_ble_eq_true rfl⟩ (k_Wi fun r173 s173 h => ?_)
  refine z_istore_n C dX12_one_176 (i := 3) (lc' := [some (.ref 100), some (.int (a1)), some (.int (a2)), some (.int (r173))]) rfl (by decide) rfl ?_
  refine z_aload_n C dX12_one_177 (i := 0) rfl rfl ?_
  refine z_iload_n C dX12_one_178 (i := 2) rfl rfl ?_
  refine z_bipush C dX12_one_179 (v := 60) (by decide) ?_
  refine z_icmp_ne C dX12_one_181 (tgt := 188) (by decide) (fun c181 => ?_) (fun c181 => ?_)
  · have h := h.2 c181
    refine z_iconst C dX12_one_188 (v := 5) (by decide) ?_
    exact t_drop [false, true, false, true] rfl (j_X12_one_L9_189 hfl C hr hn9  s173 a1 r173 (5) h)
  · have h := h.1 c181
    refine z_iconst C dX12_one_184 (v := 4) (by decide) ?_
    refine z_goto C dX12_one_185 (tgt := 189) (by decide) ?_
    exact t_drop [false, true, false, true] rfl (j_X12_one_L9_189 hfl C hr hn9  s173 a1 r173 (4) h)
def w_X12_one_L9_148 (P : zTs → Prop)  (st : zTs) : Prop := w_X12_wrong st 1 (zgF st 100 0 8) (fun (s154 : zTs) => (P s154))
set_option maxHeartbeats 4000000 in
set_option maxRecDepth 100000 in
theorem j_X12_one_L9_148 {P : zTs → Prop}  (hfl : l.stackTraces = false) (C : zC Z p s m args meth c cX12_one 4 RX12) (hr : meth.sig.returnType = none) (hn9 : True)  (st : zTs) (h : w_X12_one_L9_148 P st) : zG Z ad0 h0 p l e ({ frames := 10, cells := 0, slots := 0, locals := 204 } : Room) s m args below meth c (MQ below (zQ Z ad0 h0 (zWv Z zm1 P)) args s 0 0 (zA Z)) 0 0 (zh Z zm1 st) 4 148 [some (.ref 100), none, none, none] [] := by
  unfold w_X12_one_L9_148 at h
  refine z_aload_n C dX12_one_148 (i := 0) rfl rfl ?_
  refine z_iconst C dX12_one_149 (v := 1) (by decide) ?_
  refine z_aload_n C dX12_one_150 (i := 0) rfl rfl ?_
  refine t_get C dX12_one_151 fl_X12_232 (k := 100) (i := 0) (by decide) rfl (fg_100_8 _ _ _) ?_
  refine t_callV C (rest := []) (c2 := 0) (s2 := 0) (kd := 100) (i := 0) [.int (1), .int (zgF st 100 0 8)] dX12_one_154 lk_X12_300 li_X12_wrong le_X12_wrong (c_X12_wrong hfl h) rfl rfl (by decide) rfl ⟨_, rfl⟩ rfl ⟨Nat.le_of_ble_eq_true rfl, Nat.le_of_ble_eq_true rfl⟩ (Nat.le_of_ble_eq_true rfl) ⟨Nat.le_of_ble_eq_true rfl, Nat.le_of_ble_eq_true rfl, Nat.le_of_ble_eq_true rfl, Nat.le_of_ble_eq_true rfl⟩ (k_Wv fun s154 h => ?_)
  exact z_vret C dX12_one_157 hr ⟨_, rfl, rfl, h⟩ (Nat.le_of_ble_eq_true rfl) (Nat.le_of_ble_eq_true rfl)
def w_X12_one_L9_119 (P : zTs → Prop)  (st : zTs) (a1 : Int32) : Prop := w_X12_blanks st (fun (s120 : zTs) => (w_X12_byteAt s120 (zgF s120 100 0 8) (fun (r128 : Int32) => ((a1 < 0 → w_X12_one_L9_148 P s120) ∧ (¬ a1 < 0 → (r128 = 60 → w_X12_one_L9_158 P s120 a1 r128) ∧ (¬ r128 = 60 → (r128 = 62 → w_X12_one_L9_158 P s120 a1 r128) ∧ (¬ r128 = 62 → w_X12_one_L9_148 P s120)))))))
set_option maxHeartbeats 4000000 in
set_option maxRecDepth 100000 in
theorem j_X12_one_L9_119 {P : zTs → Prop}  (hfl : l.stackTraces = false) (C : zC Z p s m args meth c cX12_one 4 RX12) (hr : meth.sig.returnType = none) (hn9 : True)  (st : zTs) (a1 : Int32) (h : w_X12_one_L9_119 P st a1) : zG Z ad0 h0 p l e ({ frames := 10, cells := 0, slots := 0, locals := 204 } : Room) s m args below meth c (MQ below (zQ Z ad0 h0 (zWv Z zm1 P)) args s 0 0 (zA Z)) 0 0 (zh Z zm1 st) 4 119 [some (.ref 100), some (.int (a1)), none, none] [] := by
  unfold w_X12_one_L9_119 at h
  refine z_aload_n C dX12_one_119 (i := 0) rfl rfl ?_
  refine t_callV C (rest := []) (c2 := 0) (s2 := 0) (kd := 100) (i := 0) [] dX12_one_120 lk_X12_242 li_X12_blanks le_X12_blanks (c_X12_blanks hfl h) rfl rfl (by decide) rfl ⟨_, rfl⟩ rfl ⟨Nat.le_of_ble_eq_true rfl, Nat.le_of_ble_eq_true rfl⟩ (Nat.le_of_ble_eq_true rfl) ⟨Nat.le_of_ble_eq_true rfl, Nat.le_of_ble_eq_true rfl, Nat.le_of_ble_eq_true rfl, Nat.le_of_ble_eq_true rfl⟩ (k_Wv fun s120 h => ?_)
  refine z_aload_n C dX12_one_123 (i := 0) rfl rfl ?_
  refine z_aload_n C dX12_one_124 (i := 0) rfl rfl ?_
  refine t_get C dX12_one_125 fl_X12_232 (k := 100) (i := 0) (by decide) rfl (fg_100_8 _ _ _) ?_
  refine t_callV C (rest := []) (c2 := 0) (s2 := 0) (kd := 100) (i := 0) [.int (zgF s120 100 0 8)] dX12_one_128 lk_X12_235 li_X12_byteAt le_X12_byteAt (c_X12_byteAt hfl h) rfl rfl (by decide) rfl ⟨_, rfl⟩ rfl ⟨Nat.le_of_ble_eq_true rfl, Nat.le_of_ble_eq_true rfl⟩ (Nat.le_of_ble_eq_true rfl) ⟨Nat.le_of_ble_eq_true rfl, Nat.le_of_ble_eq_true rfl, Nat.le_of_ble_eq_true rfl, Nat.le_of_ble_eq_true rfl⟩ (k_Ri fun r128 h => ?_)
  refine z_istore_n C dX12_one_131 (i := 2) (lc' := [some (.ref 100), some (.int (a1)), some (.int (r128)), none]) rfl (by decide) rfl ?_
  refine z_iload_n C dX12_one_132 (i := 1) rfl rfl ?_
  refine z_if_lt C dX12_one_133 (tgt := 148) (by decide) (fun c133 => ?_) (fun c133 => ?_)
  · have h := h.1 c133
    exact t_drop [true, false, false, false] rfl (j_X12_one_L9_148 hfl C hr hn9  s120 h)
  · have h := h.2 c133
    refine z_iload_n C dX12_one_136 (i := 2) rfl rfl ?_
    refine z_bipush C dX12_one_137 (v := 60) (by decide) ?_
    refine z_icmp_eq C dX12_one_139 (tgt := 158) (by decide) (fun c139 => ?_) (fun c139 => ?_)
    · have h := h.1 c139
      exact t_drop [true, true, true, false] rfl (j_X12_one_L9_158 hfl C hr hn9  s120 a1 r128 h)
    · have h := h.2 c139
      refine z_iload_n C dX12_one_142 (i := 2) rfl rfl ?_
      refine z_bipush C dX12_one_143 (v := 62) (by decide) ?_
      refine z_icmp_eq C dX12_one_145 (tgt := 158) (by decide) (fun c145 => ?_) (fun c145 => ?_)
      · have h := h.1 c145
        exact t_drop [true, true, true, false] rfl (j_X12_one_L9_158 hfl C hr hn9  s120 a1 r128 h)
      · have h := h.2 c145
        exact t_drop [true, false, false, false] rfl (j_X12_one_L9_148 hfl C hr hn9  s120 h)
def w_X12_one_L9_113 (P : zTs → Prop) (K91 : zTs → Int32 → Int32 → Prop) (st : zTs) (a1 : Int32) (a2 : Int32) : Prop := ∀ x113 : Int32, x113 = a2 + 1 → (K91 st a1 x113)
set_option maxHeartbeats 4000000 in
set_option maxRecDepth 100000 in
theorem j_X12_one_L9_113 {P : zTs → Prop} {K91 : zTs → Int32 → Int32 → Prop} (hfl : l.stackTraces = false) (C : zC Z p s m args meth c cX12_one 4 RX12) (hr : meth.sig.returnType = none) (hn9 : True) (hK91 : ∀ (st : zTs) (a1 : Int32) (a2 : Int32), K91 st a1 a2 → zG Z ad0 h0 p l e ({ frames := 10, cells := 0, slots := 0, locals := 204 } : Room) s m args below meth c (MQ below (zQ Z ad0 h0 (zWv Z zm1 P)) args s 0 0 (zA Z)) 0 0 (zh Z zm1 st) 4 91 [some (.ref 100), some (.int (a1)), some (.int (a2)), none] []) (st : zTs) (a1 : Int32) (a2 : Int32) (h : w_X12_one_L9_113 P K91 st a1 a2) : zG Z ad0 h0 p l e ({ frames := 10, cells := 0, slots := 0, locals := 204 } : Room) s m args below meth c (MQ below (zQ Z ad0 h0 (zWv Z zm1 P)) args s 0 0 (zA Z)) 0 0 (zh Z zm1 st) 4 113 [some (.ref 100), some (.int (a1)), some (.int (a2)), none] [] := by
  unfold w_X12_one_L9_113 at h
  obtain ⟨x113, ex113⟩ : ∃ z : Int32, z = a2 + 1 := ⟨_, rfl⟩
  have h := h x113 ex113
  refine z_iinc C dX12_one_113 (v := x113) (lc' := [some (.ref 100), some (.int (a1)), some (.int (x113)), none]) rfl (by decide) (by rw [ex113]; rfl) rfl ?_
  refine z_goto C dX12_one_116 (tgt := 91) (by decide) ?_
  exact t_drop [true, true, true, false] rfl (hK91 st a1 x113 h)
def w_X12_one_L9_91 (P : zTs → Prop)  : Nat → zTs → Int32 → Int32 → Prop
  | 0, _, _, _ => False
  | n9 + 1, st, a1, a2 => (3 ≤ a2 → w_X12_one_L9_119 P st a1) ∧ (¬ 3 ≤ a2 → (0 ≤ a1 → w_X12_one_L9_119 P st a1) ∧ (¬ 0 ≤ a1 → w_X12_measureOf st a2 (fun (r102 : Nat) => (w_X12_eat st r102 (fun (r105 : Int32) (s105 : zTs) => ((r105 = 0 → w_X12_one_L9_113 P (w_X12_one_L9_91 P n9) s105 a1 a2) ∧ (¬ r105 = 0 → w_X12_one_L9_113 P (w_X12_one_L9_91 P n9) s105 a2 a2)))))))
set_option maxHeartbeats 4000000 in
set_option maxRecDepth 100000 in
theorem j_X12_one_L9_91 {P : zTs → Prop}  (hfl : l.stackTraces = false) (C : zC Z p s m args meth c cX12_one 4 RX12) (hr : meth.sig.returnType = none) (hn9 : True)  : ∀ (n9 : Nat) (st : zTs) (a1 : Int32) (a2 : Int32), w_X12_one_L9_91 P n9 st a1 a2 → zG Z ad0 h0 p l e ({ frames := 10, cells := 0, slots := 0, locals := 204 } : Room) s m args below meth c (MQ below (zQ Z ad0 h0 (zWv Z zm1 P)) args s 0 0 (zA Z)) 0 0 (zh Z zm1 st) 4 91 [some (.ref 100), some (.int (a1)), some (.int (a2)), none] [] := by
  intro n9
  induction n9 with
  | zero => intro st a1 a2 h; exact h.elim
  | succ n9 hK91 =>
    intro st a1 a2 h
    rw [w_X12_one_L9_91] at h
    refine z_iload_n C dX12_one_91 (i := 2) rfl rfl ?_
    refine z_iconst C dX12_one_92 (v := 3) (by decide) ?_
    refine z_icmp_ge C dX12_one_93 (tgt := 119) (by decide) (fun c93 => ?_) (fun c93 => ?_)
    · have h := h.1 c93
      exact t_drop [true, true, false, false] rfl (j_X12_one_L9_119 hfl C hr hn9  st a1 h)
    · have h := h.2 c93
      refine z_iload_n C dX12_one_96 (i := 1) rfl rfl ?_
      refine z_if_ge C dX12_one_97 (tgt := 119) (by decide) (fun c97 => ?_) (fun c97 => ?_)
      · have h := h.1 c97
        exact t_drop [true, true, false, false] rfl (j_X12_one_L9_119 hfl C hr hn9  st a1 h)
      · have h := h.2 c97
        refine z_aload_n C dX12_one_100 (i := 0) rfl rfl ?_
        refine z_iload_n C dX12_one_101 (i := 2) rfl rfl ?_
        refine t_callS C (rest := [.ref 100]) (c2 := 0) (s2 := 0) [.int (a2)] dX12_one_102 lk_X12_339 ls_X12_measureOf (c_X12_measureOf hfl h) rfl rfl ⟨Nat.le_of_ble_eq_true rfl, Nat.le_of_ble_eq_true rfl⟩ (Nat.le_of_ble_eq_true rfl) ⟨Nat.le_of_ble_eq_true rfl, Nat.le_of_ble_eq_true rfl, Nat.le_of_ble_eq_true rfl, Nat.le_of_ble_eq_true rfl⟩ (k_Rr fun r102 h => ?_)
        refine t_callV C (rest := []) (c2 := 0) (s2 := 0) (kd := 100) (i := 0) [.ref (200 + 256 * r102)] dX12_one_105 lk_X12_313 li_X12_eat le_X12_eat (c_X12_eat hfl h) rfl rfl (by decide) rfl ⟨_, rfl⟩ rfl ⟨Nat.le_of_ble_eq_true rfl, Nat.le_of_ble_eq_true rfl⟩ (Nat.le_of_ble_eq_true rfl) ⟨Nat.le_of_ble_eq_true rfl, Nat.le_of_ble_eq_true rfl, Nat.le_of_ble_eq_true rfl, Nat.le_of_ble_eq_true rfl⟩ (k_Wi fun r105 s105 h => ?_)
        refine z_if_eq C dX12_one_108 (tgt := 113) (by decide) (fun c108 => ?_) (fun c108 => ?_)
        · have h := h.1 c108
          exact t_drop [true, true, true, false] rfl (j_X12_one_L9_113 hfl C hr hn9 hK91 s105 a1 a2 h)
        · have h := h.2 c108
          refine z_iload_n C dX12_one_111 (i := 2) rfl rfl ?_
          refine z_istore_n C dX12_one_112 (i := 1) (lc' := [some (.ref 100), some (.int (a2)), some (.int (a2)), none]) rfl (by decide) rfl ?_
          exact t_drop [true, true, true, false] rfl (j_X12_one_L9_113 hfl C hr hn9 hK91 s105 a2 a2 h)
def w_X12_one_L9 (st : zTs)  (P : zTs → Prop) : Prop := ((zgF st 100 0 9) ≤ 0 → w_X12_blanks st (fun (s9 : zTs) => (w_X12_isWord s9 20 (fun (r16 : Int32) (s16 : zTs) => ((r16 = 0 → w_X12_byteAt s16 (zgF s16 100 0 8) (fun (r53 : Int32) => ((r53 = 40 → w_X12_opens s16 1 (fun (s63 : zTs) => (w_X12_ors_L10 s63 (fun (s67 : zTs) => (w_X12_sign s67 41 (fun (s73 : zTs) => (∀ s83 : zTs, s83 = zuF s73 100 0 12 ((zgF s73 100 0 12) - 1) → (P s83)))))))) ∧ (¬ r53 = 40 → w_X12_one_L9_91 P zfu s16 (-1) (0))))) ∧ (¬ r16 = 0 → w_X12_opens s16 3 (fun (s24 : zTs) => (w_X12_one_L10 s24 (fun (s28 : zTs) => (∀ s38 : zTs, s38 = zuF s28 100 0 12 ((zgF s28 100 0 12) - 1) → (w_X12_emits s38 1 0 (fun (s44 : zTs) => (P s44))))))))))))) ∧ (¬ (zgF st 100 0 9) ≤ 0 → P st)
set_option maxHeartbeats 4000000 in
set_option maxRecDepth 100000 in
theorem c_X12_one_L9 {Z : zZ} {l : Launch} (hfl : l.stackTraces = false) {st : zTs}  {P : zTs → Prop} (h : w_X12_one_L9 st  P) : zN Z l yX12_one cX12_one 4 none ({ frames := 10, cells := 0, slots := 0, locals := 204 } : Room) (zh Z zm1 st) [.ref 100] (zWv Z zm1 P) := by
  unfold w_X12_one_L9 at h
  refine z_enterN (by decide) (Nat.le_of_ble_eq_true rfl) (lc0 := [some (.ref 100), none, none, none]) rfl ?_
  intro p e s m args below meth c ad0 C hr _
  have hn9 : True := trivial
  replace C : zC Z p s m args meth c cX12_one 4 RX12 := C
  refine z_aload_n C dX12_one_0 (i := 0) rfl rfl ?_
  refine t_get C dX12_one_1 fl_X12_239 (k := 100) (i := 0) (by decide) rfl (fg_100_9 _ _ _) ?_
  refine z_if_le C dX12_one_4 (tgt := 8) (by decide) (fun c4 => ?_) (fun c4 => ?_)
  · have h := h.1 c4
    refine z_aload_n C dX12_one_8 (i := 0) rfl rfl ?_
    refine t_callV C (rest := []) (c2 := 0) (s2 := 0) (kd := 100) (i := 0) [] dX12_one_9 lk_X12_242 li_X12_blanks le_X12_blanks (c_X12_blanks hfl h) rfl rfl (by decide) rfl ⟨_, rfl⟩ rfl ⟨Nat.le_of_ble_eq_true rfl, Nat.le_of_ble_eq_true rfl⟩ (Nat.le_of_ble_eq_true rfl) ⟨Nat.le_of_ble_eq_true rfl, Nat.le_of_ble_eq_true rfl, Nat.le_of_ble_eq_true rfl, Nat.le_of_ble_eq_true rfl⟩ (k_Wv fun s9 h => ?_)
    refine z_aload_n C dX12_one_12 (i := 0) rfl rfl ?_
    refine z_ldc_wS C dX12_one_13 (i := 20) (text := "not") (by decide) ?_
    refine t_callV C (rest := []) (c2 := 0) (s2 := 0) (kd := 100) (i := 0) [.ref (200 + 256 * 20)] dX12_one_16 lk_X12_255 li_X12_isWord le_X12_isWord (c_X12_isWord hfl h) rfl rfl (by decide) rfl ⟨_, rfl⟩ rfl ⟨Nat.le_of_ble_eq_true rfl, Nat.le_of_ble_eq_true rfl⟩ (Nat.le_of_ble_eq_true rfl) ⟨Nat.le_of_ble_eq_true rfl, Nat.le_of_ble_eq_true rfl, Nat.le_of_ble_eq_true rfl, Nat.le_of_ble_eq_true rfl⟩ (k_Wi fun r16 s16 h => ?_)
    refine z_if_eq C dX12_one_19 (tgt := 48) (by decide) (fun c19 => ?_) (fun c19 => ?_)
    · have h := h.1 c19
      refine z_aload_n C dX12_one_48 (i := 0) rfl rfl ?_
      refine z_aload_n C dX12_one_49 (i := 0) rfl rfl ?_
      refine t_get C dX12_one_50 fl_X12_232 (k := 100) (i := 0) (by decide) rfl (fg_100_8 _ _ _) ?_
      refine t_callV C (rest := []) (c2 := 0) (s2 := 0) (kd := 100) (i := 0) [.int (zgF s16 100 0 8)] dX12_one_53 lk_X12_235 li_X12_byteAt le_X12_byteAt (c_X12_byteAt hfl h) rfl rfl (by decide) rfl ⟨_, rfl⟩ rfl ⟨Nat.le_of_ble_eq_true rfl, Nat.le_of_ble_eq_true rfl⟩ (Nat.le_of_ble_eq_true rfl) ⟨Nat.le_of_ble_eq_true rfl, Nat.le_of_ble_eq_true rfl, Nat.le_of_ble_eq_true rfl, Nat.le_of_ble_eq_true rfl⟩ (k_Ri fun r53 h => ?_)
      refine z_bipush C dX12_one_56 (v := 40) (by decide) ?_
      refine z_icmp_ne C dX12_one_58 (tgt := 87) (by decide) (fun c58 => ?_) (fun c58 => ?_)
      · have h := h.2 c58
        refine z_iconst C dX12_one_87 (v := (-1)) (by decide) ?_
        refine z_istore_n C dX12_one_88 (i := 1) (lc' := [some (.ref 100), some (.int (-1)), none, none]) rfl (by decide) rfl ?_
        refine z_iconst C dX12_one_89 (v := 0) (by decide) ?_
        refine z_istore_n C dX12_one_90 (i := 2) (lc' := [some (.ref 100), some (.int (-1)), some (.int (0)), none]) rfl (by decide) rfl ?_
        exact t_drop [true, true, true, false] rfl (j_X12_one_L9_91 hfl C hr hn9  zfu s16 (-1) (0) h)
      · have h := h.1 c58
        refine z_aload_n C dX12_one_61 (i := 0) rfl rfl ?_
        refine z_iconst C dX12_one_62 (v := 1) (by decide) ?_
        refine t_callV C (rest := []) (c2 := 0) (s2 := 0) (kd := 100) (i := 0) [.int (1)] dX12_one_63 lk_X12_329 li_X12_opens le_X12_opens (c_X12_opens hfl h) rfl rfl (by decide) rfl ⟨_, rfl⟩ rfl ⟨Nat.le_of_ble_eq_true rfl, Nat.le_of_ble_eq_true rfl⟩ (Nat.le_of_ble_eq_true rfl) ⟨Nat.le_of_ble_eq_true rfl, Nat.le_of_ble_eq_true rfl, Nat.le_of_ble_eq_true rfl, Nat.le_of_ble_eq_true rfl⟩ (k_Wv fun s63 h => ?_)
        refine z_aload_n C dX12_one_66 (i := 0) rfl rfl ?_
        refine t_callV C (rest := []) (c2 := 0) (s2 := 0) (kd := 100) (i := 0) [] dX12_one_67 lk_X12_333 li_X12_ors le_X12_ors (c_X12_ors_L10 hfl h) rfl rfl (by decide) rfl ⟨_, rfl⟩ rfl ⟨Nat.le_of_ble_eq_true rfl, Nat.le_of_ble_eq_true rfl⟩ (Nat.le_of_ble_eq_true rfl) ⟨Nat.le_of_ble_eq_true rfl, Nat.le_of_ble_eq_true rfl, Nat.le_of_ble_eq_true rfl, Nat.le_of_ble_eq_true rfl⟩ (k_Wv fun s67 h => ?_)
        refine z_aload_n C dX12_one_70 (i := 0) rfl rfl ?_
        refine z_bipush C dX12_one_71 (v := 41) (by decide) ?_
        refine t_callV C (rest := []) (c2 := 0) (s2 := 0) (kd := 100) (i := 0) [.int (41)] dX12_one_73 lk_X12_336 li_X12_sign le_X12_sign (c_X12_sign hfl h) rfl rfl (by decide) rfl ⟨_, rfl⟩ rfl ⟨Nat.le_of_ble_eq_true rfl, Nat.le_of_ble_eq_true rfl⟩ (Nat.le_of_ble_eq_true rfl) ⟨Nat.le_of_ble_eq_true rfl, Nat.le_of_ble_eq_true rfl, Nat.le_of_ble_eq_true rfl, Nat.le_of_ble_eq_true rfl⟩ (k_Wv fun s73 h => ?_)
        refine z_aload_n C dX12_one_76 (i := 0) rfl rfl ?_
        refine z_dup C dX12_one_77 rfl ?_
        refine t_get C dX12_one_78 fl_X12_324 (k := 100) (i := 0) (by decide) rfl (fg_100_12 _ _ _) ?_
        refine z_iconst C dX12_one_81 (v := 1) (by decide) ?_
        refine z_isub C dX12_one_82 ?_
        refine t_put C dX12_one_83 fq_X12_324 (Or.inl rfl) (k := 100) (i := 0) (by decide) rfl ⟨rfl, rfl⟩ (fp_100_12 _ _ _ _ _) ?_
        refine t_tops (fun s83 es83 => ?_)
        have h := h s83 es83
        exact z_vret C dX12_one_86 hr ⟨_, rfl, rfl, h⟩ (Nat.le_of_ble_eq_true rfl) (Nat.le_of_ble_eq_true rfl)
    · have h := h.2 c19
      refine z_aload_n C dX12_one_22 (i := 0) rfl rfl ?_
      refine z_iconst C dX12_one_23 (v := 3) (by decide) ?_
      refine t_callV C (rest := []) (c2 := 0) (s2 := 0) (kd := 100) (i := 0) [.int (3)] dX12_one_24 lk_X12_329 li_X12_opens le_X12_opens (c_X12_opens hfl h) rfl rfl (by decide) rfl ⟨_, rfl⟩ rfl ⟨Nat.le_of_ble_eq_true rfl, Nat.le_of_ble_eq_true rfl⟩ (Nat.le_of_ble_eq_true rfl) ⟨Nat.le_of_ble_eq_true rfl, Nat.le_of_ble_eq_true rfl, Nat.le_of_ble_eq_true rfl, Nat.le_of_ble_eq_true rfl⟩ (k_Wv fun s24 h => ?_)
      refine z_aload_n C dX12_one_27 (i := 0) rfl rfl ?_
      refine t_callV C (rest := []) (c2 := 0) (s2 := 0) (kd := 100) (i := 0) [] dX12_one_28 lk_X12_319 li_X12_one le_X12_one (c_X12_one_L10 hfl h) rfl rfl (by decide) rfl ⟨_, rfl⟩ rfl ⟨Nat.le_of_ble_eq_true rfl, Nat.le_of_ble_eq_true rfl⟩ (Nat.le_of_ble_eq_true rfl) ⟨Nat.le_of_ble_eq_true rfl, Nat.le_of_ble_eq_true rfl, Nat.le_of_ble_eq_true rfl, Nat.le_of_ble_eq_true rfl⟩ (k_Wv fun s28 h => ?_)
      refine z_aload_n C dX12_one_31 (i := 0) rfl rfl ?_
      refine z_dup C dX12_one_32 rfl ?_
      refine t_get C dX12_one_33 fl_X12_324 (k := 100) (i := 0) (by decide) rfl (fg_100_12 _ _ _) ?_
      refine z_iconst C dX12_one_36 (v := 1) (by decide) ?_
      refine z_isub C dX12_one_37 ?_
      refine t_put C dX12_one_38 fq_X12_324 (Or.inl rfl) (k := 100) (i := 0) (by decide) rfl ⟨rfl, rfl⟩ (fp_100_12 _ _ _ _ _) ?_
      refine t_tops (fun s38 es38 => ?_)
      have h := h s38 es38
      refine z_aload_n C dX12_one_41 (i := 0) rfl rfl ?_
      refine z_iconst C dX12_one_42 (v := 1) (by decide) ?_
      refine z_iconst C dX12_one_43 (v := 0) (by decide) ?_
      refine t_callV C (rest := []) (c2 := 0) (s2 := 0) (kd := 100) (i := 0) [.int (1), .int (0)] dX12_one_44 lk_X12_316 li_X12_emits le_X12_emits (c_X12_emits hfl h) rfl rfl (by decide) rfl ⟨_, rfl⟩ rfl ⟨Nat.le_of_ble_eq_true rfl, Nat.le_of_ble_eq_true rfl⟩ (Nat.le_of_ble_eq_true rfl) ⟨Nat.le_of_ble_eq_true rfl, Nat.le_of_ble_eq_true rfl, Nat.le_of_ble_eq_true rfl, Nat.le_of_ble_eq_true rfl⟩ (k_Wv fun s44 h => ?_)
      exact z_vret C dX12_one_47 hr ⟨_, rfl, rfl, h⟩ (Nat.le_of_ble_eq_true rfl) (Nat.le_of_ble_eq_true rfl)
  · have h := h.2 c4
    exact z_vret C dX12_one_7 hr ⟨_, rfl, rfl, h⟩ (Nat.le_of_ble_eq_true rfl) (Nat.le_of_ble_eq_true rfl)
def w_X12_ands_L9_4 (P : zTs → Prop)  : Nat → zTs → Prop
  | 0, _ => False
  | n9 + 1, st => w_X12_eat st 19 (fun (r8 : Int32) (s8 : zTs) => ((r8 = 0 → P s8) ∧ (¬ r8 = 0 → w_X12_one_L9 s8 (fun (s15 : zTs) => (w_X12_emits s15 2 0 (fun (s21 : zTs) => ((w_X12_ands_L9_4 P n9) s21)))))))
set_option maxHeartbeats 4000000 in
set_option maxRecDepth 100000 in
theorem j_X12_ands_L9_4 {P : zTs → Prop}  (hfl : l.stackTraces = false) (C : zC Z p s m args meth c cX12_ands 1 RX12) (hr : meth.sig.returnType = none) (hn9 : True)  : ∀ (n9 : Nat) (st : zTs), w_X12_ands_L9_4 P n9 st → zG Z ad0 h0 p l e ({ frames := 11, cells := 0, slots := 0, locals := 227 } : Room) s m args below meth c (MQ below (zQ Z ad0 h0 (zWv Z zm1 P)) args s 0 0 (zA Z)) 0 0 (zh Z zm1 st) 1 4 [some (.ref 100)] [] := by
  intro n9
  induction n9 with
  | zero => intro st h; exact h.elim
  | succ n9 hK4 =>
    intro st h
    rw [w_X12_ands_L9_4] at h
    refine z_aload_n C dX12_ands_4 (i := 0) rfl rfl ?_
    refine z_ldc_wS C dX12_ands_5 (i := 19) (text := "and") (by decide) ?_
    refine t_callV C (rest := []) (c2 := 0) (s2 := 0) (kd := 100) (i := 0) [.ref (200 + 256 * 19)] dX12_ands_8 lk_X12_313 li_X12_eat le_X12_eat (c_X12_eat hfl h) rfl rfl (by decide) rfl ⟨_, rfl⟩ rfl ⟨Nat.le_of_ble_eq_true rfl, Nat.le_of_ble_eq_true rfl⟩ (Nat.le_of_ble_eq_true rfl) ⟨Nat.le_of_ble_eq_true rfl, Nat.le_of_ble_eq_true rfl, Nat.le_of_ble_eq_true rfl, Nat.le_of_ble_eq_true rfl⟩ (k_Wi fun r8 s8 h => ?_)
    refine z_if_eq C dX12_ands_11 (tgt := 27) (by decide) (fun c11 => ?_) (fun c11 => ?_)
    · have h := h.1 c11
      exact z_vret C dX12_ands_27 hr ⟨_, rfl, rfl, h⟩ (Nat.le_of_ble_eq_true rfl) (Nat.le_of_ble_eq_true rfl)
    · have h := h.2 c11
      refine z_aload_n C dX12_ands_14 (i := 0) rfl rfl ?_
      refine t_callV C (rest := []) (c2 := 0) (s2 := 0) (kd := 100) (i := 0) [] dX12_ands_15 lk_X12_319 li_X12_one le_X12_one (c_X12_one_L9 hfl h) rfl rfl (by decide) rfl ⟨_, rfl⟩ rfl ⟨Nat.le_of_ble_eq_true rfl, Nat.le_of_ble_eq_true rfl⟩ (Nat.le_of_ble_eq_true rfl) ⟨Nat.le_of_ble_eq_true rfl, Nat.le_of_ble_eq_true rfl, Nat.le_of_ble_eq_true rfl, Nat.le_of_ble_eq_true rfl⟩ (k_Wv fun s15 h => ?_)
      refine z_aload_n C dX12_ands_18 (i := 0) rfl rfl ?_
      refine z_iconst C dX12_ands_19 (v := 2) (by decide) ?_
      refine z_iconst C dX12_ands_20 (v := 0) (by decide) ?_
      refine t_callV C (rest := []) (c2 := 0) (s2 := 0) (kd := 100) (i := 0) [.int (2), .int (0)] dX12_ands_21 lk_X12_316 li_X12_emits le_X12_emits (c_X12_emits hfl h) rfl rfl (by decide) rfl ⟨_, rfl⟩ rfl ⟨Nat.le_of_ble_eq_true rfl, Nat.le_of_ble_eq_true rfl⟩ (Nat.le_of_ble_eq_true rfl) ⟨Nat.le_of_ble_eq_true rfl, Nat.le_of_ble_eq_true rfl, Nat.le_of_ble_eq_true rfl, Nat.le_of_ble_eq_true rfl⟩ (k_Wv fun s21 h => ?_)
      refine z_goto C dX12_ands_24 (tgt := 4) (by decide) ?_
      exact t_drop [true] rfl (hK4 s21 h)
def w_X12_ands_L9 (st : zTs)  (P : zTs → Prop) : Prop := w_X12_one_L9 st (fun (s1 : zTs) => (w_X12_ands_L9_4 P zfu s1))
set_option maxHeartbeats 4000000 in
set_option maxRecDepth 100000 in
theorem c_X12_ands_L9 {Z : zZ} {l : Launch} (hfl : l.stackTraces = false) {st : zTs}  {P : zTs → Prop} (h : w_X12_ands_L9 st  P) : zN Z l yX12_ands cX12_ands 1 none ({ frames := 11, cells := 0, slots := 0, locals := 227 } : Room) (zh Z zm1 st) [.ref 100] (zWv Z zm1 P) := by
  unfold w_X12_ands_L9 at h
  refine z_enterN (by decide) (Nat.le_of_ble_eq_true rfl) (lc0 := [some (.ref 100)]) rfl ?_
  intro p e s m args below meth c ad0 C hr _
  have hn9 : True := trivial
  replace C : zC Z p s m args meth c cX12_ands 1 RX12 := C
  refine z_aload_n C dX12_ands_0 (i := 0) rfl rfl ?_
  refine t_callV C (rest := []) (c2 := 0) (s2 := 0) (kd := 100) (i := 0) [] dX12_ands_1 lk_X12_319 li_X12_one le_X12_one (c_X12_one_L9 hfl h) rfl rfl (by decide) rfl ⟨_, rfl⟩ rfl ⟨Nat.le_of_ble_eq_true rfl, Nat.le_of_ble_eq_true rfl⟩ (Nat.le_of_ble_eq_true rfl) ⟨Nat.le_of_ble_eq_true rfl, Nat.le_of_ble_eq_true rfl, Nat.le_of_ble_eq_true rfl, Nat.le_of_ble_eq_true rfl⟩ (k_Wv fun s1 h => ?_)
  exact t_drop [true] rfl (j_X12_ands_L9_4 hfl C hr hn9  zfu s1 h)
def w_X12_ors_L9_4 (P : zTs → Prop)  : Nat → zTs → Prop
  | 0, _ => False
  | n9 + 1, st => w_X12_eat st 18 (fun (r8 : Int32) (s8 : zTs) => ((r8 = 0 → P s8) ∧ (¬ r8 = 0 → w_X12_ands_L9 s8 (fun (s15 : zTs) => (w_X12_emits s15 3 0 (fun (s21 : zTs) => ((w_X12_ors_L9_4 P n9) s21)))))))
set_option maxHeartbeats 4000000 in
set_option maxRecDepth 100000 in
theorem j_X12_ors_L9_4 {P : zTs → Prop}  (hfl : l.stackTraces = false) (C : zC Z p s m args meth c cX12_ors 1 RX12) (hr : meth.sig.returnType = none) (hn9 : True)  : ∀ (n9 : Nat) (st : zTs), w_X12_ors_L9_4 P n9 st → zG Z ad0 h0 p l e ({ frames := 12, cells := 0, slots := 0, locals := 247 } : Room) s m args below meth c (MQ below (zQ Z ad0 h0 (zWv Z zm1 P)) args s 0 0 (zA Z)) 0 0 (zh Z zm1 st) 1 4 [some (.ref 100)] [] := by
  intro n9
  induction n9 with
  | zero => intro st h; exact h.elim
  | succ n9 hK4 =>
    intro st h
    rw [w_X12_ors_L9_4] at h
    refine z_aload_n C dX12_ors_4 (i := 0) rfl rfl ?_
    refine z_ldc_wS C dX12_ors_5 (i := 18) (text := "or") (by decide) ?_
    refine t_callV C (rest := []) (c2 := 0) (s2 := 0) (kd := 100) (i := 0) [.ref (200 + 256 * 18)] dX12_ors_8 lk_X12_313 li_X12_eat le_X12_eat (c_X12_eat hfl h) rfl rfl (by decide) rfl ⟨_, rfl⟩ rfl ⟨Nat.le_of_ble_eq_true rfl, Nat.le_of_ble_eq_true rfl⟩ (Nat.le_of_ble_eq_true rfl) ⟨Nat.le_of_ble_eq_true rfl, Nat.le_of_ble_eq_true rfl, Nat.le_of_ble_eq_true rfl, Nat.le_of_ble_eq_true rfl⟩ (k_Wi fun r8 s8 h => ?_)
    refine z_if_eq C dX12_ors_11 (tgt := 27) (by decide) (fun c11 => ?_) (fun c11 => ?_)
    · have h := h.1 c11
      exact z_vret C dX12_ors_27 hr ⟨_, rfl, rfl, h⟩ (Nat.le_of_ble_eq_true rfl) (Nat.le_of_ble_eq_true rfl)
    · have h := h.2 c11
      refine z_aload_n C dX12_ors_14 (i := 0) rfl rfl ?_
      refine t_callV C (rest := []) (c2 := 0) (s2 := 0) (kd := 100) (i := 0) [] dX12_ors_15 lk_X12_308 li_X12_ands le_X12_ands (c_X12_ands_L9 hfl h) rfl rfl (by decide) rfl ⟨_, rfl⟩ rfl ⟨Nat.le_of_ble_eq_true rfl, Nat.le_of_ble_eq_true rfl⟩ (Nat.le_of_ble_eq_true rfl) ⟨Nat.le_of_ble_eq_true rfl, Nat.le_of_ble_eq_true rfl, Nat.le_of_ble_eq_true rfl, Nat.le_of_ble_eq_true rfl⟩ (k_Wv fun s15 h => ?_)
      refine z_aload_n C dX12_ors_18 (i := 0) rfl rfl ?_
      refine z_iconst C dX12_ors_19 (v := 3) (by decide) ?_
      refine z_iconst C dX12_ors_20 (v := 0) (by decide) ?_
      refine t_callV C (rest := []) (c2 := 0) (s2 := 0) (kd := 100) (i := 0) [.int (3), .int (0)] dX12_ors_21 lk_X12_316 li_X12_emits le_X12_emits (c_X12_emits hfl h) rfl rfl (by decide) rfl ⟨_, rfl⟩ rfl ⟨Nat.le_of_ble_eq_true rfl, Nat.le_of_ble_eq_true rfl⟩ (Nat.le_of_ble_eq_true rfl) ⟨Nat.le_of_ble_eq_true rfl, Nat.le_of_ble_eq_true rfl, Nat.le_of_ble_eq_true rfl, Nat.le_of_ble_eq_true rfl⟩ (k_Wv fun s21 h => ?_)
      refine z_goto C dX12_ors_24 (tgt := 4) (by decide) ?_
      exact t_drop [true] rfl (hK4 s21 h)
def w_X12_ors_L9 (st : zTs)  (P : zTs → Prop) : Prop := w_X12_ands_L9 st (fun (s1 : zTs) => (w_X12_ors_L9_4 P zfu s1))
set_option maxHeartbeats 4000000 in
set_option maxRecDepth 100000 in
theorem c_X12_ors_L9 {Z : zZ} {l : Launch} (hfl : l.stackTraces = false) {st : zTs}  {P : zTs → Prop} (h : w_X12_ors_L9 st  P) : zN Z l yX12_ors cX12_ors 1 none ({ frames := 12, cells := 0, slots := 0, locals := 247 } : Room) (zh Z zm1 st) [.ref 100] (zWv Z zm1 P) := by
  unfold w_X12_ors_L9 at h
  refine z_enterN (by decide) (Nat.le_of_ble_eq_true rfl) (lc0 := [some (.ref 100)]) rfl ?_
  intro p e s m args below meth c ad0 C hr _
  have hn9 : True := trivial
  replace C : zC Z p s m args meth c cX12_ors 1 RX12 := C
  refine z_aload_n C dX12_ors_0 (i := 0) rfl rfl ?_
  refine t_callV C (rest := []) (c2 := 0) (s2 := 0) (kd := 100) (i := 0) [] dX12_ors_1 lk_X12_308 li_X12_ands le_X12_ands (c_X12_ands_L9 hfl h) rfl rfl (by decide) rfl ⟨_, rfl⟩ rfl ⟨Nat.le_of_ble_eq_true rfl, Nat.le_of_ble_eq_true rfl⟩ (Nat.le_of_ble_eq_true rfl) ⟨Nat.le_of_ble_eq_true rfl, Nat.le_of_ble_eq_true rfl, Nat.le_of_ble_eq_true rfl, Nat.le_of_ble_eq_true rfl⟩ (k_Wv fun s1 h => ?_)
  exact t_drop [true] rfl (j_X12_ors_L9_4 hfl C hr hn9  zfu s1 h)
def w_X12_one_L8_189 (P : zTs → Prop)  (st : zTs) (a1 : Int32) (a3 : Int32) (b0 : Int32) : Prop := w_X12_emits st b0 ((3 * a3) + a1) (fun (s194 : zTs) => (P s194))
set_option maxHeartbeats 4000000 in
set_option maxRecDepth 100000 in
theorem j_X12_one_L8_189 {P : zTs → Prop}  (hfl : l.stackTraces = false) (C : zC Z p s m args meth c cX12_one 4 RX12) (hr : meth.sig.returnType = none) (hn9 : True)  (st : zTs) (a1 : Int32) (a3 : Int32) (b0 : Int32) (h : w_X12_one_L8_189 P st a1 a3 b0) : zG Z ad0 h0 p l e ({ frames := 13, cells := 0, slots := 0, locals := 267 } : Room) s m args below meth c (MQ below (zQ Z ad0 h0 (zWv Z zm1 P)) args s 0 0 (zA Z)) 0 0 (zh Z zm1 st) 4 189 [none, some (.int (a1)), none, some (.int (a3))] [.int (b0), .ref 100] := by
  unfold w_X12_one_L8_189 at h
  refine z_iconst C dX12_one_189 (v := 3) (by decide) ?_
  refine z_iload_n C dX12_one_190 (i := 3) rfl rfl ?_
  refine z_imul C dX12_one_191 ?_
  refine z_iload_n C dX12_one_192 (i := 1) rfl rfl ?_
  refine z_iadd C dX12_one_193 ?_
  refine t_callV C (rest := []) (c2 := 0) (s2 := 0) (kd := 100) (i := 0) [.int (b0), .int ((3 * a3) + a1)] dX12_one_194 lk_X12_316 li_X12_emits le_X12_emits (c_X12_emits hfl h) rfl rfl (by decide) rfl ⟨_, rfl⟩ rfl ⟨Nat.le_of_ble_eq_true rfl, Nat.le_of_ble_eq_true rfl⟩ (Nat.le_of_ble_eq_true rfl) ⟨Nat.le_of_ble_eq_true rfl, Nat.le_of_ble_eq_true rfl, Nat.le_of_ble_eq_true rfl, Nat.le_of_ble_eq_true rfl⟩ (k_Wv fun s194 h => ?_)
  exact z_vret C dX12_one_197 hr ⟨_, rfl, rfl, h⟩ (Nat.le_of_ble_eq_true rfl) (Nat.le_of_ble_eq_true rfl)
def w_X12_one_L8_158 (P : zTs → Prop)  (st : zTs) (a1 : Int32) (a2 : Int32) : Prop := ∀ s165 : zTs, s165 = zuF st 100 0 8 ((zgF st 100 0 8) + 1) → (w_X12_number s165 0 9999 (fun (r173 : Int32) (s173 : zTs) => ((a2 = 60 → w_X12_one_L8_189 P s173 a1 r173 (4)) ∧ (¬ a2 = 60 → w_X12_one_L8_189 P s173 a1 r173 (5)))))
set_option maxHeartbeats 4000000 in
set_option maxRecDepth 100000 in
theorem j_X12_one_L8_158 {P : zTs → Prop}  (hfl : l.stackTraces = false) (C : zC Z p s m args meth c cX12_one 4 RX12) (hr : meth.sig.returnType = none) (hn9 : True)  (st : zTs) (a1 : Int32) (a2 : Int32) (h : w_X12_one_L8_158 P st a1 a2) : zG Z ad0 h0 p l e ({ frames := 13, cells := 0, slots := 0, locals := 267 } : Room) s m args below meth c (MQ below (zQ Z ad0 h0 (zWv Z zm1 P)) args s 0 0 (zA Z)) 0 0 (zh Z zm1 st) 4 158 [some (.ref 100), some (.int (a1)), some (.int (a2)), none] [] := by
  unfold w_X12_one_L8_158 at h
  refine z_aload_n C dX12_one_158 (i := 0) rfl rfl ?_
  refine z_dup C dX12_one_159 rfl ?_
  refine t_get C dX12_one_160 fl_X12_232 (k := 100) (i := 0) (by decide) rfl (fg_100_8 _ _ _) ?_
  refine z_iconst C dX12_one_163 (v := 1) (by decide) ?_
  refine z_iadd C dX12_one_164 ?_
  refine t_put C dX12_one_165 fq_X12_232 (Or.inl rfl) (k := 100) (i := 0) (by decide) rfl ⟨rfl, rfl⟩ (fp_100_8 _ _ _ _ _) ?_
  refine t_tops (fun s165 es165 => ?_)
  have h := h s165 es165
  refine z_aload_n C dX12_one_168 (i := 0) rfl rfl ?_
  refine z_iconst C dX12_one_169 (v := 0) (by decide) ?_
  refine z_sipush C dX12_one_170 (v := 9999) (by decide) ?_
  refine t_callV C (rest := []) (c2 := 0) (s2 := 0) (kd := 100) (i := 0) [.int (0), .int (9999)] dX12_one_173 lk_X12_342 li_X12_number le_X12_number (c_X12_number hfl h) rfl rfl (by decide) rfl ⟨_, rfl⟩ rfl ⟨Nat.le_of_ble_eq_true rfl, Nat.le_of_ble_eq_true rfl⟩ (Nat.le_of_ble_eq_true rfl) ⟨Nat.le_of_ble_eq_true rfl, Nat.le_of_ble_eq_true rfl, Nat.le_of_ble_eq_true rfl, Nat.le_of_ble_eq_true rfl⟩ (k_Wi fun r173 s173 h => ?_)
  refine z_istore_n C dX12_one_176 (i := 3) (lc' := [some (.ref 100), some (.int (a1)), some (.int (a2)), some (.int (r173))]) rfl (by decide) rfl ?_
  refine z_aload_n C dX12_one_177 (i := 0) rfl rfl ?_
  refine z_iload_n C dX12_one_178 (i := 2) rfl rfl ?_
  refine z_bipush C dX12_one_179 (v := 60) (by decide) ?_
  refine z_icmp_ne C dX12_one_181 (tgt := 188) (by decide) (fun c181 => ?_) (fun c181 => ?_)
  · have h := h.2 c181
    refine z_iconst C dX12_one_188 (v := 5) (by decide) ?_
    exact t_drop [false, true, false, true] rfl (j_X12_one_L8_189 hfl C hr hn9  s173 a1 r173 (5) h)
  · have h := h.1 c181
    refine z_iconst C dX12_one_184 (v := 4) (by decide) ?_
    refine z_goto C dX12_one_185 (tgt := 189) (by decide) ?_
    exact t_drop [false, true, false, true] rfl (j_X12_one_L8_189 hfl C hr hn9  s173 a1 r173 (4) h)
def w_X12_one_L8_148 (P : zTs → Prop)  (st : zTs) : Prop := w_X12_wrong st 1 (zgF st 100 0 8) (fun (s154 : zTs) => (P s154))
set_option maxHeartbeats 4000000 in
set_option maxRecDepth 100000 in
theorem j_X12_one_L8_148 {P : zTs → Prop}  (hfl : l.stackTraces = false) (C : zC Z p s m args meth c cX12_one 4 RX12) (hr : meth.sig.returnType = none) (hn9 : True)  (st : zTs) (h : w_X12_one_L8_148 P st) : zG Z ad0 h0 p l e ({ frames := 13, cells := 0, slots := 0, locals := 267 } : Room) s m args below meth c (MQ below (zQ Z ad0 h0 (zWv Z zm1 P)) args s 0 0 (zA Z)) 0 0 (zh Z zm1 st) 4 148 [some (.ref 100), none, none, none] [] := by
  unfold w_X12_one_L8_148 at h
  refine z_aload_n C dX12_one_148 (i := 0) rfl rfl ?_
  refine z_iconst C dX12_one_149 (v := 1) (by decide) ?_
  refine z_aload_n C dX12_one_150 (i := 0) rfl rfl ?_
  refine t_get C dX12_one_151 fl_X12_232 (k := 100) (i := 0) (by decide) rfl (fg_100_8 _ _ _) ?_
  refine t_callV C (rest := []) (c2 := 0) (s2 := 0) (kd := 100) (i := 0) [.int (1), .int (zgF st 100 0 8)] dX12_one_154 lk_X12_300 li_X12_wrong le_X12_wrong (c_X12_wrong hfl h) rfl rfl (by decide) rfl ⟨_, rfl⟩ rfl ⟨Nat.le_of_ble_eq_true rfl, Nat.le_of_ble_eq_true rfl⟩ (Nat.le_of_ble_eq_true rfl) ⟨Nat.le_of_ble_eq_true rfl, Nat.le_of_ble_eq_true rfl, Nat.le_of_ble_eq_true rfl, Nat.le_of_ble_eq_true rfl⟩ (k_Wv fun s154 h => ?_)
  exact z_vret C dX12_one_157 hr ⟨_, rfl, rfl, h⟩ (Nat.le_of_ble_eq_true rfl) (Nat.le_of_ble_eq_true rfl)
def w_X12_one_L8_119 (P : zTs → Prop)  (st : zTs) (a1 : Int32) : Prop := w_X12_blanks st (fun (s120 : zTs) => (w_X12_byteAt s120 (zgF s120 100 0 8) (fun (r128 : Int32) => ((a1 < 0 → w_X12_one_L8_148 P s120) ∧ (¬ a1 < 0 → (r128 = 60 → w_X12_one_L8_158 P s120 a1 r128) ∧ (¬ r128 = 60 → (r128 = 62 → w_X12_one_L8_158 P s120 a1 r128) ∧ (¬ r128 = 62 → w_X12_one_L8_148 P s120)))))))
set_option maxHeartbeats 4000000 in
set_option maxRecDepth 100000 in
theorem j_X12_one_L8_119 {P : zTs → Prop}  (hfl : l.stackTraces = false) (C : zC Z p s m args meth c cX12_one 4 RX12) (hr : meth.sig.returnType = none) (hn9 : True)  (st : zTs) (a1 : Int32) (h : w_X12_one_L8_119 P st a1) : zG Z ad0 h0 p l e ({ frames := 13, cells := 0, slots := 0, locals := 267 } : Room) s m args below meth c (MQ below (zQ Z ad0 h0 (zWv Z zm1 P)) args s 0 0 (zA Z)) 0 0 (zh Z zm1 st) 4 119 [some (.ref 100), some (.int (a1)), none, none] [] := by
  unfold w_X12_one_L8_119 at h
  refine z_aload_n C dX12_one_119 (i := 0) rfl rfl ?_
  refine t_callV C (rest := []) (c2 := 0) (s2 := 0) (kd := 100) (i := 0) [] dX12_one_120 lk_X12_242 li_X12_blanks le_X12_blanks (c_X12_blanks hfl h) rfl rfl (by decide) rfl ⟨_, rfl⟩ rfl ⟨Nat.le_of_ble_eq_true rfl, Nat.le_of_ble_eq_true rfl⟩ (Nat.le_of_ble_eq_true rfl) ⟨Nat.le_of_ble_eq_true rfl, Nat.le_of_ble_eq_true rfl, Nat.le_of_ble_eq_true rfl, Nat.le_of_ble_eq_true rfl⟩ (k_Wv fun s120 h => ?_)
  refine z_aload_n C dX12_one_123 (i := 0) rfl rfl ?_
  refine z_aload_n C dX12_one_124 (i := 0) rfl rfl ?_
  refine t_get C dX12_one_125 fl_X12_232 (k := 100) (i := 0) (by decide) rfl (fg_100_8 _ _ _) ?_
  refine t_callV C (rest := []) (c2 := 0) (s2 := 0) (kd := 100) (i := 0) [.int (zgF s120 100 0 8)] dX12_one_128 lk_X12_235 li_X12_byteAt le_X12_byteAt (c_X12_byteAt hfl h) rfl rfl (by decide) rfl ⟨_, rfl⟩ rfl ⟨Nat.le_of_ble_eq_true rfl, Nat.le_of_ble_eq_true rfl⟩ (Nat.le_of_ble_eq_true rfl) ⟨Nat.le_of_ble_eq_true rfl, Nat.le_of_ble_eq_true rfl, Nat.le_of_ble_eq_true rfl, Nat.le_of_ble_eq_true rfl⟩ (k_Ri fun r128 h => ?_)
  refine z_istore_n C dX12_one_131 (i := 2) (lc' := [some (.ref 100), some (.int (a1)), some (.int (r128)), none]) rfl (by decide) rfl ?_
  refine z_iload_n C dX12_one_132 (i := 1) rfl rfl ?_
  refine z_if_lt C dX12_one_133 (tgt := 148) (by decide) (fun c133 => ?_) (fun c133 => ?_)
  · have h := h.1 c133
    exact t_drop [true, false, false, false] rfl (j_X12_one_L8_148 hfl C hr hn9  s120 h)
  · have h := h.2 c133
    refine z_iload_n C dX12_one_136 (i := 2) rfl rfl ?_
    refine z_bipush C dX12_one_137 (v := 60) (by decide) ?_
    refine z_icmp_eq C dX12_one_139 (tgt := 158) (by decide) (fun c139 => ?_) (fun c139 => ?_)
    · have h := h.1 c139
      exact t_drop [true, true, true, false] rfl (j_X12_one_L8_158 hfl C hr hn9  s120 a1 r128 h)
    · have h := h.2 c139
      refine z_iload_n C dX12_one_142 (i := 2) rfl rfl ?_
      refine z_bipush C dX12_one_143 (v := 62) (by decide) ?_
      refine z_icmp_eq C dX12_one_145 (tgt := 158) (by decide) (fun c145 => ?_) (fun c145 => ?_)
      · have h := h.1 c145
        exact t_drop [true, true, true, false] rfl (j_X12_one_L8_158 hfl C hr hn9  s120 a1 r128 h)
      · have h := h.2 c145
        exact t_drop [true, false, false, false] rfl (j_X12_one_L8_148 hfl C hr hn9  s120 h)
def w_X12_one_L8_113 (P : zTs → Prop) (K91 : zTs → Int32 → Int32 → Prop) (st : zTs) (a1 : Int32) (a2 : Int32) : Prop := ∀ x113 : Int32, x113 = a2 + 1 → (K91 st a1 x113)
set_option maxHeartbeats 4000000 in
set_option maxRecDepth 100000 in
theorem j_X12_one_L8_113 {P : zTs → Prop} {K91 : zTs → Int32 → Int32 → Prop} (hfl : l.stackTraces = false) (C : zC Z p s m args meth c cX12_one 4 RX12) (hr : meth.sig.returnType = none) (hn9 : True) (hK91 : ∀ (st : zTs) (a1 : Int32) (a2 : Int32), K91 st a1 a2 → zG Z ad0 h0 p l e ({ frames := 13, cells := 0, slots := 0, locals := 267 } : Room) s m args below meth c (MQ below (zQ Z ad0 h0 (zWv Z zm1 P)) args s 0 0 (zA Z)) 0 0 (zh Z zm1 st) 4 91 [some (.ref 100), some (.int (a1)), some (.int (a2)), none] []) (st : zTs) (a1 : Int32) (a2 : Int32) (h : w_X12_one_L8_113 P K91 st a1 a2) : zG Z ad0 h0 p l e ({ frames := 13, cells := 0, slots := 0, locals := 267 } : Room) s m args below meth c (MQ below (zQ Z ad0 h0 (zWv Z zm1 P)) args s 0 0 (zA Z)) 0 0 (zh Z zm1 st) 4 113 [some (.ref 100), some (.int (a1)), some (.int (a2)), none] [] := by
  unfold w_X12_one_L8_113 at h
  obtain ⟨x113, ex113⟩ : ∃ z : Int32, z = a2 + 1 := ⟨_, rfl⟩
  have h := h x113 ex113
  refine z_iinc C dX12_one_113 (v := x113) (lc' := [some (.ref 100), some (.int (a1)), some (.int (x113)), none]) rfl (by decide) (by rw [ex113]; rfl) rfl ?_
  refine z_goto C dX12_one_116 (tgt := 91) (by decide) ?_
  exact t_drop [true, true, true, false] rfl (hK91 st a1 x113 h)
def w_X12_one_L8_91 (P : zTs → Prop)  : Nat → zTs → Int32 → Int32 → Prop
  | 0, _, _, _ => False
  | n9 + 1, st, a1, a2 => (3 ≤ a2 → w_X12_one_L8_119 P st a1) ∧ (¬ 3 ≤ a2 → (0 ≤ a1 → w_X12_one_L8_119 P st a1) ∧ (¬ 0 ≤ a1 → w_X12_measureOf st a2 (fun (r102 : Nat) => (w_X12_eat st r102 (fun (r105 : Int32) (s105 : zTs) => ((r105 = 0 → w_X12_one_L8_113 P (w_X12_one_L8_91 P n9) s105 a1 a2) ∧ (¬ r105 = 0 → w_X12_one_L8_113 P (w_X12_one_L8_91 P n9) s105 a2 a2)))))))
set_option maxHeartbeats 4000000 in
set_option maxRecDepth 100000 in
theorem j_X12_one_L8_91 {P : zTs → Prop}  (hfl : l.stackTraces = false) (C : zC Z p s m args meth c cX12_one 4 RX12) (hr : meth.sig.returnType = none) (hn9 : True)  : ∀ (n9 : Nat) (st : zTs) (a1 : Int32) (a2 : Int32), w_X12_one_L8_91 P n9 st a1 a2 → zG Z ad0 h0 p l e ({ frames := 13, cells := 0, slots := 0, locals := 267 } : Room) s m args below meth c (MQ below (zQ Z ad0 h0 (zWv Z zm1 P)) args s 0 0 (zA Z)) 0 0 (zh Z zm1 st) 4 91 [some (.ref 100), some (.int (a1)), some (.int (a2)), none] [] := by
  intro n9
  induction n9 with
  | zero => intro st a1 a2 h; exact h.elim
  | succ n9 hK91 =>
    intro st a1 a2 h
    rw [w_X12_one_L8_91] at h
    refine z_iload_n C dX12_one_91 (i := 2) rfl rfl ?_
    refine z_iconst C dX12_one_92 (v := 3) (by decide) ?_
    refine z_icmp_ge C dX12_one_93 (tgt := 119) (by decide) (fun c93 => ?_) (fun c93 => ?_)
    · have h := h.1 c93
      exact t_drop [true, true, false, false] rfl (j_X12_one_L8_119 hfl C hr hn9  st a1 h)
    · have h := h.2 c93
      refine z_iload_n C dX12_one_96 (i := 1) rfl rfl ?_
      refine z_if_ge C dX12_one_97 (tgt := 119) (by decide) (fun c97 => ?_) (fun c97 => ?_)
      · have h := h.1 c97
        exact t_drop [true, true, false, false] rfl (j_X12_one_L8_119 hfl C hr hn9  st a1 h)
      · have h := h.2 c97
        refine z_aload_n C dX12_one_100 (i := 0) rfl rfl ?_
        refine z_iload_n C dX12_one_101 (i := 2) rfl rfl ?_
        refine t_callS C (rest := [.ref 100]) (c2 := 0) (s2 := 0) [.int (a2)] dX12_one_102 lk_X12_339 ls_X12_measureOf (c_X12_measureOf hfl h) rfl rfl ⟨Nat.le_of_ble_eq_true rfl, Nat.le_of_ble_eq_true rfl⟩ (Nat.le_of_ble_eq_true rfl) ⟨Nat.le_of_ble_eq_true rfl, Nat.le_of_ble_eq_true rfl, Nat.le_of_ble_eq_true rfl, Nat.le_of_ble_eq_true rfl⟩ (k_Rr fun r102 h => ?_)
        refine t_callV C (rest := []) (c2 := 0) (s2 := 0) (kd := 100) (i := 0) [.ref (200 + 256 * r102)] dX12_one_105 lk_X12_313 li_X12_eat le_X12_eat (c_X12_eat hfl h) rfl rfl (by decide) rfl ⟨_, rfl⟩ rfl ⟨Nat.le_of_ble_eq_true rfl, Nat.le_of_ble_eq_true rfl⟩ (Nat.le_of_ble_eq_true rfl) ⟨Nat.le_of_ble_eq_true rfl, Nat.le_of_ble_eq_true rfl, Nat.le_of_ble_eq_true rfl, Nat.le_of_ble_eq_true rfl⟩ (k_Wi fun r105 s105 h => ?_)
        refine z_if_eq C dX12_one_108 (tgt := 113) (by decide) (fun c108 => ?_) (fun c108 => ?_)
        · have h := h.1 c108
          exact t_drop [true, true, true, false] rfl (j_X12_one_L8_113 hfl C hr hn9 hK91 s105 a1 a2 h)
        · have h := h.2 c108
          refine z_iload_n C dX12_one_111 (i := 2) rfl rfl ?_
          refine z_istore_n C dX12_one_112 (i := 1) (lc' := [some (.ref 100), some (.int (a2)), some (.int (a2)), none]) rfl (by decide) rfl ?_
          exact t_drop [true, true, true, false] rfl (j_X12_one_L8_113 hfl C hr hn9 hK91 s105 a2 a2 h)
def w_X12_one_L8 (st : zTs)  (P : zTs → Prop) : Prop := ((zgF st 100 0 9) ≤ 0 → w_X12_blanks st (fun (s9 : zTs) => (w_X12_isWord s9 20 (fun (r16 : Int32) (s16 : zTs) => ((r16 = 0 → w_X12_byteAt s16 (zgF s16 100 0 8) (fun (r53 : Int32) => ((r53 = 40 → w_X12_opens s16 1 (fun (s63 : zTs) => (w_X12_ors_L9 s63 (fun (s67 : zTs) => (w_X12_sign s67 41 (fun (s73 : zTs) => (∀ s83 : zTs, s83 = zuF s73 100 0 12 ((zgF s73 100 0 12) - 1) → (P s83)))))))) ∧ (¬ r53 = 40 → w_X12_one_L8_91 P zfu s16 (-1) (0))))) ∧ (¬ r16 = 0 → w_X12_opens s16 3 (fun (s24 : zTs) => (w_X12_one_L9 s24 (fun (s28 : zTs) => (∀ s38 : zTs, s38 = zuF s28 100 0 12 ((zgF s28 100 0 12) - 1) → (w_X12_emits s38 1 0 (fun (s44 : zTs) => (P s44))))))))))))) ∧ (¬ (zgF st 100 0 9) ≤ 0 → P st)
set_option maxHeartbeats 4000000 in
set_option maxRecDepth 100000 in
theorem c_X12_one_L8 {Z : zZ} {l : Launch} (hfl : l.stackTraces = false) {st : zTs}  {P : zTs → Prop} (h : w_X12_one_L8 st  P) : zN Z l yX12_one cX12_one 4 none ({ frames := 13, cells := 0, slots := 0, locals := 267 } : Room) (zh Z zm1 st) [.ref 100] (zWv Z zm1 P) := by
  unfold w_X12_one_L8 at h
  refine z_enterN (by decide) (Nat.le_of_ble_eq_true rfl) (lc0 := [some (.ref 100), none, none, none]) rfl ?_
  intro p e s m args below meth c ad0 C hr _
  have hn9 : True := trivial
  replace C : zC Z p s m args meth c cX12_one 4 RX12 := C
  refine z_aload_n C dX12_one_0 (i := 0) rfl rfl ?_
  refine t_get C dX12_one_1 fl_X12_239 (k := 100) (i := 0) (by decide) rfl (fg_100_9 _ _ _) ?_
  refine z_if_le C dX12_one_4 (tgt := 8) (by decide) (fun c4 => ?_) (fun c4 => ?_)
  · have h := h.1 c4
    refine z_aload_n C dX12_one_8 (i := 0) rfl rfl ?_
    refine t_callV C (rest := []) (c2 := 0) (s2 := 0) (kd := 100) (i := 0) [] dX12_one_9 lk_X12_242 li_X12_blanks le_X12_blanks (c_X12_blanks hfl h) rfl rfl (by decide) rfl ⟨_, rfl⟩ rfl ⟨Nat.le_of_ble_eq_true rfl, Nat.le_of_ble_eq_true rfl⟩ (Nat.le_of_ble_eq_true rfl) ⟨Nat.le_of_ble_eq_true rfl, Nat.le_of_ble_eq_true rfl, Nat.le_of_ble_eq_true rfl, Nat.le_of_ble_eq_true rfl⟩ (k_Wv fun s9 h => ?_)
    refine z_aload_n C dX12_one_12 (i := 0) rfl rfl ?_
    refine z_ldc_wS C dX12_one_13 (i := 20) (text := "not") (by decide) ?_
    refine t_callV C (rest := []) (c2 := 0) (s2 := 0) (kd := 100) (i := 0) [.ref (200 + 256 * 20)] dX12_one_16 lk_X12_255 li_X12_isWord le_X12_isWord (c_X12_isWord hfl h) rfl rfl (by decide) rfl ⟨_, rfl⟩ rfl ⟨Nat.le_of_ble_eq_true rfl, Nat.le_of_ble_eq_true rfl⟩ (Nat.le_of_ble_eq_true rfl) ⟨Nat.le_of_ble_eq_true rfl, Nat.le_of_ble_eq_true rfl, Nat.le_of_ble_eq_true rfl, Nat.le_of_ble_eq_true rfl⟩ (k_Wi fun r16 s16 h => ?_)
    refine z_if_eq C dX12_one_19 (tgt := 48) (by decide) (fun c19 => ?_) (fun c19 => ?_)
    · have h := h.1 c19
      refine z_aload_n C dX12_one_48 (i := 0) rfl rfl ?_
      refine z_aload_n C dX12_one_49 (i := 0) rfl rfl ?_
      refine t_get C dX12_one_50 fl_X12_232 (k := 100) (i := 0) (by decide) rfl (fg_100_8 _ _ _) ?_
      refine t_callV C (rest := []) (c2 := 0) (s2 := 0) (kd := 100) (i := 0) [.int (zgF s16 100 0 8)] dX12_one_53 lk_X12_235 li_X12_byteAt le_X12_byteAt (c_X12_byteAt hfl h) rfl rfl (by decide) rfl ⟨_, rfl⟩ rfl ⟨Nat.le_of_ble_eq_true rfl, Nat.le_of_ble_eq_true rfl⟩ (Nat.le_of_ble_eq_true rfl) ⟨Nat.le_of_ble_eq_true rfl, Nat.le_of_ble_eq_true rfl, Nat.le_of_ble_eq_true rfl, Nat.le_of_ble_eq_true rfl⟩ (k_Ri fun r53 h => ?_)
      refine z_bipush C dX12_one_56 (v := 40) (by decide) ?_
      refine z_icmp_ne C dX12_one_58 (tgt := 87) (by decide) (fun c58 => ?_) (fun c58 => ?_)
      · have h := h.2 c58
        refine z_iconst C dX12_one_87 (v := (-1)) (by decide) ?_
        refine z_istore_n C dX12_one_88 (i := 1) (lc' := [some (.ref 100), some (.int (-1)), none, none]) rfl (by decide) rfl ?_
        refine z_iconst C dX12_one_89 (v := 0) (by decide) ?_
        refine z_istore_n C dX12_one_90 (i := 2) (lc' := [some (.ref 100), some (.int (-1)), some (.int (0)), none]) rfl (by decide) rfl ?_
        exact t_drop [true, true, true, false] rfl (j_X12_one_L8_91 hfl C hr hn9  zfu s16 (-1) (0) h)
      · have h := h.1 c58
        refine z_aload_n C dX12_one_61 (i := 0) rfl rfl ?_
        refine z_iconst C dX12_one_62 (v := 1) (by decide) ?_
        refine t_callV C (rest := []) (c2 := 0) (s2 := 0) (kd := 100) (i := 0) [.int (1)] dX12_one_63 lk_X12_329 li_X12_opens le_X12_opens (c_X12_opens hfl h) rfl rfl (by decide) rfl ⟨_, rfl⟩ rfl ⟨Nat.le_of_ble_eq_true rfl, Nat.le_of_ble_eq_true rfl⟩ (Nat.le_of_ble_eq_true rfl) ⟨Nat.le_of_ble_eq_true rfl, Nat.le_of_ble_eq_true rfl, Nat.le_of_ble_eq_true rfl, Nat.le_of_ble_eq_true rfl⟩ (k_Wv fun s63 h => ?_)
        refine z_aload_n C dX12_one_66 (i := 0) rfl rfl ?_
        refine t_callV C (rest := []) (c2 := 0) (s2 := 0) (kd := 100) (i := 0) [] dX12_one_67 lk_X12_333 li_X12_ors le_X12_ors (c_X12_ors_L9 hfl h) rfl rfl (by decide) rfl ⟨_, rfl⟩ rfl ⟨Nat.le_of_ble_eq_true rfl, Nat.le_of_ble_eq_true rfl⟩ (Nat.le_of_ble_eq_true rfl) ⟨Nat.le_of_ble_eq_true rfl, Nat.le_of_ble_eq_true rfl, Nat.le_of_ble_eq_true rfl, Nat.le_of_ble_eq_true rfl⟩ (k_Wv fun s67 h => ?_)
        refine z_aload_n C dX12_one_70 (i := 0) rfl rfl ?_
        refine z_bipush C dX12_one_71 (v := 41) (by decide) ?_
        refine t_callV C (rest := []) (c2 := 0) (s2 := 0) (kd := 100) (i := 0) [.int (41)] dX12_one_73 lk_X12_336 li_X12_sign le_X12_sign (c_X12_sign hfl h) rfl rfl (by decide) rfl ⟨_, rfl⟩ rfl ⟨Nat.le_of_ble_eq_true rfl, Nat.le_of_ble_eq_true rfl⟩ (Nat.le_of_ble_eq_true rfl) ⟨Nat.le_of_ble_eq_true rfl, Nat.le_of_ble_eq_true rfl, Nat.le_of_ble_eq_true rfl, Nat.le_of_ble_eq_true rfl⟩ (k_Wv fun s73 h => ?_)
        refine z_aload_n C dX12_one_76 (i := 0) rfl rfl ?_
        refine z_dup C dX12_one_77 rfl ?_
        refine t_get C dX12_one_78 fl_X12_324 (k := 100) (i := 0) (by decide) rfl (fg_100_12 _ _ _) ?_
        refine z_iconst C dX12_one_81 (v := 1) (by decide) ?_
        refine z_isub C dX12_one_82 ?_
        refine t_put C dX12_one_83 fq_X12_324 (Or.inl rfl) (k := 100) (i := 0) (by decide) rfl ⟨rfl, rfl⟩ (fp_100_12 _ _ _ _ _) ?_
        refine t_tops (fun s83 es83 => ?_)
        have h := h s83 es83
        exact z_vret C dX12_one_86 hr ⟨_, rfl, rfl, h⟩ (Nat.le_of_ble_eq_true rfl) (Nat.le_of_ble_eq_true rfl)
    · have h := h.2 c19
      refine z_aload_n C dX12_one_22 (i := 0) rfl rfl ?_
      refine z_iconst C dX12_one_23 (v := 3) (by decide) ?_
      refine t_callV C (rest := []) (c2 := 0) (s2 := 0) (kd := 100) (i := 0) [.int (3)] dX12_one_24 lk_X12_329 li_X12_opens le_X12_opens (c_X12_opens hfl h) rfl rfl (by decide) rfl ⟨_, rfl⟩ rfl ⟨Nat.le_of_ble_eq_true rfl, Nat.le_of_ble_eq_true rfl⟩ (Nat.le_of_ble_eq_true rfl) ⟨Nat.le_of_ble_eq_true rfl, Nat.le_of_ble_eq_true rfl, Nat.le_of_ble_eq_true rfl, Nat.le_of_ble_eq_true rfl⟩ (k_Wv fun s24 h => ?_)
      refine z_aload_n C dX12_one_27 (i := 0) rfl rfl ?_
      refine t_callV C (rest := []) (c2 := 0) (s2 := 0) (kd := 100) (i := 0) [] dX12_one_28 lk_X12_319 li_X12_one le_X12_one (c_X12_one_L9 hfl h) rfl rfl (by decide) rfl ⟨_, rfl⟩ rfl ⟨Nat.le_of_ble_eq_true rfl, Nat.le_of_ble_eq_true rfl⟩ (Nat.le_of_ble_eq_true rfl) ⟨Nat.le_of_ble_eq_true rfl, Nat.le_of_ble_eq_true rfl, Nat.le_of_ble_eq_true rfl, Nat.le_of_ble_eq_true rfl⟩ (k_Wv fun s28 h => ?_)
      refine z_aload_n C dX12_one_31 (i := 0) rfl rfl ?_
      refine z_dup C dX12_one_32 rfl ?_
      refine t_get C dX12_one_33 fl_X12_324 (k := 100) (i := 0) (by decide) rfl (fg_100_12 _ _ _) ?_
      refine z_iconst C dX12_one_36 (v := 1) (by decide) ?_
      refine z_isub C dX12_one_37 ?_
      refine t_put C dX12_one_38 fq_X12_324 (Or.inl rfl) (k := 100) (i := 0) (by decide) rfl ⟨rfl, rfl⟩ (fp_100_12 _ _ _ _ _) ?_
      refine t_tops (fun s38 es38 => ?_)
      have h := h s38 es38
      refine z_aload_n C dX12_one_41 (i := 0) rfl rfl ?_
      refine z_iconst C dX12_one_42 (v := 1) (by decide) ?_
      refine z_iconst C dX12_one_43 (v := 0) (by decide) ?_
      refine t_callV C (rest := []) (c2 := 0) (s2 := 0) (kd := 100) (i := 0) [.int (1), .int (0)] dX12_one_44 lk_X12_316 li_X12_emits le_X12_emits (c_X12_emits hfl h) rfl rfl (by decide) rfl ⟨_, rfl⟩ rfl ⟨Nat.le_of_ble_eq_true rfl, Nat.le_of_ble_eq_true rfl⟩ (Nat.le_of_ble_eq_true rfl) ⟨Nat.le_of_ble_eq_true rfl, Nat.le_of_ble_eq_true rfl, Nat.le_of_ble_eq_true rfl, Nat.le_of_ble_eq_true rfl⟩ (k_Wv fun s44 h => ?_)
      exact z_vret C dX12_one_47 hr ⟨_, rfl, rfl, h⟩ (Nat.le_of_ble_eq_true rfl) (Nat.le_of_ble_eq_true rfl)
  · have h := h.2 c4
    exact z_vret C dX12_one_7 hr ⟨_, rfl, rfl, h⟩ (Nat.le_of_ble_eq_true rfl) (Nat.le_of_ble_eq_true rfl)
def w_X12_ands_L8_4 (P : zTs → Prop)  : Nat → zTs → Prop
  | 0, _ => False
  | n9 + 1, st => w_X12_eat st 19 (fun (r8 : Int32) (s8 : zTs) => ((r8 = 0 → P s8) ∧ (¬ r8 = 0 → w_X12_one_L8 s8 (fun (s15 : zTs) => (w_X12_emits s15 2 0 (fun (s21 : zTs) => ((w_X12_ands_L8_4 P n9) s21)))))))
set_option maxHeartbeats 4000000 in
set_option maxRecDepth 100000 in
theorem j_X12_ands_L8_4 {P : zTs → Prop}  (hfl : l.stackTraces = false) (C : zC Z p s m args meth c cX12_ands 1 RX12) (hr : meth.sig.returnType = none) (hn9 : True)  : ∀ (n9 : Nat) (st : zTs), w_X12_ands_L8_4 P n9 st → zG Z ad0 h0 p l e ({ frames := 14, cells := 0, slots := 0, locals := 290 } : Room) s m args below meth c (MQ below (zQ Z ad0 h0 (zWv Z zm1 P)) args s 0 0 (zA Z)) 0 0 (zh Z zm1 st) 1 4 [some (.ref 100)] [] := by
  intro n9
  induction n9 with
  | zero => intro st h; exact h.elim
  | succ n9 hK4 =>
    intro st h
    rw [w_X12_ands_L8_4] at h
    refine z_aload_n C dX12_ands_4 (i := 0) rfl rfl ?_
    refine z_ldc_wS C dX12_ands_5 (i := 19) (text := "and") (by decide) ?_
    refine t_callV C (rest := []) (c2 := 0) (s2 := 0) (kd := 100) (i := 0) [.ref (200 + 256 * 19)] dX12_ands_8 lk_X12_313 li_X12_eat le_X12_eat (c_X12_eat hfl h) rfl rfl (by decide) rfl ⟨_, rfl⟩ rfl ⟨Nat.le_of_ble_eq_true rfl, Nat.le_of_ble_eq_true rfl⟩ (Nat.le_of_ble_eq_true rfl) ⟨Nat.le_of_ble_eq_true rfl, Nat.le_of_ble_eq_true rfl, Nat.le_of_ble_eq_true rfl, Nat.le_of_ble_eq_true rfl⟩ (k_Wi fun r8 s8 h => ?_)
    refine z_if_eq C dX12_ands_11 (tgt := 27) (by decide) (fun c11 => ?_) (fun c11 => ?_)
    · have h := h.1 c11
      exact z_vret C dX12_ands_27 hr ⟨_, rfl, rfl, h⟩ (Nat.le_of_ble_eq_true rfl) (Nat.le_of_ble_eq_true rfl)
    · have h := h.2 c11
      refine z_aload_n C dX12_ands_14 (i := 0) rfl rfl ?_
      refine t_callV C (rest := []) (c2 := 0) (s2 := 0) (kd := 100) (i := 0) [] dX12_ands_15 lk_X12_319 li_X12_one le_X12_one (c_X12_one_L8 hfl h) rfl rfl (by decide) rfl ⟨_, rfl⟩ rfl ⟨Nat.le_of_ble_eq_true rfl, Nat.le_of_ble_eq_true rfl⟩ (Nat.le_of_ble_eq_true rfl) ⟨Nat.le_of_ble_eq_true rfl, Nat.le_of_ble_eq_true rfl, Nat.le_of_ble_eq_true rfl, Nat.le_of_ble_eq_true rfl⟩ (k_Wv fun s15 h => ?_)
      refine z_aload_n C dX12_ands_18 (i := 0) rfl rfl ?_
      refine z_iconst C dX12_ands_19 (v := 2) (by decide) ?_
      refine z_iconst C dX12_ands_20 (v := 0) (by decide) ?_
      refine t_callV C (rest := []) (c2 := 0) (s2 := 0) (kd := 100) (i := 0) [.int (2), .int (0)] dX12_ands_21 lk_X12_316 li_X12_emits le_X12_emits (c_X12_emits hfl h) rfl rfl (by decide) rfl ⟨_, rfl⟩ rfl ⟨Nat.le_of_ble_eq_true rfl, Nat.le_of_ble_eq_true rfl⟩ (Nat.le_of_ble_eq_true rfl) ⟨Nat.le_of_ble_eq_true rfl, Nat.le_of_ble_eq_true rfl, Nat.le_of_ble_eq_true rfl, Nat.le_of_ble_eq_true rfl⟩ (k_Wv fun s21 h => ?_)
      refine z_goto C dX12_ands_24 (tgt := 4) (by decide) ?_
      exact t_drop [true] rfl (hK4 s21 h)
def w_X12_ands_L8 (st : zTs)  (P : zTs → Prop) : Prop := w_X12_one_L8 st (fun (s1 : zTs) => (w_X12_ands_L8_4 P zfu s1))
set_option maxHeartbeats 4000000 in
set_option maxRecDepth 100000 in
theorem c_X12_ands_L8 {Z : zZ} {l : Launch} (hfl : l.stackTraces = false) {st : zTs}  {P : zTs → Prop} (h : w_X12_ands_L8 st  P) : zN Z l yX12_ands cX12_ands 1 none ({ frames := 14, cells := 0, slots := 0, locals := 290 } : Room) (zh Z zm1 st) [.ref 100] (zWv Z zm1 P) := by
  unfold w_X12_ands_L8 at h
  refine z_enterN (by decide) (Nat.le_of_ble_eq_true rfl) (lc0 := [some (.ref 100)]) rfl ?_
  intro p e s m args below meth c ad0 C hr _
  have hn9 : True := trivial
  replace C : zC Z p s m args meth c cX12_ands 1 RX12 := C
  refine z_aload_n C dX12_ands_0 (i := 0) rfl rfl ?_
  refine t_callV C (rest := []) (c2 := 0) (s2 := 0) (kd := 100) (i := 0) [] dX12_ands_1 lk_X12_319 li_X12_one le_X12_one (c_X12_one_L8 hfl h) rfl rfl (by decide) rfl ⟨_, rfl⟩ rfl ⟨Nat.le_of_ble_eq_true rfl, Nat.le_of_ble_eq_true rfl⟩ (Nat.le_of_ble_eq_true rfl) ⟨Nat.le_of_ble_eq_true rfl, Nat.le_of_ble_eq_true rfl, Nat.le_of_ble_eq_true rfl, Nat.le_of_ble_eq_true rfl⟩ (k_Wv fun s1 h => ?_)
  exact t_drop [true] rfl (j_X12_ands_L8_4 hfl C hr hn9  zfu s1 h)
def w_X12_ors_L8_4 (P : zTs → Prop)  : Nat → zTs → Prop
  | 0, _ => False
  | n9 + 1, st => w_X12_eat st 18 (fun (r8 : Int32) (s8 : zTs) => ((r8 = 0 → P s8) ∧ (¬ r8 = 0 → w_X12_ands_L8 s8 (fun (s15 : zTs) => (w_X12_emits s15 3 0 (fun (s21 : zTs) => ((w_X12_ors_L8_4 P n9) s21)))))))
set_option maxHeartbeats 4000000 in
set_option maxRecDepth 100000 in
theorem j_X12_ors_L8_4 {P : zTs → Prop}  (hfl : l.stackTraces = false) (C : zC Z p s m args meth c cX12_ors 1 RX12) (hr : meth.sig.returnType = none) (hn9 : True)  : ∀ (n9 : Nat) (st : zTs), w_X12_ors_L8_4 P n9 st → zG Z ad0 h0 p l e ({ frames := 15, cells := 0, slots := 0, locals := 310 } : Room) s m args below meth c (MQ below (zQ Z ad0 h0 (zWv Z zm1 P)) args s 0 0 (zA Z)) 0 0 (zh Z zm1 st) 1 4 [some (.ref 100)] [] := by
  intro n9
  induction n9 with
  | zero => intro st h; exact h.elim
  | succ n9 hK4 =>
    intro st h
    rw [w_X12_ors_L8_4] at h
    refine z_aload_n C dX12_ors_4 (i := 0) rfl rfl ?_
    refine z_ldc_wS C dX12_ors_5 (i := 18) (text := "or") (by decide) ?_
    refine t_callV C (rest := []) (c2 := 0) (s2 := 0) (kd := 100) (i := 0) [.ref (200 + 256 * 18)] dX12_ors_8 lk_X12_313 li_X12_eat le_X12_eat (c_X12_eat hfl h) rfl rfl (by decide) rfl ⟨_, rfl⟩ rfl ⟨Nat.le_of_ble_eq_true rfl, Nat.le_of_ble_eq_true rfl⟩ (Nat.le_of_ble_eq_true rfl) ⟨Nat.le_of_ble_eq_true rfl, Nat.le_of_ble_eq_true rfl, Nat.le_of_ble_eq_true rfl, Nat.le_of_ble_eq_true rfl⟩ (k_Wi fun r8 s8 h => ?_)
    refine z_if_eq C dX12_ors_11 (tgt := 27) (by decide) (fun c11 => ?_) (fun c11 => ?_)
    · have h := h.1 c11
      exact z_vret C dX12_ors_27 hr ⟨_, rfl, rfl, h⟩ (Nat.le_of_ble_eq_true rfl) (Nat.le_of_ble_eq_true rfl)
    · have h := h.2 c11
      refine z_aload_n C dX12_ors_14 (i := 0) rfl rfl ?_
      refine t_callV C (rest := []) (c2 := 0) (s2 := 0) (kd := 100) (i := 0) [] dX12_ors_15 lk_X12_308 li_X12_ands le_X12_ands (c_X12_ands_L8 hfl h) rfl rfl (by decide) rfl ⟨_, rfl⟩ rfl ⟨Nat.le_of_ble_eq_true rfl, Nat.le_of_ble_eq_true rfl⟩ (Nat.le_of_ble_eq_true rfl) ⟨Nat.le_of_ble_eq_true rfl, Nat.le_of_ble_eq_true rfl, Nat.le_of_ble_eq_true rfl, Nat.le_of_ble_eq_true rfl⟩ (k_Wv fun s15 h => ?_)
      refine z_aload_n C dX12_ors_18 (i := 0) rfl rfl ?_
      refine z_iconst C dX12_ors_19 (v := 3) (by decide) ?_
      refine z_iconst C dX12_ors_20 (v := 0) (by decide) ?_
      refine t_callV C (rest := []) (c2 := 0) (s2 := 0) (kd := 100) (i := 0) [.int (3), .int (0)] dX12_ors_21 lk_X12_316 li_X12_emits le_X12_emits (c_X12_emits hfl h) rfl rfl (by decide) rfl ⟨_, rfl⟩ rfl ⟨Nat.le_of_ble_eq_true rfl, Nat.le_of_ble_eq_true rfl⟩ (Nat.le_of_ble_eq_true rfl) ⟨Nat.le_of_ble_eq_true rfl, Nat.le_of_ble_eq_true rfl, Nat.le_of_ble_eq_true rfl, Nat.le_of_ble_eq_true rfl⟩ (k_Wv fun s21 h => ?_)
      refine z_goto C dX12_ors_24 (tgt := 4) (by decide) ?_
      exact t_drop [true] rfl (hK4 s21 h)
def w_X12_ors_L8 (st : zTs)  (P : zTs → Prop) : Prop := w_X12_ands_L8 st (fun (s1 : zTs) => (w_X12_ors_L8_4 P zfu s1))
set_option maxHeartbeats 4000000 in
set_option maxRecDepth 100000 in
theorem c_X12_ors_L8 {Z : zZ} {l : Launch} (hfl : l.stackTraces = false) {st : zTs}  {P : zTs → Prop} (h : w_X12_ors_L8 st  P) : zN Z l yX12_ors cX12_ors 1 none ({ frames := 15, cells := 0, slots := 0, locals := 310 } : Room) (zh Z zm1 st) [.ref 100] (zWv Z zm1 P) := by
  unfold w_X12_ors_L8 at h
  refine z_enterN (by decide) (Nat.le_of_ble_eq_true rfl) (lc0 := [some (.ref 100)]) rfl ?_
  intro p e s m args below meth c ad0 C hr _
  have hn9 : True := trivial
  replace C : zC Z p s m args meth c cX12_ors 1 RX12 := C
  refine z_aload_n C dX12_ors_0 (i := 0) rfl rfl ?_
  refine t_callV C (rest := []) (c2 := 0) (s2 := 0) (kd := 100) (i := 0) [] dX12_ors_1 lk_X12_308 li_X12_ands le_X12_ands (c_X12_ands_L8 hfl h) rfl rfl (by decide) rfl ⟨_, rfl⟩ rfl ⟨Nat.le_of_ble_eq_true rfl, Nat.le_of_ble_eq_true rfl⟩ (Nat.le_of_ble_eq_true rfl) ⟨Nat.le_of_ble_eq_true rfl, Nat.le_of_ble_eq_true rfl, Nat.le_of_ble_eq_true rfl, Nat.le_of_ble_eq_true rfl⟩ (k_Wv fun s1 h => ?_)
  exact t_drop [true] rfl (j_X12_ors_L8_4 hfl C hr hn9  zfu s1 h)
def w_X12_one_L7_189 (P : zTs → Prop)  (st : zTs) (a1 : Int32) (a3 : Int32) (b0 : Int32) : Prop := w_X12_emits st b0 ((3 * a3) + a1) (fun (s194 : zTs) => (P s194))
set_option maxHeartbeats 4000000 in
set_option maxRecDepth 100000 in
theorem j_X12_one_L7_189 {P : zTs → Prop}  (hfl : l.stackTraces = false) (C : zC Z p s m args meth c cX12_one 4 RX12) (hr : meth.sig.returnType = none) (hn9 : True)  (st : zTs) (a1 : Int32) (a3 : Int32) (b0 : Int32) (h : w_X12_one_L7_189 P st a1 a3 b0) : zG Z ad0 h0 p l e ({ frames := 16, cells := 0, slots := 0, locals := 330 } : Room) s m args below meth c (MQ below (zQ Z ad0 h0 (zWv Z zm1 P)) args s 0 0 (zA Z)) 0 0 (zh Z zm1 st) 4 189 [none, some (.int (a1)), none, some (.int (a3))] [.int (b0), .ref 100] := by
  unfold w_X12_one_L7_189 at h
  refine z_iconst C dX12_one_189 (v := 3) (by decide) ?_
  refine z_iload_n C dX12_one_190 (i := 3) rfl rfl ?_
  refine z_imul C dX12_one_191 ?_
  refine z_iload_n C dX12_one_192 (i := 1) rfl rfl ?_
  refine z_iadd C dX12_one_193 ?_
  refine t_callV C (rest := []) (c2 := 0) (s2 := 0) (kd := 100) (i := 0) [.int (b0), .int ((3 * a3) + a1)] dX12_one_194 lk_X12_316 li_X12_emits le_X12_emits (c_X12_emits hfl h) rfl rfl (by decide) rfl ⟨_, rfl⟩ rfl ⟨Nat.le_of_ble_eq_true rfl, Nat.le_of_ble_eq_true rfl⟩ (Nat.le_of_ble_eq_true rfl) ⟨Nat.le_of_ble_eq_true rfl, Nat.le_of_ble_eq_true rfl, Nat.le_of_ble_eq_true rfl, Nat.le_of_ble_eq_true rfl⟩ (k_Wv fun s194 h => ?_)
  exact z_vret C dX12_one_197 hr ⟨_, rfl, rfl, h⟩ (Nat.le_of_ble_eq_true rfl) (Nat.le_of_ble_eq_true rfl)
def w_X12_one_L7_158 (P : zTs → Prop)  (st : zTs) (a1 : Int32) (a2 : Int32) : Prop := ∀ s165 : zTs, s165 = zuF st 100 0 8 ((zgF st 100 0 8) + 1) → (w_X12_number s165 0 9999 (fun (r173 : Int32) (s173 : zTs) => ((a2 = 60 → w_X12_one_L7_189 P s173 a1 r173 (4)) ∧ (¬ a2 = 60 → w_X12_one_L7_189 P s173 a1 r173 (5)))))
set_option maxHeartbeats 4000000 in
set_option maxRecDepth 100000 in
theorem j_X12_one_L7_158 {P : zTs → Prop}  (hfl : l.stackTraces = false) (C : zC Z p s m args meth c cX12_one 4 RX12) (hr : meth.sig.returnType = none) (hn9 : True)  (st : zTs) (a1 : Int32) (a2 : Int32) (h : w_X12_one_L7_158 P st a1 a2) : zG Z ad0 h0 p l e ({ frames := 16, cells := 0, slots := 0, locals := 330 } : Room) s m args below meth c (MQ below (zQ Z ad0 h0 (zWv Z zm1 P)) args s 0 0 (zA Z)) 0 0 (zh Z zm1 st) 4 158 [some (.ref 100), some (.int (a1)), some (.int (a2)), none] [] := by
  unfold w_X12_one_L7_158 at h
  refine z_aload_n C dX12_one_158 (i := 0) rfl rfl ?_
  refine z_dup C dX12_one_159 rfl ?_
  refine t_get C dX12_one_160 fl_X12_232 (k := 100) (i := 0) (by decide) rfl (fg_100_8 _ _ _) ?_
  refine z_iconst C dX12_one_163 (v := 1) (by decide) ?_
  refine z_iadd C dX12_one_164 ?_
  refine t_put C dX12_one_165 fq_X12_232 (Or.inl rfl) (k := 100) (i := 0) (by decide) rfl ⟨rfl, rfl⟩ (fp_100_8 _ _ _ _ _) ?_
  refine t_tops (fun s165 es165 => ?_)
  have h := h s165 es165
  refine z_aload_n C dX12_one_168 (i := 0) rfl rfl ?_
  refine z_iconst C dX12_one_169 (v := 0) (by decide) ?_
  refine z_sipush C dX12_one_170 (v := 9999) (by decide) ?_
  refine t_callV C (rest := []) (c2 := 0) (s2 := 0) (kd := 100) (i := 0) [.int (0), .int (9999)] dX12_one_173 lk_X12_342 li_X12_number le_X12_number (c_X12_number hfl h) rfl rfl (by decide) rfl ⟨_, rfl⟩ rfl ⟨Nat.le_of_ble_eq_true rfl, Nat.le_of_ble_eq_true rfl⟩ (Nat.le_of_ble_eq_true rfl) ⟨Nat.le_of_ble_eq_true rfl, Nat.le_of_ble_eq_true rfl, Nat.le_of_ble_eq_true rfl, Nat.le_of_ble_eq_true rfl⟩ (k_Wi fun r173 s173 h => ?_)
  refine z_istore_n C dX12_one_176 (i := 3) (lc' := [some (.ref 100), some (.int (a1)), some (.int (a2)), some (.int (r173))]) rfl (by decide) rfl ?_
  refine z_aload_n C dX12_one_177 (i := 0) rfl rfl ?_
  refine z_iload_n C dX12_one_178 (i := 2) rfl rfl ?_
  refine z_bipush C dX12_one_179 (v := 60) (by decide) ?_
  refine z_icmp_ne C dX12_one_181 (tgt := 188) (by decide) (fun c181 => ?_) (fun c181 => ?_)
  · have h := h.2 c181
    refine z_iconst C dX12_one_188 (v := 5) (by decide) ?_
    exact t_drop [false, true, false, true] rfl (j_X12_one_L7_189 hfl C hr hn9  s173 a1 r173 (5) h)
  · have h := h.1 c181
    refine z_iconst C dX12_one_184 (v := 4) (by decide) ?_
    refine z_goto C dX12_one_185 (tgt := 189) (by decide) ?_
    exact t_drop [false, true, false, true] rfl (j_X12_one_L7_189 hfl C hr hn9  s173 a1 r173 (4) h)
def w_X12_one_L7_148 (P : zTs → Prop)  (st : zTs) : Prop := w_X12_wrong st 1 (zgF st 100 0 8) (fun (s154 : zTs) => (P s154))
set_option maxHeartbeats 4000000 in
set_option maxRecDepth 100000 in
theorem j_X12_one_L7_148 {P : zTs → Prop}  (hfl : l.stackTraces = false) (C : zC Z p s m args meth c cX12_one 4 RX12) (hr : meth.sig.returnType = none) (hn9 : True)  (st : zTs) (h : w_X12_one_L7_148 P st) : zG Z ad0 h0 p l e ({ frames := 16, cells := 0, slots := 0, locals := 330 } : Room) s m args below meth c (MQ below (zQ Z ad0 h0 (zWv Z zm1 P)) args s 0 0 (zA Z)) 0 0 (zh Z zm1 st) 4 148 [some (.ref 100), none, none, none] [] := by
  unfold w_X12_one_L7_148 at h
  refine z_aload_n C dX12_one_148 (i := 0) rfl rfl ?_
  refine z_iconst C dX12_one_149 (v := 1) (by decide) ?_
  refine z_aload_n C dX12_one_150 (i := 0) rfl rfl ?_
  refine t_get C dX12_one_151 fl_X12_232 (k := 100) (i := 0) (by decide) rfl (fg_100_8 _ _ _) ?_
  refine t_callV C (rest := []) (c2 := 0) (s2 := 0) (kd := 100) (i := 0) [.int (1), .int (zgF st 100 0 8)] dX12_one_154 lk_X12_300 li_X12_wrong le_X12_wrong (c_X12_wrong hfl h) rfl rfl (by decide) rfl ⟨_, rfl⟩ rfl ⟨Nat.le_of_ble_eq_true rfl, Nat.le_of_ble_eq_true rfl⟩ (Nat.le_of_ble_eq_true rfl) ⟨Nat.le_of_ble_eq_true rfl, Nat.le_of_ble_eq_true rfl, Nat.le_of_ble_eq_true rfl, Nat.le_of_ble_eq_true rfl⟩ (k_Wv fun s154 h => ?_)
  exact z_vret C dX12_one_157 hr ⟨_, rfl, rfl, h⟩ (Nat.le_of_ble_eq_true rfl) (Nat.le_of_ble_eq_true rfl)
def w_X12_one_L7_119 (P : zTs → Prop)  (st : zTs) (a1 : Int32) : Prop := w_X12_blanks st (fun (s120 : zTs) => (w_X12_byteAt s120 (zgF s120 100 0 8) (fun (r128 : Int32) => ((a1 < 0 → w_X12_one_L7_148 P s120) ∧ (¬ a1 < 0 → (r128 = 60 → w_X12_one_L7_158 P s120 a1 r128) ∧ (¬ r128 = 60 → (r128 = 62 → w_X12_one_L7_158 P s120 a1 r128) ∧ (¬ r128 = 62 → w_X12_one_L7_148 P s120)))))))
set_option maxHeartbeats 4000000 in
set_option maxRecDepth 100000 in
theorem j_X12_one_L7_119 {P : zTs → Prop}  (hfl : l.stackTraces = false) (C : zC Z p s m args meth c cX12_one 4 RX12) (hr : meth.sig.returnType = none) (hn9 : True)  (st : zTs) (a1 : Int32) (h : w_X12_one_L7_119 P st a1) : zG Z ad0 h0 p l e ({ frames := 16, cells := 0, slots := 0, locals := 330 } : Room) s m args below meth c (MQ below (zQ Z ad0 h0 (zWv Z zm1 P)) args s 0 0 (zA Z)) 0 0 (zh Z zm1 st) 4 119 [some (.ref 100), some (.int (a1)), none, none] [] := by
  unfold w_X12_one_L7_119 at h
  refine z_aload_n C dX12_one_119 (i := 0) rfl rfl ?_
  refine t_callV C (rest := []) (c2 := 0) (s2 := 0) (kd := 100) (i := 0) [] dX12_one_120 lk_X12_242 li_X12_blanks le_X12_blanks (c_X12_blanks hfl h) rfl rfl (by decide) rfl ⟨_, rfl⟩ rfl ⟨Nat.le_of_ble_eq_true rfl, Nat.le_of_ble_eq_true rfl⟩ (Nat.le_of_ble_eq_true rfl) ⟨Nat.le_of_ble_eq_true rfl, Nat.le_of_ble_eq_true rfl, Nat.le_of_ble_eq_true rfl, Nat.le_of_ble_eq_true rfl⟩ (k_Wv fun s120 h => ?_)
  refine z_aload_n C dX12_one_123 (i := 0) rfl rfl ?_
  refine z_aload_n C dX12_one_124 (i := 0) rfl rfl ?_
  refine t_get C dX12_one_125 fl_X12_232 (k := 100) (i := 0) (by decide) rfl (fg_100_8 _ _ _) ?_
  refine t_callV C (rest := []) (c2 := 0) (s2 := 0) (kd := 100) (i := 0) [.int (zgF s120 100 0 8)] dX12_one_128 lk_X12_235 li_X12_byteAt le_X12_byteAt (c_X12_byteAt hfl h) rfl rfl (by decide) rfl ⟨_, rfl⟩ rfl ⟨Nat.le_of_ble_eq_true rfl, Nat.le_of_ble_eq_true rfl⟩ (Nat.le_of_ble_eq_true rfl) ⟨Nat.le_of_ble_eq_true rfl, Nat.le_of_ble_eq_true rfl, Nat.le_of_ble_eq_true rfl, Nat.le_of_ble_eq_true rfl⟩ (k_Ri fun r128 h => ?_)
  refine z_istore_n C dX12_one_131 (i := 2) (lc' := [some (.ref 100), some (.int (a1)), some (.int (r128)), none]) rfl (by decide) rfl ?_
  refine z_iload_n C dX12_one_132 (i := 1) rfl rfl ?_
  refine z_if_lt C dX12_one_133 (tgt := 148) (by decide) (fun c133 => ?_) (fun c133 => ?_)
  · have h := h.1 c133
    exact t_drop [true, false, false, false] rfl (j_X12_one_L7_148 hfl C hr hn9  s120 h)
  · have h := h.2 c133
    refine z_iload_n C dX12_one_136 (i := 2) rfl rfl ?_
    refine z_bipush C dX12_one_137 (v := 60) (by decide) ?_
    refine z_icmp_eq C dX12_one_139 (tgt := 158) (by decide) (fun c139 => ?_) (fun c139 => ?_)
    · have h := h.1 c139
      exact t_drop [true, true, true, false] rfl (j_X12_one_L7_158 hfl C hr hn9  s120 a1 r128 h)
    · have h := h.2 c139
      refine z_iload_n C dX12_one_142 (i := 2) rfl rfl ?_
      refine z_bipush C dX12_one_143 (v := 62) (by decide) ?_
      refine z_icmp_eq C dX12_one_145 (tgt := 158) (by decide) (fun c145 => ?_) (fun c145 => ?_)
      · have h := h.1 c145
        exact t_drop [true, true, true, false] rfl (j_X12_one_L7_158 hfl C hr hn9  s120 a1 r128 h)
      · have h := h.2 c145
        exact t_drop [true, false, false, false] rfl (j_X12_one_L7_148 hfl C hr hn9  s120 h)
def w_X12_one_L7_113 (P : zTs → Prop) (K91 : zTs → Int32 → Int32 → Prop) (st : zTs) (a1 : Int32) (a2 : Int32) : Prop := ∀ x113 : Int32, x113 = a2 + 1 → (K91 st a1 x113)
set_option maxHeartbeats 4000000 in
set_option maxRecDepth 100000 in
theorem j_X12_one_L7_113 {P : zTs → Prop} {K91 : zTs → Int32 → Int32 → Prop} (hfl : l.stackTraces = false) (C : zC Z p s m args meth c cX12_one 4 RX12) (hr : meth.sig.returnType = none) (hn9 : True) (hK91 : ∀ (st : zTs) (a1 : Int32) (a2 : Int32), K91 st a1 a2 → zG Z ad0 h0 p l e ({ frames := 16, cells := 0, slots := 0, locals := 330 } : Room) s m args below meth c (MQ below (zQ Z ad0 h0 (zWv Z zm1 P)) args s 0 0 (zA Z)) 0 0 (zh Z zm1 st) 4 91 [some (.ref 100), some (.int (a1)), some (.int (a2)), none] []) (st : zTs) (a1 : Int32) (a2 : Int32) (h : w_X12_one_L7_113 P K91 st a1 a2) : zG Z ad0 h0 p l e ({ frames := 16, cells := 0, slots := 0, locals := 330 } : Room) s m args below meth c (MQ below (zQ Z ad0 h0 (zWv Z zm1 P)) args s 0 0 (zA Z)) 0 0 (zh Z zm1 st) 4 113 [some (.ref 100), some (.int (a1)), some (.int (a2)), none] [] := by
  unfold w_X12_one_L7_113 at h
  obtain ⟨x113, ex113⟩ : ∃ z : Int32, z = a2 + 1 := ⟨_, rfl⟩
  have h := h x113 ex113
  refine z_iinc C dX12_one_113 (v := x113) (lc' := [some (.ref 100), some (.int (a1)), some (.int (x113)), none]) rfl (by decide) (by rw [ex113]; rfl) rfl ?_
  refine z_goto C dX12_one_116 (tgt := 91) (by decide) ?_
  exact t_drop [true, true, true, false] rfl (hK91 st a1 x113 h)
def w_X12_one_L7_91 (P : zTs → Prop)  : Nat → zTs → Int32 → Int32 → Prop
  | 0, _, _, _ => False
  | n9 + 1, st, a1, a2 => (3 ≤ a2 → w_X12_one_L7_119 P st a1) ∧ (¬ 3 ≤ a2 → (0 ≤ a1 → w_X12_one_L7_119 P st a1) ∧ (¬ 0 ≤ a1 → w_X12_measureOf st a2 (fun (r102 : Nat) => (w_X12_eat st r102 (fun (r105 : Int32) (s105 : zTs) => ((r105 = 0 → w_X12_one_L7_113 P (w_X12_one_L7_91 P n9) s105 a1 a2) ∧ (¬ r105 = 0 → w_X12_one_L7_113 P (w_X12_one_L7_91 P n9) s105 a2 a2)))))))
set_option maxHeartbeats 4000000 in
set_option maxRecDepth 100000 in
theorem j_X12_one_L7_91 {P : zTs → Prop}  (hfl : l.stackTraces = false) (C : zC Z p s m args meth c cX12_one 4 RX12) (hr : meth.sig.returnType = none) (hn9 : True)  : ∀ (n9 : Nat) (st : zTs) (a1 : Int32) (a2 : Int32), w_X12_one_L7_91 P n9 st a1 a2 → zG Z ad0 h0 p l e ({ frames := 16, cells := 0, slots := 0, locals := 330 } : Room) s m args below meth c (MQ below (zQ Z ad0 h0 (zWv Z zm1 P)) args s 0 0 (zA Z)) 0 0 (zh Z zm1 st) 4 91 [some (.ref 100), some (.int (a1)), some (.int (a2)), none] [] := by
  intro n9
  induction n9 with
  | zero => intro st a1 a2 h; exact h.elim
  | succ n9 hK91 =>
    intro st a1 a2 h
    rw [w_X12_one_L7_91] at h
    refine z_iload_n C dX12_one_91 (i := 2) rfl rfl ?_
    refine z_iconst C dX12_one_92 (v := 3) (by decide) ?_
    refine z_icmp_ge C dX12_one_93 (tgt := 119) (by decide) (fun c93 => ?_) (fun c93 => ?_)
    · have h := h.1 c93
      exact t_drop [true, true, false, false] rfl (j_X12_one_L7_119 hfl C hr hn9  st a1 h)
    · have h := h.2 c93
      refine z_iload_n C dX12_one_96 (i := 1) rfl rfl ?_
      refine z_if_ge C dX12_one_97 (tgt := 119) (by decide) (fun c97 => ?_) (fun c97 => ?_)
      · have h := h.1 c97
        exact t_drop [true, true, false, false] rfl (j_X12_one_L7_119 hfl C hr hn9  st a1 h)
      · have h := h.2 c97
        refine z_aload_n C dX12_one_100 (i := 0) rfl rfl ?_
        refine z_iload_n C dX12_one_101 (i := 2) rfl rfl ?_
        refine t_callS C (rest := [.ref 100]) (c2 := 0) (s2 := 0) [.int (a2)] dX12_one_102 lk_X12_339 ls_X12_measureOf (c_X12_measureOf hfl h) rfl rfl ⟨Nat.le_of_ble_eq_true rfl, Nat.le_of_ble_eq_true rfl⟩ (Nat.le_of_ble_eq_true rfl) ⟨Nat.le_of_ble_eq_true rfl, Nat.le_of_ble_eq_true rfl, Nat.le_of_ble_eq_true rfl, Nat.le_of_ble_eq_true rfl⟩ (k_Rr fun r102 h => ?_)
        refine t_callV C (rest := []) (c2 := 0) (s2 := 0) (kd := 100) (i := 0) [.ref (200 + 256 * r102)] dX12_one_105 lk_X12_313 li_X12_eat le_X12_eat (c_X12_eat hfl h) rfl rfl (by decide) rfl ⟨_, rfl⟩ rfl ⟨Nat.le_of_ble_eq_true rfl, Nat.le_of_ble_eq_true rfl⟩ (Nat.le_of_ble_eq_true rfl) ⟨Nat.le_of_ble_eq_true rfl, Nat.le_of_ble_eq_true rfl, Nat.le_of_ble_eq_true rfl, Nat.le_of_ble_eq_true rfl⟩ (k_Wi fun r105 s105 h => ?_)
        refine z_if_eq C dX12_one_108 (tgt := 113) (by decide) (fun c108 => ?_) (fun c108 => ?_)
        · have h := h.1 c108
          exact t_drop [true, true, true, false] rfl (j_X12_one_L7_113 hfl C hr hn9 hK91 s105 a1 a2 h)
        · have h := h.2 c108
          refine z_iload_n C dX12_one_111 (i := 2) rfl rfl ?_
          refine z_istore_n C dX12_one_112 (i := 1) (lc' := [some (.ref 100), some (.int (a2)), some (.int (a2)), none]) rfl (by decide) rfl ?_
          exact t_drop [true, true, true, false] rfl (j_X12_one_L7_113 hfl C hr hn9 hK91 s105 a2 a2 h)
def w_X12_one_L7 (st : zTs)  (P : zTs → Prop) : Prop := ((zgF st 100 0 9) ≤ 0 → w_X12_blanks st (fun (s9 : zTs) => (w_X12_isWord s9 20 (fun (r16 : Int32) (s16 : zTs) => ((r16 = 0 → w_X12_byteAt s16 (zgF s16 100 0 8) (fun (r53 : Int32) => ((r53 = 40 → w_X12_opens s16 1 (fun (s63 : zTs) => (w_X12_ors_L8 s63 (fun (s67 : zTs) => (w_X12_sign s67 41 (fun (s73 : zTs) => (∀ s83 : zTs, s83 = zuF s73 100 0 12 ((zgF s73 100 0 12) - 1) → (P s83)))))))) ∧ (¬ r53 = 40 → w_X12_one_L7_91 P zfu s16 (-1) (0))))) ∧ (¬ r16 = 0 → w_X12_opens s16 3 (fun (s24 : zTs) => (w_X12_one_L8 s24 (fun (s28 : zTs) => (∀ s38 : zTs, s38 = zuF s28 100 0 12 ((zgF s28 100 0 12) - 1) → (w_X12_emits s38 1 0 (fun (s44 : zTs) => (P s44))))))))))))) ∧ (¬ (zgF st 100 0 9) ≤ 0 → P st)
set_option maxHeartbeats 4000000 in
set_option maxRecDepth 100000 in
theorem c_X12_one_L7 {Z : zZ} {l : Launch} (hfl : l.stackTraces = false) {st : zTs}  {P : zTs → Prop} (h : w_X12_one_L7 st  P) : zN Z l yX12_one cX12_one 4 none ({ frames := 16, cells := 0, slots := 0, locals := 330 } : Room) (zh Z zm1 st) [.ref 100] (zWv Z zm1 P) := by
  unfold w_X12_one_L7 at h
  refine z_enterN (by decide) (Nat.le_of_ble_eq_true rfl) (lc0 := [some (.ref 100), none, none, none]) rfl ?_
  intro p e s m args below meth c ad0 C hr _
  have hn9 : True := trivial
  replace C : zC Z p s m args meth c cX12_one 4 RX12 := C
  refine z_aload_n C dX12_one_0 (i := 0) rfl rfl ?_
  refine t_get C dX12_one_1 fl_X12_239 (k := 100) (i := 0) (by decide) rfl (fg_100_9 _ _ _) ?_
  refine z_if_le C dX12_one_4 (tgt := 8) (by decide) (fun c4 => ?_) (fun c4 => ?_)
  · have h := h.1 c4
    refine z_aload_n C dX12_one_8 (i := 0) rfl rfl ?_
    refine t_callV C (rest := []) (c2 := 0) (s2 := 0) (kd := 100) (i := 0) [] dX12_one_9 lk_X12_242 li_X12_blanks le_X12_blanks (c_X12_blanks hfl h) rfl rfl (by decide) rfl ⟨_, rfl⟩ rfl ⟨Nat.le_of_ble_eq_true rfl, Nat.le_of_ble_eq_true rfl⟩ (Nat.le_of_ble_eq_true rfl) ⟨Nat.le_of_ble_eq_true rfl, Nat.le_of_ble_eq_true rfl, Nat.le_of_ble_eq_true rfl, Nat.le_of_ble_eq_true rfl⟩ (k_Wv fun s9 h => ?_)
    refine z_aload_n C dX12_one_12 (i := 0) rfl rfl ?_
    refine z_ldc_wS C dX12_one_13 (i := 20) (text := "not") (by decide) ?_
    refine t_callV C (rest := []) (c2 := 0) (s2 := 0) (kd := 100) (i := 0) [.ref (200 + 256 * 20)] dX12_one_16 lk_X12_255 li_X12_isWord le_X12_isWord (c_X12_isWord hfl h) rfl rfl (by decide) rfl ⟨_, rfl⟩ rfl ⟨Nat.le_of_ble_eq_true rfl, Nat.le_of_ble_eq_true rfl⟩ (Nat.le_of_ble_eq_true rfl) ⟨Nat.le_of_ble_eq_true rfl, Nat.le_of_ble_eq_true rfl, Nat.le_of_ble_eq_true rfl, Nat.le_of_ble_eq_true rfl⟩ (k_Wi fun r16 s16 h => ?_)
    refine z_if_eq C dX12_one_19 (tgt := 48) (by decide) (fun c19 => ?_) (fun c19 => ?_)
    · have h := h.1 c19
      refine z_aload_n C dX12_one_48 (i := 0) rfl rfl ?_
      refine z_aload_n C dX12_one_49 (i := 0) rfl rfl ?_
      refine t_get C dX12_one_50 fl_X12_232 (k := 100) (i := 0) (by decide) rfl (fg_100_8 _ _ _) ?_
      refine t_callV C (rest := []) (c2 := 0) (s2 := 0) (kd := 100) (i := 0) [.int (zgF s16 100 0 8)] dX12_one_53 lk_X12_235 li_X12_byteAt le_X12_byteAt (c_X12_byteAt hfl h) rfl rfl (by decide) rfl ⟨_, rfl⟩ rfl ⟨Nat.le_of_ble_eq_true rfl, Nat.le_of_ble_eq_true rfl⟩ (Nat.le_of_ble_eq_true rfl) ⟨Nat.le_of_ble_eq_true rfl, Nat.le_of_ble_eq_true rfl, Nat.le_of_ble_eq_true rfl, Nat.le_of_ble_eq_true rfl⟩ (k_Ri fun r53 h => ?_)
      refine z_bipush C dX12_one_56 (v := 40) (by decide) ?_
      refine z_icmp_ne C dX12_one_58 (tgt := 87) (by decide) (fun c58 => ?_) (fun c58 => ?_)
      · have h := h.2 c58
        refine z_iconst C dX12_one_87 (v := (-1)) (by decide) ?_
        refine z_istore_n C dX12_one_88 (i := 1) (lc' := [some (.ref 100), some (.int (-1)), none, none]) rfl (by decide) rfl ?_
        refine z_iconst C dX12_one_89 (v := 0) (by decide) ?_
        refine z_istore_n C dX12_one_90 (i := 2) (lc' := [some (.ref 100), some (.int (-1)), some (.int (0)), none]) rfl (by decide) rfl ?_
        exact t_drop [true, true, true, false] rfl (j_X12_one_L7_91 hfl C hr hn9  zfu s16 (-1) (0) h)
      · have h := h.1 c58
        refine z_aload_n C dX12_one_61 (i := 0) rfl rfl ?_
        refine z_iconst C dX12_one_62 (v := 1) (by decide) ?_
        refine t_callV C (rest := []) (c2 := 0) (s2 := 0) (kd := 100) (i := 0) [.int (1)] dX12_one_63 lk_X12_329 li_X12_opens le_X12_opens (c_X12_opens hfl h) rfl rfl (by decide) rfl ⟨_, rfl⟩ rfl ⟨Nat.le_of_ble_eq_true rfl, Nat.le_of_ble_eq_true rfl⟩ (Nat.le_of_ble_eq_true rfl) ⟨Nat.le_of_ble_eq_true rfl, Nat.le_of_ble_eq_true rfl, Nat.le_of_ble_eq_true rfl, Nat.le_of_ble_eq_true rfl⟩ (k_Wv fun s63 h => ?_)
        refine z_aload_n C dX12_one_66 (i := 0) rfl rfl ?_
        refine t_callV C (rest := []) (c2 := 0) (s2 := 0) (kd := 100) (i := 0) [] dX12_one_67 lk_X12_333 li_X12_ors le_X12_ors (c_X12_ors_L8 hfl h) rfl rfl (by decide) rfl ⟨_, rfl⟩ rfl ⟨Nat.le_of_ble_eq_true rfl, Nat.le_of_ble_eq_true rfl⟩ (Nat.le_of_ble_eq_true rfl) ⟨Nat.le_of_ble_eq_true rfl, Nat.le_of_ble_eq_true rfl, Nat.le_of_ble_eq_true rfl, Nat.le_of_ble_eq_true rfl⟩ (k_Wv fun s67 h => ?_)
        refine z_aload_n C dX12_one_70 (i := 0) rfl rfl ?_
        refine z_bipush C dX12_one_71 (v := 41) (by decide) ?_
        refine t_callV C (rest := []) (c2 := 0) (s2 := 0) (kd := 100) (i := 0) [.int (41)] dX12_one_73 lk_X12_336 li_X12_sign le_X12_sign (c_X12_sign hfl h) rfl rfl (by decide) rfl ⟨_, rfl⟩ rfl ⟨Nat.le_of_ble_eq_true rfl, Nat.le_of_ble_eq_true rfl⟩ (Nat.le_of_ble_eq_true rfl) ⟨Nat.le_of_ble_eq_true rfl, Nat.le_of_ble_eq_true rfl, Nat.le_of_ble_eq_true rfl, Nat.le_of_ble_eq_true rfl⟩ (k_Wv fun s73 h => ?_)
        refine z_aload_n C dX12_one_76 (i := 0) rfl rfl ?_
        refine z_dup C dX12_one_77 rfl ?_
        refine t_get C dX12_one_78 fl_X12_324 (k := 100) (i := 0) (by decide) rfl (fg_100_12 _ _ _) ?_
        refine z_iconst C dX12_one_81 (v := 1) (by decide) ?_
        refine z_isub C dX12_one_82 ?_
        refine t_put C dX12_one_83 fq_X12_324 (Or.inl rfl) (k := 100) (i := 0) (by decide) rfl ⟨rfl, rfl⟩ (fp_100_12 _ _ _ _ _) ?_
        refine t_tops (fun s83 es83 => ?_)
        have h := h s83 es83
        exact z_vret C dX12_one_86 hr ⟨_, rfl, rfl, h⟩ (Nat.le_of_ble_eq_true rfl) (Nat.le_of_ble_eq_true rfl)
    · have h := h.2 c19
      refine z_aload_n C dX12_one_22 (i := 0) rfl rfl ?_
      refine z_iconst C dX12_one_23 (v := 3) (by decide) ?_
      refine t_callV C (rest := []) (c2 := 0) (s2 := 0) (kd := 100) (i := 0) [.int (3)] dX12_one_24 lk_X12_329 li_X12_opens le_X12_opens (c_X12_opens hfl h) rfl rfl (by decide) rfl ⟨_, rfl⟩ rfl ⟨Nat.le_of_ble_eq_true rfl, Nat.le_of_ble_eq_true rfl⟩ (Nat.le_of_ble_eq_true rfl) ⟨Nat.le_of_ble_eq_true rfl, Nat.le_of_ble_eq_true rfl, Nat.le_of_ble_eq_true rfl, Nat.le_of_ble_eq_true rfl⟩ (k_Wv fun s24 h => ?_)
      refine z_aload_n C dX12_one_27 (i := 0) rfl rfl ?_
      refine t_callV C (rest := []) (c2 := 0) (s2 := 0) (kd := 100) (i := 0) [] dX12_one_28 lk_X12_319 li_X12_one le_X12_one (c_X12_one_L8 hfl h) rfl rfl (by decide) rfl ⟨_, rfl⟩ rfl ⟨Nat.le_of_ble_eq_true rfl, Nat.le_of_ble_eq_true rfl⟩ (Nat.le_of_ble_eq_true rfl) ⟨Nat.le_of_ble_eq_true rfl, Nat.le_of_ble_eq_true rfl, Nat.le_of_ble_eq_true rfl, Nat.le_of_ble_eq_true rfl⟩ (k_Wv fun s28 h => ?_)
      refine z_aload_n C dX12_one_31 (i := 0) rfl rfl ?_
      refine z_dup C dX12_one_32 rfl ?_
      refine t_get C dX12_one_33 fl_X12_324 (k := 100) (i := 0) (by decide) rfl (fg_100_12 _ _ _) ?_
      refine z_iconst C dX12_one_36 (v := 1) (by decide) ?_
      refine z_isub C dX12_one_37 ?_
      refine t_put C dX12_one_38 fq_X12_324 (Or.inl rfl) (k := 100) (i := 0) (by decide) rfl ⟨rfl, rfl⟩ (fp_100_12 _ _ _ _ _) ?_
      refine t_tops (fun s38 es38 => ?_)
      have h := h s38 es38
      refine z_aload_n C dX12_one_41 (i := 0) rfl rfl ?_
      refine z_iconst C dX12_one_42 (v := 1) (by decide) ?_
      refine z_iconst C dX12_one_43 (v := 0) (by decide) ?_
      refine t_callV C (rest := []) (c2 := 0) (s2 := 0) (kd := 100) (i := 0) [.int (1), .int (0)] dX12_one_44 lk_X12_316 li_X12_emits le_X12_emits (c_X12_emits hfl h) rfl rfl (by decide) rfl ⟨_, rfl⟩ rfl ⟨Nat.le_of_ble_eq_true rfl, Nat.le_of_ble_eq_true rfl⟩ (Nat.le_of_ble_eq_true rfl) ⟨Nat.le_of_ble_eq_true rfl, Nat.le_of_ble_eq_true rfl, Nat.le_of_ble_eq_true rfl, Nat.le_of_ble_eq_true rfl⟩ (k_Wv fun s44 h => ?_)
      exact z_vret C dX12_one_47 hr ⟨_, rfl, rfl, h⟩ (Nat.le_of_ble_eq_true rfl) (Nat.le_of_ble_eq_true rfl)
  · have h := h.2 c4
    exact z_vret C dX12_one_7 hr ⟨_, rfl, rfl, h⟩ (Nat.le_of_ble_eq_true rfl) (Nat.le_of_ble_eq_true rfl)
def w_X12_ands_L7_4 (P : zTs → Prop)  : Nat → zTs → Prop
  | 0, _ => False
  | n9 + 1, st => w_X12_eat st 19 (fun (r8 : Int32) (s8 : zTs) => ((r8 = 0 → P s8) ∧ (¬ r8 = 0 → w_X12_one_L7 s8 (fun (s15 : zTs) => (w_X12_emits s15 2 0 (fun (s21 : zTs) => ((w_X12_ands_L7_4 P n9) s21)))))))
set_option maxHeartbeats 4000000 in
set_option maxRecDepth 100000 in
theorem j_X12_ands_L7_4 {P : zTs → Prop}  (hfl : l.stackTraces = false) (C : zC Z p s m args meth c cX12_ands 1 RX12) (hr : meth.sig.returnType = none) (hn9 : True)  : ∀ (n9 : Nat) (st : zTs), w_X12_ands_L7_4 P n9 st → zG Z ad0 h0 p l e ({ frames := 17, cells := 0, slots := 0, locals := 353 } : Room) s m args below meth c (MQ below (zQ Z ad0 h0 (zWv Z zm1 P)) args s 0 0 (zA Z)) 0 0 (zh Z zm1 st) 1 4 [some (.ref 100)] [] := by
  intro n9
  induction n9 with
  | zero => intro st h; exact h.elim
  | succ n9 hK4 =>
    intro st h
    rw [w_X12_ands_L7_4] at h
    refine z_aload_n C dX12_ands_4 (i := 0) rfl rfl ?_
    refine z_ldc_wS C dX12_ands_5 (i := 19) (text := "and") (by decide) ?_
    refine t_callV C (rest := []) (c2 := 0) (s2 := 0) (kd := 100) (i := 0) [.ref (200 + 256 * 19)] dX12_ands_8 lk_X12_313 li_X12_eat le_X12_eat (c_X12_eat hfl h) rfl rfl (by decide) rfl ⟨_, rfl⟩ rfl ⟨Nat.le_of_ble_eq_true rfl, Nat.le_of_ble_eq_true rfl⟩ (Nat.le_of_ble_eq_true rfl) ⟨Nat.le_of_ble_eq_true rfl, Nat.le_of_ble_eq_true rfl, Nat.le_of_ble_eq_true rfl, Nat.le_of_ble_eq_true rfl⟩ (k_Wi fun r8 s8 h => ?_)
    refine z_if_eq C dX12_ands_11 (tgt := 27) (by decide) (fun c11 => ?_) (fun c11 => ?_)
    · have h := h.1 c11
      exact z_vret C dX12_ands_27 hr ⟨_, rfl, rfl, h⟩ (Nat.le_of_ble_eq_true rfl) (Nat.le_of_ble_eq_true rfl)
    · have h := h.2 c11
      refine z_aload_n C dX12_ands_14 (i := 0) rfl rfl ?_
      refine t_callV C (rest := []) (c2 := 0) (s2 := 0) (kd := 100) (i := 0) [] dX12_ands_15 lk_X12_319 li_X12_one le_X12_one (c_X12_one_L7 hfl h) rfl rfl (by decide) rfl ⟨_, rfl⟩ rfl ⟨Nat.le_of_ble_eq_true rfl, Nat.le_of_ble_eq_true rfl⟩ (Nat.le_of_ble_eq_true rfl) ⟨Nat.le_of_ble_eq_true rfl, Nat.le_of_ble_eq_true rfl, Nat.le_of_ble_eq_true rfl, Nat.le_of_ble_eq_true rfl⟩ (k_Wv fun s15 h => ?_)
      refine z_aload_n C dX12_ands_18 (i := 0) rfl rfl ?_
      refine z_iconst C dX12_ands_19 (v := 2) (by decide) ?_
      refine z_iconst C dX12_ands_20 (v := 0) (by decide) ?_
      refine t_callV C (rest := []) (c2 := 0) (s2 := 0) (kd := 100) (i := 0) [.int (2), .int (0)] dX12_ands_21 lk_X12_316 li_X12_emits le_X12_emits (c_X12_emits hfl h) rfl rfl (by decide) rfl ⟨_, rfl⟩ rfl ⟨Nat.le_of_ble_eq_true rfl, Nat.le_of_ble_eq_true rfl⟩ (Nat.le_of_ble_eq_true rfl) ⟨Nat.le_of_ble_eq_true rfl, Nat.le_of_ble_eq_true rfl, Nat.le_of_ble_eq_true rfl, Nat.le_of_ble_eq_true rfl⟩ (k_Wv fun s21 h => ?_)
      refine z_goto C dX12_ands_24 (tgt := 4) (by decide) ?_
      exact t_drop [true] rfl (hK4 s21 h)
def w_X12_ands_L7 (st : zTs)  (P : zTs → Prop) : Prop := w_X12_one_L7 st (fun (s1 : zTs) => (w_X12_ands_L7_4 P zfu s1))
set_option maxHeartbeats 4000000 in
set_option maxRecDepth 100000 in
theorem c_X12_ands_L7 {Z : zZ} {l : Launch} (hfl : l.stackTraces = false) {st : zTs}  {P : zTs → Prop} (h : w_X12_ands_L7 st  P) : zN Z l yX12_ands cX12_ands 1 none ({ frames := 17, cells := 0, slots := 0, locals := 353 } : Room) (zh Z zm1 st) [.ref 100] (zWv Z zm1 P) := by
  unfold w_X12_ands_L7 at h
  refine z_enterN (by decide) (Nat.le_of_ble_eq_true rfl) (lc0 := [some (.ref 100)]) rfl ?_
  intro p e s m args below meth c ad0 C hr _
  have hn9 : True := trivial
  replace C : zC Z p s m args meth c cX12_ands 1 RX12 := C
  refine z_aload_n C dX12_ands_0 (i := 0) rfl rfl ?_
  refine t_callV C (rest := []) (c2 := 0) (s2 := 0) (kd := 100) (i := 0) [] dX12_ands_1 lk_X12_319 li_X12_one le_X12_one (c_X12_one_L7 hfl h) rfl rfl (by decide) rfl ⟨_, rfl⟩ rfl ⟨Nat.le_of_ble_eq_true rfl, Nat.le_of_ble_eq_true rfl⟩ (Nat.le_of_ble_eq_true rfl) ⟨Nat.le_of_ble_eq_true rfl, Nat.le_of_ble_eq_true rfl, Nat.le_of_ble_eq_true rfl, Nat.le_of_ble_eq_true rfl⟩ (k_Wv fun s1 h => ?_)
  exact t_drop [true] rfl (j_X12_ands_L7_4 hfl C hr hn9  zfu s1 h)
def w_X12_ors_L7_4 (P : zTs → Prop)  : Nat → zTs → Prop
  | 0, _ => False
  | n9 + 1, st => w_X12_eat st 18 (fun (r8 : Int32) (s8 : zTs) => ((r8 = 0 → P s8) ∧ (¬ r8 = 0 → w_X12_ands_L7 s8 (fun (s15 : zTs) => (w_X12_emits s15 3 0 (fun (s21 : zTs) => ((w_X12_ors_L7_4 P n9) s21)))))))
set_option maxHeartbeats 4000000 in
set_option maxRecDepth 100000 in
theorem j_X12_ors_L7_4 {P : zTs → Prop}  (hfl : l.stackTraces = false) (C : zC Z p s m args meth c cX12_ors 1 RX12) (hr : meth.sig.returnType = none) (hn9 : True)  : ∀ (n9 : Nat) (st : zTs), w_X12_ors_L7_4 P n9 st → zG Z ad0 h0 p l e ({ frames := 18, cells := 0, slots := 0, locals := 373 } : Room) s m args below meth c (MQ below (zQ Z ad0 h0 (zWv Z zm1 P)) args s 0 0 (zA Z)) 0 0 (zh Z zm1 st) 1 4 [some (.ref 100)] [] := by
  intro n9
  induction n9 with
  | zero => intro st h; exact h.elim
  | succ n9 hK4 =>
    intro st h
    rw [w_X12_ors_L7_4] at h
    refine z_aload_n C dX12_ors_4 (i := 0) rfl rfl ?_
    refine z_ldc_wS C dX12_ors_5 (i := 18) (text := "or") (by decide) ?_
    refine t_callV C (rest := []) (c2 := 0) (s2 := 0) (kd := 100) (i := 0) [.ref (200 + 256 * 18)] dX12_ors_8 lk_X12_313 li_X12_eat le_X12_eat (c_X12_eat hfl h) rfl rfl (by decide) rfl ⟨_, rfl⟩ rfl ⟨Nat.le_of_ble_eq_true rfl, Nat.le_of_ble_eq_true rfl⟩ (Nat.le_of_ble_eq_true rfl) ⟨Nat.le_of_ble_eq_true rfl, Nat.le_of_ble_eq_true rfl, Nat.le_of_ble_eq_true rfl, Nat.le_of_ble_eq_true rfl⟩ (k_Wi fun r8 s8 h => ?_)
    refine z_if_eq C dX12_ors_11 (tgt := 27) (by decide) (fun c11 => ?_) (fun c11 => ?_)
    · have h := h.1 c11
      exact z_vret C dX12_ors_27 hr ⟨_, rfl, rfl, h⟩ (Nat.le_of_ble_eq_true rfl) (Nat.le_of_ble_eq_true rfl)
    · have h := h.2 c11
      refine z_aload_n C dX12_ors_14 (i := 0) rfl rfl ?_
      refine t_callV C (rest := []) (c2 := 0) (s2 := 0) (kd := 100) (i := 0) [] dX12_ors_15 lk_X12_308 li_X12_ands le_X12_ands (c_X12_ands_L7 hfl h) rfl rfl (by decide) rfl ⟨_, rfl⟩ rfl ⟨Nat.le_of_ble_eq_true rfl, Nat.le_of_ble_eq_true rfl⟩ (Nat.le_of_ble_eq_true rfl) ⟨Nat.le_of_ble_eq_true rfl, Nat.le_of_ble_eq_true rfl, Nat.le_of_ble_eq_true rfl, Nat.le_of_ble_eq_true rfl⟩ (k_Wv fun s15 h => ?_)
      refine z_aload_n C dX12_ors_18 (i := 0) rfl rfl ?_
      refine z_iconst C dX12_ors_19 (v := 3) (by decide) ?_
      refine z_iconst C dX12_ors_20 (v := 0) (by decide) ?_
      refine t_callV C (rest := []) (c2 := 0) (s2 := 0) (kd := 100) (i := 0) [.int (3), .int (0)] dX12_ors_21 lk_X12_316 li_X12_emits le_X12_emits (c_X12_emits hfl h) rfl rfl (by decide) rfl ⟨_, rfl⟩ rfl ⟨Nat.le_of_ble_eq_true rfl, Nat.le_of_ble_eq_true rfl⟩ (Nat.le_of_ble_eq_true rfl) ⟨Nat.le_of_ble_eq_true rfl, Nat.le_of_ble_eq_true rfl, Nat.le_of_ble_eq_true rfl, Nat.le_of_ble_eq_true rfl⟩ (k_Wv fun s21 h => ?_)
      refine z_goto C dX12_ors_24 (tgt := 4) (by decide) ?_
      exact t_drop [true] rfl (hK4 s21 h)
def w_X12_ors_L7 (st : zTs)  (P : zTs → Prop) : Prop := w_X12_ands_L7 st (fun (s1 : zTs) => (w_X12_ors_L7_4 P zfu s1))
set_option maxHeartbeats 4000000 in
set_option maxRecDepth 100000 in
theorem c_X12_ors_L7 {Z : zZ} {l : Launch} (hfl : l.stackTraces = false) {st : zTs}  {P : zTs → Prop} (h : w_X12_ors_L7 st  P) : zN Z l yX12_ors cX12_ors 1 none ({ frames := 18, cells := 0, slots := 0, locals := 373 } : Room) (zh Z zm1 st) [.ref 100] (zWv Z zm1 P) := by
  unfold w_X12_ors_L7 at h
  refine z_enterN (by decide) (Nat.le_of_ble_eq_true rfl) (lc0 := [some (.ref 100)]) rfl ?_
  intro p e s m args below meth c ad0 C hr _
  have hn9 : True := trivial
  replace C : zC Z p s m args meth c cX12_ors 1 RX12 := C
  refine z_aload_n C dX12_ors_0 (i := 0) rfl rfl ?_
  refine t_callV C (rest := []) (c2 := 0) (s2 := 0) (kd := 100) (i := 0) [] dX12_ors_1 lk_X12_308 li_X12_ands le_X12_ands (c_X12_ands_L7 hfl h) rfl rfl (by decide) rfl ⟨_, rfl⟩ rfl ⟨Nat.le_of_ble_eq_true rfl, Nat.le_of_ble_eq_true rfl⟩ (Nat.le_of_ble_eq_true rfl) ⟨Nat.le_of_ble_eq_true rfl, Nat.le_of_ble_eq_true rfl, Nat.le_of_ble_eq_true rfl, Nat.le_of_ble_eq_true rfl⟩ (k_Wv fun s1 h => ?_)
  exact t_drop [true] rfl (j_X12_ors_L7_4 hfl C hr hn9  zfu s1 h)
def w_X12_one_L6_189 (P : zTs → Prop)  (st : zTs) (a1 : Int32) (a3 : Int32) (b0 : Int32) : Prop := w_X12_emits st b0 ((3 * a3) + a1) (fun (s194 : zTs) => (P s194))
set_option maxHeartbeats 4000000 in
set_option maxRecDepth 100000 in
theorem j_X12_one_L6_189 {P : zTs → Prop}  (hfl : l.stackTraces = false) (C : zC Z p s m args meth c cX12_one 4 RX12) (hr : meth.sig.returnType = none) (hn9 : True)  (st : zTs) (a1 : Int32) (a3 : Int32) (b0 : Int32) (h : w_X12_one_L6_189 P st a1 a3 b0) : zG Z ad0 h0 p l e ({ frames := 19, cells := 0, slots := 0, locals := 393 } : Room) s m args below meth c (MQ below (zQ Z ad0 h0 (zWv Z zm1 P)) args s 0 0 (zA Z)) 0 0 (zh Z zm1 st) 4 189 [none, some (.int (a1)), none, some (.int (a3))] [.int (b0), .ref 100] := by
  unfold w_X12_one_L6_189 at h
  refine z_iconst C dX12_one_189 (v := 3) (by decide) ?_
  refine z_iload_n C dX12_one_190 (i := 3) rfl rfl ?_
  refine z_imul C dX12_one_191 ?_
  refine z_iload_n C dX12_one_192 (i := 1) rfl rfl ?_
  refine z_iadd C dX12_one_193 ?_
  refine t_callV C (rest := []) (c2 := 0) (s2 := 0) (kd := 100) (i := 0) [.int (b0), .int ((3 * a3) + a1)] dX12_one_194 lk_X12_316 li_X12_emits le_X12_emits (c_X12_emits hfl h) rfl rfl (by decide) rfl ⟨_, rfl⟩ rfl ⟨Nat.le_of_ble_eq_true rfl, Nat.le_of_ble_eq_true rfl⟩ (Nat.le_of_ble_eq_true rfl) ⟨Nat.le_of_ble_eq_true rfl, Nat.le_of_ble_eq_true rfl, Nat.le_of_ble_eq_true rfl, Nat.le_of_ble_eq_true rfl⟩ (k_Wv fun s194 h => ?_)
  exact z_vret C dX12_one_197 hr ⟨_, rfl, rfl, h⟩ (Nat.le_of_ble_eq_true rfl) (Nat.le_of_ble_eq_true rfl)
def w_X12_one_L6_158 (P : zTs → Prop)  (st : zTs) (a1 : Int32) (a2 : Int32) : Prop := ∀ s165 : zTs, s165 = zuF st 100 0 8 ((zgF st 100 0 8) + 1) → (w_X12_number s165 0 9999 (fun (r173 : Int32) (s173 : zTs) => ((a2 = 60 → w_X12_one_L6_189 P s173 a1 r173 (4)) ∧ (¬ a2 = 60 → w_X12_one_L6_189 P s173 a1 r173 (5)))))
set_option maxHeartbeats 4000000 in
set_option maxRecDepth 100000 in
theorem j_X12_one_L6_158 {P : zTs → Prop}  (hfl : l.stackTraces = false) (C : zC Z p s m args meth c cX12_one 4 RX12) (hr : meth.sig.returnType = none) (hn9 : True)  (st : zTs) (a1 : Int32) (a2 : Int32) (h : w_X12_one_L6_158 P st a1 a2) : zG Z ad0 h0 p l e ({ frames := 19, cells := 0, slots := 0, locals := 393 } : Room) s m args below meth c (MQ below (zQ Z ad0 h0 (zWv Z zm1 P)) args s 0 0 (zA Z)) 0 0 (zh Z zm1 st) 4 158 [some (.ref 100), some (.int (a1)), some (.int (a2)), none] [] := by
  unfold w_X12_one_L6_158 at h
  refine z_aload_n C dX12_one_158 (i := 0) rfl rfl ?_
  refine z_dup C dX12_one_159 rfl ?_
  refine t_get C dX12_one_160 fl_X12_232 (k := 100) (i := 0) (by decide) rfl (fg_100_8 _ _ _) ?_
  refine z_iconst C dX12_one_163 (v := 1) (by decide) ?_
  refine z_iadd C dX12_one_164 ?_
  refine t_put C dX12_one_165 fq_X12_232 (Or.inl rfl) (k := 100) (i := 0) (by decide) rfl ⟨rfl, rfl⟩ (fp_100_8 _ _ _ _ _) ?_
  refine t_tops (fun s165 es165 => ?_)
  have h := h s165 es165
  refine z_aload_n C dX12_one_168 (i := 0) rfl rfl ?_
  refine z_iconst C dX12_one_169 (v := 0) (by decide) ?_
  refine z_sipush C dX12_one_170 (v := 9999) (by decide) ?_
  refine t_callV C (rest := []) (c2 := 0) (s2 := 0) (kd := 100) (i := 0) [.int (0), .int (9999)] dX12_one_173 lk_X12_342 li_X12_number le_X12_number (c_X12_number hfl h) rfl rfl (by decide) rfl ⟨_, rfl⟩ rfl ⟨Nat.le_of_ble_eq_true rfl, Nat.le_of_ble_eq_true rfl⟩ (Nat.le_of_ble_eq_true rfl) ⟨Nat.le_of_ble_eq_true rfl, Nat.le_of_ble_eq_true rfl, Nat.le_of_ble_eq_true rfl, Nat.le_of_ble_eq_true rfl⟩ (k_Wi fun r173 s173 h => ?_)
  refine z_istore_n C dX12_one_176 (i := 3) (lc' := [some (.ref 100), some (.int (a1)), some (.int (a2)), some (.int (r173))]) rfl (by decide) rfl ?_
  refine z_aload_n C dX12_one_177 (i := 0) rfl rfl ?_
  refine z_iload_n C dX12_one_178 (i := 2) rfl rfl ?_
  refine z_bipush C dX12_one_179 (v := 60) (by decide) ?_
  refine z_icmp_ne C dX12_one_181 (tgt := 188) (by decide) (fun c181 => ?_) (fun c181 => ?_)
  · have h := h.2 c181
    refine z_iconst C dX12_one_188 (v := 5) (by decide) ?_
    exact t_drop [false, true, false, true] rfl (j_X12_one_L6_189 hfl C hr hn9  s173 a1 r173 (5) h)
  · have h := h.1 c181
    refine z_iconst C dX12_one_184 (v := 4) (by decide) ?_
    refine z_goto C dX12_one_185 (tgt := 189) (by decide) ?_
    exact t_drop [false, true, false, true] rfl (j_X12_one_L6_189 hfl C hr hn9  s173 a1 r173 (4) h)
def w_X12_one_L6_148 (P : zTs → Prop)  (st : zTs) : Prop := w_X12_wrong st 1 (zgF st 100 0 8) (fun (s154 : zTs) => (P s154))
set_option maxHeartbeats 4000000 in
set_option maxRecDepth 100000 in
theorem j_X12_one_L6_148 {P : zTs → Prop}  (hfl : l.stackTraces = false) (C : zC Z p s m args meth c cX12_one 4 RX12) (hr : meth.sig.returnType = none) (hn9 : True)  (st : zTs) (h : w_X12_one_L6_148 P st) : zG Z ad0 h0 p l e ({ frames := 19, cells := 0, slots := 0, locals := 393 } : Room) s m args below meth c (MQ below (zQ Z ad0 h0 (zWv Z zm1 P)) args s 0 0 (zA Z)) 0 0 (zh Z zm1 st) 4 148 [some (.ref 100), none, none, none] [] := by
  unfold w_X12_one_L6_148 at h
  refine z_aload_n C dX12_one_148 (i := 0) rfl rfl ?_
  refine z_iconst C dX12_one_149 (v := 1) (by decide) ?_
  refine z_aload_n C dX12_one_150 (i := 0) rfl rfl ?_
  refine t_get C dX12_one_151 fl_X12_232 (k := 100) (i := 0) (by decide) rfl (fg_100_8 _ _ _) ?_
  refine t_callV C (rest := []) (c2 := 0) (s2 := 0) (kd := 100) (i := 0) [.int (1), .int (zgF st 100 0 8)] dX12_one_154 lk_X12_300 li_X12_wrong le_X12_wrong (c_X12_wrong hfl h) rfl rfl (by decide) rfl ⟨_, rfl⟩ rfl ⟨Nat.le_of_ble_eq_true rfl, Nat.le_of_ble_eq_true rfl⟩ (Nat.le_of_ble_eq_true rfl) ⟨Nat.le_of_ble_eq_true rfl, Nat.le_of_ble_eq_true rfl, Nat.le_of_ble_eq_true rfl, Nat.le_of_ble_eq_true rfl⟩ (k_Wv fun s154 h => ?_)
  exact z_vret C dX12_one_157 hr ⟨_, rfl, rfl, h⟩ (Nat.le_of_ble_eq_true rfl) (Nat.le_of_ble_eq_true rfl)
def w_X12_one_L6_119 (P : zTs → Prop)  (st : zTs) (a1 : Int32) : Prop := w_X12_blanks st (fun (s120 : zTs) => (w_X12_byteAt s120 (zgF s120 100 0 8) (fun (r128 : Int32) => ((a1 < 0 → w_X12_one_L6_148 P s120) ∧ (¬ a1 < 0 → (r128 = 60 → w_X12_one_L6_158 P s120 a1 r128) ∧ (¬ r128 = 60 → (r128 = 62 → w_X12_one_L6_158 P s120 a1 r128) ∧ (¬ r128 = 62 → w_X12_one_L6_148 P s120)))))))
set_option maxHeartbeats 4000000 in
set_option maxRecDepth 100000 in
theorem j_X12_one_L6_119 {P : zTs → Prop}  (hfl : l.stackTraces = false) (C : zC Z p s m args meth c cX12_one 4 RX12) (hr : meth.sig.returnType = none) (hn9 : True)  (st : zTs) (a1 : Int32) (h : w_X12_one_L6_119 P st a1) : zG Z ad0 h0 p l e ({ frames := 19, cells := 0, slots := 0, locals := 393 } : Room) s m args below meth c (MQ below (zQ Z ad0 h0 (zWv Z zm1 P)) args s 0 0 (zA Z)) 0 0 (zh Z zm1 st) 4 119 [some (.ref 100), some (.int (a1)), none, none] [] := by
  unfold w_X12_one_L6_119 at h
  refine z_aload_n C dX12_one_119 (i := 0) rfl rfl ?_
  refine t_callV C (rest := []) (c2 := 0) (s2 := 0) (kd := 100) (i := 0) [] dX12_one_120 lk_X12_242 li_X12_blanks le_X12_blanks (c_X12_blanks hfl h) rfl rfl (by decide) rfl ⟨_, rfl⟩ rfl ⟨Nat.le_of_ble_eq_true rfl, Nat.le_of_ble_eq_true rfl⟩ (Nat.le_of_ble_eq_true rfl) ⟨Nat.le_of_ble_eq_true rfl, Nat.le_of_ble_eq_true rfl, Nat.le_of_ble_eq_true rfl, Nat.le_of_ble_eq_true rfl⟩ (k_Wv fun s120 h => ?_)
  refine z_aload_n C dX12_one_123 (i := 0) rfl rfl ?_
  refine z_aload_n C dX12_one_124 (i := 0) rfl rfl ?_
  refine t_get C dX12_one_125 fl_X12_232 (k := 100) (i := 0) (by decide) rfl (fg_100_8 _ _ _) ?_
  refine t_callV C (rest := []) (c2 := 0) (s2 := 0) (kd := 100) (i := 0) [.int (zgF s120 100 0 8)] dX12_one_128 lk_X12_235 li_X12_byteAt le_X12_byteAt (c_X12_byteAt hfl h) rfl rfl (by decide) rfl ⟨_, rfl⟩ rfl ⟨Nat.le_of_ble_eq_true rfl, Nat.le_of_ble_eq_true rfl⟩ (Nat.le_of_ble_eq_true rfl) ⟨Nat.le_of_ble_eq_true rfl, Nat.le_of_ble_eq_true rfl, Nat.le_of_ble_eq_true rfl, Nat.le_of_ble_eq_true rfl⟩ (k_Ri fun r128 h => ?_)
  refine z_istore_n C dX12_one_131 (i := 2) (lc' := [some (.ref 100), some (.int (a1)), some (.int (r128)), none]) rfl (by decide) rfl ?_
  refine z_iload_n C dX12_one_132 (i := 1) rfl rfl ?_
  refine z_if_lt C dX12_one_133 (tgt := 148) (by decide) (fun c133 => ?_) (fun c133 => ?_)
  · have h := h.1 c133
    exact t_drop [true, false, false, false] rfl (j_X12_one_L6_148 hfl C hr hn9  s120 h)
  · have h := h.2 c133
    refine z_iload_n C dX12_one_136 (i := 2) rfl rfl ?_
    refine z_bipush C dX12_one_137 (v := 60) (by decide) ?_
    refine z_icmp_eq C dX12_one_139 (tgt := 158) (by decide) (fun c139 => ?_) (fun c139 => ?_)
    · have h := h.1 c139
      exact t_drop [true, true, true, false] rfl (j_X12_one_L6_158 hfl C hr hn9  s120 a1 r128 h)
    · have h := h.2 c139
      refine z_iload_n C dX12_one_142 (i := 2) rfl rfl ?_
      refine z_bipush C dX12_one_143 (v := 62) (by decide) ?_
      refine z_icmp_eq C dX12_one_145 (tgt := 158) (by decide) (fun c145 => ?_) (fun c145 => ?_)
      · have h := h.1 c145
        exact t_drop [true, true, true, false] rfl (j_X12_one_L6_158 hfl C hr hn9  s120 a1 r128 h)
      · have h := h.2 c145
        exact t_drop [true, false, false, false] rfl (j_X12_one_L6_148 hfl C hr hn9  s120 h)
def w_X12_one_L6_113 (P : zTs → Prop) (K91 : zTs → Int32 → Int32 → Prop) (st : zTs) (a1 : Int32) (a2 : Int32) : Prop := ∀ x113 : Int32, x113 = a2 + 1 → (K91 st a1 x113)
set_option maxHeartbeats 4000000 in
set_option maxRecDepth 100000 in
theorem j_X12_one_L6_113 {P : zTs → Prop} {K91 : zTs → Int32 → Int32 → Prop} (hfl : l.stackTraces = false) (C : zC Z p s m args meth c cX12_one 4 RX12) (hr : meth.sig.returnType = none) (hn9 : True) (hK91 : ∀ (st : zTs) (a1 : Int32) (a2 : Int32), K91 st a1 a2 → zG Z ad0 h0 p l e ({ frames := 19, cells := 0, slots := 0, locals := 393 } : Room) s m args below meth c (MQ below (zQ Z ad0 h0 (zWv Z zm1 P)) args s 0 0 (zA Z)) 0 0 (zh Z zm1 st) 4 91 [some (.ref 100), some (.int (a1)), some (.int (a2)), none] []) (st : zTs) (a1 : Int32) (a2 : Int32) (h : w_X12_one_L6_113 P K91 st a1 a2) : zG Z ad0 h0 p l e ({ frames := 19, cells := 0, slots := 0, locals := 393 } : Room) s m args below meth c (MQ below (zQ Z ad0 h0 (zWv Z zm1 P)) args s 0 0 (zA Z)) 0 0 (zh Z zm1 st) 4 113 [some (.ref 100), some (.int (a1)), some (.int (a2)), none] [] := by
  unfold w_X12_one_L6_113 at h
  obtain ⟨x113, ex113⟩ : ∃ z : Int32, z = a2 + 1 := ⟨_, rfl⟩
  have h := h x113 ex113
  refine z_iinc C dX12_one_113 (v := x113) (lc' := [some (.ref 100), some (.int (a1)), some (.int (x113)), none]) rfl (by decide) (by rw [ex113]; rfl) rfl ?_
  refine z_goto C dX12_one_116 (tgt := 91) (by decide) ?_
  exact t_drop [true, true, true, false] rfl (hK91 st a1 x113 h)
def w_X12_one_L6_91 (P : zTs → Prop)  : Nat → zTs → Int32 → Int32 → Prop
  | 0, _, _, _ => False
  | n9 + 1, st, a1, a2 => (3 ≤ a2 → w_X12_one_L6_119 P st a1) ∧ (¬ 3 ≤ a2 → (0 ≤ a1 → w_X12_one_L6_119 P st a1) ∧ (¬ 0 ≤ a1 → w_X12_measureOf st a2 (fun (r102 : Nat) => (w_X12_eat st r102 (fun (r105 : Int32) (s105 : zTs) => ((r105 = 0 → w_X12_one_L6_113 P (w_X12_one_L6_91 P n9) s105 a1 a2) ∧ (¬ r105 = 0 → w_X12_one_L6_113 P (w_X12_one_L6_91 P n9) s105 a2 a2)))))))
set_option maxHeartbeats 4000000 in
set_option maxRecDepth 100000 in
theorem j_X12_one_L6_91 {P : zTs → Prop}  (hfl : l.stackTraces = false) (C : zC Z p s m args meth c cX12_one 4 RX12) (hr : meth.sig.returnType = none) (hn9 : True)  : ∀ (n9 : Nat) (st : zTs) (a1 : Int32) (a2 : Int32), w_X12_one_L6_91 P n9 st a1 a2 → zG Z ad0 h0 p l e ({ frames := 19, cells := 0, slots := 0, locals := 393 } : Room) s m args below meth c (MQ below (zQ Z ad0 h0 (zWv Z zm1 P)) args s 0 0 (zA Z)) 0 0 (zh Z zm1 st) 4 91 [some (.ref 100), some (.int (a1)), some (.int (a2)), none] [] := by
  intro n9
  induction n9 with
  | zero => intro st a1 a2 h; exact h.elim
  | succ n9 hK91 =>
    intro st a1 a2 h
    rw [w_X12_one_L6_91] at h
    refine z_iload_n C dX12_one_91 (i := 2) rfl rfl ?_
    refine z_iconst C dX12_one_92 (v := 3) (by decide) ?_
    refine z_icmp_ge C dX12_one_93 (tgt := 119) (by decide) (fun c93 => ?_) (fun c93 => ?_)
    · have h := h.1 c93
      exact t_drop [true, true, false, false] rfl (j_X12_one_L6_119 hfl C hr hn9  st a1 h)
    · have h := h.2 c93
      refine z_iload_n C dX12_one_96 (i := 1) rfl rfl ?_
      refine z_if_ge C dX12_one_97 (tgt := 119) (by decide) (fun c97 => ?_) (fun c97 => ?_)
      · have h := h.1 c97
        exact t_drop [true, true, false, false] rfl (j_X12_one_L6_119 hfl C hr hn9  st a1 h)
      · have h := h.2 c97
        refine z_aload_n C dX12_one_100 (i := 0) rfl rfl ?_
        refine z_iload_n C dX12_one_101 (i := 2) rfl rfl ?_
        refine t_callS C (rest := [.ref 100]) (c2 := 0) (s2 := 0) [.int (a2)] dX12_one_102 lk_X12_339 ls_X12_measureOf (c_X12_measureOf hfl h) rfl rfl ⟨Nat.le_of_ble_eq_true rfl, Nat.le_of_ble_eq_true rfl⟩ (Nat.le_of_ble_eq_true rfl) ⟨Nat.le_of_ble_eq_true rfl, Nat.le_of_ble_eq_true rfl, Nat.le_of_ble_eq_true rfl, Nat.le_of_ble_eq_true rfl⟩ (k_Rr fun r102 h => ?_)
        refine t_callV C (rest := []) (c2 := 0) (s2 := 0) (kd := 100) (i := 0) [.ref (200 + 256 * r102)] dX12_one_105 lk_X12_313 li_X12_eat le_X12_eat (c_X12_eat hfl h) rfl rfl (by decide) rfl ⟨_, rfl⟩ rfl ⟨Nat.le_of_ble_eq_true rfl, Nat.le_of_ble_eq_true rfl⟩ (Nat.le_of_ble_eq_true rfl) ⟨Nat.le_of_ble_eq_true rfl, Nat.le_of_ble_eq_true rfl, Nat.le_of_ble_eq_true rfl, Nat.le_of_ble_eq_true rfl⟩ (k_Wi fun r105 s105 h => ?_)
        refine z_if_eq C dX12_one_108 (tgt := 113) (by decide) (fun c108 => ?_) (fun c108 => ?_)
        · have h := h.1 c108
          exact t_drop [true, true, true, false] rfl (j_X12_one_L6_113 hfl C hr hn9 hK91 s105 a1 a2 h)
        · have h := h.2 c108
          refine z_iload_n C dX12_one_111 (i := 2) rfl rfl ?_
          refine z_istore_n C dX12_one_112 (i := 1) (lc' := [some (.ref 100), some (.int (a2)), some (.int (a2)), none]) rfl (by decide) rfl ?_
          exact t_drop [true, true, true, false] rfl (j_X12_one_L6_113 hfl C hr hn9 hK91 s105 a2 a2 h)
def w_X12_one_L6 (st : zTs)  (P : zTs → Prop) : Prop := ((zgF st 100 0 9) ≤ 0 → w_X12_blanks st (fun (s9 : zTs) => (w_X12_isWord s9 20 (fun (r16 : Int32) (s16 : zTs) => ((r16 = 0 → w_X12_byteAt s16 (zgF s16 100 0 8) (fun (r53 : Int32) => ((r53 = 40 → w_X12_opens s16 1 (fun (s63 : zTs) => (w_X12_ors_L7 s63 (fun (s67 : zTs) => (w_X12_sign s67 41 (fun (s73 : zTs) => (∀ s83 : zTs, s83 = zuF s73 100 0 12 ((zgF s73 100 0 12) - 1) → (P s83)))))))) ∧ (¬ r53 = 40 → w_X12_one_L6_91 P zfu s16 (-1) (0))))) ∧ (¬ r16 = 0 → w_X12_opens s16 3 (fun (s24 : zTs) => (w_X12_one_L7 s24 (fun (s28 : zTs) => (∀ s38 : zTs, s38 = zuF s28 100 0 12 ((zgF s28 100 0 12) - 1) → (w_X12_emits s38 1 0 (fun (s44 : zTs) => (P s44))))))))))))) ∧ (¬ (zgF st 100 0 9) ≤ 0 → P st)
set_option maxHeartbeats 4000000 in
set_option maxRecDepth 100000 in
theorem c_X12_one_L6 {Z : zZ} {l : Launch} (hfl : l.stackTraces = false) {st : zTs}  {P : zTs → Prop} (h : w_X12_one_L6 st  P) : zN Z l yX12_one cX12_one 4 none ({ frames := 19, cells := 0, slots := 0, locals := 393 } : Room) (zh Z zm1 st) [.ref 100] (zWv Z zm1 P) := by
  unfold w_X12_one_L6 at h
  refine z_enterN (by decide) (Nat.le_of_ble_eq_true rfl) (lc0 := [some (.ref 100), none, none, none]) rfl ?_
  intro p e s m args below meth c ad0 C hr _
  have hn9 : True := trivial
  replace C : zC Z p s m args meth c cX12_one 4 RX12 := C
  refine z_aload_n C dX12_one_0 (i := 0) rfl rfl ?_
  refine t_get C dX12_one_1 fl_X12_239 (k := 100) (i := 0) (by decide) rfl (fg_100_9 _ _ _) ?_
  refine z_if_le C dX12_one_4 (tgt := 8) (by decide) (fun c4 => ?_) (fun c4 => ?_)
  · have h := h.1 c4
    refine z_aload_n C dX12_one_8 (i := 0) rfl rfl ?_
    refine t_callV C (rest := []) (c2 := 0) (s2 := 0) (kd := 100) (i := 0) [] dX12_one_9 lk_X12_242 li_X12_blanks le_X12_blanks (c_X12_blanks hfl h) rfl rfl (by decide) rfl ⟨_, rfl⟩ rfl ⟨Nat.le_of_ble_eq_true rfl, Nat.le_of_ble_eq_true rfl⟩ (Nat.le_of_ble_eq_true rfl) ⟨Nat.le_of_ble_eq_true rfl, Nat.le_of_ble_eq_true rfl, Nat.le_of_ble_eq_true rfl, Nat.le_of_ble_eq_true rfl⟩ (k_Wv fun s9 h => ?_)
    refine z_aload_n C dX12_one_12 (i := 0) rfl rfl ?_
    refine z_ldc_wS C dX12_one_13 (i := 20) (text := "not") (by decide) ?_
    refine t_callV C (rest := []) (c2 := 0) (s2 := 0) (kd := 100) (i := 0) [.ref (200 + 256 * 20)] dX12_one_16 lk_X12_255 li_X12_isWord le_X12_isWord (c_X12_isWord hfl h) rfl rfl (by decide) rfl ⟨_, rfl⟩ rfl ⟨Nat.le_of_ble_eq_true rfl, Nat.le_of_ble_eq_true rfl⟩ (Nat.le_of_ble_eq_true rfl) ⟨Nat.le_of_ble_eq_true rfl, Nat.le_of_ble_eq_true rfl, Nat.le_of_ble_eq_true rfl, Nat.le_of_ble_eq_true rfl⟩ (k_Wi fun r16 s16 h => ?_)
    refine z_if_eq C dX12_one_19 (tgt := 48) (by decide) (fun c19 => ?_) (fun c19 => ?_)
    · have h := h.1 c19
      refine z_aload_n C dX12_one_48 (i := 0) rfl rfl ?_
      refine z_aload_n C dX12_one_49 (i := 0) rfl rfl ?_
      refine t_get C dX12_one_50 fl_X12_232 (k := 100) (i := 0) (by decide) rfl (fg_100_8 _ _ _) ?_
      refine t_callV C (rest := []) (c2 := 0) (s2 := 0) (kd := 100) (i := 0) [.int (zgF s16 100 0 8)] dX12_one_53 lk_X12_235 li_X12_byteAt le_X12_byteAt (c_X12_byteAt hfl h) rfl rfl (by decide) rfl ⟨_, rfl⟩ rfl ⟨Nat.le_of_ble_eq_true rfl, Nat.le_of_ble_eq_true rfl⟩ (Nat.le_of_ble_eq_true rfl) ⟨Nat.le_of_ble_eq_true rfl, Nat.le_of_ble_eq_true rfl, Nat.le_of_ble_eq_true rfl, Nat.le_of_ble_eq_true rfl⟩ (k_Ri fun r53 h => ?_)
      refine z_bipush C dX12_one_56 (v := 40) (by decide) ?_
      refine z_icmp_ne C dX12_one_58 (tgt := 87) (by decide) (fun c58 => ?_) (fun c58 => ?_)
      · have h := h.2 c58
        refine z_iconst C dX12_one_87 (v := (-1)) (by decide) ?_
        refine z_istore_n C dX12_one_88 (i := 1) (lc' := [some (.ref 100), some (.int (-1)), none, none]) rfl (by decide) rfl ?_
        refine z_iconst C dX12_one_89 (v := 0) (by decide) ?_
        refine z_istore_n C dX12_one_90 (i := 2) (lc' := [some (.ref 100), some (.int (-1)), some (.int (0)), none]) rfl (by decide) rfl ?_
        exact t_drop [true, true, true, false] rfl (j_X12_one_L6_91 hfl C hr hn9  zfu s16 (-1) (0) h)
      · have h := h.1 c58
        refine z_aload_n C dX12_one_61 (i := 0) rfl rfl ?_
        refine z_iconst C dX12_one_62 (v := 1) (by decide) ?_
        refine t_callV C (rest := []) (c2 := 0) (s2 := 0) (kd := 100) (i := 0) [.int (1)] dX12_one_63 lk_X12_329 li_X12_opens le_X12_opens (c_X12_opens hfl h) rfl rfl (by decide) rfl ⟨_, rfl⟩ rfl ⟨Nat.le_of_ble_eq_true rfl, Nat.le_of_ble_eq_true rfl⟩ (Nat.le_of_ble_eq_true rfl) ⟨Nat.le_of_ble_eq_true rfl, Nat.le_of_ble_eq_true rfl, Nat.le_of_ble_eq_true rfl, Nat.le_of_ble_eq_true rfl⟩ (k_Wv fun s63 h => ?_)
        refine z_aload_n C dX12_one_66 (i := 0) rfl rfl ?_
        refine t_callV C (rest := []) (c2 := 0) (s2 := 0) (kd := 100) (i := 0) [] dX12_one_67 lk_X12_333 li_X12_ors le_X12_ors (c_X12_ors_L7 hfl h) rfl rfl (by decide) rfl ⟨_, rfl⟩ rfl ⟨Nat.le_of_ble_eq_true rfl, Nat.le_of_ble_eq_true rfl⟩ (Nat.le_of_ble_eq_true rfl) ⟨Nat.le_of_ble_eq_true rfl, Nat.le_of_ble_eq_true rfl, Nat.le_of_ble_eq_true rfl, Nat.le_of_ble_eq_true rfl⟩ (k_Wv fun s67 h => ?_)
        refine z_aload_n C dX12_one_70 (i := 0) rfl rfl ?_
        refine z_bipush C dX12_one_71 (v := 41) (by decide) ?_
        refine t_callV C (rest := []) (c2 := 0) (s2 := 0) (kd := 100) (i := 0) [.int (41)] dX12_one_73 lk_X12_336 li_X12_sign le_X12_sign (c_X12_sign hfl h) rfl rfl (by decide) rfl ⟨_, rfl⟩ rfl ⟨Nat.le_of_ble_eq_true rfl, Nat.le_of_ble_eq_true rfl⟩ (Nat.le_of_ble_eq_true rfl) ⟨Nat.le_of_ble_eq_true rfl, Nat.le_of_ble_eq_true rfl, Nat.le_of_ble_eq_true rfl, Nat.le_of_ble_eq_true rfl⟩ (k_Wv fun s73 h => ?_)
        refine z_aload_n C dX12_one_76 (i := 0) rfl rfl ?_
        refine z_dup C dX12_one_77 rfl ?_
        refine t_get C dX12_one_78 fl_X12_324 (k := 100) (i := 0) (by decide) rfl (fg_100_12 _ _ _) ?_
        refine z_iconst C dX12_one_81 (v := 1) (by decide) ?_
        refine z_isub C dX12_one_82 ?_
        refine t_put C dX12_one_83 fq_X12_324 (Or.inl rfl) (k := 100) (i := 0) (by decide) rfl ⟨rfl, rfl⟩ (fp_100_12 _ _ _ _ _) ?_
        refine t_tops (fun s83 es83 => ?_)
        have h := h s83 es83
        exact z_vret C dX12_one_86 hr ⟨_, rfl, rfl, h⟩ (Nat.le_of_ble_eq_true rfl) (Nat.le_of_ble_eq_true rfl)
    · have h := h.2 c19
      refine z_aload_n C dX12_one_22 (i := 0) rfl rfl ?_
      refine z_iconst C dX12_one_23 (v := 3) (by decide) ?_
      refine t_callV C (rest := []) (c2 := 0) (s2 := 0) (kd := 100) (i := 0) [.int (3)] dX12_one_24 lk_X12_329 li_X12_opens le_X12_opens (c_X12_opens hfl h) rfl rfl (by decide) rfl ⟨_, rfl⟩ rfl ⟨Nat.le_of_ble_eq_true rfl, Nat.le_of_ble_eq_true rfl⟩ (Nat.le_of_ble_eq_true rfl) ⟨Nat.le_of_ble_eq_true rfl, Nat.le_of_ble_eq_true rfl, Nat.le_of_ble_eq_true rfl, Nat.le_of_ble_eq_true rfl⟩ (k_Wv fun s24 h => ?_)
      refine z_aload_n C dX12_one_27 (i := 0) rfl rfl ?_
      refine t_callV C (rest := []) (c2 := 0) (s2 := 0) (kd := 100) (i := 0) [] dX12_one_28 lk_X12_319 li_X12_one le_X12_one (c_X12_one_L7 hfl h) rfl rfl (by decide) rfl ⟨_, rfl⟩ rfl ⟨Nat.le_of_ble_eq_true rfl, Nat.le_of_ble_eq_true rfl⟩ (Nat.le_of_ble_eq_true rfl) ⟨Nat.le_of_ble_eq_true rfl, Nat.le_of_ble_eq_true rfl, Nat.le_of_ble_eq_true rfl, Nat.le_of_ble_eq_true rfl⟩ (k_Wv fun s28 h => ?_)
      refine z_aload_n C dX12_one_31 (i := 0) rfl rfl ?_
      refine z_dup C dX12_one_32 rfl ?_
      refine t_get C dX12_one_33 fl_X12_324 (k := 100) (i := 0) (by decide) rfl (fg_100_12 _ _ _) ?_
      refine z_iconst C dX12_one_36 (v := 1) (by decide) ?_
      refine z_isub C dX12_one_37 ?_
      refine t_put C dX12_one_38 fq_X12_324 (Or.inl rfl) (k := 100) (i := 0) (by decide) rfl ⟨rfl, rfl⟩ (fp_100_12 _ _ _ _ _) ?_
      refine t_tops (fun s38 es38 => ?_)
      have h := h s38 es38
      refine z_aload_n C dX12_one_41 (i := 0) rfl rfl ?_
      refine z_iconst C dX12_one_42 (v := 1) (by decide) ?_
      refine z_iconst C dX12_one_43 (v := 0) (by decide) ?_
      refine t_callV C (rest := []) (c2 := 0) (s2 := 0) (kd := 100) (i := 0) [.int (1), .int (0)] dX12_one_44 lk_X12_316 li_X12_emits le_X12_emits (c_X12_emits hfl h) rfl rfl (by decide) rfl ⟨_, rfl⟩ rfl ⟨Nat.le_of_ble_eq_true rfl, Nat.le_of_ble_eq_true rfl⟩ (Nat.le_of_ble_eq_true rfl) ⟨Nat.le_of_ble_eq_true rfl, Nat.le_of_ble_eq_true rfl, Nat.le_of_ble_eq_true rfl, Nat.le_of_ble_eq_true rfl⟩ (k_Wv fun s44 h => ?_)
      exact z_vret C dX12_one_47 hr ⟨_, rfl, rfl, h⟩ (Nat.le_of_ble_eq_true rfl) (Nat.le_of_ble_eq_true rfl)
  · have h := h.2 c4
    exact z_vret C dX12_one_7 hr ⟨_, rfl, rfl, h⟩ (Nat.le_of_ble_eq_true rfl) (Nat.le_of_ble_eq_true rfl)
def w_X12_ands_L6_4 (P : zTs → Prop)  : Nat → zTs → Prop
  | 0, _ => False
  | n9 + 1, st => w_X12_eat st 19 (fun (r8 : Int32) (s8 : zTs) => ((r8 = 0 → P s8) ∧ (¬ r8 = 0 → w_X12_one_L6 s8 (fun (s15 : zTs) => (w_X12_emits s15 2 0 (fun (s21 : zTs) => ((w_X12_ands_L6_4 P n9) s21)))))))
set_option maxHeartbeats 4000000 in
set_option maxRecDepth 100000 in
theorem j_X12_ands_L6_4 {P : zTs → Prop}  (hfl : l.stackTraces = false) (C : zC Z p s m args meth c cX12_ands 1 RX12) (hr : meth.sig.returnType = none) (hn9 : True)  : ∀ (n9 : Nat) (st : zTs), w_X12_ands_L6_4 P n9 st → zG Z ad0 h0 p l e ({ frames := 20, cells := 0, slots := 0, locals := 416 } : Room) s m args below meth c (MQ below (zQ Z ad0 h0 (zWv Z zm1 P)) args s 0 0 (zA Z)) 0 0 (zh Z zm1 st) 1 4 [some (.ref 100)] [] := by
  intro n9
  induction n9 with
  | zero => intro st h; exact h.elim
  | succ n9 hK4 =>
    intro st h
    rw [w_X12_ands_L6_4] at h
    refine z_aload_n C dX12_ands_4 (i := 0) rfl rfl ?_
    refine z_ldc_wS C dX12_ands_5 (i := 19) (text := "and") (by decide) ?_
    refine t_callV C (rest := []) (c2 := 0) (s2 := 0) (kd := 100) (i := 0) [.ref (200 + 256 * 19)] dX12_ands_8 lk_X12_313 li_X12_eat le_X12_eat (c_X12_eat hfl h) rfl rfl (by decide) rfl ⟨_, rfl⟩ rfl ⟨Nat.le_of_ble_eq_true rfl, Nat.le_of_ble_eq_true rfl⟩ (Nat.le_of_ble_eq_true rfl) ⟨Nat.le_of_ble_eq_true rfl, Nat.le_of_ble_eq_true rfl, Nat.le_of_ble_eq_true rfl, Nat.le_of_ble_eq_true rfl⟩ (k_Wi fun r8 s8 h => ?_)
    refine z_if_eq C dX12_ands_11 (tgt := 27) (by decide) (fun c11 => ?_) (fun c11 => ?_)
    · have h := h.1 c11
      exact z_vret C dX12_ands_27 hr ⟨_, rfl, rfl, h⟩ (Nat.le_of_ble_eq_true rfl) (Nat.le_of_ble_eq_true rfl)
    · have h := h.2 c11
      refine z_aload_n C dX12_ands_14 (i := 0) rfl rfl ?_
      refine t_callV C (rest := []) (c2 := 0) (s2 := 0) (kd := 100) (i := 0) [] dX12_ands_15 lk_X12_319 li_X12_one le_X12_one (c_X12_one_L6 hfl h) rfl rfl (by decide) rfl ⟨_, rfl⟩ rfl ⟨Nat.le_of_ble_eq_true rfl, Nat.le_of_ble_eq_true rfl⟩ (Nat.le_of_ble_eq_true rfl) ⟨Nat.le_of_ble_eq_true rfl, Nat.le_of_ble_eq_true rfl, Nat.le_of_ble_eq_true rfl, Nat.le_of_ble_eq_true rfl⟩ (k_Wv fun s15 h => ?_)
      refine z_aload_n C dX12_ands_18 (i := 0) rfl rfl ?_
      refine z_iconst C dX12_ands_19 (v := 2) (by decide) ?_
      refine z_iconst C dX12_ands_20 (v := 0) (by decide) ?_
      refine t_callV C (rest := []) (c2 := 0) (s2 := 0) (kd := 100) (i := 0) [.int (2), .int (0)] dX12_ands_21 lk_X12_316 li_X12_emits le_X12_emits (c_X12_emits hfl h) rfl rfl (by decide) rfl ⟨_, rfl⟩ rfl ⟨Nat.le_of_ble_eq_true rfl, Nat.le_of_ble_eq_true rfl⟩ (Nat.le_of_ble_eq_true rfl) ⟨Nat.le_of_ble_eq_true rfl, Nat.le_of_ble_eq_true rfl, Nat.le_of_ble_eq_true rfl, Nat.le_of_ble_eq_true rfl⟩ (k_Wv fun s21 h => ?_)
      refine z_goto C dX12_ands_24 (tgt := 4) (by decide) ?_
      exact t_drop [true] rfl (hK4 s21 h)
def w_X12_ands_L6 (st : zTs)  (P : zTs → Prop) : Prop := w_X12_one_L6 st (fun (s1 : zTs) => (w_X12_ands_L6_4 P zfu s1))
set_option maxHeartbeats 4000000 in
set_option maxRecDepth 100000 in
theorem c_X12_ands_L6 {Z : zZ} {l : Launch} (hfl : l.stackTraces = false) {st : zTs}  {P : zTs → Prop} (h : w_X12_ands_L6 st  P) : zN Z l yX12_ands cX12_ands 1 none ({ frames := 20, cells := 0, slots := 0, locals := 416 } : Room) (zh Z zm1 st) [.ref 100] (zWv Z zm1 P) := by
  unfold w_X12_ands_L6 at h
  refine z_enterN (by decide) (Nat.le_of_ble_eq_true rfl) (lc0 := [some (.ref 100)]) rfl ?_
  intro p e s m args below meth c ad0 C hr _
  have hn9 : True := trivial
  replace C : zC Z p s m args meth c cX12_ands 1 RX12 := C
  refine z_aload_n C dX12_ands_0 (i := 0) rfl rfl ?_
  refine t_callV C (rest := []) (c2 := 0) (s2 := 0) (kd := 100) (i := 0) [] dX12_ands_1 lk_X12_319 li_X12_one le_X12_one (c_X12_one_L6 hfl h) rfl rfl (by decide) rfl ⟨_, rfl⟩ rfl ⟨Nat.le_of_ble_eq_true rfl, Nat.le_of_ble_eq_true rfl⟩ (Nat.le_of_ble_eq_true rfl) ⟨Nat.le_of_ble_eq_true rfl, Nat.le_of_ble_eq_true rfl, Nat.le_of_ble_eq_true rfl, Nat.le_of_ble_eq_true rfl⟩ (k_Wv fun s1 h => ?_)
  exact t_drop [true] rfl (j_X12_ands_L6_4 hfl C hr hn9  zfu s1 h)
def w_X12_ors_L6_4 (P : zTs → Prop)  : Nat → zTs → Prop
  | 0, _ => False
  | n9 + 1, st => w_X12_eat st 18 (fun (r8 : Int32) (s8 : zTs) => ((r8 = 0 → P s8) ∧ (¬ r8 = 0 → w_X12_ands_L6 s8 (fun (s15 : zTs) => (w_X12_emits s15 3 0 (fun (s21 : zTs) => ((w_X12_ors_L6_4 P n9) s21)))))))
set_option maxHeartbeats 4000000 in
set_option maxRecDepth 100000 in
theorem j_X12_ors_L6_4 {P : zTs → Prop}  (hfl : l.stackTraces = false) (C : zC Z p s m args meth c cX12_ors 1 RX12) (hr : meth.sig.returnType = none) (hn9 : True)  : ∀ (n9 : Nat) (st : zTs), w_X12_ors_L6_4 P n9 st → zG Z ad0 h0 p l e ({ frames := 21, cells := 0, slots := 0, locals := 436 } : Room) s m args below meth c (MQ below (zQ Z ad0 h0 (zWv Z zm1 P)) args s 0 0 (zA Z)) 0 0 (zh Z zm1 st) 1 4 [some (.ref 100)] [] := by
  intro n9
  induction n9 with
  | zero => intro st h; exact h.elim
  | succ n9 hK4 =>
    intro st h
    rw [w_X12_ors_L6_4] at h
    refine z_aload_n C dX12_ors_4 (i := 0) rfl rfl ?_
    refine z_ldc_wS C dX12_ors_5 (i := 18) (text := "or") (by decide) ?_
    refine t_callV C (rest := []) (c2 := 0) (s2 := 0) (kd := 100) (i := 0) [.ref (200 + 256 * 18)] dX12_ors_8 lk_X12_313 li_X12_eat le_X12_eat (c_X12_eat hfl h) rfl rfl (by decide) rfl ⟨_, rfl⟩ rfl ⟨Nat.le_of_ble_eq_true rfl, Nat.le_of_ble_eq_true rfl⟩ (Nat.le_of_ble_eq_true rfl) ⟨Nat.le_of_ble_eq_true rfl, Nat.le_of_ble_eq_true rfl, Nat.le_of_ble_eq_true rfl, Nat.le_of_ble_eq_true rfl⟩ (k_Wi fun r8 s8 h => ?_)
    refine z_if_eq C dX12_ors_11 (tgt := 27) (by decide) (fun c11 => ?_) (fun c11 => ?_)
    · have h := h.1 c11
      exact z_vret C dX12_ors_27 hr ⟨_, rfl, rfl, h⟩ (Nat.le_of_ble_eq_true rfl) (Nat.le_of_ble_eq_true rfl)
    · have h := h.2 c11
      refine z_aload_n C dX12_ors_14 (i := 0) rfl rfl ?_
      refine t_callV C (rest := []) (c2 := 0) (s2 := 0) (kd := 100) (i := 0) [] dX12_ors_15 lk_X12_308 li_X12_ands le_X12_ands (c_X12_ands_L6 hfl h) rfl rfl (by decide) rfl ⟨_, rfl⟩ rfl ⟨Nat.le_of_ble_eq_true rfl, Nat.le_of_ble_eq_true rfl⟩ (Nat.le_of_ble_eq_true rfl) ⟨Nat.le_of_ble_eq_true rfl, Nat.le_of_ble_eq_true rfl, Nat.le_of_ble_eq_true rfl, Nat.le_of_ble_eq_true rfl⟩ (k_Wv fun s15 h => ?_)
      refine z_aload_n C dX12_ors_18 (i := 0) rfl rfl ?_
      refine z_iconst C dX12_ors_19 (v := 3) (by decide) ?_
      refine z_iconst C dX12_ors_20 (v := 0) (by decide) ?_
      refine t_callV C (rest := []) (c2 := 0) (s2 := 0) (kd := 100) (i := 0) [.int (3), .int (0)] dX12_ors_21 lk_X12_316 li_X12_emits le_X12_emits (c_X12_emits hfl h) rfl rfl (by decide) rfl ⟨_, rfl⟩ rfl ⟨Nat.le_of_ble_eq_true rfl, Nat.le_of_ble_eq_true rfl⟩ (Nat.le_of_ble_eq_true rfl) ⟨Nat.le_of_ble_eq_true rfl, Nat.le_of_ble_eq_true rfl, Nat.le_of_ble_eq_true rfl, Nat.le_of_ble_eq_true rfl⟩ (k_Wv fun s21 h => ?_)
      refine z_goto C dX12_ors_24 (tgt := 4) (by decide) ?_
      exact t_drop [true] rfl (hK4 s21 h)
def w_X12_ors_L6 (st : zTs)  (P : zTs → Prop) : Prop := w_X12_ands_L6 st (fun (s1 : zTs) => (w_X12_ors_L6_4 P zfu s1))
set_option maxHeartbeats 4000000 in
set_option maxRecDepth 100000 in
theorem c_X12_ors_L6 {Z : zZ} {l : Launch} (hfl : l.stackTraces = false) {st : zTs}  {P : zTs → Prop} (h : w_X12_ors_L6 st  P) : zN Z l yX12_ors cX12_ors 1 none ({ frames := 21, cells := 0, slots := 0, locals := 436 } : Room) (zh Z zm1 st) [.ref 100] (zWv Z zm1 P) := by
  unfold w_X12_ors_L6 at h
  refine z_enterN (by decide) (Nat.le_of_ble_eq_true rfl) (lc0 := [some (.ref 100)]) rfl ?_
  intro p e s m args below meth c ad0 C hr _
  have hn9 : True := trivial
  replace C : zC Z p s m args meth c cX12_ors 1 RX12 := C
  refine z_aload_n C dX12_ors_0 (i := 0) rfl rfl ?_
  refine t_callV C (rest := []) (c2 := 0) (s2 := 0) (kd := 100) (i := 0) [] dX12_ors_1 lk_X12_308 li_X12_ands le_X12_ands (c_X12_ands_L6 hfl h) rfl rfl (by decide) rfl ⟨_, rfl⟩ rfl ⟨Nat.le_of_ble_eq_true rfl, Nat.le_of_ble_eq_true rfl⟩ (Nat.le_of_ble_eq_true rfl) ⟨Nat.le_of_ble_eq_true rfl, Nat.le_of_ble_eq_true rfl, Nat.le_of_ble_eq_true rfl, Nat.le_of_ble_eq_true rfl⟩ (k_Wv fun s1 h => ?_)
  exact t_drop [true] rfl (j_X12_ors_L6_4 hfl C hr hn9  zfu s1 h)
def w_X12_one_L5_189 (P : zTs → Prop)  (st : zTs) (a1 : Int32) (a3 : Int32) (b0 : Int32) : Prop := w_X12_emits st b0 ((3 * a3) + a1) (fun (s194 : zTs) => (P s194))
set_option maxHeartbeats 4000000 in
set_option maxRecDepth 100000 in
theorem j_X12_one_L5_189 {P : zTs → Prop}  (hfl : l.stackTraces = false) (C : zC Z p s m args meth c cX12_one 4 RX12) (hr : meth.sig.returnType = none) (hn9 : True)  (st : zTs) (a1 : Int32) (a3 : Int32) (b0 : Int32) (h : w_X12_one_L5_189 P st a1 a3 b0) : zG Z ad0 h0 p l e ({ frames := 22, cells := 0, slots := 0, locals := 456 } : Room) s m args below meth c (MQ below (zQ Z ad0 h0 (zWv Z zm1 P)) args s 0 0 (zA Z)) 0 0 (zh Z zm1 st) 4 189 [none, some (.int (a1)), none, some (.int (a3))] [.int (b0), .ref 100] := by
  unfold w_X12_one_L5_189 at h
  refine z_iconst C dX12_one_189 (v := 3) (by decide) ?_
  refine z_iload_n C dX12_one_190 (i := 3) rfl rfl ?_
  refine z_imul C dX12_one_191 ?_
  refine z_iload_n C dX12_one_192 (i := 1) rfl rfl ?_
  refine z_iadd C dX12_one_193 ?_
  refine t_callV C (rest := []) (c2 := 0) (s2 := 0) (kd := 100) (i := 0) [.int (b0), .int ((3 * a3) + a1)] dX12_one_194 lk_X12_316 li_X12_emits le_X12_emits (c_X12_emits hfl h) rfl rfl (by decide) rfl ⟨_, rfl⟩ rfl ⟨Nat.le_of_ble_eq_true rfl, Nat.le_of_ble_eq_true rfl⟩ (Nat.le_of_ble_eq_true rfl) ⟨Nat.le_of_ble_eq_true rfl, Nat.le_of_ble_eq_true rfl, Nat.le_of_ble_eq_true rfl, Nat.le_of_ble_eq_true rfl⟩ (k_Wv fun s194 h => ?_)
  exact z_vret C dX12_one_197 hr ⟨_, rfl, rfl, h⟩ (Nat.le_of_ble_eq_true rfl) (Nat.le_of_ble_eq_true rfl)
def w_X12_one_L5_158 (P : zTs → Prop)  (st : zTs) (a1 : Int32) (a2 : Int32) : Prop := ∀ s165 : zTs, s165 = zuF st 100 0 8 ((zgF st 100 0 8) + 1) → (w_X12_number s165 0 9999 (fun (r173 : Int32) (s173 : zTs) => ((a2 = 60 → w_X12_one_L5_189 P s173 a1 r173 (4)) ∧ (¬ a2 = 60 → w_X12_one_L5_189 P s173 a1 r173 (5)))))
set_option maxHeartbeats 4000000 in
set_option maxRecDepth 100000 in
theorem j_X12_one_L5_158 {P : zTs → Prop}  (hfl : l.stackTraces = false) (C : zC Z p s m args meth c cX12_one 4 RX12) (hr : meth.sig.returnType = none) (hn9 : True)  (st : zTs) (a1 : Int32) (a2 : Int32) (h : w_X12_one_L5_158 P st a1 a2) : zG Z ad0 h0 p l e ({ frames := 22, cells := 0, slots := 0, locals := 456 } : Room) s m args below meth c (MQ below (zQ Z ad0 h0 (zWv Z zm1 P)) args s 0 0 (zA Z)) 0 0 (zh Z zm1 st) 4 158 [some (.ref 100), some (.int (a1)), some (.int (a2)), none] [] := by
  unfold w_X12_one_L5_158 at h
  refine z_aload_n C dX12_one_158 (i := 0) rfl rfl ?_
  refine z_dup C dX12_one_159 rfl ?_
  refine t_get C dX12_one_160 fl_X12_232 (k := 100) (i := 0) (by decide) rfl (fg_100_8 _ _ _) ?_
  refine z_iconst C dX12_one_163 (v := 1) (by decide) ?_
  refine z_iadd C dX12_one_164 ?_
  refine t_put C dX12_one_165 fq_X12_232 (Or.inl rfl) (k := 100) (i := 0) (by decide) rfl ⟨rfl, rfl⟩ (fp_100_8 _ _ _ _ _) ?_
  refine t_tops (fun s165 es165 => ?_)
  have h := h s165 es165
  refine z_aload_n C dX12_one_168 (i := 0) rfl rfl ?_
  refine z_iconst C dX12_one_169 (v := 0) (by decide) ?_
  refine z_sipush C dX12_one_170 (v := 9999) (by decide) ?_
  refine t_callV C (rest := []) (c2 := 0) (s2 := 0) (kd := 100) (i := 0) [.int (0), .int (9999)] dX12_one_173 lk_X12_342 li_X12_number le_X12_number (c_X12_number hfl h) rfl rfl (by decide) rfl ⟨_, rfl⟩ rfl ⟨Nat.le_of_ble_eq_true rfl, Nat.le_of_ble_eq_true rfl⟩ (Nat.le_of_ble_eq_true rfl) ⟨Nat.le_of_ble_eq_true rfl, Nat.le_of_ble_eq_true rfl, Nat.le_of_ble_eq_true rfl, Nat.le_of_ble_eq_true rfl⟩ (k_Wi fun r173 s173 h => ?_)
  refine z_istore_n C dX12_one_176 (i := 3) (lc' := [some (.ref 100), some (.int (a1)), some (.int (a2)), some (.int (r173))]) rfl (by decide) rfl ?_
  refine z_aload_n C dX12_one_177 (i := 0) rfl rfl ?_
  refine z_iload_n C dX12_one_178 (i := 2) rfl rfl ?_
  refine z_bipush C dX12_one_179 (v := 60) (by decide) ?_
  refine z_icmp_ne C dX12_one_181 (tgt := 188) (by decide) (fun c181 => ?_) (fun c181 => ?_)
  · have h := h.2 c181
    refine z_iconst C dX12_one_188 (v := 5) (by decide) ?_
    exact t_drop [false, true, false, true] rfl (j_X12_one_L5_189 hfl C hr hn9  s173 a1 r173 (5) h)
  · have h := h.1 c181
    refine z_iconst C dX12_one_184 (v := 4) (by decide) ?_
    refine z_goto C dX12_one_185 (tgt := 189) (by decide) ?_
    exact t_drop [false, true, false, true] rfl (j_X12_one_L5_189 hfl C hr hn9  s173 a1 r173 (4) h)
def w_X12_one_L5_148 (P : zTs → Prop)  (st : zTs) : Prop := w_X12_wrong st 1 (zgF st 100 0 8) (fun (s154 : zTs) => (P s154))
set_option maxHeartbeats 4000000 in
set_option maxRecDepth 100000 in
theorem j_X12_one_L5_148 {P : zTs → Prop}  (hfl : l.stackTraces = false) (C : zC Z p s m args meth c cX12_one 4 RX12) (hr : meth.sig.returnType = none) (hn9 : True)  (st : zTs) (h : w_X12_one_L5_148 P st) : zG Z ad0 h0 p l e ({ frames := 22, cells := 0, slots := 0, locals := 456 } : Room) s m args below meth c (MQ below (zQ Z ad0 h0 (zWv Z zm1 P)) args s 0 0 (zA Z)) 0 0 (zh Z zm1 st) 4 148 [some (.ref 100), none, none, none] [] := by
  unfold w_X12_one_L5_148 at h
  refine z_aload_n C dX12_one_148 (i := 0) rfl rfl ?_
  refine z_iconst C dX12_one_149 (v := 1) (by decide) ?_
  refine z_aload_n C dX12_one_150 (i := 0) rfl rfl ?_
  refine t_get C dX12_one_151 fl_X12_232 (k := 100) (i := 0) (by decide) rfl (fg_100_8 _ _ _) ?_
  refine t_callV C (rest := []) (c2 := 0) (s2 := 0) (kd := 100) (i := 0) [.int (1), .int (zgF st 100 0 8)] dX12_one_154 lk_X12_300 li_X12_wrong le_X12_wrong (c_X12_wrong hfl h) rfl rfl (by decide) rfl ⟨_, rfl⟩ rfl ⟨Nat.le_of_ble_eq_true rfl, Nat.le_of_ble_eq_true rfl⟩ (Nat.le_of_ble_eq_true rfl) ⟨Nat.le_of_ble_eq_true rfl, Nat.le_of_ble_eq_true rfl, Nat.le_of_ble_eq_true rfl, Nat.le_of_ble_eq_true rfl⟩ (k_Wv fun s154 h => ?_)
  exact z_vret C dX12_one_157 hr ⟨_, rfl, rfl, h⟩ (Nat.le_of_ble_eq_true rfl) (Nat.le_of_ble_eq_true rfl)
def w_X12_one_L5_119 (P : zTs → Prop)  (st : zTs) (a1 : Int32) : Prop := w_X12_blanks st (fun (s120 : zTs) => (w_X12_byteAt s120 (zgF s120 100 0 8) (fun (r128 : Int32) => ((a1 < 0 → w_X12_one_L5_148 P s120) ∧ (¬ a1 < 0 → (r128 = 60 → w_X12_one_L5_158 P s120 a1 r128) ∧ (¬ r128 = 60 → (r128 = 62 → w_X12_one_L5_158 P s120 a1 r128) ∧ (¬ r128 = 62 → w_X12_one_L5_148 P s120)))))))
set_option maxHeartbeats 4000000 in
set_option maxRecDepth 100000 in
theorem j_X12_one_L5_119 {P : zTs → Prop}  (hfl : l.stackTraces = false) (C : zC Z p s m args meth c cX12_one 4 RX12) (hr : meth.sig.returnType = none) (hn9 : True)  (st : zTs) (a1 : Int32) (h : w_X12_one_L5_119 P st a1) : zG Z ad0 h0 p l e ({ frames := 22, cells := 0, slots := 0, locals := 456 } : Room) s m args below meth c (MQ below (zQ Z ad0 h0 (zWv Z zm1 P)) args s 0 0 (zA Z)) 0 0 (zh Z zm1 st) 4 119 [some (.ref 100), some (.int (a1)), none, none] [] := by
  unfold w_X12_one_L5_119 at h
  refine z_aload_n C dX12_one_119 (i := 0) rfl rfl ?_
  refine t_callV C (rest := []) (c2 := 0) (s2 := 0) (kd := 100) (i := 0) [] dX12_one_120 lk_X12_242 li_X12_blanks le_X12_blanks (c_X12_blanks hfl h) rfl rfl (by decide) rfl ⟨_, rfl⟩ rfl ⟨Nat.le_of_ble_eq_true rfl, Nat.le_of_ble_eq_true rfl⟩ (Nat.le_of_ble_eq_true rfl) ⟨Nat.le_of_ble_eq_true rfl, Nat.le_of_ble_eq_true rfl, Nat.le_of_ble_eq_true rfl, Nat.le_of_ble_eq_true rfl⟩ (k_Wv fun s120 h => ?_)
  refine z_aload_n C dX12_one_123 (i := 0) rfl rfl ?_
  refine z_aload_n C dX12_one_124 (i := 0) rfl rfl ?_
  refine t_get C dX12_one_125 fl_X12_232 (k := 100) (i := 0) (by decide) rfl (fg_100_8 _ _ _) ?_
  refine t_callV C (rest := []) (c2 := 0) (s2 := 0) (kd := 100) (i := 0) [.int (zgF s120 100 0 8)] dX12_one_128 lk_X12_235 li_X12_byteAt le_X12_byteAt (c_X12_byteAt hfl h) rfl rfl (by decide) rfl ⟨_, rfl⟩ rfl ⟨Nat.le_of_ble_eq_true rfl, Nat.le_of_ble_eq_true rfl⟩ (Nat.le_of_ble_eq_true rfl) ⟨Nat.le_of_ble_eq_true rfl, Nat.le_of_ble_eq_true rfl, Nat.le_of_ble_eq_true rfl, Nat.le_of_ble_eq_true rfl⟩ (k_Ri fun r128 h => ?_)
  refine z_istore_n C dX12_one_131 (i := 2) (lc' := [some (.ref 100), some (.int (a1)), some (.int (r128)), none]) rfl (by decide) rfl ?_
  refine z_iload_n C dX12_one_132 (i := 1) rfl rfl ?_
  refine z_if_lt C dX12_one_133 (tgt := 148) (by decide) (fun c133 => ?_) (fun c133 => ?_)
  · have h := h.1 c133
    exact t_drop [true, false, false, false] rfl (j_X12_one_L5_148 hfl C hr hn9  s120 h)
  · have h := h.2 c133
    refine z_iload_n C dX12_one_136 (i := 2) rfl rfl ?_
    refine z_bipush C dX12_one_137 (v := 60) (by decide) ?_
    refine z_icmp_eq C dX12_one_139 (tgt := 158) (by decide) (fun c139 => ?_) (fun c139 => ?_)
    · have h := h.1 c139
      exact t_drop [true, true, true, false] rfl (j_X12_one_L5_158 hfl C hr hn9  s120 a1 r128 h)
    · have h := h.2 c139
      refine z_iload_n C dX12_one_142 (i := 2) rfl rfl ?_
      refine z_bipush C dX12_one_143 (v := 62) (by decide) ?_
      refine z_icmp_eq C dX12_one_145 (tgt := 158) (by decide) (fun c145 => ?_) (fun c145 => ?_)
      · have h := h.1 c145
        exact t_drop [true, true, true, false] rfl (j_X12_one_L5_158 hfl C hr hn9  s120 a1 r128 h)
      · have h := h.2 c145
        exact t_drop [true, false, false, false] rfl (j_X12_one_L5_148 hfl C hr hn9  s120 h)
def w_X12_one_L5_113 (P : zTs → Prop) (K91 : zTs → Int32 → Int32 → Prop) (st : zTs) (a1 : Int32) (a2 : Int32) : Prop := ∀ x113 : Int32, x113 = a2 + 1 → (K91 st a1 x113)
set_option maxHeartbeats 4000000 in
set_option maxRecDepth 100000 in
theorem j_X12_one_L5_113 {P : zTs → Prop} {K91 : zTs → Int32 → Int32 → Prop} (hfl : l.stackTraces = false) (C : zC Z p s m args meth c cX12_one 4 RX12) (hr : meth.sig.returnType = none) (hn9 : True) (hK91 : ∀ (st : zTs) (a1 : Int32) (a2 : Int32), K91 st a1 a2 → zG Z ad0 h0 p l e ({ frames := 22, cells := 0, slots := 0, locals := 456 } : Room) s m args below meth c (MQ below (zQ Z ad0 h0 (zWv Z zm1 P)) args s 0 0 (zA Z)) 0 0 (zh Z zm1 st) 4 91 [some (.ref 100), some (.int (a1)), some (.int (a2)), none] []) (st : zTs) (a1 : Int32) (a2 : Int32) (h : w_X12_one_L5_113 P K91 st a1 a2) : zG Z ad0 h0 p l e ({ frames := 22, cells := 0, slots := 0, locals := 456 } : Room) s m args below meth c (MQ below (zQ Z ad0 h0 (zWv Z zm1 P)) args s 0 0 (zA Z)) 0 0 (zh Z zm1 st) 4 113 [some (.ref 100), some (.int (a1)), some (.int (a2)), none] [] := by
  unfold w_X12_one_L5_113 at h
  obtain ⟨x113, ex113⟩ : ∃ z : Int32, z = a2 + 1 := ⟨_, rfl⟩
  have h := h x113 ex113
  refine z_iinc C dX12_one_113 (v := x113) (lc' := [some (.ref 100), some (.int (a1)), some (.int (x113)), none]) rfl (by decide) (by rw [ex113]; rfl) rfl ?_
  refine z_goto C dX12_one_116 (tgt := 91) (by decide) ?_
  exact t_drop [true, true, true, false] rfl (hK91 st a1 x113 h)
def w_X12_one_L5_91 (P : zTs → Prop)  : Nat → zTs → Int32 → Int32 → Prop
  | 0, _, _, _ => False
  | n9 + 1, st, a1, a2 => (3 ≤ a2 → w_X12_one_L5_119 P st a1) ∧ (¬ 3 ≤ a2 → (0 ≤ a1 → w_X12_one_L5_119 P st a1) ∧ (¬ 0 ≤ a1 → w_X12_measureOf st a2 (fun (r102 : Nat) => (w_X12_eat st r102 (fun (r105 : Int32) (s105 : zTs) => ((r105 = 0 → w_X12_one_L5_113 P (w_X12_one_L5_91 P n9) s105 a1 a2) ∧ (¬ r105 = 0 → w_X12_one_L5_113 P (w_X12_one_L5_91 P n9) s105 a2 a2)))))))
set_option maxHeartbeats 4000000 in
set_option maxRecDepth 100000 in
theorem j_X12_one_L5_91 {P : zTs → Prop}  (hfl : l.stackTraces = false) (C : zC Z p s m args meth c cX12_one 4 RX12) (hr : meth.sig.returnType = none) (hn9 : True)  : ∀ (n9 : Nat) (st : zTs) (a1 : Int32) (a2 : Int32), w_X12_one_L5_91 P n9 st a1 a2 → zG Z ad0 h0 p l e ({ frames := 22, cells := 0, slots := 0, locals := 456 } : Room) s m args below meth c (MQ below (zQ Z ad0 h0 (zWv Z zm1 P)) args s 0 0 (zA Z)) 0 0 (zh Z zm1 st) 4 91 [some (.ref 100), some (.int (a1)), some (.int (a2)), none] [] := by
  intro n9
  induction n9 with
  | zero => intro st a1 a2 h; exact h.elim
  | succ n9 hK91 =>
    intro st a1 a2 h
    rw [w_X12_one_L5_91] at h
    refine z_iload_n C dX12_one_91 (i := 2) rfl rfl ?_
    refine z_iconst C dX12_one_92 (v := 3) (by decide) ?_
    refine z_icmp_ge C dX12_one_93 (tgt := 119) (by decide) (fun c93 => ?_) (fun c93 => ?_)
    · have h := h.1 c93
      exact t_drop [true, true, false, false] rfl (j_X12_one_L5_119 hfl C hr hn9  st a1 h)
    · have h := h.2 c93
      refine z_iload_n C dX12_one_96 (i := 1) rfl rfl ?_
      refine z_if_ge C dX12_one_97 (tgt := 119) (by decide) (fun c97 => ?_) (fun c97 => ?_)
      · have h := h.1 c97
        exact t_drop [true, true, false, false] rfl (j_X12_one_L5_119 hfl C hr hn9  st a1 h)
      · have h := h.2 c97
        refine z_aload_n C dX12_one_100 (i := 0) rfl rfl ?_
        refine z_iload_n C dX12_one_101 (i := 2) rfl rfl ?_
        refine t_callS C (rest := [.ref 100]) (c2 := 0) (s2 := 0) [.int (a2)] dX12_one_102 lk_X12_339 ls_X12_measureOf (c_X12_measureOf hfl h) rfl rfl ⟨Nat.le_of_ble_eq_true rfl, Nat.le_of_ble_eq_true rfl⟩ (Nat.le_of_ble_eq_true rfl) ⟨Nat.le_of_ble_eq_true rfl, Nat.le_of_ble_eq_true rfl, Nat.le_of_ble_eq_true rfl, Nat.le_of_ble_eq_true rfl⟩ (k_Rr fun r102 h => ?_)
        refine t_callV C (rest := []) (c2 := 0) (s2 := 0) (kd := 100) (i := 0) [.ref (200 + 256 * r102)] dX12_one_105 lk_X12_313 li_X12_eat le_X12_eat (c_X12_eat hfl h) rfl rfl (by decide) rfl ⟨_, rfl⟩ rfl ⟨Nat.le_of_ble_eq_true rfl, Nat.le_of_ble_eq_true rfl⟩ (Nat.le_of_ble_eq_true rfl) ⟨Nat.le_of_ble_eq_true rfl, Nat.le_of_ble_eq_true rfl, Nat.le_of_ble_eq_true rfl, Nat.le_of_ble_eq_true rfl⟩ (k_Wi fun r105 s105 h => ?_)
        refine z_if_eq C dX12_one_108 (tgt := 113) (by decide) (fun c108 => ?_) (fun c108 => ?_)
        · have h := h.1 c108
          exact t_drop [true, true, true, false] rfl (j_X12_one_L5_113 hfl C hr hn9 hK91 s105 a1 a2 h)
        · have h := h.2 c108
          refine z_iload_n C dX12_one_111 (i := 2) rfl rfl ?_
          refine z_istore_n C dX12_one_112 (i := 1) (lc' := [some (.ref 100), some (.int (a2)), some (.int (a2)), none]) rfl (by decide) rfl ?_
          exact t_drop [true, true, true, false] rfl (j_X12_one_L5_113 hfl C hr hn9 hK91 s105 a2 a2 h)
def w_X12_one_L5 (st : zTs)  (P : zTs → Prop) : Prop := ((zgF st 100 0 9) ≤ 0 → w_X12_blanks st (fun (s9 : zTs) => (w_X12_isWord s9 20 (fun (r16 : Int32) (s16 : zTs) => ((r16 = 0 → w_X12_byteAt s16 (zgF s16 100 0 8) (fun (r53 : Int32) => ((r53 = 40 → w_X12_opens s16 1 (fun (s63 : zTs) => (w_X12_ors_L6 s63 (fun (s67 : zTs) => (w_X12_sign s67 41 (fun (s73 : zTs) => (∀ s83 : zTs, s83 = zuF s73 100 0 12 ((zgF s73 100 0 12) - 1) → (P s83)))))))) ∧ (¬ r53 = 40 → w_X12_one_L5_91 P zfu s16 (-1) (0))))) ∧ (¬ r16 = 0 → w_X12_opens s16 3 (fun (s24 : zTs) => (w_X12_one_L6 s24 (fun (s28 : zTs) => (∀ s38 : zTs, s38 = zuF s28 100 0 12 ((zgF s28 100 0 12) - 1) → (w_X12_emits s38 1 0 (fun (s44 : zTs) => (P s44))))))))))))) ∧ (¬ (zgF st 100 0 9) ≤ 0 → P st)
set_option maxHeartbeats 4000000 in
set_option maxRecDepth 100000 in
theorem c_X12_one_L5 {Z : zZ} {l : Launch} (hfl : l.stackTraces = false) {st : zTs}  {P : zTs → Prop} (h : w_X12_one_L5 st  P) : zN Z l yX12_one cX12_one 4 none ({ frames := 22, cells := 0, slots := 0, locals := 456 } : Room) (zh Z zm1 st) [.ref 100] (zWv Z zm1 P) := by
  unfold w_X12_one_L5 at h
  refine z_enterN (by decide) (Nat.le_of_ble_eq_true rfl) (lc0 := [some (.ref 100), none, none, none]) rfl ?_
  intro p e s m args below meth c ad0 C hr _
  have hn9 : True := trivial
  replace C : zC Z p s m args meth c cX12_one 4 RX12 := C
  refine z_aload_n C dX12_one_0 (i := 0) rfl rfl ?_
  refine t_get C dX12_one_1 fl_X12_239 (k := 100) (i := 0) (by decide) rfl (fg_100_9 _ _ _) ?_
  refine z_if_le C dX12_one_4 (tgt := 8) (by decide) (fun c4 => ?_) (fun c4 => ?_)
  · have h := h.1 c4
    refine z_aload_n C dX12_one_8 (i := 0) rfl rfl ?_
    refine t_callV C (rest := []) (c2 := 0) (s2 := 0) (kd := 100) (i := 0) [] dX12_one_9 lk_X12_242 li_X12_blanks le_X12_blanks (c_X12_blanks hfl h) rfl rfl (by decide) rfl ⟨_, rfl⟩ rfl ⟨Nat.le_of_ble_eq_true rfl, Nat.le_of_ble_eq_true rfl⟩ (Nat.le_of_ble_eq_true rfl) ⟨Nat.le_of_ble_eq_true rfl, Nat.le_of_ble_eq_true rfl, Nat.le_of_ble_eq_true rfl, Nat.le_of_ble_eq_true rfl⟩ (k_Wv fun s9 h => ?_)
    refine z_aload_n C dX12_one_12 (i := 0) rfl rfl ?_
    refine z_ldc_wS C dX12_one_13 (i := 20) (text := "not") (by decide) ?_
    refine t_callV C (rest := []) (c2 := 0) (s2 := 0) (kd := 100) (i := 0) [.ref (200 + 256 * 20)] dX12_one_16 lk_X12_255 li_X12_isWord le_X12_isWord (c_X12_isWord hfl h) rfl rfl (by decide) rfl ⟨_, rfl⟩ rfl ⟨Nat.le_of_ble_eq_true rfl, Nat.le_of_ble_eq_true rfl⟩ (Nat.le_of_ble_eq_true rfl) ⟨Nat.le_of_ble_eq_true rfl, Nat.le_of_ble_eq_true rfl, Nat.le_of_ble_eq_true rfl, Nat.le_of_ble_eq_true rfl⟩ (k_Wi fun r16 s16 h => ?_)
    refine z_if_eq C dX12_one_19 (tgt := 48) (by decide) (fun c19 => ?_) (fun c19 => ?_)
    · have h := h.1 c19
      refine z_aload_n C dX12_one_48 (i := 0) rfl rfl ?_
      refine z_aload_n C dX12_one_49 (i := 0) rfl rfl ?_
      refine t_get C dX12_one_50 fl_X12_232 (k := 100) (i := 0) (by decide) rfl (fg_100_8 _ _ _) ?_
      refine t_callV C (rest := []) (c2 := 0) (s2 := 0) (kd := 100) (i := 0) [.int (zgF s16 100 0 8)] dX12_one_53 lk_X12_235 li_X12_byteAt le_X12_byteAt (c_X12_byteAt hfl h) rfl rfl (by decide) rfl ⟨_, rfl⟩ rfl ⟨Nat.le_of_ble_eq_true rfl, Nat.le_of_ble_eq_true rfl⟩ (Nat.le_of_ble_eq_true rfl) ⟨Nat.le_of_ble_eq_true rfl, Nat.le_of_ble_eq_true rfl, Nat.le_of_ble_eq_true rfl, Nat.le_of_ble_eq_true rfl⟩ (k_Ri fun r53 h => ?_)
      refine z_bipush C dX12_one_56 (v := 40) (by decide) ?_
      refine z_icmp_ne C dX12_one_58 (tgt := 87) (by decide) (fun c58 => ?_) (fun c58 => ?_)
      · have h := h.2 c58
        refine z_iconst C dX12_one_87 (v := (-1)) (by decide) ?_
        refine z_istore_n C dX12_one_88 (i := 1) (lc' := [some (.ref 100), some (.int (-1)), none, none]) rfl (by decide) rfl ?_
        refine z_iconst C dX12_one_89 (v := 0) (by decide) ?_
        refine z_istore_n C dX12_one_90 (i := 2) (lc' := [some (.ref 100), some (.int (-1)), some (.int (0)), none]) rfl (by decide) rfl ?_
        exact t_drop [true, true, true, false] rfl (j_X12_one_L5_91 hfl C hr hn9  zfu s16 (-1) (0) h)
      · have h := h.1 c58
        refine z_aload_n C dX12_one_61 (i := 0) rfl rfl ?_
        refine z_iconst C dX12_one_62 (v := 1) (by decide) ?_
        refine t_callV C (rest := []) (c2 := 0) (s2 := 0) (kd := 100) (i := 0) [.int (1)] dX12_one_63 lk_X12_329 li_X12_opens le_X12_opens (c_X12_opens hfl h) rfl rfl (by decide) rfl ⟨_, rfl⟩ rfl ⟨Nat.le_of_ble_eq_true rfl, Nat.le_of_ble_eq_true rfl⟩ (Nat.le_of_ble_eq_true rfl) ⟨Nat.le_of_ble_eq_true rfl, Nat.le_of_ble_eq_true rfl, Nat.le_of_ble_eq_true rfl, Nat.le_of_ble_eq_true rfl⟩ (k_Wv fun s63 h => ?_)
        refine z_aload_n C dX12_one_66 (i := 0) rfl rfl ?_
        refine t_callV C (rest := []) (c2 := 0) (s2 := 0) (kd := 100) (i := 0) [] dX12_one_67 lk_X12_333 li_X12_ors le_X12_ors (c_X12_ors_L6 hfl h) rfl rfl (by decide) rfl ⟨_, rfl⟩ rfl ⟨Nat.le_of_ble_eq_true rfl, Nat.le_of_ble_eq_true rfl⟩ (Nat.le_of_ble_eq_true rfl) ⟨Nat.le_of_ble_eq_true rfl, Nat.le_of_ble_eq_true rfl, Nat.le_of_ble_eq_true rfl, Nat.le_of_ble_eq_true rfl⟩ (k_Wv fun s67 h => ?_)
        refine z_aload_n C dX12_one_70 (i := 0) rfl rfl ?_
        refine z_bipush C dX12_one_71 (v := 41) (by decide) ?_
        refine t_callV C (rest := []) (c2 := 0) (s2 := 0) (kd := 100) (i := 0) [.int (41)] dX12_one_73 lk_X12_336 li_X12_sign le_X12_sign (c_X12_sign hfl h) rfl rfl (by decide) rfl ⟨_, rfl⟩ rfl ⟨Nat.le_of_ble_eq_true rfl, Nat.le_of_ble_eq_true rfl⟩ (Nat.le_of_ble_eq_true rfl) ⟨Nat.le_of_ble_eq_true rfl, Nat.le_of_ble_eq_true rfl, Nat.le_of_ble_eq_true rfl, Nat.le_of_ble_eq_true rfl⟩ (k_Wv fun s73 h => ?_)
        refine z_aload_n C dX12_one_76 (i := 0) rfl rfl ?_
        refine z_dup C dX12_one_77 rfl ?_
        refine t_get C dX12_one_78 fl_X12_324 (k := 100) (i := 0) (by decide) rfl (fg_100_12 _ _ _) ?_
        refine z_iconst C dX12_one_81 (v := 1) (by decide) ?_
        refine z_isub C dX12_one_82 ?_
        refine t_put C dX12_one_83 fq_X12_324 (Or.inl rfl) (k := 100) (i := 0) (by decide) rfl ⟨rfl, rfl⟩ (fp_100_12 _ _ _ _ _) ?_
        refine t_tops (fun s83 es83 => ?_)
        have h := h s83 es83
        exact z_vret C dX12_one_86 hr ⟨_, rfl, rfl, h⟩ (Nat.le_of_ble_eq_true rfl) (Nat.le_of_ble_eq_true rfl)
    · have h := h.2 c19
      refine z_aload_n C dX12_one_22 (i := 0) rfl rfl ?_
      refine z_iconst C dX12_one_23 (v := 3) (by decide) ?_
      refine t_callV C (rest := []) (c2 := 0) (s2 := 0) (kd := 100) (i := 0) [.int (3)] dX12_one_24 lk_X12_329 li_X12_opens le_X12_opens (c_X12_opens hfl h) rfl rfl (by decide) rfl ⟨_, rfl⟩ rfl ⟨Nat.le_of_ble_eq_true rfl, Nat.le_of_ble_eq_true rfl⟩ (Nat.le_of_ble_eq_true rfl) ⟨Nat.le_of_ble_eq_true rfl, Nat.le_of_ble_eq_true rfl, Nat.le_of_ble_eq_true rfl, Nat.le_of_ble_eq_true rfl⟩ (k_Wv fun s24 h => ?_)
      refine z_aload_n C dX12_one_27 (i := 0) rfl rfl ?_
      refine t_callV C (rest := []) (c2 := 0) (s2 := 0) (kd := 100) (i := 0) [] dX12_one_28 lk_X12_319 li_X12_one le_X12_one (c_X12_one_L6 hfl h) rfl rfl (by decide) rfl ⟨_, rfl⟩ rfl ⟨Nat.le_of_ble_eq_true rfl, Nat.le_of_ble_eq_true rfl⟩ (Nat.le_of_ble_eq_true rfl) ⟨Nat.le_of_ble_eq_true rfl, Nat.le_of_ble_eq_true rfl, Nat.le_of_ble_eq_true rfl, Nat.le_of_ble_eq_true rfl⟩ (k_Wv fun s28 h => ?_)
      refine z_aload_n C dX12_one_31 (i := 0) rfl rfl ?_
      refine z_dup C dX12_one_32 rfl ?_
      refine t_get C dX12_one_33 fl_X12_324 (k := 100) (i := 0) (by decide) rfl (fg_100_12 _ _ _) ?_
      refine z_iconst C dX12_one_36 (v := 1) (by decide) ?_
      refine z_isub C dX12_one_37 ?_
      refine t_put C dX12_one_38 fq_X12_324 (Or.inl rfl) (k := 100) (i := 0) (by decide) rfl ⟨rfl, rfl⟩ (fp_100_12 _ _ _ _ _) ?_
      refine t_tops (fun s38 es38 => ?_)
      have h := h s38 es38
      refine z_aload_n C dX12_one_41 (i := 0) rfl rfl ?_
      refine z_iconst C dX12_one_42 (v := 1) (by decide) ?_
      refine z_iconst C dX12_one_43 (v := 0) (by decide) ?_
      refine t_callV C (rest := []) (c2 := 0) (s2 := 0) (kd := 100) (i := 0) [.int (1), .int (0)] dX12_one_44 lk_X12_316 li_X12_emits le_X12_emits (c_X12_emits hfl h) rfl rfl (by decide) rfl ⟨_, rfl⟩ rfl ⟨Nat.le_of_ble_eq_true rfl, Nat.le_of_ble_eq_true rfl⟩ (Nat.le_of_ble_eq_true rfl) ⟨Nat.le_of_ble_eq_true rfl, Nat.le_of_ble_eq_true rfl, Nat.le_of_ble_eq_true rfl, Nat.le_of_ble_eq_true rfl⟩ (k_Wv fun s44 h => ?_)
      exact z_vret C dX12_one_47 hr ⟨_, rfl, rfl, h⟩ (Nat.le_of_ble_eq_true rfl) (Nat.le_of_ble_eq_true rfl)
  · have h := h.2 c4
    exact z_vret C dX12_one_7 hr ⟨_, rfl, rfl, h⟩ (Nat.le_of_ble_eq_true rfl) (Nat.le_of_ble_eq_true rfl)
def w_X12_ands_L5_4 (P : zTs → Prop)  : Nat → zTs → Prop
  | 0, _ => False
  | n9 + 1, st => w_X12_eat st 19 (fun (r8 : Int32) (s8 : zTs) => ((r8 = 0 → P s8) ∧ (¬ r8 = 0 → w_X12_one_L5 s8 (fun (s15 : zTs) => (w_X12_emits s15 2 0 (fun (s21 : zTs) => ((w_X12_ands_L5_4 P n9) s21)))))))
set_option maxHeartbeats 4000000 in
set_option maxRecDepth 100000 in
theorem j_X12_ands_L5_4 {P : zTs → Prop}  (hfl : l.stackTraces = false) (C : zC Z p s m args meth c cX12_ands 1 RX12) (hr : meth.sig.returnType = none) (hn9 : True)  : ∀ (n9 : Nat) (st : zTs), w_X12_ands_L5_4 P n9 st → zG Z ad0 h0 p l e ({ frames := 23, cells := 0, slots := 0, locals := 479 } : Room) s m args below meth c (MQ below (zQ Z ad0 h0 (zWv Z zm1 P)) args s 0 0 (zA Z)) 0 0 (zh Z zm1 st) 1 4 [some (.ref 100)] [] := by
  intro n9
  induction n9 with
  | zero => intro st h; exact h.elim
  | succ n9 hK4 =>
    intro st h
    rw [w_X12_ands_L5_4] at h
    refine z_aload_n C dX12_ands_4 (i := 0) rfl rfl ?_
    refine z_ldc_wS C dX12_ands_5 (i := 19) (text := "and") (by decide) ?_
    refine t_callV C (rest := []) (c2 := 0) (s2 := 0) (kd := 100) (i := 0) [.ref (200 + 256 * 19)] dX12_ands_8 lk_X12_313 li_X12_eat le_X12_eat (c_X12_eat hfl h) rfl rfl (by decide) rfl ⟨_, rfl⟩ rfl ⟨Nat.le_of_ble_eq_true rfl, Nat.le_of_ble_eq_true rfl⟩ (Nat.le_of_ble_eq_true rfl) ⟨Nat.le_of_ble_eq_true rfl, Nat.le_of_ble_eq_true rfl, Nat.le_of_ble_eq_true rfl, Nat.le_of_ble_eq_true rfl⟩ (k_Wi fun r8 s8 h => ?_)
    refine z_if_eq C dX12_ands_11 (tgt := 27) (by decide) (fun c11 => ?_) (fun c11 => ?_)
    · have h := h.1 c11
      exact z_vret C dX12_ands_27 hr ⟨_, rfl, rfl, h⟩ (Nat.le_of_ble_eq_true rfl) (Nat.le_of_ble_eq_true rfl)
    · have h := h.2 c11
      refine z_aload_n C dX12_ands_14 (i := 0) rfl rfl ?_
      refine t_callV C (rest := []) (c2 := 0) (s2 := 0) (kd := 100) (i := 0) [] dX12_ands_15 lk_X12_319 li_X12_one le_X12_one (c_X12_one_L5 hfl h) rfl rfl (by decide) rfl ⟨_, rfl⟩ rfl ⟨Nat.le_of_ble_eq_true rfl, Nat.le_of_ble_eq_true rfl⟩ (Nat.le_of_ble_eq_true rfl) ⟨Nat.le_of_ble_eq_true rfl, Nat.le_of_ble_eq_true rfl, Nat.le_of_ble_eq_true rfl, Nat.le_of_ble_eq_true rfl⟩ (k_Wv fun s15 h => ?_)
      refine z_aload_n C dX12_ands_18 (i := 0) rfl rfl ?_
      refine z_iconst C dX12_ands_19 (v := 2) (by decide) ?_
      refine z_iconst C dX12_ands_20 (v := 0) (by decide) ?_
      refine t_callV C (rest := []) (c2 := 0) (s2 := 0) (kd := 100) (i := 0) [.int (2), .int (0)] dX12_ands_21 lk_X12_316 li_X12_emits le_X12_emits (c_X12_emits hfl h) rfl rfl (by decide) rfl ⟨_, rfl⟩ rfl ⟨Nat.le_of_ble_eq_true rfl, Nat.le_of_ble_eq_true rfl⟩ (Nat.le_of_ble_eq_true rfl) ⟨Nat.le_of_ble_eq_true rfl, Nat.le_of_ble_eq_true rfl, Nat.le_of_ble_eq_true rfl, Nat.le_of_ble_eq_true rfl⟩ (k_Wv fun s21 h => ?_)
      refine z_goto C dX12_ands_24 (tgt := 4) (by decide) ?_
      exact t_drop [true] rfl (hK4 s21 h)
def w_X12_ands_L5 (st : zTs)  (P : zTs → Prop) : Prop := w_X12_one_L5 st (fun (s1 : zTs) => (w_X12_ands_L5_4 P zfu s1))
set_option maxHeartbeats 4000000 in
set_option maxRecDepth 100000 in
theorem c_X12_ands_L5 {Z : zZ} {l : Launch} (hfl : l.stackTraces = false) {st : zTs}  {P : zTs → Prop} (h : w_X12_ands_L5 st  P) : zN Z l yX12_ands cX12_ands 1 none ({ frames := 23, cells := 0, slots := 0, locals := 479 } : Room) (zh Z zm1 st) [.ref 100] (zWv Z zm1 P) := by
  unfold w_X12_ands_L5 at h
  refine z_enterN (by decide) (Nat.le_of_ble_eq_true rfl) (lc0 := [some (.ref 100)]) rfl ?_
  intro p e s m args below meth c ad0 C hr _
  have hn9 : True := trivial
  replace C : zC Z p s m args meth c cX12_ands 1 RX12 := C
  refine z_aload_n C dX12_ands_0 (i := 0) rfl rfl ?_
  refine t_callV C (rest := []) (c2 := 0) (s2 := 0) (kd := 100) (i := 0) [] dX12_ands_1 lk_X12_319 li_X12_one le_X12_one (c_X12_one_L5 hfl h) rfl rfl (by decide) rfl ⟨_, rfl⟩ rfl ⟨Nat.le_of_ble_eq_true rfl, Nat.le_of_ble_eq_true rfl⟩ (Nat.le_of_ble_eq_true rfl) ⟨Nat.le_of_ble_eq_true rfl, Nat.le_of_ble_eq_true rfl, Nat.le_of_ble_eq_true rfl, Nat.le_of_ble_eq_true rfl⟩ (k_Wv fun s1 h => ?_)
  exact t_drop [true] rfl (j_X12_ands_L5_4 hfl C hr hn9  zfu s1 h)
def w_X12_ors_L5_4 (P : zTs → Prop)  : Nat → zTs → Prop
  | 0, _ => False
  | n9 + 1, st => w_X12_eat st 18 (fun (r8 : Int32) (s8 : zTs) => ((r8 = 0 → P s8) ∧ (¬ r8 = 0 → w_X12_ands_L5 s8 (fun (s15 : zTs) => (w_X12_emits s15 3 0 (fun (s21 : zTs) => ((w_X12_ors_L5_4 P n9) s21)))))))
set_option maxHeartbeats 4000000 in
set_option maxRecDepth 100000 in
theorem j_X12_ors_L5_4 {P : zTs → Prop}  (hfl : l.stackTraces = false) (C : zC Z p s m args meth c cX12_ors 1 RX12) (hr : meth.sig.returnType = none) (hn9 : True)  : ∀ (n9 : Nat) (st : zTs), w_X12_ors_L5_4 P n9 st → zG Z ad0 h0 p l e ({ frames := 24, cells := 0, slots := 0, locals := 499 } : Room) s m args below meth c (MQ below (zQ Z ad0 h0 (zWv Z zm1 P)) args s 0 0 (zA Z)) 0 0 (zh Z zm1 st) 1 4 [some (.ref 100)] [] := by
  intro n9
  induction n9 with
  | zero => intro st h; exact h.elim
  | succ n9 hK4 =>
    intro st h
    rw [w_X12_ors_L5_4] at h
    refine z_aload_n C dX12_ors_4 (i := 0) rfl rfl ?_
    refine z_ldc_wS C dX12_ors_5 (i := 18) (text := "or") (by decide) ?_
    refine t_callV C (rest := []) (c2 := 0) (s2 := 0) (kd := 100) (i := 0) [.ref (200 + 256 * 18)] dX12_ors_8 lk_X12_313 li_X12_eat le_X12_eat (c_X12_eat hfl h) rfl rfl (by decide) rfl ⟨_, rfl⟩ rfl ⟨Nat.le_of_ble_eq_true rfl, Nat.le_of_ble_eq_true rfl⟩ (Nat.le_of_ble_eq_true rfl) ⟨Nat.le_of_ble_eq_true rfl, Nat.le_of_ble_eq_true rfl, Nat.le_of_ble_eq_true rfl, Nat.le_of_ble_eq_true rfl⟩ (k_Wi fun r8 s8 h => ?_)
    refine z_if_eq C dX12_ors_11 (tgt := 27) (by decide) (fun c11 => ?_) (fun c11 => ?_)
    · have h := h.1 c11
      exact z_vret C dX12_ors_27 hr ⟨_, rfl, rfl, h⟩ (Nat.le_of_ble_eq_true rfl) (Nat.le_of_ble_eq_true rfl)
    · have h := h.2 c11
      refine z_aload_n C dX12_ors_14 (i := 0) rfl rfl ?_
      refine t_callV C (rest := []) (c2 := 0) (s2 := 0) (kd := 100) (i := 0) [] dX12_ors_15 lk_X12_308 li_X12_ands le_X12_ands (c_X12_ands_L5 hfl h) rfl rfl (by decide) rfl ⟨_, rfl⟩ rfl ⟨Nat.le_of_ble_eq_true rfl, Nat.le_of_ble_eq_true rfl⟩ (Nat.le_of_ble_eq_true rfl) ⟨Nat.le_of_ble_eq_true rfl, Nat.le_of_ble_eq_true rfl, Nat.le_of_ble_eq_true rfl, Nat.le_of_ble_eq_true rfl⟩ (k_Wv fun s15 h => ?_)
      refine z_aload_n C dX12_ors_18 (i := 0) rfl rfl ?_
      refine z_iconst C dX12_ors_19 (v := 3) (by decide) ?_
      refine z_iconst C dX12_ors_20 (v := 0) (by decide) ?_
      refine t_callV C (rest := []) (c2 := 0) (s2 := 0) (kd := 100) (i := 0) [.int (3), .int (0)] dX12_ors_21 lk_X12_316 li_X12_emits le_X12_emits (c_X12_emits hfl h) rfl rfl (by decide) rfl ⟨_, rfl⟩ rfl ⟨Nat.le_of_ble_eq_true rfl, Nat.le_of_ble_eq_true rfl⟩ (Nat.le_of_ble_eq_true rfl) ⟨Nat.le_of_ble_eq_true rfl, Nat.le_of_ble_eq_true rfl, Nat.le_of_ble_eq_true rfl, Nat.le_of_ble_eq_true rfl⟩ (k_Wv fun s21 h => ?_)
      refine z_goto C dX12_ors_24 (tgt := 4) (by decide) ?_
      exact t_drop [true] rfl (hK4 s21 h)
def w_X12_ors_L5 (st : zTs)  (P : zTs → Prop) : Prop := w_X12_ands_L5 st (fun (s1 : zTs) => (w_X12_ors_L5_4 P zfu s1))
set_option maxHeartbeats 4000000 in
set_option maxRecDepth 100000 in
theorem c_X12_ors_L5 {Z : zZ} {l : Launch} (hfl : l.stackTraces = false) {st : zTs}  {P : zTs → Prop} (h : w_X12_ors_L5 st  P) : zN Z l yX12_ors cX12_ors 1 none ({ frames := 24, cells := 0, slots := 0, locals := 499 } : Room) (zh Z zm1 st) [.ref 100] (zWv Z zm1 P) := by
  unfold w_X12_ors_L5 at h
  refine z_enterN (by decide) (Nat.le_of_ble_eq_true rfl) (lc0 := [some (.ref 100)]) rfl ?_
  intro p e s m args below meth c ad0 C hr _
  have hn9 : True := trivial
  replace C : zC Z p s m args meth c cX12_ors 1 RX12 := C
  refine z_aload_n C dX12_ors_0 (i := 0) rfl rfl ?_
  refine t_callV C (rest := []) (c2 := 0) (s2 := 0) (kd := 100) (i := 0) [] dX12_ors_1 lk_X12_308 li_X12_ands le_X12_ands (c_X12_ands_L5 hfl h) rfl rfl (by decide) rfl ⟨_, rfl⟩ rfl ⟨Nat.le_of_ble_eq_true rfl, Nat.le_of_ble_eq_true rfl⟩ (Nat.le_of_ble_eq_true rfl) ⟨Nat.le_of_ble_eq_true rfl, Nat.le_of_ble_eq_true rfl, Nat.le_of_ble_eq_true rfl, Nat.le_of_ble_eq_true rfl⟩ (k_Wv fun s1 h => ?_)
  exact t_drop [true] rfl (j_X12_ors_L5_4 hfl C hr hn9  zfu s1 h)
def w_X12_one_L4_189 (P : zTs → Prop)  (st : zTs) (a1 : Int32) (a3 : Int32) (b0 : Int32) : Prop := w_X12_emits st b0 ((3 * a3) + a1) (fun (s194 : zTs) => (P s194))
set_option maxHeartbeats 4000000 in
set_option maxRecDepth 100000 in
theorem j_X12_one_L4_189 {P : zTs → Prop}  (hfl : l.stackTraces = false) (C : zC Z p s m args meth c cX12_one 4 RX12) (hr : meth.sig.returnType = none) (hn9 : True)  (st : zTs) (a1 : Int32) (a3 : Int32) (b0 : Int32) (h : w_X12_one_L4_189 P st a1 a3 b0) : zG Z ad0 h0 p l e ({ frames := 25, cells := 0, slots := 0, locals := 519 } : Room) s m args below meth c (MQ below (zQ Z ad0 h0 (zWv Z zm1 P)) args s 0 0 (zA Z)) 0 0 (zh Z zm1 st) 4 189 [none, some (.int (a1)), none, some (.int (a3))] [.int (b0), .ref 100] := by
  unfold w_X12_one_L4_189 at h
  refine z_iconst C dX12_one_189 (v := 3) (by decide) ?_
  refine z_iload_n C dX12_one_190 (i := 3) rfl rfl ?_
  refine z_imul C dX12_one_191 ?_
  refine z_iload_n C dX12_one_192 (i := 1) rfl rfl ?_
  refine z_iadd C dX12_one_193 ?_
  refine t_callV C (rest := []) (c2 := 0) (s2 := 0) (kd := 100) (i := 0) [.int (b0), .int ((3 * a3) + a1)] dX12_one_194 lk_X12_316 li_X12_emits le_X12_emits (c_X12_emits hfl h) rfl rfl (by decide) rfl ⟨_, rfl⟩ rfl ⟨Nat.le_of_ble_eq_true rfl, Nat.le_of_ble_eq_true rfl⟩ (Nat.le_of_ble_eq_true rfl) ⟨Nat.le_of_ble_eq_true rfl, Nat.le_of_ble_eq_true rfl, Nat.le_of_ble_eq_true rfl, Nat.le_of_ble_eq_true rfl⟩ (k_Wv fun s194 h => ?_)
  exact z_vret C dX12_one_197 hr ⟨_, rfl, rfl, h⟩ (Nat.le_of_ble_eq_true rfl) (Nat.le_of_ble_eq_true rfl)
def w_X12_one_L4_158 (P : zTs → Prop)  (st : zTs) (a1 : Int32) (a2 : Int32) : Prop := ∀ s165 : zTs, s165 = zuF st 100 0 8 ((zgF st 100 0 8) + 1) → (w_X12_number s165 0 9999 (fun (r173 : Int32) (s173 : zTs) => ((a2 = 60 → w_X12_one_L4_189 P s173 a1 r173 (4)) ∧ (¬ a2 = 60 → w_X12_one_L4_189 P s173 a1 r173 (5)))))
set_option maxHeartbeats 4000000 in
set_option maxRecDepth 100000 in
theorem j_X12_one_L4_158 {P : zTs → Prop}  (hfl : l.stackTraces = false) (C : zC Z p s m args meth c cX12_one 4 RX12) (hr : meth.sig.returnType = none) (hn9 : True)  (st : zTs) (a1 : Int32) (a2 : Int32) (h : w_X12_one_L4_158 P st a1 a2) : zG Z ad0 h0 p l e ({ frames := 25, cells := 0, slots := 0, locals := 519 } : Room) s m args below meth c (MQ below (zQ Z ad0 h0 (zWv Z zm1 P)) args s 0 0 (zA Z)) 0 0 (zh Z zm1 st) 4 158 [some (.ref 100), some (.int (a1)), some (.int (a2)), none] [] := by
  unfold w_X12_one_L4_158 at h
  refine z_aload_n C dX12_one_158 (i := 0) rfl rfl ?_
  refine z_dup C dX12_one_159 rfl ?_
  refine t_get C dX12_one_160 fl_X12_232 (k := 100) (i := 0) (by decide) rfl (fg_100_8 _ _ _) ?_
  refine z_iconst C dX12_one_163 (v := 1) (by decide) ?_
  refine z_iadd C dX12_one_164 ?_
  refine t_put C dX12_one_165 fq_X12_232 (Or.inl rfl) (k := 100) (i := 0) (by decide) rfl ⟨rfl, rfl⟩ (fp_100_8 _ _ _ _ _) ?_
  refine t_tops (fun s165 es165 => ?_)
  have h := h s165 es165
  refine z_aload_n C dX12_one_168 (i := 0) rfl rfl ?_
  refine z_iconst C dX12_one_169 (v := 0) (by decide) ?_
  refine z_sipush C dX12_one_170 (v := 9999) (by decide) ?_
  refine t_callV C (rest := []) (c2 := 0) (s2 := 0) (kd := 100) (i := 0) [.int (0), .int (9999)] dX12_one_173 lk_X12_342 li_X12_number le_X12_number (c_X12_number hfl h) rfl rfl (by decide) rfl ⟨_, rfl⟩ rfl ⟨Nat.le_of_ble_eq_true rfl, Nat.le_of_ble_eq_true rfl⟩ (Nat.le_of_ble_eq_true rfl) ⟨Nat.le_of_ble_eq_true rfl, Nat.le_of_ble_eq_true rfl, Nat.le_of_ble_eq_true rfl, Nat.le_of_ble_eq_true rfl⟩ (k_Wi fun r173 s173 h => ?_)
  refine z_istore_n C dX12_one_176 (i := 3) (lc' := [some (.ref 100), some (.int (a1)), some (.int (a2)), some (.int (r173))]) rfl (by decide) rfl ?_
  refine z_aload_n C dX12_one_177 (i := 0) rfl rfl ?_
  refine z_iload_n C dX12_one_178 (i := 2) rfl rfl ?_
  refine z_bipush C dX12_one_179 (v := 60) (by decide) ?_
  refine z_icmp_ne C dX12_one_181 (tgt := 188) (by decide) (fun c181 => ?_) (fun c181 => ?_)
  · have h := h.2 c181
    refine z_iconst C dX12_one_188 (v := 5) (by decide) ?_
    exact t_drop [false, true, false, true] rfl (j_X12_one_L4_189 hfl C hr hn9  s173 a1 r173 (5) h)
  · have h := h.1 c181
    refine z_iconst C dX12_one_184 (v := 4) (by decide) ?_
    refine z_goto C dX12_one_185 (tgt := 189) (by decide) ?_
    exact t_drop [false, true, false, true] rfl (j_X12_one_L4_189 hfl C hr hn9  s173 a1 r173 (4) h)
def w_X12_one_L4_148 (P : zTs → Prop)  (st : zTs) : Prop := w_X12_wrong st 1 (zgF st 100 0 8) (fun (s154 : zTs) => (P s154))
set_option maxHeartbeats 4000000 in
set_option maxRecDepth 100000 in
theorem j_X12_one_L4_148 {P : zTs → Prop}  (hfl : l.stackTraces = false) (C : zC Z p s m args meth c cX12_one 4 RX12) (hr : meth.sig.returnType = none) (hn9 : True)  (st : zTs) (h : w_X12_one_L4_148 P st) : zG Z ad0 h0 p l e ({ frames := 25, cells := 0, slots := 0, locals := 519 } : Room) s m args below meth c (MQ below (zQ Z ad0 h0 (zWv Z zm1 P)) args s 0 0 (zA Z)) 0 0 (zh Z zm1 st) 4 148 [some (.ref 100), none, none, none] [] := by
  unfold w_X12_one_L4_148 at h
  refine z_aload_n C dX12_one_148 (i := 0) rfl rfl ?_
  refine z_iconst C dX12_one_149 (v := 1) (by decide) ?_
  refine z_aload_n C dX12_one_150 (i := 0) rfl rfl ?_
  refine t_get C dX12_one_151 fl_X12_232 (k := 100) (i := 0) (by decide) rfl (fg_100_8 _ _ _) ?_
  refine t_callV C (rest := []) (c2 := 0) (s2 := 0) (kd := 100) (i := 0) [.int (1), .int (zgF st 100 0 8)] dX12_one_154 lk_X12_300 li_X12_wrong le_X12_wrong (c_X12_wrong hfl h) rfl rfl (by decide) rfl ⟨_, rfl⟩ rfl ⟨Nat.le_of_ble_eq_true rfl, Nat.le_of_ble_eq_true rfl⟩ (Nat.le_of_ble_eq_true rfl) ⟨Nat.le_of_ble_eq_true rfl, Nat.le_of_ble_eq_true rfl, Nat.le_of_ble_eq_true rfl, Nat.le_of_ble_eq_true rfl⟩ (k_Wv fun s154 h => ?_)
  exact z_vret C dX12_one_157 hr ⟨_, rfl, rfl, h⟩ (Nat.le_of_ble_eq_true rfl) (Nat.le_of_ble_eq_true rfl)
def w_X12_one_L4_119 (P : zTs → Prop)  (st : zTs) (a1 : Int32) : Prop := w_X12_blanks st (fun (s120 : zTs) => (w_X12_byteAt s120 (zgF s120 100 0 8) (fun (r128 : Int32) => ((a1 < 0 → w_X12_one_L4_148 P s120) ∧ (¬ a1 < 0 → (r128 = 60 → w_X12_one_L4_158 P s120 a1 r128) ∧ (¬ r128 = 60 → (r128 = 62 → w_X12_one_L4_158 P s120 a1 r128) ∧ (¬ r128 = 62 → w_X12_one_L4_148 P s120)))))))
set_option maxHeartbeats 4000000 in
set_option maxRecDepth 100000 in
theorem j_X12_one_L4_119 {P : zTs → Prop}  (hfl : l.stackTraces = false) (C : zC Z p s m args meth c cX12_one 4 RX12) (hr : meth.sig.returnType = none) (hn9 : True)  (st : zTs) (a1 : Int32) (h : w_X12_one_L4_119 P st a1) : zG Z ad0 h0 p l e ({ frames := 25, cells := 0, slots := 0, locals := 519 } : Room) s m args below meth c (MQ below (zQ Z ad0 h0 (zWv Z zm1 P)) args s 0 0 (zA Z)) 0 0 (zh Z zm1 st) 4 119 [some (.ref 100), some (.int (a1)), none, none] [] := by
  unfold w_X12_one_L4_119 at h
  refine z_aload_n C dX12_one_119 (i := 0) rfl rfl ?_
  refine t_callV C (rest := []) (c2 := 0) (s2 := 0) (kd := 100) (i := 0) [] dX12_one_120 lk_X12_242 li_X12_blanks le_X12_blanks (c_X12_blanks hfl h) rfl rfl (by decide) rfl ⟨_, rfl⟩ rfl ⟨Nat.le_of_ble_eq_true rfl, Nat.le_of_ble_eq_true rfl⟩ (Nat.le_of_ble_eq_true rfl) ⟨Nat.le_of_ble_eq_true rfl, Nat.le_of_ble_eq_true rfl, Nat.le_of_ble_eq_true rfl, Nat.le_of_ble_eq_true rfl⟩ (k_Wv fun s120 h => ?_)
  refine z_aload_n C dX12_one_123 (i := 0) rfl rfl ?_
  refine z_aload_n C dX12_one_124 (i := 0) rfl rfl ?_
  refine t_get C dX12_one_125 fl_X12_232 (k := 100) (i := 0) (by decide) rfl (fg_100_8 _ _ _) ?_
  refine t_callV C (rest := []) (c2 := 0) (s2 := 0) (kd := 100) (i := 0) [.int (zgF s120 100 0 8)] dX12_one_128 lk_X12_235 li_X12_byteAt le_X12_byteAt (c_X12_byteAt hfl h) rfl rfl (by decide) rfl ⟨_, rfl⟩ rfl ⟨Nat.le_of_ble_eq_true rfl, Nat.le_of_ble_eq_true rfl⟩ (Nat.le_of_ble_eq_true rfl) ⟨Nat.le_of_ble_eq_true rfl, Nat.le_of_ble_eq_true rfl, Nat.le_of_ble_eq_true rfl, Nat.le_of_ble_eq_true rfl⟩ (k_Ri fun r128 h => ?_)
  refine z_istore_n C dX12_one_131 (i := 2) (lc' := [some (.ref 100), some (.int (a1)), some (.int (r128)), none]) rfl (by decide) rfl ?_
  refine z_iload_n C dX12_one_132 (i := 1) rfl rfl ?_
  refine z_if_lt C dX12_one_133 (tgt := 148) (by decide) (fun c133 => ?_) (fun c133 => ?_)
  · have h := h.1 c133
    exact t_drop [true, false, false, false] rfl (j_X12_one_L4_148 hfl C hr hn9  s120 h)
  · have h := h.2 c133
    refine z_iload_n C dX12_one_136 (i := 2) rfl rfl ?_
    refine z_bipush C dX12_one_137 (v := 60) (by decide) ?_
    refine z_icmp_eq C dX12_one_139 (tgt := 158) (by decide) (fun c139 => ?_) (fun c139 => ?_)
    · have h := h.1 c139
      exact t_drop [true, true, true, false] rfl (j_X12_one_L4_158 hfl C hr hn9  s120 a1 r128 h)
    · have h := h.2 c139
      refine z_iload_n C dX12_one_142 (i := 2) rfl rfl ?_
      refine z_bipush C dX12_one_143 (v := 62) (by decide) ?_
      refine z_icmp_eq C dX12_one_145 (tgt := 158) (by decide) (fun c145 => ?_) (fun c145 => ?_)
      · have h := h.1 c145
        exact t_drop [true, true, true, false] rfl (j_X12_one_L4_158 hfl C hr hn9  s120 a1 r128 h)
      · have h := h.2 c145
        exact t_drop [true, false, false, false] rfl (j_X12_one_L4_148 hfl C hr hn9  s120 h)
def w_X12_one_L4_113 (P : zTs → Prop) (K91 : zTs → Int32 → Int32 → Prop) (st : zTs) (a1 : Int32) (a2 : Int32) : Prop := ∀ x113 : Int32, x113 = a2 + 1 → (K91 st a1 x113)
set_option maxHeartbeats 4000000 in
set_option maxRecDepth 100000 in
theorem j_X12_one_L4_113 {P : zTs → Prop} {K91 : zTs → Int32 → Int32 → Prop} (hfl : l.stackTraces = false) (C : zC Z p s m args meth c cX12_one 4 RX12) (hr : meth.sig.returnType = none) (hn9 : True) (hK91 : ∀ (st : zTs) (a1 : Int32) (a2 : Int32), K91 st a1 a2 → zG Z ad0 h0 p l e ({ frames := 25, cells := 0, slots := 0, locals := 519 } : Room) s m args below meth c (MQ below (zQ Z ad0 h0 (zWv Z zm1 P)) args s 0 0 (zA Z)) 0 0 (zh Z zm1 st) 4 91 [some (.ref 100), some (.int (a1)), some (.int (a2)), none] []) (st : zTs) (a1 : Int32) (a2 : Int32) (h : w_X12_one_L4_113 P K91 st a1 a2) : zG Z ad0 h0 p l e ({ frames := 25, cells := 0, slots := 0, locals := 519 } : Room) s m args below meth c (MQ below (zQ Z ad0 h0 (zWv Z zm1 P)) args s 0 0 (zA Z)) 0 0 (zh Z zm1 st) 4 113 [some (.ref 100), some (.int (a1)), some (.int (a2)), none] [] := by
  unfold w_X12_one_L4_113 at h
  obtain ⟨x113, ex113⟩ : ∃ z : Int32, z = a2 + 1 := ⟨_, rfl⟩
  have h := h x113 ex113
  refine z_iinc C dX12_one_113 (v := x113) (lc' := [some (.ref 100), some (.int (a1)), some (.int (x113)), none]) rfl (by decide) (by rw [ex113]; rfl) rfl ?_
  refine z_goto C dX12_one_116 (tgt := 91) (by decide) ?_
  exact t_drop [true, true, true, false] rfl (hK91 st a1 x113 h)
def w_X12_one_L4_91 (P : zTs → Prop)  : Nat → zTs → Int32 → Int32 → Prop
  | 0, _, _, _ => False
  | n9 + 1, st, a1, a2 => (3 ≤ a2 → w_X12_one_L4_119 P st a1) ∧ (¬ 3 ≤ a2 → (0 ≤ a1 → w_X12_one_L4_119 P st a1) ∧ (¬ 0 ≤ a1 → w_X12_measureOf st a2 (fun (r102 : Nat) => (w_X12_eat st r102 (fun (r105 : Int32) (s105 : zTs) => ((r105 = 0 → w_X12_one_L4_113 P (w_X12_one_L4_91 P n9) s105 a1 a2) ∧ (¬ r105 = 0 → w_X12_one_L4_113 P (w_X12_one_L4_91 P n9) s105 a2 a2)))))))
set_option maxHeartbeats 4000000 in
set_option maxRecDepth 100000 in
theorem j_X12_one_L4_91 {P : zTs → Prop}  (hfl : l.stackTraces = false) (C : zC Z p s m args meth c cX12_one 4 RX12) (hr : meth.sig.returnType = none) (hn9 : True)  : ∀ (n9 : Nat) (st : zTs) (a1 : Int32) (a2 : Int32), w_X12_one_L4_91 P n9 st a1 a2 → zG Z ad0 h0 p l e ({ frames := 25, cells := 0, slots := 0, locals := 519 } : Room) s m args below meth c (MQ below (zQ Z ad0 h0 (zWv Z zm1 P)) args s 0 0 (zA Z)) 0 0 (zh Z zm1 st) 4 91 [some (.ref 100), some (.int (a1)), some (.int (a2)), none] [] := by
  intro n9
  induction n9 with
  | zero => intro st a1 a2 h; exact h.elim
  | succ n9 hK91 =>
    intro st a1 a2 h
    rw [w_X12_one_L4_91] at h
    refine z_iload_n C dX12_one_91 (i := 2) rfl rfl ?_
    refine z_iconst C dX12_one_92 (v := 3) (by decide) ?_
    refine z_icmp_ge C dX12_one_93 (tgt := 119) (by decide) (fun c93 => ?_) (fun c93 => ?_)
    · have h := h.1 c93
      exact t_drop [true, true, false, false] rfl (j_X12_one_L4_119 hfl C hr hn9  st a1 h)
    · have h := h.2 c93
      refine z_iload_n C dX12_one_96 (i := 1) rfl rfl ?_
      refine z_if_ge C dX12_one_97 (tgt := 119) (by decide) (fun c97 => ?_) (fun c97 => ?_)
      · have h := h.1 c97
        exact t_drop [true, true, false, false] rfl (j_X12_one_L4_119 hfl C hr hn9  st a1 h)
      · have h := h.2 c97
        refine z_aload_n C dX12_one_100 (i := 0) rfl rfl ?_
        refine z_iload_n C dX12_one_101 (i := 2) rfl rfl ?_
        refine t_callS C (rest := [.ref 100]) (c2 := 0) (s2 := 0) [.int (a2)] dX12_one_102 lk_X12_339 ls_X12_measureOf (c_X12_measureOf hfl h) rfl rfl ⟨Nat.le_of_ble_eq_true rfl, Nat.le_of_ble_eq_true rfl⟩ (Nat.le_of_ble_eq_true rfl) ⟨Nat.le_of_ble_eq_true rfl, Nat.le_of_ble_eq_true rfl, Nat.le_of_ble_eq_true rfl, Nat.le_of_ble_eq_true rfl⟩ (k_Rr fun r102 h => ?_)
        refine t_callV C (rest := []) (c2 := 0) (s2 := 0) (kd := 100) (i := 0) [.ref (200 + 256 * r102)] dX12_one_105 lk_X12_313 li_X12_eat le_X12_eat (c_X12_eat hfl h) rfl rfl (by decide) rfl ⟨_, rfl⟩ rfl ⟨Nat.le_of_ble_eq_true rfl, Nat.le_of_ble_eq_true rfl⟩ (Nat.le_of_ble_eq_true rfl) ⟨Nat.le_of_ble_eq_true rfl, Nat.le_of_ble_eq_true rfl, Nat.le_of_ble_eq_true rfl, Nat.le_of_ble_eq_true rfl⟩ (k_Wi fun r105 s105 h => ?_)
        refine z_if_eq C dX12_one_108 (tgt := 113) (by decide) (fun c108 => ?_) (fun c108 => ?_)
        · have h := h.1 c108
          exact t_drop [true, true, true, false] rfl (j_X12_one_L4_113 hfl C hr hn9 hK91 s105 a1 a2 h)
        · have h := h.2 c108
          refine z_iload_n C dX12_one_111 (i := 2) rfl rfl ?_
          refine z_istore_n C dX12_one_112 (i := 1) (lc' := [some (.ref 100), some (.int (a2)), some (.int (a2)), none]) rfl (by decide) rfl ?_
          exact t_drop [true, true, true, false] rfl (j_X12_one_L4_113 hfl C hr hn9 hK91 s105 a2 a2 h)
def w_X12_one_L4 (st : zTs)  (P : zTs → Prop) : Prop := ((zgF st 100 0 9) ≤ 0 → w_X12_blanks st (fun (s9 : zTs) => (w_X12_isWord s9 20 (fun (r16 : Int32) (s16 : zTs) => ((r16 = 0 → w_X12_byteAt s16 (zgF s16 100 0 8) (fun (r53 : Int32) => ((r53 = 40 → w_X12_opens s16 1 (fun (s63 : zTs) => (w_X12_ors_L5 s63 (fun (s67 : zTs) => (w_X12_sign s67 41 (fun (s73 : zTs) => (∀ s83 : zTs, s83 = zuF s73 100 0 12 ((zgF s73 100 0 12) - 1) → (P s83)))))))) ∧ (¬ r53 = 40 → w_X12_one_L4_91 P zfu s16 (-1) (0))))) ∧ (¬ r16 = 0 → w_X12_opens s16 3 (fun (s24 : zTs) => (w_X12_one_L5 s24 (fun (s28 : zTs) => (∀ s38 : zTs, s38 = zuF s28 100 0 12 ((zgF s28 100 0 12) - 1) → (w_X12_emits s38 1 0 (fun (s44 : zTs) => (P s44))))))))))))) ∧ (¬ (zgF st 100 0 9) ≤ 0 → P st)
set_option maxHeartbeats 4000000 in
set_option maxRecDepth 100000 in
theorem c_X12_one_L4 {Z : zZ} {l : Launch} (hfl : l.stackTraces = false) {st : zTs}  {P : zTs → Prop} (h : w_X12_one_L4 st  P) : zN Z l yX12_one cX12_one 4 none ({ frames := 25, cells := 0, slots := 0, locals := 519 } : Room) (zh Z zm1 st) [.ref 100] (zWv Z zm1 P) := by
  unfold w_X12_one_L4 at h
  refine z_enterN (by decide) (Nat.le_of_ble_eq_true rfl) (lc0 := [some (.ref 100), none, none, none]) rfl ?_
  intro p e s m args below meth c ad0 C hr _
  have hn9 : True := trivial
  replace C : zC Z p s m args meth c cX12_one 4 RX12 := C
  refine z_aload_n C dX12_one_0 (i := 0) rfl rfl ?_
  refine t_get C dX12_one_1 fl_X12_239 (k := 100) (i := 0) (by decide) rfl (fg_100_9 _ _ _) ?_
  refine z_if_le C dX12_one_4 (tgt := 8) (by decide) (fun c4 => ?_) (fun c4 => ?_)
  · have h := h.1 c4
    refine z_aload_n C dX12_one_8 (i := 0) rfl rfl ?_
    refine t_callV C (rest := []) (c2 := 0) (s2 := 0) (kd := 100) (i := 0) [] dX12_one_9 lk_X12_242 li_X12_blanks le_X12_blanks (c_X12_blanks hfl h) rfl rfl (by decide) rfl ⟨_, rfl⟩ rfl ⟨Nat.le_of_ble_eq_true rfl, Nat.le_of_ble_eq_true rfl⟩ (Nat.le_of_ble_eq_true rfl) ⟨Nat.le_of_ble_eq_true rfl, Nat.le_of_ble_eq_true rfl, Nat.le_of_ble_eq_true rfl, Nat.le_of_ble_eq_true rfl⟩ (k_Wv fun s9 h => ?_)
    refine z_aload_n C dX12_one_12 (i := 0) rfl rfl ?_
    refine z_ldc_wS C dX12_one_13 (i := 20) (text := "not") (by decide) ?_
    refine t_callV C (rest := []) (c2 := 0) (s2 := 0) (kd := 100) (i := 0) [.ref (200 + 256 * 20)] dX12_one_16 lk_X12_255 li_X12_isWord le_X12_isWord (c_X12_isWord hfl h) rfl rfl (by decide) rfl ⟨_, rfl⟩ rfl ⟨Nat.le_of_ble_eq_true rfl, Nat.le_of_ble_eq_true rfl⟩ (Nat.le_of_ble_eq_true rfl) ⟨Nat.le_of_ble_eq_true rfl, Nat.le_of_ble_eq_true rfl, Nat.le_of_ble_eq_true rfl, Nat.le_of_ble_eq_true rfl⟩ (k_Wi fun r16 s16 h => ?_)
    refine z_if_eq C dX12_one_19 (tgt := 48) (by decide) (fun c19 => ?_) (fun c19 => ?_)
    · have h := h.1 c19
      refine z_aload_n C dX12_one_48 (i := 0) rfl rfl ?_
      refine z_aload_n C dX12_one_49 (i := 0) rfl rfl ?_
      refine t_get C dX12_one_50 fl_X12_232 (k := 100) (i := 0) (by decide) rfl (fg_100_8 _ _ _) ?_
      refine t_callV C (rest := []) (c2 := 0) (s2 := 0) (kd := 100) (i := 0) [.int (zgF s16 100 0 8)] dX12_one_53 lk_X12_235 li_X12_byteAt le_X12_byteAt (c_X12_byteAt hfl h) rfl rfl (by decide) rfl ⟨_, rfl⟩ rfl ⟨Nat.le_of_ble_eq_true rfl, Nat.le_of_ble_eq_true rfl⟩ (Nat.le_of_ble_eq_true rfl) ⟨Nat.le_of_ble_eq_true rfl, Nat.le_of_ble_eq_true rfl, Nat.le_of_ble_eq_true rfl, Nat.le_of_ble_eq_true rfl⟩ (k_Ri fun r53 h => ?_)
      refine z_bipush C dX12_one_56 (v := 40) (by decide) ?_
      refine z_icmp_ne C dX12_one_58 (tgt := 87) (by decide) (fun c58 => ?_) (fun c58 => ?_)
      · have h := h.2 c58
        refine z_iconst C dX12_one_87 (v := (-1)) (by decide) ?_
        refine z_istore_n C dX12_one_88 (i := 1) (lc' := [some (.ref 100), some (.int (-1)), none, none]) rfl (by decide) rfl ?_
        refine z_iconst C dX12_one_89 (v := 0) (by decide) ?_
        refine z_istore_n C dX12_one_90 (i := 2) (lc' := [some (.ref 100), some (.int (-1)), some (.int (0)), none]) rfl (by decide) rfl ?_
        exact t_drop [true, true, true, false] rfl (j_X12_one_L4_91 hfl C hr hn9  zfu s16 (-1) (0) h)
      · have h := h.1 c58
        refine z_aload_n C dX12_one_61 (i := 0) rfl rfl ?_
        refine z_iconst C dX12_one_62 (v := 1) (by decide) ?_
        refine t_callV C (rest := []) (c2 := 0) (s2 := 0) (kd := 100) (i := 0) [.int (1)] dX12_one_63 lk_X12_329 li_X12_opens le_X12_opens (c_X12_opens hfl h) rfl rfl (by decide) rfl ⟨_, rfl⟩ rfl ⟨Nat.le_of_ble_eq_true rfl, Nat.le_of_ble_eq_true rfl⟩ (Nat.le_of_ble_eq_true rfl) ⟨Nat.le_of_ble_eq_true rfl, Nat.le_of_ble_eq_true rfl, Nat.le_of_ble_eq_true rfl, Nat.le_of_ble_eq_true rfl⟩ (k_Wv fun s63 h => ?_)
        refine z_aload_n C dX12_one_66 (i := 0) rfl rfl ?_
        refine t_callV C (rest := []) (c2 := 0) (s2 := 0) (kd := 100) (i := 0) [] dX12_one_67 lk_X12_333 li_X12_ors le_X12_ors (c_X12_ors_L5 hfl h) rfl rfl (by decide) rfl ⟨_, rfl⟩ rfl ⟨Nat.le_of_ble_eq_true rfl, Nat.le_of_ble_eq_true rfl⟩ (Nat.le_of_ble_eq_true rfl) ⟨Nat.le_of_ble_eq_true rfl, Nat.le_of_ble_eq_true rfl, Nat.le_of_ble_eq_true rfl, Nat.le_of_ble_eq_true rfl⟩ (k_Wv fun s67 h => ?_)
        refine z_aload_n C dX12_one_70 (i := 0) rfl rfl ?_
        refine z_bipush C dX12_one_71 (v := 41) (by decide) ?_
        refine t_callV C (rest := []) (c2 := 0) (s2 := 0) (kd := 100) (i := 0) [.int (41)] dX12_one_73 lk_X12_336 li_X12_sign le_X12_sign (c_X12_sign hfl h) rfl rfl (by decide) rfl ⟨_, rfl⟩ rfl ⟨Nat.le_of_ble_eq_true rfl, Nat.le_of_ble_eq_true rfl⟩ (Nat.le_of_ble_eq_true rfl) ⟨Nat.le_of_ble_eq_true rfl, Nat.le_of_ble_eq_true rfl, Nat.le_of_ble_eq_true rfl, Nat.le_of_ble_eq_true rfl⟩ (k_Wv fun s73 h => ?_)
        refine z_aload_n C dX12_one_76 (i := 0) rfl rfl ?_
        refine z_dup C dX12_one_77 rfl ?_
        refine t_get C dX12_one_78 fl_X12_324 (k := 100) (i := 0) (by decide) rfl (fg_100_12 _ _ _) ?_
        refine z_iconst C dX12_one_81 (v := 1) (by decide) ?_
        refine z_isub C dX12_one_82 ?_
        refine t_put C dX12_one_83 fq_X12_324 (Or.inl rfl) (k := 100) (i := 0) (by decide) rfl ⟨rfl, rfl⟩ (fp_100_12 _ _ _ _ _) ?_
        refine t_tops (fun s83 es83 => ?_)
        have h := h s83 es83
        exact z_vret C dX12_one_86 hr ⟨_, rfl, rfl, h⟩ (Nat.le_of_ble_eq_true rfl) (Nat.le_of_ble_eq_true rfl)
    · have h := h.2 c19
      refine z_aload_n C dX12_one_22 (i := 0) rfl rfl ?_
      refine z_iconst C dX12_one_23 (v := 3) (by decide) ?_
      refine t_callV C (rest := []) (c2 := 0) (s2 := 0) (kd := 100) (i := 0) [.int (3)] dX12_one_24 lk_X12_329 li_X12_opens le_X12_opens (c_X12_opens hfl h) rfl rfl (by decide) rfl ⟨_, rfl⟩ rfl ⟨Nat.le_of_ble_eq_true rfl, Nat.le_of_ble_eq_true rfl⟩ (Nat.le_of_ble_eq_true rfl) ⟨Nat.le_of_ble_eq_true rfl, Nat.le_of_ble_eq_true rfl, Nat.le_of_ble_eq_true rfl, Nat.le_of_ble_eq_true rfl⟩ (k_Wv fun s24 h => ?_)
      refine z_aload_n C dX12_one_27 (i := 0) rfl rfl ?_
      refine t_callV C (rest := []) (c2 := 0) (s2 := 0) (kd := 100) (i := 0) [] dX12_one_28 lk_X12_319 li_X12_one le_X12_one (c_X12_one_L5 hfl h) rfl rfl (by decide) rfl ⟨_, rfl⟩ rfl ⟨Nat.le_of_ble_eq_true rfl, Nat.le_of_ble_eq_true rfl⟩ (Nat.le_of_ble_eq_true rfl) ⟨Nat.le_of_ble_eq_true rfl, Nat.le_of_ble_eq_true rfl, Nat.le_of_ble_eq_true rfl, Nat.le_of_ble_eq_true rfl⟩ (k_Wv fun s28 h => ?_)
      refine z_aload_n C dX12_one_31 (i := 0) rfl rfl ?_
      refine z_dup C dX12_one_32 rfl ?_
      refine t_get C dX12_one_33 fl_X12_324 (k := 100) (i := 0) (by decide) rfl (fg_100_12 _ _ _) ?_
      refine z_iconst C dX12_one_36 (v := 1) (by decide) ?_
      refine z_isub C dX12_one_37 ?_
      refine t_put C dX12_one_38 fq_X12_324 (Or.inl rfl) (k := 100) (i := 0) (by decide) rfl ⟨rfl, rfl⟩ (fp_100_12 _ _ _ _ _) ?_
      refine t_tops (fun s38 es38 => ?_)
      have h := h s38 es38
      refine z_aload_n C dX12_one_41 (i := 0) rfl rfl ?_
      refine z_iconst C dX12_one_42 (v := 1) (by decide) ?_
      refine z_iconst C dX12_one_43 (v := 0) (by decide) ?_
      refine t_callV C (rest := []) (c2 := 0) (s2 := 0) (kd := 100) (i := 0) [.int (1), .int (0)] dX12_one_44 lk_X12_316 li_X12_emits le_X12_emits (c_X12_emits hfl h) rfl rfl (by decide) rfl ⟨_, rfl⟩ rfl ⟨Nat.le_of_ble_eq_true rfl, Nat.le_of_ble_eq_true rfl⟩ (Nat.le_of_ble_eq_true rfl) ⟨Nat.le_of_ble_eq_true rfl, Nat.le_of_ble_eq_true rfl, Nat.le_of_ble_eq_true rfl, Nat.le_of_ble_eq_true rfl⟩ (k_Wv fun s44 h => ?_)
      exact z_vret C dX12_one_47 hr ⟨_, rfl, rfl, h⟩ (Nat.le_of_ble_eq_true rfl) (Nat.le_of_ble_eq_true rfl)
  · have h := h.2 c4
    exact z_vret C dX12_one_7 hr ⟨_, rfl, rfl, h⟩ (Nat.le_of_ble_eq_true rfl) (Nat.le_of_ble_eq_true rfl)
def w_X12_ands_L4_4 (P : zTs → Prop)  : Nat → zTs → Prop
  | 0, _ => False
  | n9 + 1, st => w_X12_eat st 19 (fun (r8 : Int32) (s8 : zTs) => ((r8 = 0 → P s8) ∧ (¬ r8 = 0 → w_X12_one_L4 s8 (fun (s15 : zTs) => (w_X12_emits s15 2 0 (fun (s21 : zTs) => ((w_X12_ands_L4_4 P n9) s21)))))))
set_option maxHeartbeats 4000000 in
set_option maxRecDepth 100000 in
theorem j_X12_ands_L4_4 {P : zTs → Prop}  (hfl : l.stackTraces = false) (C : zC Z p s m args meth c cX12_ands 1 RX12) (hr : meth.sig.returnType = none) (hn9 : True)  : ∀ (n9 : Nat) (st : zTs), w_X12_ands_L4_4 P n9 st → zG Z ad0 h0 p l e ({ frames := 26, cells := 0, slots := 0, locals := 542 } : Room) s m args below meth c (MQ below (zQ Z ad0 h0 (zWv Z zm1 P)) args s 0 0 (zA Z)) 0 0 (zh Z zm1 st) 1 4 [some (.ref 100)] [] := by
  intro n9
  induction n9 with
  | zero => intro st h; exact h.elim
  | succ n9 hK4 =>
    intro st h
    rw [w_X12_ands_L4_4] at h
    refine z_aload_n C dX12_ands_4 (i := 0) rfl rfl ?_
    refine z_ldc_wS C dX12_ands_5 (i := 19) (text := "and") (by decide) ?_
    refine t_callV C (rest := []) (c2 := 0) (s2 := 0) (kd := 100) (i := 0) [.ref (200 + 256 * 19)] dX12_ands_8 lk_X12_313 li_X12_eat le_X12_eat (c_X12_eat hfl h) rfl rfl (by decide) rfl ⟨_, rfl⟩ rfl ⟨Nat.le_of_ble_eq_true rfl, Nat.le_of_ble_eq_true rfl⟩ (Nat.le_of_ble_eq_true rfl) ⟨Nat.le_of_ble_eq_true rfl, Nat.le_of_ble_eq_true rfl, Nat.le_of_ble_eq_true rfl, Nat.le_of_ble_eq_true rfl⟩ (k_Wi fun r8 s8 h => ?_)
    refine z_if_eq C dX12_ands_11 (tgt := 27) (by decide) (fun c11 => ?_) (fun c11 => ?_)
    · have h := h.1 c11
      exact z_vret C dX12_ands_27 hr ⟨_, rfl, rfl, h⟩ (Nat.le_of_ble_eq_true rfl) (Nat.le_of_ble_eq_true rfl)
    · have h := h.2 c11
      refine z_aload_n C dX12_ands_14 (i := 0) rfl rfl ?_
      refine t_callV C (rest := []) (c2 := 0) (s2 := 0) (kd := 100) (i := 0) [] dX12_ands_15 lk_X12_319 li_X12_one le_X12_one (c_X12_one_L4 hfl h) rfl rfl (by decide) rfl ⟨_, rfl⟩ rfl ⟨Nat.le_of_ble_eq_true rfl, Nat.le_of_ble_eq_true rfl⟩ (Nat.le_of_ble_eq_true rfl) ⟨Nat.le_of_ble_eq_true rfl, Nat.le_of_ble_eq_true rfl, Nat.le_of_ble_eq_true rfl, Nat.le_of_ble_eq_true rfl⟩ (k_Wv fun s15 h => ?_)
      refine z_aload_n C dX12_ands_18 (i := 0) rfl rfl ?_
      refine z_iconst C dX12_ands_19 (v := 2) (by decide) ?_
      refine z_iconst C dX12_ands_20 (v := 0) (by decide) ?_
      refine t_callV C (rest := []) (c2 := 0) (s2 := 0) (kd := 100) (i := 0) [.int (2), .int (0)] dX12_ands_21 lk_X12_316 li_X12_emits le_X12_emits (c_X12_emits hfl h) rfl rfl (by decide) rfl ⟨_, rfl⟩ rfl ⟨Nat.le_of_ble_eq_true rfl, Nat.le_of_ble_eq_true rfl⟩ (Nat.le_of_ble_eq_true rfl) ⟨Nat.le_of_ble_eq_true rfl, Nat.le_of_ble_eq_true rfl, Nat.le_of_ble_eq_true rfl, Nat.le_of_ble_eq_true rfl⟩ (k_Wv fun s21 h => ?_)
      refine z_goto C dX12_ands_24 (tgt := 4) (by decide) ?_
      exact t_drop [true] rfl (hK4 s21 h)
def w_X12_ands_L4 (st : zTs)  (P : zTs → Prop) : Prop := w_X12_one_L4 st (fun (s1 : zTs) => (w_X12_ands_L4_4 P zfu s1))
set_option maxHeartbeats 4000000 in
set_option maxRecDepth 100000 in
theorem c_X12_ands_L4 {Z : zZ} {l : Launch} (hfl : l.stackTraces = false) {st : zTs}  {P : zTs → Prop} (h : w_X12_ands_L4 st  P) : zN Z l yX12_ands cX12_ands 1 none ({ frames := 26, cells := 0, slots := 0, locals := 542 } : Room) (zh Z zm1 st) [.ref 100] (zWv Z zm1 P) := by
  unfold w_X12_ands_L4 at h
  refine z_enterN (by decide) (Nat.le_of_ble_eq_true rfl) (lc0 := [some (.ref 100)]) rfl ?_
  intro p e s m args below meth c ad0 C hr _
  have hn9 : True := trivial
  replace C : zC Z p s m args meth c cX12_ands 1 RX12 := C
  refine z_aload_n C dX12_ands_0 (i := 0) rfl rfl ?_
  refine t_callV C (rest := []) (c2 := 0) (s2 := 0) (kd := 100) (i := 0) [] dX12_ands_1 lk_X12_319 li_X12_one le_X12_one (c_X12_one_L4 hfl h) rfl rfl (by decide) rfl ⟨_, rfl⟩ rfl ⟨Nat.le_of_ble_eq_true rfl, Nat.le_of_ble_eq_true rfl⟩ (Nat.le_of_ble_eq_true rfl) ⟨Nat.le_of_ble_eq_true rfl, Nat.le_of_ble_eq_true rfl, Nat.le_of_ble_eq_true rfl, Nat.le_of_ble_eq_true rfl⟩ (k_Wv fun s1 h => ?_)
  exact t_drop [true] rfl (j_X12_ands_L4_4 hfl C hr hn9  zfu s1 h)
def w_X12_ors_L4_4 (P : zTs → Prop)  : Nat → zTs → Prop
  | 0, _ => False
  | n9 + 1, st => w_X12_eat st 18 (fun (r8 : Int32) (s8 : zTs) => ((r8 = 0 → P s8) ∧ (¬ r8 = 0 → w_X12_ands_L4 s8 (fun (s15 : zTs) => (w_X12_emits s15 3 0 (fun (s21 : zTs) => ((w_X12_ors_L4_4 P n9) s21)))))))
set_option maxHeartbeats 4000000 in
set_option maxRecDepth 100000 in
theorem j_X12_ors_L4_4 {P : zTs → Prop}  (hfl : l.stackTraces = false) (C : zC Z p s m args meth c cX12_ors 1 RX12) (hr : meth.sig.returnType = none) (hn9 : True)  : ∀ (n9 : Nat) (st : zTs), w_X12_ors_L4_4 P n9 st → zG Z ad0 h0 p l e ({ frames := 27, cells := 0, slots := 0, locals := 562 } : Room) s m args below meth c (MQ below (zQ Z ad0 h0 (zWv Z zm1 P)) args s 0 0 (zA Z)) 0 0 (zh Z zm1 st) 1 4 [some (.ref 100)] [] := by
  intro n9
  induction n9 with
  | zero => intro st h; exact h.elim
  | succ n9 hK4 =>
    intro st h
    rw [w_X12_ors_L4_4] at h
    refine z_aload_n C dX12_ors_4 (i := 0) rfl rfl ?_
    refine z_ldc_wS C dX12_ors_5 (i := 18) (text := "or") (by decide) ?_
    refine t_callV C (rest := []) (c2 := 0) (s2 := 0) (kd := 100) (i := 0) [.ref (200 + 256 * 18)] dX12_ors_8 lk_X12_313 li_X12_eat le_X12_eat (c_X12_eat hfl h) rfl rfl (by decide) rfl ⟨_, rfl⟩ rfl ⟨Nat.le_of_ble_eq_true rfl, Nat.le_of_ble_eq_true rfl⟩ (Nat.le_of_ble_eq_true rfl) ⟨Nat.le_of_ble_eq_true rfl, Nat.le_of_ble_eq_true rfl, Nat.le_of_ble_eq_true rfl, Nat.le_of_ble_eq_true rfl⟩ (k_Wi fun r8 s8 h => ?_)
    refine z_if_eq C dX12_ors_11 (tgt := 27) (by decide) (fun c11 => ?_) (fun c11 => ?_)
    · have h := h.1 c11
      exact z_vret C dX12_ors_27 hr ⟨_, rfl, rfl, h⟩ (Nat.le_of_ble_eq_true rfl) (Nat.le_of_ble_eq_true rfl)
    · have h := h.2 c11
      refine z_aload_n C dX12_ors_14 (i := 0) rfl rfl ?_
      refine t_callV C (rest := []) (c2 := 0) (s2 := 0) (kd := 100) (i := 0) [] dX12_ors_15 lk_X12_308 li_X12_ands le_X12_ands (c_X12_ands_L4 hfl h) rfl rfl (by decide) rfl ⟨_, rfl⟩ rfl ⟨Nat.le_of_ble_eq_true rfl, Nat.le_of_ble_eq_true rfl⟩ (Nat.le_of_ble_eq_true rfl) ⟨Nat.le_of_ble_eq_true rfl, Nat.le_of_ble_eq_true rfl, Nat.le_of_ble_eq_true rfl, Nat.le_of_ble_eq_true rfl⟩ (k_Wv fun s15 h => ?_)
      refine z_aload_n C dX12_ors_18 (i := 0) rfl rfl ?_
      refine z_iconst C dX12_ors_19 (v := 3) (by decide) ?_
      refine z_iconst C dX12_ors_20 (v := 0) (by decide) ?_
      refine t_callV C (rest := []) (c2 := 0) (s2 := 0) (kd := 100) (i := 0) [.int (3), .int (0)] dX12_ors_21 lk_X12_316 li_X12_emits le_X12_emits (c_X12_emits hfl h) rfl rfl (by decide) rfl ⟨_, rfl⟩ rfl ⟨Nat.le_of_ble_eq_true rfl, Nat.le_of_ble_eq_true rfl⟩ (Nat.le_of_ble_eq_true rfl) ⟨Nat.le_of_ble_eq_true rfl, Nat.le_of_ble_eq_true rfl, Nat.le_of_ble_eq_true rfl, Nat.le_of_ble_eq_true rfl⟩ (k_Wv fun s21 h => ?_)
      refine z_goto C dX12_ors_24 (tgt := 4) (by decide) ?_
      exact t_drop [true] rfl (hK4 s21 h)
def w_X12_ors_L4 (st : zTs)  (P : zTs → Prop) : Prop := w_X12_ands_L4 st (fun (s1 : zTs) => (w_X12_ors_L4_4 P zfu s1))
set_option maxHeartbeats 4000000 in
set_option maxRecDepth 100000 in
theorem c_X12_ors_L4 {Z : zZ} {l : Launch} (hfl : l.stackTraces = false) {st : zTs}  {P : zTs → Prop} (h : w_X12_ors_L4 st  P) : zN Z l yX12_ors cX12_ors 1 none ({ frames := 27, cells := 0, slots := 0, locals := 562 } : Room) (zh Z zm1 st) [.ref 100] (zWv Z zm1 P) := by
  unfold w_X12_ors_L4 at h
  refine z_enterN (by decide) (Nat.le_of_ble_eq_true rfl) (lc0 := [some (.ref 100)]) rfl ?_
  intro p e s m args below meth c ad0 C hr _
  have hn9 : True := trivial
  replace C : zC Z p s m args meth c cX12_ors 1 RX12 := C
  refine z_aload_n C dX12_ors_0 (i := 0) rfl rfl ?_
  refine t_callV C (rest := []) (c2 := 0) (s2 := 0) (kd := 100) (i := 0) [] dX12_ors_1 lk_X12_308 li_X12_ands le_X12_ands (c_X12_ands_L4 hfl h) rfl rfl (by decide) rfl ⟨_, rfl⟩ rfl ⟨Nat.le_of_ble_eq_true rfl, Nat.le_of_ble_eq_true rfl⟩ (Nat.le_of_ble_eq_true rfl) ⟨Nat.le_of_ble_eq_true rfl, Nat.le_of_ble_eq_true rfl, Nat.le_of_ble_eq_true rfl, Nat.le_of_ble_eq_true rfl⟩ (k_Wv fun s1 h => ?_)
  exact t_drop [true] rfl (j_X12_ors_L4_4 hfl C hr hn9  zfu s1 h)
def w_X12_one_L3_189 (P : zTs → Prop)  (st : zTs) (a1 : Int32) (a3 : Int32) (b0 : Int32) : Prop := w_X12_emits st b0 ((3 * a3) + a1) (fun (s194 : zTs) => (P s194))
set_option maxHeartbeats 4000000 in
set_option maxRecDepth 100000 in
theorem j_X12_one_L3_189 {P : zTs → Prop}  (hfl : l.stackTraces = false) (C : zC Z p s m args meth c cX12_one 4 RX12) (hr : meth.sig.returnType = none) (hn9 : True)  (st : zTs) (a1 : Int32) (a3 : Int32) (b0 : Int32) (h : w_X12_one_L3_189 P st a1 a3 b0) : zG Z ad0 h0 p l e ({ frames := 28, cells := 0, slots := 0, locals := 582 } : Room) s m args below meth c (MQ below (zQ Z ad0 h0 (zWv Z zm1 P)) args s 0 0 (zA Z)) 0 0 (zh Z zm1 st) 4 189 [none, some (.int (a1)), none, some (.int (a3))] [.int (b0), .ref 100] := by
  unfold w_X12_one_L3_189 at h
  refine z_iconst C dX12_one_189 (v := 3) (by decide) ?_
  refine z_iload_n C dX12_one_190 (i := 3) rfl rfl ?_
  refine z_imul C dX12_one_191 ?_
  refine z_iload_n C dX12_one_192 (i := 1) rfl rfl ?_
  refine z_iadd C dX12_one_193 ?_
  refine t_callV C (rest := []) (c2 := 0) (s2 := 0) (kd := 100) (i := 0) [.int (b0), .int ((3 * a3) + a1)] dX12_one_194 lk_X12_316 li_X12_emits le_X12_emits (c_X12_emits hfl h) rfl rfl (by decide) rfl ⟨_, rfl⟩ rfl ⟨Nat.le_of_ble_eq_true rfl, Nat.le_of_ble_eq_true rfl⟩ (Nat.le_of_ble_eq_true rfl) ⟨Nat.le_of_ble_eq_true rfl, Nat.le_of_ble_eq_true rfl, Nat.le_of_ble_eq_true rfl, Nat.le_of_ble_eq_true rfl⟩ (k_Wv fun s194 h => ?_)
  exact z_vret C dX12_one_197 hr ⟨_, rfl, rfl, h⟩ (Nat.le_of_ble_eq_true rfl) (Nat.le_of_ble_eq_true rfl)
def w_X12_one_L3_158 (P : zTs → Prop)  (st : zTs) (a1 : Int32) (a2 : Int32) : Prop := ∀ s165 : zTs, s165 = zuF st 100 0 8 ((zgF st 100 0 8) + 1) → (w_X12_number s165 0 9999 (fun (r173 : Int32) (s173 : zTs) => ((a2 = 60 → w_X12_one_L3_189 P s173 a1 r173 (4)) ∧ (¬ a2 = 60 → w_X12_one_L3_189 P s173 a1 r173 (5)))))
set_option maxHeartbeats 4000000 in
set_option maxRecDepth 100000 in
theorem j_X12_one_L3_158 {P : zTs → Prop}  (hfl : l.stackTraces = false) (C : zC Z p s m args meth c cX12_one 4 RX12) (hr : meth.sig.returnType = none) (hn9 : True)  (st : zTs) (a1 : Int32) (a2 : Int32) (h : w_X12_one_L3_158 P st a1 a2) : zG Z ad0 h0 p l e ({ frames := 28, cells := 0, slots := 0, locals := 582 } : Room) s m args below meth c (MQ below (zQ Z ad0 h0 (zWv Z zm1 P)) args s 0 0 (zA Z)) 0 0 (zh Z zm1 st) 4 158 [some (.ref 100), some (.int (a1)), some (.int (a2)), none] [] := by
  unfold w_X12_one_L3_158 at h
  refine z_aload_n C dX12_one_158 (i := 0) rfl rfl ?_
  refine z_dup C dX12_one_159 rfl ?_
  refine t_get C dX12_one_160 fl_X12_232 (k := 100) (i := 0) (by decide) rfl (fg_100_8 _ _ _) ?_
  refine z_iconst C dX12_one_163 (v := 1) (by decide) ?_
  refine z_iadd C dX12_one_164 ?_
  refine t_put C dX12_one_165 fq_X12_232 (Or.inl rfl) (k := 100) (i := 0) (by decide) rfl ⟨rfl, rfl⟩ (fp_100_8 _ _ _ _ _) ?_
  refine t_tops (fun s165 es165 => ?_)
  have h := h s165 es165
  refine z_aload_n C dX12_one_168 (i := 0) rfl rfl ?_
  refine z_iconst C dX12_one_169 (v := 0) (by decide) ?_
  refine z_sipush C dX12_one_170 (v := 9999) (by decide) ?_
  refine t_callV C (rest := []) (c2 := 0) (s2 := 0) (kd := 100) (i := 0) [.int (0), .int (9999)] dX12_one_173 lk_X12_342 li_X12_number le_X12_number (c_X12_number hfl h) rfl rfl (by decide) rfl ⟨_, rfl⟩ rfl ⟨Nat.le_of_ble_eq_true rfl, Nat.le_of_ble_eq_true rfl⟩ (Nat.le_of_ble_eq_true rfl) ⟨Nat.le_of_ble_eq_true rfl, Nat.le_of_ble_eq_true rfl, Nat.le_of_ble_eq_true rfl, Nat.le_of_ble_eq_true rfl⟩ (k_Wi fun r173 s173 h => ?_)
  refine z_istore_n C dX12_one_176 (i := 3) (lc' := [some (.ref 100), some (.int (a1)), some (.int (a2)), some (.int (r173))]) rfl (by decide) rfl ?_
  refine z_aload_n C dX12_one_177 (i := 0) rfl rfl ?_
  refine z_iload_n C dX12_one_178 (i := 2) rfl rfl ?_
  refine z_bipush C dX12_one_179 (v := 60) (by decide) ?_
  refine z_icmp_ne C dX12_one_181 (tgt := 188) (by decide) (fun c181 => ?_) (fun c181 => ?_)
  · have h := h.2 c181
    refine z_iconst C dX12_one_188 (v := 5) (by decide) ?_
    exact t_drop [false, true, false, true] rfl (j_X12_one_L3_189 hfl C hr hn9  s173 a1 r173 (5) h)
  · have h := h.1 c181
    refine z_iconst C dX12_one_184 (v := 4) (by decide) ?_
    refine z_goto C dX12_one_185 (tgt := 189) (by decide) ?_
    exact t_drop [false, true, false, true] rfl (j_X12_one_L3_189 hfl C hr hn9  s173 a1 r173 (4) h)
def w_X12_one_L3_148 (P : zTs → Prop)  (st : zTs) : Prop := w_X12_wrong st 1 (zgF st 100 0 8) (fun (s154 : zTs) => (P s154))
set_option maxHeartbeats 4000000 in
set_option maxRecDepth 100000 in
theorem j_X12_one_L3_148 {P : zTs → Prop}  (hfl : l.stackTraces = false) (C : zC Z p s m args meth c cX12_one 4 RX12) (hr : meth.sig.returnType = none) (hn9 : True)  (st : zTs) (h : w_X12_one_L3_148 P st) : zG Z ad0 h0 p l e ({ frames := 28, cells := 0, slots := 0, locals := 582 } : Room) s m args below meth c (MQ below (zQ Z ad0 h0 (zWv Z zm1 P)) args s 0 0 (zA Z)) 0 0 (zh Z zm1 st) 4 148 [some (.ref 100), none, none, none] [] := by
  unfold w_X12_one_L3_148 at h
  refine z_aload_n C dX12_one_148 (i := 0) rfl rfl ?_
  refine z_iconst C dX12_one_149 (v := 1) (by decide) ?_
  refine z_aload_n C dX12_one_150 (i := 0) rfl rfl ?_
  refine t_get C dX12_one_151 fl_X12_232 (k := 100) (i := 0) (by decide) rfl (fg_100_8 _ _ _) ?_
  refine t_callV C (rest := []) (c2 := 0) (s2 := 0) (kd := 100) (i := 0) [.int (1), .int (zgF st 100 0 8)] dX12_one_154 lk_X12_300 li_X12_wrong le_X12_wrong (c_X12_wrong hfl h) rfl rfl (by decide) rfl ⟨_, rfl⟩ rfl ⟨Nat.le_of_ble_eq_true rfl, Nat.le_of_ble_eq_true rfl⟩ (Nat.le_of_ble_eq_true rfl) ⟨Nat.le_of_ble_eq_true rfl, Nat.le_of_ble_eq_true rfl, Nat.le_of_ble_eq_true rfl, Nat.le_of_ble_eq_true rfl⟩ (k_Wv fun s154 h => ?_)
  exact z_vret C dX12_one_157 hr ⟨_, rfl, rfl, h⟩ (Nat.le_of_ble_eq_true rfl) (Nat.le_of_ble_eq_true rfl)
def w_X12_one_L3_119 (P : zTs → Prop)  (st : zTs) (a1 : Int32) : Prop := w_X12_blanks st (fun (s120 : zTs) => (w_X12_byteAt s120 (zgF s120 100 0 8) (fun (r128 : Int32) => ((a1 < 0 → w_X12_one_L3_148 P s120) ∧ (¬ a1 < 0 → (r128 = 60 → w_X12_one_L3_158 P s120 a1 r128) ∧ (¬ r128 = 60 → (r128 = 62 → w_X12_one_L3_158 P s120 a1 r128) ∧ (¬ r128 = 62 → w_X12_one_L3_148 P s120)))))))
set_option maxHeartbeats 4000000 in
set_option maxRecDepth 100000 in
theorem j_X12_one_L3_119 {P : zTs → Prop}  (hfl : l.stackTraces = false) (C : zC Z p s m args meth c cX12_one 4 RX12) (hr : meth.sig.returnType = none) (hn9 : True)  (st : zTs) (a1 : Int32) (h : w_X12_one_L3_119 P st a1) : zG Z ad0 h0 p l e ({ frames := 28, cells := 0, slots := 0, locals := 582 } : Room) s m args below meth c (MQ below (zQ Z ad0 h0 (zWv Z zm1 P)) args s 0 0 (zA Z)) 0 0 (zh Z zm1 st) 4 119 [some (.ref 100), some (.int (a1)), none, none] [] := by
  unfold w_X12_one_L3_119 at h
  refine z_aload_n C dX12_one_119 (i := 0) rfl rfl ?_
  refine t_callV C (rest := []) (c2 := 0) (s2 := 0) (kd := 100) (i := 0) [] dX12_one_120 lk_X12_242 li_X12_blanks le_X12_blanks (c_X12_blanks hfl h) rfl rfl (by decide) rfl ⟨_, rfl⟩ rfl ⟨Nat.le_of_ble_eq_true rfl, Nat.le_of_ble_eq_true rfl⟩ (Nat.le_of_ble_eq_true rfl) ⟨Nat.le_of_ble_eq_true rfl, Nat.le_of_ble_eq_true rfl, Nat.le_of_ble_eq_true rfl, Nat.le_of_ble_eq_true rfl⟩ (k_Wv fun s120 h => ?_)
  refine z_aload_n C dX12_one_123 (i := 0) rfl rfl ?_
  refine z_aload_n C dX12_one_124 (i := 0) rfl rfl ?_
  refine t_get C dX12_one_125 fl_X12_232 (k := 100) (i := 0) (by decide) rfl (fg_100_8 _ _ _) ?_
  refine t_callV C (rest := []) (c2 := 0) (s2 := 0) (kd := 100) (i := 0) [.int (zgF s120 100 0 8)] dX12_one_128 lk_X12_235 li_X12_byteAt le_X12_byteAt (c_X12_byteAt hfl h) rfl rfl (by decide) rfl ⟨_, rfl⟩ rfl ⟨Nat.le_of_ble_eq_true rfl, Nat.le_of_ble_eq_true rfl⟩ (Nat.le_of_ble_eq_true rfl) ⟨Nat.le_of_ble_eq_true rfl, Nat.le_of_ble_eq_true rfl, Nat.le_of_ble_eq_true rfl, Nat.le_of_ble_eq_true rfl⟩ (k_Ri fun r128 h => ?_)
  refine z_istore_n C dX12_one_131 (i := 2) (lc' := [some (.ref 100), some (.int (a1)), some (.int (r128)), none]) rfl (by decide) rfl ?_
  refine z_iload_n C dX12_one_132 (i := 1) rfl rfl ?_
  refine z_if_lt C dX12_one_133 (tgt := 148) (by decide) (fun c133 => ?_) (fun c133 => ?_)
  · have h := h.1 c133
    exact t_drop [true, false, false, false] rfl (j_X12_one_L3_148 hfl C hr hn9  s120 h)
  · have h := h.2 c133
    refine z_iload_n C dX12_one_136 (i := 2) rfl rfl ?_
    refine z_bipush C dX12_one_137 (v := 60) (by decide) ?_
    refine z_icmp_eq C dX12_one_139 (tgt := 158) (by decide) (fun c139 => ?_) (fun c139 => ?_)
    · have h := h.1 c139
      exact t_drop [true, true, true, false] rfl (j_X12_one_L3_158 hfl C hr hn9  s120 a1 r128 h)
    · have h := h.2 c139
      refine z_iload_n C dX12_one_142 (i := 2) rfl rfl ?_
      refine z_bipush C dX12_one_143 (v := 62) (by decide) ?_
      refine z_icmp_eq C dX12_one_145 (tgt := 158) (by decide) (fun c145 => ?_) (fun c145 => ?_)
      · have h := h.1 c145
        exact t_drop [true, true, true, false] rfl (j_X12_one_L3_158 hfl C hr hn9  s120 a1 r128 h)
      · have h := h.2 c145
        exact t_drop [true, false, false, false] rfl (j_X12_one_L3_148 hfl C hr hn9  s120 h)
def w_X12_one_L3_113 (P : zTs → Prop) (K91 : zTs → Int32 → Int32 → Prop) (st : zTs) (a1 : Int32) (a2 : Int32) : Prop := ∀ x113 : Int32, x113 = a2 + 1 → (K91 st a1 x113)
set_option maxHeartbeats 4000000 in
set_option maxRecDepth 100000 in
theorem j_X12_one_L3_113 {P : zTs → Prop} {K91 : zTs → Int32 → Int32 → Prop} (hfl : l.stackTraces = false) (C : zC Z p s m args meth c cX12_one 4 RX12) (hr : meth.sig.returnType = none) (hn9 : True) (hK91 : ∀ (st : zTs) (a1 : Int32) (a2 : Int32), K91 st a1 a2 → zG Z ad0 h0 p l e ({ frames := 28, cells := 0, slots := 0, locals := 582 } : Room) s m args below meth c (MQ below (zQ Z ad0 h0 (zWv Z zm1 P)) args s 0 0 (zA Z)) 0 0 (zh Z zm1 st) 4 91 [some (.ref 100), some (.int (a1)), some (.int (a2)), none] []) (st : zTs) (a1 : Int32) (a2 : Int32) (h : w_X12_one_L3_113 P K91 st a1 a2) : zG Z ad0 h0 p l e ({ frames := 28, cells := 0, slots := 0, locals := 582 } : Room) s m args below meth c (MQ below (zQ Z ad0 h0 (zWv Z zm1 P)) args s 0 0 (zA Z)) 0 0 (zh Z zm1 st) 4 113 [some (.ref 100), some (.int (a1)), some (.int (a2)), none] [] := by
  unfold w_X12_one_L3_113 at h
  obtain ⟨x113, ex113⟩ : ∃ z : Int32, z = a2 + 1 := ⟨_, rfl⟩
  have h := h x113 ex113
  refine z_iinc C dX12_one_113 (v := x113) (lc' := [some (.ref 100), some (.int (a1)), some (.int (x113)), none]) rfl (by decide) (by rw [ex113]; rfl) rfl ?_
  refine z_goto C dX12_one_116 (tgt := 91) (by decide) ?_
  exact t_drop [true, true, true, false] rfl (hK91 st a1 x113 h)
def w_X12_one_L3_91 (P : zTs → Prop)  : Nat → zTs → Int32 → Int32 → Prop
  | 0, _, _, _ => False
  | n9 + 1, st, a1, a2 => (3 ≤ a2 → w_X12_one_L3_119 P st a1) ∧ (¬ 3 ≤ a2 → (0 ≤ a1 → w_X12_one_L3_119 P st a1) ∧ (¬ 0 ≤ a1 → w_X12_measureOf st a2 (fun (r102 : Nat) => (w_X12_eat st r102 (fun (r105 : Int32) (s105 : zTs) => ((r105 = 0 → w_X12_one_L3_113 P (w_X12_one_L3_91 P n9) s105 a1 a2) ∧ (¬ r105 = 0 → w_X12_one_L3_113 P (w_X12_one_L3_91 P n9) s105 a2 a2)))))))
set_option maxHeartbeats 4000000 in
set_option maxRecDepth 100000 in
theorem j_X12_one_L3_91 {P : zTs → Prop}  (hfl : l.stackTraces = false) (C : zC Z p s m args meth c cX12_one 4 RX12) (hr : meth.sig.returnType = none) (hn9 : True)  : ∀ (n9 : Nat) (st : zTs) (a1 : Int32) (a2 : Int32), w_X12_one_L3_91 P n9 st a1 a2 → zG Z ad0 h0 p l e ({ frames := 28, cells := 0, slots := 0, locals := 582 } : Room) s m args below meth c (MQ below (zQ Z ad0 h0 (zWv Z zm1 P)) args s 0 0 (zA Z)) 0 0 (zh Z zm1 st) 4 91 [some (.ref 100), some (.int (a1)), some (.int (a2)), none] [] := by
  intro n9
  induction n9 with
  | zero => intro st a1 a2 h; exact h.elim
  | succ n9 hK91 =>
    intro st a1 a2 h
    rw [w_X12_one_L3_91] at h
    refine z_iload_n C dX12_one_91 (i := 2) rfl rfl ?_
    refine z_iconst C dX12_one_92 (v := 3) (by decide) ?_
    refine z_icmp_ge C dX12_one_93 (tgt := 119) (by decide) (fun c93 => ?_) (fun c93 => ?_)
    · have h := h.1 c93
      exact t_drop [true, true, false, false] rfl (j_X12_one_L3_119 hfl C hr hn9  st a1 h)
    · have h := h.2 c93
      refine z_iload_n C dX12_one_96 (i := 1) rfl rfl ?_
      refine z_if_ge C dX12_one_97 (tgt := 119) (by decide) (fun c97 => ?_) (fun c97 => ?_)
      · have h := h.1 c97
        exact t_drop [true, true, false, false] rfl (j_X12_one_L3_119 hfl C hr hn9  st a1 h)
      · have h := h.2 c97
        refine z_aload_n C dX12_one_100 (i := 0) rfl rfl ?_
        refine z_iload_n C dX12_one_101 (i := 2) rfl rfl ?_
        refine t_callS C (rest := [.ref 100]) (c2 := 0) (s2 := 0) [.int (a2)] dX12_one_102 lk_X12_339 ls_X12_measureOf (c_X12_measureOf hfl h) rfl rfl ⟨Nat.le_of_ble_eq_true rfl, Nat.le_of_ble_eq_true rfl⟩ (Nat.le_of_ble_eq_true rfl) ⟨Nat.le_of_ble_eq_true rfl, Nat.le_of_ble_eq_true rfl, Nat.le_of_ble_eq_true rfl, Nat.le_of_ble_eq_true rfl⟩ (k_Rr fun r102 h => ?_)
        refine t_callV C (rest := []) (c2 := 0) (s2 := 0) (kd := 100) (i := 0) [.ref (200 + 256 * r102)] dX12_one_105 lk_X12_313 li_X12_eat le_X12_eat (c_X12_eat hfl h) rfl rfl (by decide) rfl ⟨_, rfl⟩ rfl ⟨Nat.le_of_ble_eq_true rfl, Nat.le_of_ble_eq_true rfl⟩ (Nat.le_of_ble_eq_true rfl) ⟨Nat.le_of_ble_eq_true rfl, Nat.le_of_ble_eq_true rfl, Nat.le_of_ble_eq_true rfl, Nat.le_of_ble_eq_true rfl⟩ (k_Wi fun r105 s105 h => ?_)
        refine z_if_eq C dX12_one_108 (tgt := 113) (by decide) (fun c108 => ?_) (fun c108 => ?_)
        · have h := h.1 c108
          exact t_drop [true, true, true, false] rfl (j_X12_one_L3_113 hfl C hr hn9 hK91 s105 a1 a2 h)
        · have h := h.2 c108
          refine z_iload_n C dX12_one_111 (i := 2) rfl rfl ?_
          refine z_istore_n C dX12_one_112 (i := 1) (lc' := [some (.ref 100), some (.int (a2)), some (.int (a2)), none]) rfl (by decide) rfl ?_
          exact t_drop [true, true, true, false] rfl (j_X12_one_L3_113 hfl C hr hn9 hK91 s105 a2 a2 h)
def w_X12_one_L3 (st : zTs)  (P : zTs → Prop) : Prop := ((zgF st 100 0 9) ≤ 0 → w_X12_blanks st (fun (s9 : zTs) => (w_X12_isWord s9 20 (fun (r16 : Int32) (s16 : zTs) => ((r16 = 0 → w_X12_byteAt s16 (zgF s16 100 0 8) (fun (r53 : Int32) => ((r53 = 40 → w_X12_opens s16 1 (fun (s63 : zTs) => (w_X12_ors_L4 s63 (fun (s67 : zTs) => (w_X12_sign s67 41 (fun (s73 : zTs) => (∀ s83 : zTs, s83 = zuF s73 100 0 12 ((zgF s73 100 0 12) - 1) → (P s83)))))))) ∧ (¬ r53 = 40 → w_X12_one_L3_91 P zfu s16 (-1) (0))))) ∧ (¬ r16 = 0 → w_X12_opens s16 3 (fun (s24 : zTs) => (w_X12_one_L4 s24 (fun (s28 : zTs) => (∀ s38 : zTs, s38 = zuF s28 100 0 12 ((zgF s28 100 0 12) - 1) → (w_X12_emits s38 1 0 (fun (s44 : zTs) => (P s44))))))))))))) ∧ (¬ (zgF st 100 0 9) ≤ 0 → P st)
set_option maxHeartbeats 4000000 in
set_option maxRecDepth 100000 in
theorem c_X12_one_L3 {Z : zZ} {l : Launch} (hfl : l.stackTraces = false) {st : zTs}  {P : zTs → Prop} (h : w_X12_one_L3 st  P) : zN Z l yX12_one cX12_one 4 none ({ frames := 28, cells := 0, slots := 0, locals := 582 } : Room) (zh Z zm1 st) [.ref 100] (zWv Z zm1 P) := by
  unfold w_X12_one_L3 at h
  refine z_enterN (by decide) (Nat.le_of_ble_eq_true rfl) (lc0 := [some (.ref 100), none, none, none]) rfl ?_
  intro p e s m args below meth c ad0 C hr _
  have hn9 : True := trivial
  replace C : zC Z p s m args meth c cX12_one 4 RX12 := C
  refine z_aload_n C dX12_one_0 (i := 0) rfl rfl ?_
  refine t_get C dX12_one_1 fl_X12_239 (k := 100) (i := 0) (by decide) rfl (fg_100_9 _ _ _) ?_
  refine z_if_le C dX12_one_4 (tgt := 8) (by decide) (fun c4 => ?_) (fun c4 => ?_)
  · have h := h.1 c4
    refine z_aload_n C dX12_one_8 (i := 0) rfl rfl ?_
    refine t_callV C (rest := []) (c2 := 0) (s2 := 0) (kd := 100) (i := 0) [] dX12_one_9 lk_X12_242 li_X12_blanks le_X12_blanks (c_X12_blanks hfl h) rfl rfl (by decide) rfl ⟨_, rfl⟩ rfl ⟨Nat.le_of_ble_eq_true rfl, Nat.le_of_ble_eq_true rfl⟩ (Nat.le_of_ble_eq_true rfl) ⟨Nat.le_of_ble_eq_true rfl, Nat.le_of_ble_eq_true rfl, Nat.le_of_ble_eq_true rfl, Nat.le_of_ble_eq_true rfl⟩ (k_Wv fun s9 h => ?_)
    refine z_aload_n C dX12_one_12 (i := 0) rfl rfl ?_
    refine z_ldc_wS C dX12_one_13 (i := 20) (text := "not") (by decide) ?_
    refine t_callV C (rest := []) (c2 := 0) (s2 := 0) (kd := 100) (i := 0) [.ref (200 + 256 * 20)] dX12_one_16 lk_X12_255 li_X12_isWord le_X12_isWord (c_X12_isWord hfl h) rfl rfl (by decide) rfl ⟨_, rfl⟩ rfl ⟨Nat.le_of_ble_eq_true rfl, Nat.le_of_ble_eq_true rfl⟩ (Nat.le_of_ble_eq_true rfl) ⟨Nat.le_of_ble_eq_true rfl, Nat.le_of_ble_eq_true rfl, Nat.le_of_ble_eq_true rfl, Nat.le_of_ble_eq_true rfl⟩ (k_Wi fun r16 s16 h => ?_)
    refine z_if_eq C dX12_one_19 (tgt := 48) (by decide) (fun c19 => ?_) (fun c19 => ?_)
    · have h := h.1 c19
      refine z_aload_n C dX12_one_48 (i := 0) rfl rfl ?_
      refine z_aload_n C dX12_one_49 (i := 0) rfl rfl ?_
      refine t_get C dX12_one_50 fl_X12_232 (k := 100) (i := 0) (by decide) rfl (fg_100_8 _ _ _) ?_
      refine t_callV C (rest := []) (c2 := 0) (s2 := 0) (kd := 100) (i := 0) [.int (zgF s16 100 0 8)] dX12_one_53 lk_X12_235 li_X12_byteAt le_X12_byteAt (c_X12_byteAt hfl h) rfl rfl (by decide) rfl ⟨_, rfl⟩ rfl ⟨Nat.le_of_ble_eq_true rfl, Nat.le_of_ble_eq_true rfl⟩ (Nat.le_of_ble_eq_true rfl) ⟨Nat.le_of_ble_eq_true rfl, Nat.le_of_ble_eq_true rfl, Nat.le_of_ble_eq_true rfl, Nat.le_of_ble_eq_true rfl⟩ (k_Ri fun r53 h => ?_)
      refine z_bipush C dX12_one_56 (v := 40) (by decide) ?_
      refine z_icmp_ne C dX12_one_58 (tgt := 87) (by decide) (fun c58 => ?_) (fun c58 => ?_)
      · have h := h.2 c58
        refine z_iconst C dX12_one_87 (v := (-1)) (by decide) ?_
        refine z_istore_n C dX12_one_88 (i := 1) (lc' := [some (.ref 100), some (.int (-1)), none, none]) rfl (by decide) rfl ?_
        refine z_iconst C dX12_one_89 (v := 0) (by decide) ?_
        refine z_istore_n C dX12_one_90 (i := 2) (lc' := [some (.ref 100), some (.int (-1)), some (.int (0)), none]) rfl (by decide) rfl ?_
        exact t_drop [true, true, true, false] rfl (j_X12_one_L3_91 hfl C hr hn9  zfu s16 (-1) (0) h)
      · have h := h.1 c58
        refine z_aload_n C dX12_one_61 (i := 0) rfl rfl ?_
        refine z_iconst C dX12_one_62 (v := 1) (by decide) ?_
        refine t_callV C (rest := []) (c2 := 0) (s2 := 0) (kd := 100) (i := 0) [.int (1)] dX12_one_63 lk_X12_329 li_X12_opens le_X12_opens (c_X12_opens hfl h) rfl rfl (by decide) rfl ⟨_, rfl⟩ rfl ⟨Nat.le_of_ble_eq_true rfl, Nat.le_of_ble_eq_true rfl⟩ (Nat.le_of_ble_eq_true rfl) ⟨Nat.le_of_ble_eq_true rfl, Nat.le_of_ble_eq_true rfl, Nat.le_of_ble_eq_true rfl, Nat.le_of_ble_eq_true rfl⟩ (k_Wv fun s63 h => ?_)
        refine z_aload_n C dX12_one_66 (i := 0) rfl rfl ?_
        refine t_callV C (rest := []) (c2 := 0) (s2 := 0) (kd := 100) (i := 0) [] dX12_one_67 lk_X12_333 li_X12_ors le_X12_ors (c_X12_ors_L4 hfl h) rfl rfl (by decide) rfl ⟨_, rfl⟩ rfl ⟨Nat.le_of_ble_eq_true rfl, Nat.le_of_ble_eq_true rfl⟩ (Nat.le_of_ble_eq_true rfl) ⟨Nat.le_of_ble_eq_true rfl, Nat.le_of_ble_eq_true rfl, Nat.le_of_ble_eq_true rfl, Nat.le_of_ble_eq_true rfl⟩ (k_Wv fun s67 h => ?_)
        refine z_aload_n C dX12_one_70 (i := 0) rfl rfl ?_
        refine z_bipush C dX12_one_71 (v := 41) (by decide) ?_
        refine t_callV C (rest := []) (c2 := 0) (s2 := 0) (kd := 100) (i := 0) [.int (41)] dX12_one_73 lk_X12_336 li_X12_sign le_X12_sign (c_X12_sign hfl h) rfl rfl (by decide) rfl ⟨_, rfl⟩ rfl ⟨Nat.le_of_ble_eq_true rfl, Nat.le_of_ble_eq_true rfl⟩ (Nat.le_of_ble_eq_true rfl) ⟨Nat.le_of_ble_eq_true rfl, Nat.le_of_ble_eq_true rfl, Nat.le_of_ble_eq_true rfl, Nat.le_of_ble_eq_true rfl⟩ (k_Wv fun s73 h => ?_)
        refine z_aload_n C dX12_one_76 (i := 0) rfl rfl ?_
        refine z_dup C dX12_one_77 rfl ?_
        refine t_get C dX12_one_78 fl_X12_324 (k := 100) (i := 0) (by decide) rfl (fg_100_12 _ _ _) ?_
        refine z_iconst C dX12_one_81 (v := 1) (by decide) ?_
        refine z_isub C dX12_one_82 ?_
        refine t_put C dX12_one_83 fq_X12_324 (Or.inl rfl) (k := 100) (i := 0) (by decide) rfl ⟨rfl, rfl⟩ (fp_100_12 _ _ _ _ _) ?_
        refine t_tops (fun s83 es83 => ?_)
        have h := h s83 es83
        exact z_vret C dX12_one_86 hr ⟨_, rfl, rfl, h⟩ (Nat.le_of_ble_eq_true rfl) (Nat.le_of_ble_eq_true rfl)
    · have h := h.2 c19
      refine z_aload_n C dX12_one_22 (i := 0) rfl rfl ?_
      refine z_iconst C dX12_one_23 (v := 3) (by decide) ?_
      refine t_callV C (rest := []) (c2 := 0) (s2 := 0) (kd := 100) (i := 0) [.int (3)] dX12_one_24 lk_X12_329 li_X12_opens le_X12_opens (c_X12_opens hfl h) rfl rfl (by decide) rfl ⟨_, rfl⟩ rfl ⟨Nat.le_of_ble_eq_true rfl, Nat.le_of_ble_eq_true rfl⟩ (Nat.le_of_ble_eq_true rfl) ⟨Nat.le_of_ble_eq_true rfl, Nat.le_of_ble_eq_true rfl, Nat.le_of_ble_eq_true rfl, Nat.le_of_ble_eq_true rfl⟩ (k_Wv fun s24 h => ?_)
      refine z_aload_n C dX12_one_27 (i := 0) rfl rfl ?_
      refine t_callV C (rest := []) (c2 := 0) (s2 := 0) (kd := 100) (i := 0) [] dX12_one_28 lk_X12_319 li_X12_one le_X12_one (c_X12_one_L4 hfl h) rfl rfl (by decide) rfl ⟨_, rfl⟩ rfl ⟨Nat.le_of_ble_eq_true rfl, Nat.le_of_ble_eq_true rfl⟩ (Nat.le_of_ble_eq_true rfl) ⟨Nat.le_of_ble_eq_true rfl, Nat.le_of_ble_eq_true rfl, Nat.le_of_ble_eq_true rfl, Nat.le_of_ble_eq_true rfl⟩ (k_Wv fun s28 h => ?_)
      refine z_aload_n C dX12_one_31 (i := 0) rfl rfl ?_
      refine z_dup C dX12_one_32 rfl ?_
      refine t_get C dX12_one_33 fl_X12_324 (k := 100) (i := 0) (by decide) rfl (fg_100_12 _ _ _) ?_
      refine z_iconst C dX12_one_36 (v := 1) (by decide) ?_
      refine z_isub C dX12_one_37 ?_
      refine t_put C dX12_one_38 fq_X12_324 (Or.inl rfl) (k := 100) (i := 0) (by decide) rfl ⟨rfl, rfl⟩ (fp_100_12 _ _ _ _ _) ?_
      refine t_tops (fun s38 es38 => ?_)
      have h := h s38 es38
      refine z_aload_n C dX12_one_41 (i := 0) rfl rfl ?_
      refine z_iconst C dX12_one_42 (v := 1) (by decide) ?_
      refine z_iconst C dX12_one_43 (v := 0) (by decide) ?_
      refine t_callV C (rest := []) (c2 := 0) (s2 := 0) (kd := 100) (i := 0) [.int (1), .int (0)] dX12_one_44 lk_X12_316 li_X12_emits le_X12_emits (c_X12_emits hfl h) rfl rfl (by decide) rfl ⟨_, rfl⟩ rfl ⟨Nat.le_of_ble_eq_true rfl, Nat.le_of_ble_eq_true rfl⟩ (Nat.le_of_ble_eq_true rfl) ⟨Nat.le_of_ble_eq_true rfl, Nat.le_of_ble_eq_true rfl, Nat.le_of_ble_eq_true rfl, Nat.le_of_ble_eq_true rfl⟩ (k_Wv fun s44 h => ?_)
      exact z_vret C dX12_one_47 hr ⟨_, rfl, rfl, h⟩ (Nat.le_of_ble_eq_true rfl) (Nat.le_of_ble_eq_true rfl)
  · have h := h.2 c4
    exact z_vret C dX12_one_7 hr ⟨_, rfl, rfl, h⟩ (Nat.le_of_ble_eq_true rfl) (Nat.le_of_ble_eq_true rfl)
def w_X12_ands_L3_4 (P : zTs → Prop)  : Nat → zTs → Prop
  | 0, _ => False
  | n9 + 1, st => w_X12_eat st 19 (fun (r8 : Int32) (s8 : zTs) => ((r8 = 0 → P s8) ∧ (¬ r8 = 0 → w_X12_one_L3 s8 (fun (s15 : zTs) => (w_X12_emits s15 2 0 (fun (s21 : zTs) => ((w_X12_ands_L3_4 P n9) s21)))))))
set_option maxHeartbeats 4000000 in
set_option maxRecDepth 100000 in
theorem j_X12_ands_L3_4 {P : zTs → Prop}  (hfl : l.stackTraces = false) (C : zC Z p s m args meth c cX12_ands 1 RX12) (hr : meth.sig.returnType = none) (hn9 : True)  : ∀ (n9 : Nat) (st : zTs), w_X12_ands_L3_4 P n9 st → zG Z ad0 h0 p l e ({ frames := 29, cells := 0, slots := 0, locals := 605 } : Room) s m args below meth c (MQ below (zQ Z ad0 h0 (zWv Z zm1 P)) args s 0 0 (zA Z)) 0 0 (zh Z zm1 st) 1 4 [some (.ref 100)] [] := by
  intro n9
  induction n9 with
  | zero => intro st h; exact h.elim
  | succ n9 hK4 =>
    intro st h
    rw [w_X12_ands_L3_4] at h
    refine z_aload_n C dX12_ands_4 (i := 0) rfl rfl ?_
    refine z_ldc_wS C dX12_ands_5 (i := 19) (text := "and") (by decide) ?_
    refine t_callV C (rest := []) (c2 := 0) (s2 := 0) (kd := 100) (i := 0) [.ref (200 + 256 * 19)] dX12_ands_8 lk_X12_313 li_X12_eat le_X12_eat (c_X12_eat hfl h) rfl rfl (by decide) rfl ⟨_, rfl⟩ rfl ⟨Nat.le_of_ble_eq_true rfl, Nat.le_of_ble_eq_true rfl⟩ (Nat.le_of_ble_eq_true rfl) ⟨Nat.le_of_ble_eq_true rfl, Nat.le_of_ble_eq_true rfl, Nat.le_of_ble_eq_true rfl, Nat.le_of_ble_eq_true rfl⟩ (k_Wi fun r8 s8 h => ?_)
    refine z_if_eq C dX12_ands_11 (tgt := 27) (by decide) (fun c11 => ?_) (fun c11 => ?_)
    · have h := h.1 c11
      exact z_vret C dX12_ands_27 hr ⟨_, rfl, rfl, h⟩ (Nat.le_of_ble_eq_true rfl) (Nat.le_of_ble_eq_true rfl)
    · have h := h.2 c11
      refine z_aload_n C dX12_ands_14 (i := 0) rfl rfl ?_
      refine t_callV C (rest := []) (c2 := 0) (s2 := 0) (kd := 100) (i := 0) [] dX12_ands_15 lk_X12_319 li_X12_one le_X12_one (c_X12_one_L3 hfl h) rfl rfl (by decide) rfl ⟨_, rfl⟩ rfl ⟨Nat.le_of_ble_eq_true rfl, Nat.le_of_ble_eq_true rfl⟩ (Nat.le_of_ble_eq_true rfl) ⟨Nat.le_of_ble_eq_true rfl, Nat.le_of_ble_eq_true rfl, Nat.le_of_ble_eq_true rfl, Nat.le_of_ble_eq_true rfl⟩ (k_Wv fun s15 h => ?_)
      refine z_aload_n C dX12_ands_18 (i := 0) rfl rfl ?_
      refine z_iconst C dX12_ands_19 (v := 2) (by decide) ?_
      refine z_iconst C dX12_ands_20 (v := 0) (by decide) ?_
      refine t_callV C (rest := []) (c2 := 0) (s2 := 0) (kd := 100) (i := 0) [.int (2), .int (0)] dX12_ands_21 lk_X12_316 li_X12_emits le_X12_emits (c_X12_emits hfl h) rfl rfl (by decide) rfl ⟨_, rfl⟩ rfl ⟨Nat.le_of_ble_eq_true rfl, Nat.le_of_ble_eq_true rfl⟩ (Nat.le_of_ble_eq_true rfl) ⟨Nat.le_of_ble_eq_true rfl, Nat.le_of_ble_eq_true rfl, Nat.le_of_ble_eq_true rfl, Nat.le_of_ble_eq_true rfl⟩ (k_Wv fun s21 h => ?_)
      refine z_goto C dX12_ands_24 (tgt := 4) (by decide) ?_
      exact t_drop [true] rfl (hK4 s21 h)
def w_X12_ands_L3 (st : zTs)  (P : zTs → Prop) : Prop := w_X12_one_L3 st (fun (s1 : zTs) => (w_X12_ands_L3_4 P zfu s1))
set_option maxHeartbeats 4000000 in
set_option maxRecDepth 100000 in
theorem c_X12_ands_L3 {Z : zZ} {l : Launch} (hfl : l.stackTraces = false) {st : zTs}  {P : zTs → Prop} (h : w_X12_ands_L3 st  P) : zN Z l yX12_ands cX12_ands 1 none ({ frames := 29, cells := 0, slots := 0, locals := 605 } : Room) (zh Z zm1 st) [.ref 100] (zWv Z zm1 P) := by
  unfold w_X12_ands_L3 at h
  refine z_enterN (by decide) (Nat.le_of_ble_eq_true rfl) (lc0 := [some (.ref 100)]) rfl ?_
  intro p e s m args below meth c ad0 C hr _
  have hn9 : True := trivial
  replace C : zC Z p s m args meth c cX12_ands 1 RX12 := C
  refine z_aload_n C dX12_ands_0 (i := 0) rfl rfl ?_
  refine t_callV C (rest := []) (c2 := 0) (s2 := 0) (kd := 100) (i := 0) [] dX12_ands_1 lk_X12_319 li_X12_one le_X12_one (c_X12_one_L3 hfl h) rfl rfl (by decide) rfl ⟨_, rfl⟩ rfl ⟨Nat.le_of_ble_eq_true rfl, Nat.le_of_ble_eq_true rfl⟩ (Nat.le_of_ble_eq_true rfl) ⟨Nat.le_of_ble_eq_true rfl, Nat.le_of_ble_eq_true rfl, Nat.le_of_ble_eq_true rfl, Nat.le_of_ble_eq_true rfl⟩ (k_Wv fun s1 h => ?_)
  exact t_drop [true] rfl (j_X12_ands_L3_4 hfl C hr hn9  zfu s1 h)
def w_X12_ors_L3_4 (P : zTs → Prop)  : Nat → zTs → Prop
  | 0, _ => False
  | n9 + 1, st => w_X12_eat st 18 (fun (r8 : Int32) (s8 : zTs) => ((r8 = 0 → P s8) ∧ (¬ r8 = 0 → w_X12_ands_L3 s8 (fun (s15 : zTs) => (w_X12_emits s15 3 0 (fun (s21 : zTs) => ((w_X12_ors_L3_4 P n9) s21)))))))
set_option maxHeartbeats 4000000 in
set_option maxRecDepth 100000 in
theorem j_X12_ors_L3_4 {P : zTs → Prop}  (hfl : l.stackTraces = false) (C : zC Z p s m args meth c cX12_ors 1 RX12) (hr : meth.sig.returnType = none) (hn9 : True)  : ∀ (n9 : Nat) (st : zTs), w_X12_ors_L3_4 P n9 st → zG Z ad0 h0 p l e ({ frames := 30, cells := 0, slots := 0, locals := 625 } : Room) s m args below meth c (MQ below (zQ Z ad0 h0 (zWv Z zm1 P)) args s 0 0 (zA Z)) 0 0 (zh Z zm1 st) 1 4 [some (.ref 100)] [] := by
  intro n9
  induction n9 with
  | zero => intro st h; exact h.elim
  | succ n9 hK4 =>
    intro st h
    rw [w_X12_ors_L3_4] at h
    refine z_aload_n C dX12_ors_4 (i := 0) rfl rfl ?_
    refine z_ldc_wS C dX12_ors_5 (i := 18) (text := "or") (by decide) ?_
    refine t_callV C (rest := []) (c2 := 0) (s2 := 0) (kd := 100) (i := 0) [.ref (200 + 256 * 18)] dX12_ors_8 lk_X12_313 li_X12_eat le_X12_eat (c_X12_eat hfl h) rfl rfl (by decide) rfl ⟨_, rfl⟩ rfl ⟨Nat.le_of_ble_eq_true rfl, Nat.le_of_ble_eq_true rfl⟩ (Nat.le_of_ble_eq_true rfl) ⟨Nat.le_of_ble_eq_true rfl, Nat.le_of_ble_eq_true rfl, Nat.le_of_ble_eq_true rfl, Nat.le_of_ble_eq_true rfl⟩ (k_Wi fun r8 s8 h => ?_)
    refine z_if_eq C dX12_ors_11 (tgt := 27) (by decide) (fun c11 => ?_) (fun c11 => ?_)
    · have h := h.1 c11
      exact z_vret C dX12_ors_27 hr ⟨_, rfl, rfl, h⟩ (Nat.le_of_ble_eq_true rfl) (Nat.le_of_ble_eq_true rfl)
    · have h := h.2 c11
      refine z_aload_n C dX12_ors_14 (i := 0) rfl rfl ?_
      refine t_callV C (rest := []) (c2 := 0) (s2 := 0) (kd := 100) (i := 0) [] dX12_ors_15 lk_X12_308 li_X12_ands le_X12_ands (c_X12_ands_L3 hfl h) rfl rfl (by decide) rfl ⟨_, rfl⟩ rfl ⟨Nat.le_of_ble_eq_true rfl, Nat.le_of_ble_eq_true rfl⟩ (Nat.le_of_ble_eq_true rfl) ⟨Nat.le_of_ble_eq_true rfl, Nat.le_of_ble_eq_true rfl, Nat.le_of_ble_eq_true rfl, Nat.le_of_ble_eq_true rfl⟩ (k_Wv fun s15 h => ?_)
      refine z_aload_n C dX12_ors_18 (i := 0) rfl rfl ?_
      refine z_iconst C dX12_ors_19 (v := 3) (by decide) ?_
      refine z_iconst C dX12_ors_20 (v := 0) (by decide) ?_
      refine t_callV C (rest := []) (c2 := 0) (s2 := 0) (kd := 100) (i := 0) [.int (3), .int (0)] dX12_ors_21 lk_X12_316 li_X12_emits le_X12_emits (c_X12_emits hfl h) rfl rfl (by decide) rfl ⟨_, rfl⟩ rfl ⟨Nat.le_of_ble_eq_true rfl, Nat.le_of_ble_eq_true rfl⟩ (Nat.le_of_ble_eq_true rfl) ⟨Nat.le_of_ble_eq_true rfl, Nat.le_of_ble_eq_true rfl, Nat.le_of_ble_eq_true rfl, Nat.le_of_ble_eq_true rfl⟩ (k_Wv fun s21 h => ?_)
      refine z_goto C dX12_ors_24 (tgt := 4) (by decide) ?_
      exact t_drop [true] rfl (hK4 s21 h)
def w_X12_ors_L3 (st : zTs)  (P : zTs → Prop) : Prop := w_X12_ands_L3 st (fun (s1 : zTs) => (w_X12_ors_L3_4 P zfu s1))
set_option maxHeartbeats 4000000 in
set_option maxRecDepth 100000 in
theorem c_X12_ors_L3 {Z : zZ} {l : Launch} (hfl : l.stackTraces = false) {st : zTs}  {P : zTs → Prop} (h : w_X12_ors_L3 st  P) : zN Z l yX12_ors cX12_ors 1 none ({ frames := 30, cells := 0, slots := 0, locals := 625 } : Room) (zh Z zm1 st) [.ref 100] (zWv Z zm1 P) := by
  unfold w_X12_ors_L3 at h
  refine z_enterN (by decide) (Nat.le_of_ble_eq_true rfl) (lc0 := [some (.ref 100)]) rfl ?_
  intro p e s m args below meth c ad0 C hr _
  have hn9 : True := trivial
  replace C : zC Z p s m args meth c cX12_ors 1 RX12 := C
  refine z_aload_n C dX12_ors_0 (i := 0) rfl rfl ?_
  refine t_callV C (rest := []) (c2 := 0) (s2 := 0) (kd := 100) (i := 0) [] dX12_ors_1 lk_X12_308 li_X12_ands le_X12_ands (c_X12_ands_L3 hfl h) rfl rfl (by decide) rfl ⟨_, rfl⟩ rfl ⟨Nat.le_of_ble_eq_true rfl, Nat.le_of_ble_eq_true rfl⟩ (Nat.le_of_ble_eq_true rfl) ⟨Nat.le_of_ble_eq_true rfl, Nat.le_of_ble_eq_true rfl, Nat.le_of_ble_eq_true rfl, Nat.le_of_ble_eq_true rfl⟩ (k_Wv fun s1 h => ?_)
  exact t_drop [true] rfl (j_X12_ors_L3_4 hfl C hr hn9  zfu s1 h)
def w_X12_one_L2_189 (P : zTs → Prop)  (st : zTs) (a1 : Int32) (a3 : Int32) (b0 : Int32) : Prop := w_X12_emits st b0 ((3 * a3) + a1) (fun (s194 : zTs) => (P s194))
set_option maxHeartbeats 4000000 in
set_option maxRecDepth 100000 in
theorem j_X12_one_L2_189 {P : zTs → Prop}  (hfl : l.stackTraces = false) (C : zC Z p s m args meth c cX12_one 4 RX12) (hr : meth.sig.returnType = none) (hn9 : True)  (st : zTs) (a1 : Int32) (a3 : Int32) (b0 : Int32) (h : w_X12_one_L2_189 P st a1 a3 b0) : zG Z ad0 h0 p l e ({ frames := 31, cells := 0, slots := 0, locals := 645 } : Room) s m args below meth c (MQ below (zQ Z ad0 h0 (zWv Z zm1 P)) args s 0 0 (zA Z)) 0 0 (zh Z zm1 st) 4 189 [none, some (.int (a1)), none, some (.int (a3))] [.int (b0), .ref 100] := by
  unfold w_X12_one_L2_189 at h
  refine z_iconst C dX12_one_189 (v := 3) (by decide) ?_
  refine z_iload_n C dX12_one_190 (i := 3) rfl rfl ?_
  refine z_imul C dX12_one_191 ?_
  refine z_iload_n C dX12_one_192 (i := 1) rfl rfl ?_
  refine z_iadd C dX12_one_193 ?_
  refine t_callV C (rest := []) (c2 := 0) (s2 := 0) (kd := 100) (i := 0) [.int (b0), .int ((3 * a3) + a1)] dX12_one_194 lk_X12_316 li_X12_emits le_X12_emits (c_X12_emits hfl h) rfl rfl (by decide) rfl ⟨_, rfl⟩ rfl ⟨Nat.le_of_ble_eq_true rfl, Nat.le_of_ble_eq_true rfl⟩ (Nat.le_of_ble_eq_true rfl) ⟨Nat.le_of_ble_eq_true rfl, Nat.le_of_ble_eq_true rfl, Nat.le_of_ble_eq_true rfl, Nat.le_of_ble_eq_true rfl⟩ (k_Wv fun s194 h => ?_)
  exact z_vret C dX12_one_197 hr ⟨_, rfl, rfl, h⟩ (Nat.le_of_ble_eq_true rfl) (Nat.le_of_ble_eq_true rfl)
def w_X12_one_L2_158 (P : zTs → Prop)  (st : zTs) (a1 : Int32) (a2 : Int32) : Prop := ∀ s165 : zTs, s165 = zuF st 100 0 8 ((zgF st 100 0 8) + 1) → (w_X12_number s165 0 9999 (fun (r173 : Int32) (s173 : zTs) => ((a2 = 60 → w_X12_one_L2_189 P s173 a1 r173 (4)) ∧ (¬ a2 = 60 → w_X12_one_L2_189 P s173 a1 r173 (5)))))
set_option maxHeartbeats 4000000 in
set_option maxRecDepth 100000 in
theorem j_X12_one_L2_158 {P : zTs → Prop}  (hfl : l.stackTraces = false) (C : zC Z p s m args meth c cX12_one 4 RX12) (hr : meth.sig.returnType = none) (hn9 : True)  (st : zTs) (a1 : Int32) (a2 : Int32) (h : w_X12_one_L2_158 P st a1 a2) : zG Z ad0 h0 p l e ({ frames := 31, cells := 0, slots := 0, locals := 645 } : Room) s m args below meth c (MQ below (zQ Z ad0 h0 (zWv Z zm1 P)) args s 0 0 (zA Z)) 0 0 (zh Z zm1 st) 4 158 [some (.ref 100), some (.int (a1)), some (.int (a2)), none] [] := by
  unfold w_X12_one_L2_158 at h
  refine z_aload_n C dX12_one_158 (i := 0) rfl rfl ?_
  refine z_dup C dX12_one_159 rfl ?_
  refine t_get C dX12_one_160 fl_X12_232 (k := 100) (i := 0) (by decide) rfl (fg_100_8 _ _ _) ?_
  refine z_iconst C dX12_one_163 (v := 1) (by decide) ?_
  refine z_iadd C dX12_one_164 ?_
  refine t_put C dX12_one_165 fq_X12_232 (Or.inl rfl) (k := 100) (i := 0) (by decide) rfl ⟨rfl, rfl⟩ (fp_100_8 _ _ _ _ _) ?_
  refine t_tops (fun s165 es165 => ?_)
  have h := h s165 es165
  refine z_aload_n C dX12_one_168 (i := 0) rfl rfl ?_
  refine z_iconst C dX12_one_169 (v := 0) (by decide) ?_
  refine z_sipush C dX12_one_170 (v := 9999) (by decide) ?_
  refine t_callV C (rest := []) (c2 := 0) (s2 := 0) (kd := 100) (i := 0) [.int (0), .int (9999)] dX12_one_173 lk_X12_342 li_X12_number le_X12_number (c_X12_number hfl h) rfl rfl (by decide) rfl ⟨_, rfl⟩ rfl ⟨Nat.le_of_ble_eq_true rfl, Nat.le_of_ble_eq_true rfl⟩ (Nat.le_of_ble_eq_true rfl) ⟨Nat.le_of_ble_eq_true rfl, Nat.le_of_ble_eq_true rfl, Nat.le_of_ble_eq_true rfl, Nat.le_of_ble_eq_true rfl⟩ (k_Wi fun r173 s173 h => ?_)
  refine z_istore_n C dX12_one_176 (i := 3) (lc' := [some (.ref 100), some (.int (a1)), some (.int (a2)), some (.int (r173))]) rfl (by decide) rfl ?_
  refine z_aload_n C dX12_one_177 (i := 0) rfl rfl ?_
  refine z_iload_n C dX12_one_178 (i := 2) rfl rfl ?_
  refine z_bipush C dX12_one_179 (v := 60) (by decide) ?_
  refine z_icmp_ne C dX12_one_181 (tgt := 188) (by decide) (fun c181 => ?_) (fun c181 => ?_)
  · have h := h.2 c181
    refine z_iconst C dX12_one_188 (v := 5) (by decide) ?_
    exact t_drop [false, true, false, true] rfl (j_X12_one_L2_189 hfl C hr hn9  s173 a1 r173 (5) h)
  · have h := h.1 c181
    refine z_iconst C dX12_one_184 (v := 4) (by decide) ?_
    refine z_goto C dX12_one_185 (tgt := 189) (by decide) ?_
    exact t_drop [false, true, false, true] rfl (j_X12_one_L2_189 hfl C hr hn9  s173 a1 r173 (4) h)
def w_X12_one_L2_148 (P : zTs → Prop)  (st : zTs) : Prop := w_X12_wrong st 1 (zgF st 100 0 8) (fun (s154 : zTs) => (P s154))
set_option maxHeartbeats 4000000 in
set_option maxRecDepth 100000 in
theorem j_X12_one_L2_148 {P : zTs → Prop}  (hfl : l.stackTraces = false) (C : zC Z p s m args meth c cX12_one 4 RX12) (hr : meth.sig.returnType = none) (hn9 : True)  (st : zTs) (h : w_X12_one_L2_148 P st) : zG Z ad0 h0 p l e ({ frames := 31, cells := 0, slots := 0, locals := 645 } : Room) s m args below meth c (MQ below (zQ Z ad0 h0 (zWv Z zm1 P)) args s 0 0 (zA Z)) 0 0 (zh Z zm1 st) 4 148 [some (.ref 100), none, none, none] [] := by
  unfold w_X12_one_L2_148 at h
  refine z_aload_n C dX12_one_148 (i := 0) rfl rfl ?_
  refine z_iconst C dX12_one_149 (v := 1) (by decide) ?_
  refine z_aload_n C dX12_one_150 (i := 0) rfl rfl ?_
  refine t_get C dX12_one_151 fl_X12_232 (k := 100) (i := 0) (by decide) rfl (fg_100_8 _ _ _) ?_
  refine t_callV C (rest := []) (c2 := 0) (s2 := 0) (kd := 100) (i := 0) [.int (1), .int (zgF st 100 0 8)] dX12_one_154 lk_X12_300 li_X12_wrong le_X12_wrong (c_X12_wrong hfl h) rfl rfl (by decide) rfl ⟨_, rfl⟩ rfl ⟨Nat.le_of_ble_eq_true rfl, Nat.le_of_ble_eq_true rfl⟩ (Nat.le_of_ble_eq_true rfl) ⟨Nat.le_of_ble_eq_true rfl, Nat.le_of_ble_eq_true rfl, Nat.le_of_ble_eq_true rfl, Nat.le_of_ble_eq_true rfl⟩ (k_Wv fun s154 h => ?_)
  exact z_vret C dX12_one_157 hr ⟨_, rfl, rfl, h⟩ (Nat.le_of_ble_eq_true rfl) (Nat.le_of_ble_eq_true rfl)
def w_X12_one_L2_119 (P : zTs → Prop)  (st : zTs) (a1 : Int32) : Prop := w_X12_blanks st (fun (s120 : zTs) => (w_X12_byteAt s120 (zgF s120 100 0 8) (fun (r128 : Int32) => ((a1 < 0 → w_X12_one_L2_148 P s120) ∧ (¬ a1 < 0 → (r128 = 60 → w_X12_one_L2_158 P s120 a1 r128) ∧ (¬ r128 = 60 → (r128 = 62 → w_X12_one_L2_158 P s120 a1 r128) ∧ (¬ r128 = 62 → w_X12_one_L2_148 P s120)))))))
set_option maxHeartbeats 4000000 in
set_option maxRecDepth 100000 in
theorem j_X12_one_L2_119 {P : zTs → Prop}  (hfl : l.stackTraces = false) (C : zC Z p s m args meth c cX12_one 4 RX12) (hr : meth.sig.returnType = none) (hn9 : True)  (st : zTs) (a1 : Int32) (h : w_X12_one_L2_119 P st a1) : zG Z ad0 h0 p l e ({ frames := 31, cells := 0, slots := 0, locals := 645 } : Room) s m args below meth c (MQ below (zQ Z ad0 h0 (zWv Z zm1 P)) args s 0 0 (zA Z)) 0 0 (zh Z zm1 st) 4 119 [some (.ref 100), some (.int (a1)), none, none] [] := by
  unfold w_X12_one_L2_119 at h
  refine z_aload_n C dX12_one_119 (i := 0) rfl rfl ?_
  refine t_callV C (rest := []) (c2 := 0) (s2 := 0) (kd := 100) (i := 0) [] dX12_one_120 lk_X12_242 li_X12_blanks le_X12_blanks (c_X12_blanks hfl h) rfl rfl (by decide) rfl ⟨_, rfl⟩ rfl ⟨Nat.le_of_ble_eq_true rfl, Nat.le_of_ble_eq_true rfl⟩ (Nat.le_of_ble_eq_true rfl) ⟨Nat.le_of_ble_eq_true rfl, Nat.le_of_ble_eq_true rfl, Nat.le_of_ble_eq_true rfl, Nat.le_of_ble_eq_true rfl⟩ (k_Wv fun s120 h => ?_)
  refine z_aload_n C dX12_one_123 (i := 0) rfl rfl ?_
  refine z_aload_n C dX12_one_124 (i := 0) rfl rfl ?_
  refine t_get C dX12_one_125 fl_X12_232 (k := 100) (i := 0) (by decide) rfl (fg_100_8 _ _ _) ?_
  refine t_callV C (rest := []) (c2 := 0) (s2 := 0) (kd := 100) (i := 0) [.int (zgF s120 100 0 8)] dX12_one_128 lk_X12_235 li_X12_byteAt le_X12_byteAt (c_X12_byteAt hfl h) rfl rfl (by decide) rfl ⟨_, rfl⟩ rfl ⟨Nat.le_of_ble_eq_true rfl, Nat.le_of_ble_eq_true rfl⟩ (Nat.le_of_ble_eq_true rfl) ⟨Nat.le_of_ble_eq_true rfl, Nat.le_of_ble_eq_true rfl, Nat.le_of_ble_eq_true rfl, Nat.le_of_ble_eq_true rfl⟩ (k_Ri fun r128 h => ?_)
  refine z_istore_n C dX12_one_131 (i := 2) (lc' := [some (.ref 100), some (.int (a1)), some (.int (r128)), none]) rfl (by decide) rfl ?_
  refine z_iload_n C dX12_one_132 (i := 1) rfl rfl ?_
  refine z_if_lt C dX12_one_133 (tgt := 148) (by decide) (fun c133 => ?_) (fun c133 => ?_)
  · have h := h.1 c133
    exact t_drop [true, false, false, false] rfl (j_X12_one_L2_148 hfl C hr hn9  s120 h)
  · have h := h.2 c133
    refine z_iload_n C dX12_one_136 (i := 2) rfl rfl ?_
    refine z_bipush C dX12_one_137 (v := 60) (by decide) ?_
    refine z_icmp_eq C dX12_one_139 (tgt := 158) (by decide) (fun c139 => ?_) (fun c139 => ?_)
    · have h := h.1 c139
      exact t_drop [true, true, true, false] rfl (j_X12_one_L2_158 hfl C hr hn9  s120 a1 r128 h)
    · have h := h.2 c139
      refine z_iload_n C dX12_one_142 (i := 2) rfl rfl ?_
      refine z_bipush C dX12_one_143 (v := 62) (by decide) ?_
      refine z_icmp_eq C dX12_one_145 (tgt := 158) (by decide) (fun c145 => ?_) (fun c145 => ?_)
      · have h := h.1 c145
        exact t_drop [true, true, true, false] rfl (j_X12_one_L2_158 hfl C hr hn9  s120 a1 r128 h)
      · have h := h.2 c145
        exact t_drop [true, false, false, false] rfl (j_X12_one_L2_148 hfl C hr hn9  s120 h)
def w_X12_one_L2_113 (P : zTs → Prop) (K91 : zTs → Int32 → Int32 → Prop) (st : zTs) (a1 : Int32) (a2 : Int32) : Prop := ∀ x113 : Int32, x113 = a2 + 1 → (K91 st a1 x113)
set_option maxHeartbeats 4000000 in
set_option maxRecDepth 100000 in
theorem j_X12_one_L2_113 {P : zTs → Prop} {K91 : zTs → Int32 → Int32 → Prop} (hfl : l.stackTraces = false) (C : zC Z p s m args meth c cX12_one 4 RX12) (hr : meth.sig.returnType = none) (hn9 : True) (hK91 : ∀ (st : zTs) (a1 : Int32) (a2 : Int32), K91 st a1 a2 → zG Z ad0 h0 p l e ({ frames := 31, cells := 0, slots := 0, locals := 645 } : Room) s m args below meth c (MQ below (zQ Z ad0 h0 (zWv Z zm1 P)) args s 0 0 (zA Z)) 0 0 (zh Z zm1 st) 4 91 [some (.ref 100), some (.int (a1)), some (.int (a2)), none] []) (st : zTs) (a1 : Int32) (a2 : Int32) (h : w_X12_one_L2_113 P K91 st a1 a2) : zG Z ad0 h0 p l e ({ frames := 31, cells := 0, slots := 0, locals := 645 } : Room) s m args below meth c (MQ below (zQ Z ad0 h0 (zWv Z zm1 P)) args s 0 0 (zA Z)) 0 0 (zh Z zm1 st) 4 113 [some (.ref 100), some (.int (a1)), some (.int (a2)), none] [] := by
  unfold w_X12_one_L2_113 at h
  obtain ⟨x113, ex113⟩ : ∃ z : Int32, z = a2 + 1 := ⟨_, rfl⟩
  have h := h x113 ex113
  refine z_iinc C dX12_one_113 (v := x113) (lc' := [some (.ref 100), some (.int (a1)), some (.int (x113)), none]) rfl (by decide) (by rw [ex113]; rfl) rfl ?_
  refine z_goto C dX12_one_116 (tgt := 91) (by decide) ?_
  exact t_drop [true, true, true, false] rfl (hK91 st a1 x113 h)
def w_X12_one_L2_91 (P : zTs → Prop)  : Nat → zTs → Int32 → Int32 → Prop
  | 0, _, _, _ => False
  | n9 + 1, st, a1, a2 => (3 ≤ a2 → w_X12_one_L2_119 P st a1) ∧ (¬ 3 ≤ a2 → (0 ≤ a1 → w_X12_one_L2_119 P st a1) ∧ (¬ 0 ≤ a1 → w_X12_measureOf st a2 (fun (r102 : Nat) => (w_X12_eat st r102 (fun (r105 : Int32) (s105 : zTs) => ((r105 = 0 → w_X12_one_L2_113 P (w_X12_one_L2_91 P n9) s105 a1 a2) ∧ (¬ r105 = 0 → w_X12_one_L2_113 P (w_X12_one_L2_91 P n9) s105 a2 a2)))))))
set_option maxHeartbeats 4000000 in
set_option maxRecDepth 100000 in
theorem j_X12_one_L2_91 {P : zTs → Prop}  (hfl : l.stackTraces = false) (C : zC Z p s m args meth c cX12_one 4 RX12) (hr : meth.sig.returnType = none) (hn9 : True)  : ∀ (n9 : Nat) (st : zTs) (a1 : Int32) (a2 : Int32), w_X12_one_L2_91 P n9 st a1 a2 → zG Z ad0 h0 p l e ({ frames := 31, cells := 0, slots := 0, locals := 645 } : Room) s m args below meth c (MQ below (zQ Z ad0 h0 (zWv Z zm1 P)) args s 0 0 (zA Z)) 0 0 (zh Z zm1 st) 4 91 [some (.ref 100), some (.int (a1)), some (.int (a2)), none] [] := by
  intro n9
  induction n9 with
  | zero => intro st a1 a2 h; exact h.elim
  | succ n9 hK91 =>
    intro st a1 a2 h
    rw [w_X12_one_L2_91] at h
    refine z_iload_n C dX12_one_91 (i := 2) rfl rfl ?_
    refine z_iconst C dX12_one_92 (v := 3) (by decide) ?_
    refine z_icmp_ge C dX12_one_93 (tgt := 119) (by decide) (fun c93 => ?_) (fun c93 => ?_)
    · have h := h.1 c93
      exact t_drop [true, true, false, false] rfl (j_X12_one_L2_119 hfl C hr hn9  st a1 h)
    · have h := h.2 c93
      refine z_iload_n C dX12_one_96 (i := 1) rfl rfl ?_
      refine z_if_ge C dX12_one_97 (tgt := 119) (by decide) (fun c97 => ?_) (fun c97 => ?_)
      · have h := h.1 c97
        exact t_drop [true, true, false, false] rfl (j_X12_one_L2_119 hfl C hr hn9  st a1 h)
      · have h := h.2 c97
        refine z_aload_n C dX12_one_100 (i := 0) rfl rfl ?_
        refine z_iload_n C dX12_one_101 (i := 2) rfl rfl ?_
        refine t_callS C (rest := [.ref 100]) (c2 := 0) (s2 := 0) [.int (a2)] dX12_one_102 lk_X12_339 ls_X12_measureOf (c_X12_measureOf hfl h) rfl rfl ⟨Nat.le_of_ble_eq_true rfl, Nat.le_of_ble_eq_true rfl⟩ (Nat.le_of_ble_eq_true rfl) ⟨Nat.le_of_ble_eq_true rfl, Nat.le_of_ble_eq_true rfl, Nat.le_of_ble_eq_true rfl, Nat.le_of_ble_eq_true rfl⟩ (k_Rr fun r102 h => ?_)
        refine t_callV C (rest := []) (c2 := 0) (s2 := 0) (kd := 100) (i := 0) [.ref (200 + 256 * r102)] dX12_one_105 lk_X12_313 li_X12_eat le_X12_eat (c_X12_eat hfl h) rfl rfl (by decide) rfl ⟨_, rfl⟩ rfl ⟨Nat.le_of_ble_eq_true rfl, Nat.le_of_ble_eq_true rfl⟩ (Nat.le_of_ble_eq_true rfl) ⟨Nat.le_of_ble_eq_true rfl, Nat.le_of_ble_eq_true rfl, Nat.le_of_ble_eq_true rfl, Nat.le_of_ble_eq_true rfl⟩ (k_Wi fun r105 s105 h => ?_)
        refine z_if_eq C dX12_one_108 (tgt := 113) (by decide) (fun c108 => ?_) (fun c108 => ?_)
        · have h := h.1 c108
          exact t_drop [true, true, true, false] rfl (j_X12_one_L2_113 hfl C hr hn9 hK91 s105 a1 a2 h)
        · have h := h.2 c108
          refine z_iload_n C dX12_one_111 (i := 2) rfl rfl ?_
          refine z_istore_n C dX12_one_112 (i := 1) (lc' := [some (.ref 100), some (.int (a2)), some (.int (a2)), none]) rfl (by decide) rfl ?_
          exact t_drop [true, true, true, false] rfl (j_X12_one_L2_113 hfl C hr hn9 hK91 s105 a2 a2 h)
def w_X12_one_L2 (st : zTs)  (P : zTs → Prop) : Prop := ((zgF st 100 0 9) ≤ 0 → w_X12_blanks st (fun (s9 : zTs) => (w_X12_isWord s9 20 (fun (r16 : Int32) (s16 : zTs) => ((r16 = 0 → w_X12_byteAt s16 (zgF s16 100 0 8) (fun (r53 : Int32) => ((r53 = 40 → w_X12_opens s16 1 (fun (s63 : zTs) => (w_X12_ors_L3 s63 (fun (s67 : zTs) => (w_X12_sign s67 41 (fun (s73 : zTs) => (∀ s83 : zTs, s83 = zuF s73 100 0 12 ((zgF s73 100 0 12) - 1) → (P s83)))))))) ∧ (¬ r53 = 40 → w_X12_one_L2_91 P zfu s16 (-1) (0))))) ∧ (¬ r16 = 0 → w_X12_opens s16 3 (fun (s24 : zTs) => (w_X12_one_L3 s24 (fun (s28 : zTs) => (∀ s38 : zTs, s38 = zuF s28 100 0 12 ((zgF s28 100 0 12) - 1) → (w_X12_emits s38 1 0 (fun (s44 : zTs) => (P s44))))))))))))) ∧ (¬ (zgF st 100 0 9) ≤ 0 → P st)
set_option maxHeartbeats 4000000 in
set_option maxRecDepth 100000 in
theorem c_X12_one_L2 {Z : zZ} {l : Launch} (hfl : l.stackTraces = false) {st : zTs}  {P : zTs → Prop} (h : w_X12_one_L2 st  P) : zN Z l yX12_one cX12_one 4 none ({ frames := 31, cells := 0, slots := 0, locals := 645 } : Room) (zh Z zm1 st) [.ref 100] (zWv Z zm1 P) := by
  unfold w_X12_one_L2 at h
  refine z_enterN (by decide) (Nat.le_of_ble_eq_true rfl) (lc0 := [some (.ref 100), none, none, none]) rfl ?_
  intro p e s m args below meth c ad0 C hr _
  have hn9 : True := trivial
  replace C : zC Z p s m args meth c cX12_one 4 RX12 := C
  refine z_aload_n C dX12_one_0 (i := 0) rfl rfl ?_
  refine t_get C dX12_one_1 fl_X12_239 (k := 100) (i := 0) (by decide) rfl (fg_100_9 _ _ _) ?_
  refine z_if_le C dX12_one_4 (tgt := 8) (by decide) (fun c4 => ?_) (fun c4 => ?_)
  · have h := h.1 c4
    refine z_aload_n C dX12_one_8 (i := 0) rfl rfl ?_
    refine t_callV C (rest := []) (c2 := 0) (s2 := 0) (kd := 100) (i := 0) [] dX12_one_9 lk_X12_242 li_X12_blanks le_X12_blanks (c_X12_blanks hfl h) rfl rfl (by decide) rfl ⟨_, rfl⟩ rfl ⟨Nat.le_of_ble_eq_true rfl, Nat.le_of_ble_eq_true rfl⟩ (Nat.le_of_ble_eq_true rfl) ⟨Nat.le_of_ble_eq_true rfl, Nat.le_of_ble_eq_true rfl, Nat.le_of_ble_eq_true rfl, Nat.le_of_ble_eq_true rfl⟩ (k_Wv fun s9 h => ?_)
    refine z_aload_n C dX12_one_12 (i := 0) rfl rfl ?_
    refine z_ldc_wS C dX12_one_13 (i := 20) (text := "not") (by decide) ?_
    refine t_callV C (rest := []) (c2 := 0) (s2 := 0) (kd := 100) (i := 0) [.ref (200 + 256 * 20)] dX12_one_16 lk_X12_255 li_X12_isWord le_X12_isWord (c_X12_isWord hfl h) rfl rfl (by decide) rfl ⟨_, rfl⟩ rfl ⟨Nat.le_of_ble_eq_true rfl, Nat.le_of_ble_eq_true rfl⟩ (Nat.le_of_ble_eq_true rfl) ⟨Nat.le_of_ble_eq_true rfl, Nat.le_of_ble_eq_true rfl, Nat.le_of_ble_eq_true rfl, Nat.le_of_ble_eq_true rfl⟩ (k_Wi fun r16 s16 h => ?_)
    refine z_if_eq C dX12_one_19 (tgt := 48) (by decide) (fun c19 => ?_) (fun c19 => ?_)
    · have h := h.1 c19
      refine z_aload_n C dX12_one_48 (i := 0) rfl rfl ?_
      refine z_aload_n C dX12_one_49 (i := 0) rfl rfl ?_
      refine t_get C dX12_one_50 fl_X12_232 (k := 100) (i := 0) (by decide) rfl (fg_100_8 _ _ _) ?_
      refine t_callV C (rest := []) (c2 := 0) (s2 := 0) (kd := 100) (i := 0) [.int (zgF s16 100 0 8)] dX12_one_53 lk_X12_235 li_X12_byteAt le_X12_byteAt (c_X12_byteAt hfl h) rfl rfl (by decide) rfl ⟨_, rfl⟩ rfl ⟨Nat.le_of_ble_eq_true rfl, Nat.le_of_ble_eq_true rfl⟩ (Nat.le_of_ble_eq_true rfl) ⟨Nat.le_of_ble_eq_true rfl, Nat.le_of_ble_eq_true rfl, Nat.le_of_ble_eq_true rfl, Nat.le_of_ble_eq_true rfl⟩ (k_Ri fun r53 h => ?_)
      refine z_bipush C dX12_one_56 (v := 40) (by decide) ?_
      refine z_icmp_ne C dX12_one_58 (tgt := 87) (by decide) (fun c58 => ?_) (fun c58 => ?_)
      · have h := h.2 c58
        refine z_iconst C dX12_one_87 (v := (-1)) (by decide) ?_
        refine z_istore_n C dX12_one_88 (i := 1) (lc' := [some (.ref 100), some (.int (-1)), none, none]) rfl (by decide) rfl ?_
        refine z_iconst C dX12_one_89 (v := 0) (by decide) ?_
        refine z_istore_n C dX12_one_90 (i := 2) (lc' := [some (.ref 100), some (.int (-1)), some (.int (0)), none]) rfl (by decide) rfl ?_
        exact t_drop [true, true, true, false] rfl (j_X12_one_L2_91 hfl C hr hn9  zfu s16 (-1) (0) h)
      · have h := h.1 c58
        refine z_aload_n C dX12_one_61 (i := 0) rfl rfl ?_
        refine z_iconst C dX12_one_62 (v := 1) (by decide) ?_
        refine t_callV C (rest := []) (c2 := 0) (s2 := 0) (kd := 100) (i := 0) [.int (1)] dX12_one_63 lk_X12_329 li_X12_opens le_X12_opens (c_X12_opens hfl h) rfl rfl (by decide) rfl ⟨_, rfl⟩ rfl ⟨Nat.le_of_ble_eq_true rfl, Nat.le_of_ble_eq_true rfl⟩ (Nat.le_of_ble_eq_true rfl) ⟨Nat.le_of_ble_eq_true rfl, Nat.le_of_ble_eq_true rfl, Nat.le_of_ble_eq_true rfl, Nat.le_of_ble_eq_true rfl⟩ (k_Wv fun s63 h => ?_)
        refine z_aload_n C dX12_one_66 (i := 0) rfl rfl ?_
        refine t_callV C (rest := []) (c2 := 0) (s2 := 0) (kd := 100) (i := 0) [] dX12_one_67 lk_X12_333 li_X12_ors le_X12_ors (c_X12_ors_L3 hfl h) rfl rfl (by decide) rfl ⟨_, rfl⟩ rfl ⟨Nat.le_of_ble_eq_true rfl, Nat.le_of_ble_eq_true rfl⟩ (Nat.le_of_ble_eq_true rfl) ⟨Nat.le_of_ble_eq_true rfl, Nat.le_of_ble_eq_true rfl, Nat.le_of_ble_eq_true rfl, Nat.le_of_ble_eq_true rfl⟩ (k_Wv fun s67 h => ?_)
        refine z_aload_n C dX12_one_70 (i := 0) rfl rfl ?_
        refine z_bipush C dX12_one_71 (v := 41) (by decide) ?_
        refine t_callV C (rest := []) (c2 := 0) (s2 := 0) (kd := 100) (i := 0) [.int (41)] dX12_one_73 lk_X12_336 li_X12_sign le_X12_sign (c_X12_sign hfl h) rfl rfl (by decide) rfl ⟨_, rfl⟩ rfl ⟨Nat.le_of_ble_eq_true rfl, Nat.le_of_ble_eq_true rfl⟩ (Nat.le_of_ble_eq_true rfl) ⟨Nat.le_of_ble_eq_true rfl, Nat.le_of_ble_eq_true rfl, Nat.le_of_ble_eq_true rfl, Nat.le_of_ble_eq_true rfl⟩ (k_Wv fun s73 h => ?_)
        refine z_aload_n C dX12_one_76 (i := 0) rfl rfl ?_
        refine z_dup C dX12_one_77 rfl ?_
        refine t_get C dX12_one_78 fl_X12_324 (k := 100) (i := 0) (by decide) rfl (fg_100_12 _ _ _) ?_
        refine z_iconst C dX12_one_81 (v := 1) (by decide) ?_
        refine z_isub C dX12_one_82 ?_
        refine t_put C dX12_one_83 fq_X12_324 (Or.inl rfl) (k := 100) (i := 0) (by decide) rfl ⟨rfl, rfl⟩ (fp_100_12 _ _ _ _ _) ?_
        refine t_tops (fun s83 es83 => ?_)
        have h := h s83 es83
        exact z_vret C dX12_one_86 hr ⟨_, rfl, rfl, h⟩ (Nat.le_of_ble_eq_true rfl) (Nat.le_of_ble_eq_true rfl)
    · have h := h.2 c19
      refine z_aload_n C dX12_one_22 (i := 0) rfl rfl ?_
      refine z_iconst C dX12_one_23 (v := 3) (by decide) ?_
      refine t_callV C (rest := []) (c2 := 0) (s2 := 0) (kd := 100) (i := 0) [.int (3)] dX12_one_24 lk_X12_329 li_X12_opens le_X12_opens (c_X12_opens hfl h) rfl rfl (by decide) rfl ⟨_, rfl⟩ rfl ⟨Nat.le_of_ble_eq_true rfl, Nat.le_of_ble_eq_true rfl⟩ (Nat.le_of_ble_eq_true rfl) ⟨Nat.le_of_ble_eq_true rfl, Nat.le_of_ble_eq_true rfl, Nat.le_of_ble_eq_true rfl, Nat.le_of_ble_eq_true rfl⟩ (k_Wv fun s24 h => ?_)
      refine z_aload_n C dX12_one_27 (i := 0) rfl rfl ?_
      refine t_callV C (rest := []) (c2 := 0) (s2 := 0) (kd := 100) (i := 0) [] dX12_one_28 lk_X12_319 li_X12_one le_X12_one (c_X12_one_L3 hfl h) rfl rfl (by decide) rfl ⟨_, rfl⟩ rfl ⟨Nat.le_of_ble_eq_true rfl, Nat.le_of_ble_eq_true rfl⟩ (Nat.le_of_ble_eq_true rfl) ⟨Nat.le_of_ble_eq_true rfl, Nat.le_of_ble_eq_true rfl, Nat.le_of_ble_eq_true rfl, Nat.le_of_ble_eq_true rfl⟩ (k_Wv fun s28 h => ?_)
      refine z_aload_n C dX12_one_31 (i := 0) rfl rfl ?_
      refine z_dup C dX12_one_32 rfl ?_
      refine t_get C dX12_one_33 fl_X12_324 (k := 100) (i := 0) (by decide) rfl (fg_100_12 _ _ _) ?_
      refine z_iconst C dX12_one_36 (v := 1) (by decide) ?_
      refine z_isub C dX12_one_37 ?_
      refine t_put C dX12_one_38 fq_X12_324 (Or.inl rfl) (k := 100) (i := 0) (by decide) rfl ⟨rfl, rfl⟩ (fp_100_12 _ _ _ _ _) ?_
      refine t_tops (fun s38 es38 => ?_)
      have h := h s38 es38
      refine z_aload_n C dX12_one_41 (i := 0) rfl rfl ?_
      refine z_iconst C dX12_one_42 (v := 1) (by decide) ?_
      refine z_iconst C dX12_one_43 (v := 0) (by decide) ?_
      refine t_callV C (rest := []) (c2 := 0) (s2 := 0) (kd := 100) (i := 0) [.int (1), .int (0)] dX12_one_44 lk_X12_316 li_X12_emits le_X12_emits (c_X12_emits hfl h) rfl rfl (by decide) rfl ⟨_, rfl⟩ rfl ⟨Nat.le_of_ble_eq_true rfl, Nat.le_of_ble_eq_true rfl⟩ (Nat.le_of_ble_eq_true rfl) ⟨Nat.le_of_ble_eq_true rfl, Nat.le_of_ble_eq_true rfl, Nat.le_of_ble_eq_true rfl, Nat.le_of_ble_eq_true rfl⟩ (k_Wv fun s44 h => ?_)
      exact z_vret C dX12_one_47 hr ⟨_, rfl, rfl, h⟩ (Nat.le_of_ble_eq_true rfl) (Nat.le_of_ble_eq_true rfl)
  · have h := h.2 c4
    exact z_vret C dX12_one_7 hr ⟨_, rfl, rfl, h⟩ (Nat.le_of_ble_eq_true rfl) (Nat.le_of_ble_eq_true rfl)
def w_X12_ands_L2_4 (P : zTs → Prop)  : Nat → zTs → Prop
  | 0, _ => False
  | n9 + 1, st => w_X12_eat st 19 (fun (r8 : Int32) (s8 : zTs) => ((r8 = 0 → P s8) ∧ (¬ r8 = 0 → w_X12_one_L2 s8 (fun (s15 : zTs) => (w_X12_emits s15 2 0 (fun (s21 : zTs) => ((w_X12_ands_L2_4 P n9) s21)))))))
set_option maxHeartbeats 4000000 in
set_option maxRecDepth 100000 in
theorem j_X12_ands_L2_4 {P : zTs → Prop}  (hfl : l.stackTraces = false) (C : zC Z p s m args meth c cX12_ands 1 RX12) (hr : meth.sig.returnType = none) (hn9 : True)  : ∀ (n9 : Nat) (st : zTs), w_X12_ands_L2_4 P n9 st → zG Z ad0 h0 p l e ({ frames := 32, cells := 0, slots := 0, locals := 668 } : Room) s m args below meth c (MQ below (zQ Z ad0 h0 (zWv Z zm1 P)) args s 0 0 (zA Z)) 0 0 (zh Z zm1 st) 1 4 [some (.ref 100)] [] := by
  intro n9
  induction n9 with
  | zero => intro st h; exact h.elim
  | succ n9 hK4 =>
    intro st h
    rw [w_X12_ands_L2_4] at h
    refine z_aload_n C dX12_ands_4 (i := 0) rfl rfl ?_
    refine z_ldc_wS C dX12_ands_5 (i := 19) (text := "and") (by decide) ?_
    refine t_callV C (rest := []) (c2 := 0) (s2 := 0) (kd := 100) (i := 0) [.ref (200 + 256 * 19)] dX12_ands_8 lk_X12_313 li_X12_eat le_X12_eat (c_X12_eat hfl h) rfl rfl (by decide) rfl ⟨_, rfl⟩ rfl ⟨Nat.le_of_ble_eq_true rfl, Nat.le_of_ble_eq_true rfl⟩ (Nat.le_of_ble_eq_true rfl) ⟨Nat.le_of_ble_eq_true rfl, Nat.le_of_ble_eq_true rfl, Nat.le_of_ble_eq_true rfl, Nat.le_of_ble_eq_true rfl⟩ (k_Wi fun r8 s8 h => ?_)
    refine z_if_eq C dX12_ands_11 (tgt := 27) (by decide) (fun c11 => ?_) (fun c11 => ?_)
    · have h := h.1 c11
      exact z_vret C dX12_ands_27 hr ⟨_, rfl, rfl, h⟩ (Nat.le_of_ble_eq_true rfl) (Nat.le_of_ble_eq_true rfl)
    · have h := h.2 c11
      refine z_aload_n C dX12_ands_14 (i := 0) rfl rfl ?_
      refine t_callV C (rest := []) (c2 := 0) (s2 := 0) (kd := 100) (i := 0) [] dX12_ands_15 lk_X12_319 li_X12_one le_X12_one (c_X12_one_L2 hfl h) rfl rfl (by decide) rfl ⟨_, rfl⟩ rfl ⟨Nat.le_of_ble_eq_true rfl, Nat.le_of_ble_eq_true rfl⟩ (Nat.le_of_ble_eq_true rfl) ⟨Nat.le_of_ble_eq_true rfl, Nat.le_of_ble_eq_true rfl, Nat.le_of_ble_eq_true rfl, Nat.le_of_ble_eq_true rfl⟩ (k_Wv fun s15 h => ?_)
      refine z_aload_n C dX12_ands_18 (i := 0) rfl rfl ?_
      refine z_iconst C dX12_ands_19 (v := 2) (by decide) ?_
      refine z_iconst C dX12_ands_20 (v := 0) (by decide) ?_
      refine t_callV C (rest := []) (c2 := 0) (s2 := 0) (kd := 100) (i := 0) [.int (2), .int (0)] dX12_ands_21 lk_X12_316 li_X12_emits le_X12_emits (c_X12_emits hfl h) rfl rfl (by decide) rfl ⟨_, rfl⟩ rfl ⟨Nat.le_of_ble_eq_true rfl, Nat.le_of_ble_eq_true rfl⟩ (Nat.le_of_ble_eq_true rfl) ⟨Nat.le_of_ble_eq_true rfl, Nat.le_of_ble_eq_true rfl, Nat.le_of_ble_eq_true rfl, Nat.le_of_ble_eq_true rfl⟩ (k_Wv fun s21 h => ?_)
      refine z_goto C dX12_ands_24 (tgt := 4) (by decide) ?_
      exact t_drop [true] rfl (hK4 s21 h)
def w_X12_ands_L2 (st : zTs)  (P : zTs → Prop) : Prop := w_X12_one_L2 st (fun (s1 : zTs) => (w_X12_ands_L2_4 P zfu s1))
set_option maxHeartbeats 4000000 in
set_option maxRecDepth 100000 in
theorem c_X12_ands_L2 {Z : zZ} {l : Launch} (hfl : l.stackTraces = false) {st : zTs}  {P : zTs → Prop} (h : w_X12_ands_L2 st  P) : zN Z l yX12_ands cX12_ands 1 none ({ frames := 32, cells := 0, slots := 0, locals := 668 } : Room) (zh Z zm1 st) [.ref 100] (zWv Z zm1 P) := by
  unfold w_X12_ands_L2 at h
  refine z_enterN (by decide) (Nat.le_of_ble_eq_true rfl) (lc0 := [some (.ref 100)]) rfl ?_
  intro p e s m args below meth c ad0 C hr _
  have hn9 : True := trivial
  replace C : zC Z p s m args meth c cX12_ands 1 RX12 := C
  refine z_aload_n C dX12_ands_0 (i := 0) rfl rfl ?_
  refine t_callV C (rest := []) (c2 := 0) (s2 := 0) (kd := 100) (i := 0) [] dX12_ands_1 lk_X12_319 li_X12_one le_X12_one (c_X12_one_L2 hfl h) rfl rfl (by decide) rfl ⟨_, rfl⟩ rfl ⟨Nat.le_of_ble_eq_true rfl, Nat.le_of_ble_eq_true rfl⟩ (Nat.le_of_ble_eq_true rfl) ⟨Nat.le_of_ble_eq_true rfl, Nat.le_of_ble_eq_true rfl, Nat.le_of_ble_eq_true rfl, Nat.le_of_ble_eq_true rfl⟩ (k_Wv fun s1 h => ?_)
  exact t_drop [true] rfl (j_X12_ands_L2_4 hfl C hr hn9  zfu s1 h)
def w_X12_ors_L2_4 (P : zTs → Prop)  : Nat → zTs → Prop
  | 0, _ => False
  | n9 + 1, st => w_X12_eat st 18 (fun (r8 : Int32) (s8 : zTs) => ((r8 = 0 → P s8) ∧ (¬ r8 = 0 → w_X12_ands_L2 s8 (fun (s15 : zTs) => (w_X12_emits s15 3 0 (fun (s21 : zTs) => ((w_X12_ors_L2_4 P n9) s21)))))))
set_option maxHeartbeats 4000000 in
set_option maxRecDepth 100000 in
theorem j_X12_ors_L2_4 {P : zTs → Prop}  (hfl : l.stackTraces = false) (C : zC Z p s m args meth c cX12_ors 1 RX12) (hr : meth.sig.returnType = none) (hn9 : True)  : ∀ (n9 : Nat) (st : zTs), w_X12_ors_L2_4 P n9 st → zG Z ad0 h0 p l e ({ frames := 33, cells := 0, slots := 0, locals := 688 } : Room) s m args below meth c (MQ below (zQ Z ad0 h0 (zWv Z zm1 P)) args s 0 0 (zA Z)) 0 0 (zh Z zm1 st) 1 4 [some (.ref 100)] [] := by
  intro n9
  induction n9 with
  | zero => intro st h; exact h.elim
  | succ n9 hK4 =>
    intro st h
    rw [w_X12_ors_L2_4] at h
    refine z_aload_n C dX12_ors_4 (i := 0) rfl rfl ?_
    refine z_ldc_wS C dX12_ors_5 (i := 18) (text := "or") (by decide) ?_
    refine t_callV C (rest := []) (c2 := 0) (s2 := 0) (kd := 100) (i := 0) [.ref (200 + 256 * 18)] dX12_ors_8 lk_X12_313 li_X12_eat le_X12_eat (c_X12_eat hfl h) rfl rfl (by decide) rfl ⟨_, rfl⟩ rfl ⟨Nat.le_of_ble_eq_true rfl, Nat.le_of_ble_eq_true rfl⟩ (Nat.le_of_ble_eq_true rfl) ⟨Nat.le_of_ble_eq_true rfl, Nat.le_of_ble_eq_true rfl, Nat.le_of_ble_eq_true rfl, Nat.le_of_ble_eq_true rfl⟩ (k_Wi fun r8 s8 h => ?_)
    refine z_if_eq C dX12_ors_11 (tgt := 27) (by decide) (fun c11 => ?_) (fun c11 => ?_)
    · have h := h.1 c11
      exact z_vret C dX12_ors_27 hr ⟨_, rfl, rfl, h⟩ (Nat.le_of_ble_eq_true rfl) (Nat.le_of_ble_eq_true rfl)
    · have h := h.2 c11
      refine z_aload_n C dX12_ors_14 (i := 0) rfl rfl ?_
      refine t_callV C (rest := []) (c2 := 0) (s2 := 0) (kd := 100) (i := 0) [] dX12_ors_15 lk_X12_308 li_X12_ands le_X12_ands (c_X12_ands_L2 hfl h) rfl rfl (by decide) rfl ⟨_, rfl⟩ rfl ⟨Nat.le_of_ble_eq_true rfl, Nat.le_of_ble_eq_true rfl⟩ (Nat.le_of_ble_eq_true rfl) ⟨Nat.le_of_ble_eq_true rfl, Nat.le_of_ble_eq_true rfl, Nat.le_of_ble_eq_true rfl, Nat.le_of_ble_eq_true rfl⟩ (k_Wv fun s15 h => ?_)
      refine z_aload_n C dX12_ors_18 (i := 0) rfl rfl ?_
      refine z_iconst C dX12_ors_19 (v := 3) (by decide) ?_
      refine z_iconst C dX12_ors_20 (v := 0) (by decide) ?_
      refine t_callV C (rest := []) (c2 := 0) (s2 := 0) (kd := 100) (i := 0) [.int (3), .int (0)] dX12_ors_21 lk_X12_316 li_X12_emits le_X12_emits (c_X12_emits hfl h) rfl rfl (by decide) rfl ⟨_, rfl⟩ rfl ⟨Nat.le_of_ble_eq_true rfl, Nat.le_of_ble_eq_true rfl⟩ (Nat.le_of_ble_eq_true rfl) ⟨Nat.le_of_ble_eq_true rfl, Nat.le_of_ble_eq_true rfl, Nat.le_of_ble_eq_true rfl, Nat.le_of_ble_eq_true rfl⟩ (k_Wv fun s21 h => ?_)
      refine z_goto C dX12_ors_24 (tgt := 4) (by decide) ?_
      exact t_drop [true] rfl (hK4 s21 h)
def w_X12_ors_L2 (st : zTs)  (P : zTs → Prop) : Prop := w_X12_ands_L2 st (fun (s1 : zTs) => (w_X12_ors_L2_4 P zfu s1))
set_option maxHeartbeats 4000000 in
set_option maxRecDepth 100000 in
theorem c_X12_ors_L2 {Z : zZ} {l : Launch} (hfl : l.stackTraces = false) {st : zTs}  {P : zTs → Prop} (h : w_X12_ors_L2 st  P) : zN Z l yX12_ors cX12_ors 1 none ({ frames := 33, cells := 0, slots := 0, locals := 688 } : Room) (zh Z zm1 st) [.ref 100] (zWv Z zm1 P) := by
  unfold w_X12_ors_L2 at h
  refine z_enterN (by decide) (Nat.le_of_ble_eq_true rfl) (lc0 := [some (.ref 100)]) rfl ?_
  intro p e s m args below meth c ad0 C hr _
  have hn9 : True := trivial
  replace C : zC Z p s m args meth c cX12_ors 1 RX12 := C
  refine z_aload_n C dX12_ors_0 (i := 0) rfl rfl ?_
  refine t_callV C (rest := []) (c2 := 0) (s2 := 0) (kd := 100) (i := 0) [] dX12_ors_1 lk_X12_308 li_X12_ands le_X12_ands (c_X12_ands_L2 hfl h) rfl rfl (by decide) rfl ⟨_, rfl⟩ rfl ⟨Nat.le_of_ble_eq_true rfl, Nat.le_of_ble_eq_true rfl⟩ (Nat.le_of_ble_eq_true rfl) ⟨Nat.le_of_ble_eq_true rfl, Nat.le_of_ble_eq_true rfl, Nat.le_of_ble_eq_true rfl, Nat.le_of_ble_eq_true rfl⟩ (k_Wv fun s1 h => ?_)
  exact t_drop [true] rfl (j_X12_ors_L2_4 hfl C hr hn9  zfu s1 h)
def w_X12_one_L1_189 (P : zTs → Prop)  (st : zTs) (a1 : Int32) (a3 : Int32) (b0 : Int32) : Prop := w_X12_emits st b0 ((3 * a3) + a1) (fun (s194 : zTs) => (P s194))
set_option maxHeartbeats 4000000 in
set_option maxRecDepth 100000 in
theorem j_X12_one_L1_189 {P : zTs → Prop}  (hfl : l.stackTraces = false) (C : zC Z p s m args meth c cX12_one 4 RX12) (hr : meth.sig.returnType = none) (hn9 : True)  (st : zTs) (a1 : Int32) (a3 : Int32) (b0 : Int32) (h : w_X12_one_L1_189 P st a1 a3 b0) : zG Z ad0 h0 p l e ({ frames := 34, cells := 0, slots := 0, locals := 708 } : Room) s m args below meth c (MQ below (zQ Z ad0 h0 (zWv Z zm1 P)) args s 0 0 (zA Z)) 0 0 (zh Z zm1 st) 4 189 [none, some (.int (a1)), none, some (.int (a3))] [.int (b0), .ref 100] := by
  unfold w_X12_one_L1_189 at h
  refine z_iconst C dX12_one_189 (v := 3) (by decide) ?_
  refine z_iload_n C dX12_one_190 (i := 3) rfl rfl ?_
  refine z_imul C dX12_one_191 ?_
  refine z_iload_n C dX12_one_192 (i := 1) rfl rfl ?_
  refine z_iadd C dX12_one_193 ?_
  refine t_callV C (rest := []) (c2 := 0) (s2 := 0) (kd := 100) (i := 0) [.int (b0), .int ((3 * a3) + a1)] dX12_one_194 lk_X12_316 li_X12_emits le_X12_emits (c_X12_emits hfl h) rfl rfl (by decide) rfl ⟨_, rfl⟩ rfl ⟨Nat.le_of_ble_eq_true rfl, Nat.le_of_ble_eq_true rfl⟩ (Nat.le_of_ble_eq_true rfl) ⟨Nat.le_of_ble_eq_true rfl, Nat.le_of_ble_eq_true rfl, Nat.le_of_ble_eq_true rfl, Nat.le_of_ble_eq_true rfl⟩ (k_Wv fun s194 h => ?_)
  exact z_vret C dX12_one_197 hr ⟨_, rfl, rfl, h⟩ (Nat.le_of_ble_eq_true rfl) (Nat.le_of_ble_eq_true rfl)
def w_X12_one_L1_158 (P : zTs → Prop)  (st : zTs) (a1 : Int32) (a2 : Int32) : Prop := ∀ s165 : zTs, s165 = zuF st 100 0 8 ((zgF st 100 0 8) + 1) → (w_X12_number s165 0 9999 (fun (r173 : Int32) (s173 : zTs) => ((a2 = 60 → w_X12_one_L1_189 P s173 a1 r173 (4)) ∧ (¬ a2 = 60 → w_X12_one_L1_189 P s173 a1 r173 (5)))))
set_option maxHeartbeats 4000000 in
set_option maxRecDepth 100000 in
theorem j_X12_one_L1_158 {P : zTs → Prop}  (hfl : l.stackTraces = false) (C : zC Z p s m args meth c cX12_one 4 RX12) (hr : meth.sig.returnType = none) (hn9 : True)  (st : zTs) (a1 : Int32) (a2 : Int32) (h : w_X12_one_L1_158 P st a1 a2) : zG Z ad0 h0 p l e ({ frames := 34, cells := 0, slots := 0, locals := 708 } : Room) s m args below meth c (MQ below (zQ Z ad0 h0 (zWv Z zm1 P)) args s 0 0 (zA Z)) 0 0 (zh Z zm1 st) 4 158 [some (.ref 100), some (.int (a1)), some (.int (a2)), none] [] := by
  unfold w_X12_one_L1_158 at h
  refine z_aload_n C dX12_one_158 (i := 0) rfl rfl ?_
  refine z_dup C dX12_one_159 rfl ?_
  refine t_get C dX12_one_160 fl_X12_232 (k := 100) (i := 0) (by decide) rfl (fg_100_8 _ _ _) ?_
  refine z_iconst C dX12_one_163 (v := 1) (by decide) ?_
  refine z_iadd C dX12_one_164 ?_
  refine t_put C dX12_one_165 fq_X12_232 (Or.inl rfl) (k := 100) (i := 0) (by decide) rfl ⟨rfl, rfl⟩ (fp_100_8 _ _ _ _ _) ?_
  refine t_tops (fun s165 es165 => ?_)
  have h := h s165 es165
  refine z_aload_n C dX12_one_168 (i := 0) rfl rfl ?_
  refine z_iconst C dX12_one_169 (v := 0) (by decide) ?_
  refine z_sipush C dX12_one_170 (v := 9999) (by decide) ?_
  refine t_callV C (rest := []) (c2 := 0) (s2 := 0) (kd := 100) (i := 0) [.int (0), .int (9999)] dX12_one_173 lk_X12_342 li_X12_number le_X12_number (c_X12_number hfl h) rfl rfl (by decide) rfl ⟨_, rfl⟩ rfl ⟨Nat.le_of_ble_eq_true rfl, Nat.le_of_ble_eq_true rfl⟩ (Nat.le_of_ble_eq_true rfl) ⟨Nat.le_of_ble_eq_true rfl, Nat.le_of_ble_eq_true rfl, Nat.le_of_ble_eq_true rfl, Nat.le_of_ble_eq_true rfl⟩ (k_Wi fun r173 s173 h => ?_)
  refine z_istore_n C dX12_one_176 (i := 3) (lc' := [some (.ref 100), some (.int (a1)), some (.int (a2)), some (.int (r173))]) rfl (by decide) rfl ?_
  refine z_aload_n C dX12_one_177 (i := 0) rfl rfl ?_
  refine z_iload_n C dX12_one_178 (i := 2) rfl rfl ?_
  refine z_bipush C dX12_one_179 (v := 60) (by decide) ?_
  refine z_icmp_ne C dX12_one_181 (tgt := 188) (by decide) (fun c181 => ?_) (fun c181 => ?_)
  · have h := h.2 c181
    refine z_iconst C dX12_one_188 (v := 5) (by decide) ?_
    exact t_drop [false, true, false, true] rfl (j_X12_one_L1_189 hfl C hr hn9  s173 a1 r173 (5) h)
  · have h := h.1 c181
    refine z_iconst C dX12_one_184 (v := 4) (by decide) ?_
    refine z_goto C dX12_one_185 (tgt := 189) (by decide) ?_
    exact t_drop [false, true, false, true] rfl (j_X12_one_L1_189 hfl C hr hn9  s173 a1 r173 (4) h)
def w_X12_one_L1_148 (P : zTs → Prop)  (st : zTs) : Prop := w_X12_wrong st 1 (zgF st 100 0 8) (fun (s154 : zTs) => (P s154))
set_option maxHeartbeats 4000000 in
set_option maxRecDepth 100000 in
theorem j_X12_one_L1_148 {P : zTs → Prop}  (hfl : l.stackTraces = false) (C : zC Z p s m args meth c cX12_one 4 RX12) (hr : meth.sig.returnType = none) (hn9 : True)  (st : zTs) (h : w_X12_one_L1_148 P st) : zG Z ad0 h0 p l e ({ frames := 34, cells := 0, slots := 0, locals := 708 } : Room) s m args below meth c (MQ below (zQ Z ad0 h0 (zWv Z zm1 P)) args s 0 0 (zA Z)) 0 0 (zh Z zm1 st) 4 148 [some (.ref 100), none, none, none] [] := by
  unfold w_X12_one_L1_148 at h
  refine z_aload_n C dX12_one_148 (i := 0) rfl rfl ?_
  refine z_iconst C dX12_one_149 (v := 1) (by decide) ?_
  refine z_aload_n C dX12_one_150 (i := 0) rfl rfl ?_
  refine t_get C dX12_one_151 fl_X12_232 (k := 100) (i := 0) (by decide) rfl (fg_100_8 _ _ _) ?_
  refine t_callV C (rest := []) (c2 := 0) (s2 := 0) (kd := 100) (i := 0) [.int (1), .int (zgF st 100 0 8)] dX12_one_154 lk_X12_300 li_X12_wrong le_X12_wrong (c_X12_wrong hfl h) rfl rfl (by decide) rfl ⟨_, rfl⟩ rfl ⟨Nat.le_of_ble_eq_true rfl, Nat.le_of_ble_eq_true rfl⟩ (Nat.le_of_ble_eq_true rfl) ⟨Nat.le_of_ble_eq_true rfl, Nat.le_of_ble_eq_true rfl, Nat.le_of_ble_eq_true rfl, Nat.le_of_ble_eq_true rfl⟩ (k_Wv fun s154 h => ?_)
  exact z_vret C dX12_one_157 hr ⟨_, rfl, rfl, h⟩ (Nat.le_of_ble_eq_true rfl) (Nat.le_of_ble_eq_true rfl)
def w_X12_one_L1_119 (P : zTs → Prop)  (st : zTs) (a1 : Int32) : Prop := w_X12_blanks st (fun (s120 : zTs) => (w_X12_byteAt s120 (zgF s120 100 0 8) (fun (r128 : Int32) => ((a1 < 0 → w_X12_one_L1_148 P s120) ∧ (¬ a1 < 0 → (r128 = 60 → w_X12_one_L1_158 P s120 a1 r128) ∧ (¬ r128 = 60 → (r128 = 62 → w_X12_one_L1_158 P s120 a1 r128) ∧ (¬ r128 = 62 → w_X12_one_L1_148 P s120)))))))
set_option maxHeartbeats 4000000 in
set_option maxRecDepth 100000 in
theorem j_X12_one_L1_119 {P : zTs → Prop}  (hfl : l.stackTraces = false) (C : zC Z p s m args meth c cX12_one 4 RX12) (hr : meth.sig.returnType = none) (hn9 : True)  (st : zTs) (a1 : Int32) (h : w_X12_one_L1_119 P st a1) : zG Z ad0 h0 p l e ({ frames := 34, cells := 0, slots := 0, locals := 708 } : Room) s m args below meth c (MQ below (zQ Z ad0 h0 (zWv Z zm1 P)) args s 0 0 (zA Z)) 0 0 (zh Z zm1 st) 4 119 [some (.ref 100), some (.int (a1)), none, none] [] := by
  unfold w_X12_one_L1_119 at h
  refine z_aload_n C dX12_one_119 (i := 0) rfl rfl ?_
  refine t_callV C (rest := []) (c2 := 0) (s2 := 0) (kd := 100) (i := 0) [] dX12_one_120 lk_X12_242 li_X12_blanks le_X12_blanks (c_X12_blanks hfl h) rfl rfl (by decide) rfl ⟨_, rfl⟩ rfl ⟨Nat.le_of_ble_eq_true rfl, Nat.le_of_ble_eq_true rfl⟩ (Nat.le_of_ble_eq_true rfl) ⟨Nat.le_of_ble_eq_true rfl, Nat.le_of_ble_eq_true rfl, Nat.le_of_ble_eq_true rfl, Nat.le_of_ble_eq_true rfl⟩ (k_Wv fun s120 h => ?_)
  refine z_aload_n C dX12_one_123 (i := 0) rfl rfl ?_
  refine z_aload_n C dX12_one_124 (i := 0) rfl rfl ?_
  refine t_get C dX12_one_125 fl_X12_232 (k := 100) (i := 0) (by decide) rfl (fg_100_8 _ _ _) ?_
  refine t_callV C (rest := []) (c2 := 0) (s2 := 0) (kd := 100) (i := 0) [.int (zgF s120 100 0 8)] dX12_one_128 lk_X12_235 li_X12_byteAt le_X12_byteAt (c_X12_byteAt hfl h) rfl rfl (by decide) rfl ⟨_, rfl⟩ rfl ⟨Nat.le_of_ble_eq_true rfl, Nat.le_of_ble_eq_true rfl⟩ (Nat.le_of_ble_eq_true rfl) ⟨Nat.le_of_ble_eq_true rfl, Nat.le_of_ble_eq_true rfl, Nat.le_of_ble_eq_true rfl, Nat.le_of_ble_eq_true rfl⟩ (k_Ri fun r128 h => ?_)
  refine z_istore_n C dX12_one_131 (i := 2) (lc' := [some (.ref 100), some (.int (a1)), some (.int (r128)), none]) rfl (by decide) rfl ?_
  refine z_iload_n C dX12_one_132 (i := 1) rfl rfl ?_
  refine z_if_lt C dX12_one_133 (tgt := 148) (by decide) (fun c133 => ?_) (fun c133 => ?_)
  · have h := h.1 c133
    exact t_drop [true, false, false, false] rfl (j_X12_one_L1_148 hfl C hr hn9  s120 h)
  · have h := h.2 c133
    refine z_iload_n C dX12_one_136 (i := 2) rfl rfl ?_
    refine z_bipush C dX12_one_137 (v := 60) (by decide) ?_
    refine z_icmp_eq C dX12_one_139 (tgt := 158) (by decide) (fun c139 => ?_) (fun c139 => ?_)
    · have h := h.1 c139
      exact t_drop [true, true, true, false] rfl (j_X12_one_L1_158 hfl C hr hn9  s120 a1 r128 h)
    · have h := h.2 c139
      refine z_iload_n C dX12_one_142 (i := 2) rfl rfl ?_
      refine z_bipush C dX12_one_143 (v := 62) (by decide) ?_
      refine z_icmp_eq C dX12_one_145 (tgt := 158) (by decide) (fun c145 => ?_) (fun c145 => ?_)
      · have h := h.1 c145
        exact t_drop [true, true, true, false] rfl (j_X12_one_L1_158 hfl C hr hn9  s120 a1 r128 h)
      · have h := h.2 c145
        exact t_drop [true, false, false, false] rfl (j_X12_one_L1_148 hfl C hr hn9  s120 h)
def w_X12_one_L1_113 (P : zTs → Prop) (K91 : zTs → Int32 → Int32 → Prop) (st : zTs) (a1 : Int32) (a2 : Int32) : Prop := ∀ x113 : Int32, x113 = a2 + 1 → (K91 st a1 x113)
set_option maxHeartbeats 4000000 in
set_option maxRecDepth 100000 in
theorem j_X12_one_L1_113 {P : zTs → Prop} {K91 : zTs → Int32 → Int32 → Prop} (hfl : l.stackTraces = false) (C : zC Z p s m args meth c cX12_one 4 RX12) (hr : meth.sig.returnType = none) (hn9 : True) (hK91 : ∀ (st : zTs) (a1 : Int32) (a2 : Int32), K91 st a1 a2 → zG Z ad0 h0 p l e ({ frames := 34, cells := 0, slots := 0, locals := 708 } : Room) s m args below meth c (MQ below (zQ Z ad0 h0 (zWv Z zm1 P)) args s 0 0 (zA Z)) 0 0 (zh Z zm1 st) 4 91 [some (.ref 100), some (.int (a1)), some (.int (a2)), none] []) (st : zTs) (a1 : Int32) (a2 : Int32) (h : w_X12_one_L1_113 P K91 st a1 a2) : zG Z ad0 h0 p l e ({ frames := 34, cells := 0, slots := 0, locals := 708 } : Room) s m args below meth c (MQ below (zQ Z ad0 h0 (zWv Z zm1 P)) args s 0 0 (zA Z)) 0 0 (zh Z zm1 st) 4 113 [some (.ref 100), some (.int (a1)), some (.int (a2)), none] [] := by
  unfold w_X12_one_L1_113 at h
  obtain ⟨x113, ex113⟩ : ∃ z : Int32, z = a2 + 1 := ⟨_, rfl⟩
  have h := h x113 ex113
  refine z_iinc C dX12_one_113 (v := x113) (lc' := [some (.ref 100), some (.int (a1)), some (.int (x113)), none]) rfl (by decide) (by rw [ex113]; rfl) rfl ?_
  refine z_goto C dX12_one_116 (tgt := 91) (by decide) ?_
  exact t_drop [true, true, true, false] rfl (hK91 st a1 x113 h)
def w_X12_one_L1_91 (P : zTs → Prop)  : Nat → zTs → Int32 → Int32 → Prop
  | 0, _, _, _ => False
  | n9 + 1, st, a1, a2 => (3 ≤ a2 → w_X12_one_L1_119 P st a1) ∧ (¬ 3 ≤ a2 → (0 ≤ a1 → w_X12_one_L1_119 P st a1) ∧ (¬ 0 ≤ a1 → w_X12_measureOf st a2 (fun (r102 : Nat) => (w_X12_eat st r102 (fun (r105 : Int32) (s105 : zTs) => ((r105 = 0 → w_X12_one_L1_113 P (w_X12_one_L1_91 P n9) s105 a1 a2) ∧ (¬ r105 = 0 → w_X12_one_L1_113 P (w_X12_one_L1_91 P n9) s105 a2 a2)))))))
set_option maxHeartbeats 4000000 in
set_option maxRecDepth 100000 in
theorem j_X12_one_L1_91 {P : zTs → Prop}  (hfl : l.stackTraces = false) (C : zC Z p s m args meth c cX12_one 4 RX12) (hr : meth.sig.returnType = none) (hn9 : True)  : ∀ (n9 : Nat) (st : zTs) (a1 : Int32) (a2 : Int32), w_X12_one_L1_91 P n9 st a1 a2 → zG Z ad0 h0 p l e ({ frames := 34, cells := 0, slots := 0, locals := 708 } : Room) s m args below meth c (MQ below (zQ Z ad0 h0 (zWv Z zm1 P)) args s 0 0 (zA Z)) 0 0 (zh Z zm1 st) 4 91 [some (.ref 100), some (.int (a1)), some (.int (a2)), none] [] := by
  intro n9
  induction n9 with
  | zero => intro st a1 a2 h; exact h.elim
  | succ n9 hK91 =>
    intro st a1 a2 h
    rw [w_X12_one_L1_91] at h
    refine z_iload_n C dX12_one_91 (i := 2) rfl rfl ?_
    refine z_iconst C dX12_one_92 (v := 3) (by decide) ?_
    refine z_icmp_ge C dX12_one_93 (tgt := 119) (by decide) (fun c93 => ?_) (fun c93 => ?_)
    · have h := h.1 c93
      exact t_drop [true, true, false, false] rfl (j_X12_one_L1_119 hfl C hr hn9  st a1 h)
    · have h := h.2 c93
      refine z_iload_n C dX12_one_96 (i := 1) rfl rfl ?_
      refine z_if_ge C dX12_one_97 (tgt := 119) (by decide) (fun c97 => ?_) (fun c97 => ?_)
      · have h := h.1 c97
        exact t_drop [true, true, false, false] rfl (j_X12_one_L1_119 hfl C hr hn9  st a1 h)
      · have h := h.2 c97
        refine z_aload_n C dX12_one_100 (i := 0) rfl rfl ?_
        refine z_iload_n C dX12_one_101 (i := 2) rfl rfl ?_
        refine t_callS C (rest := [.ref 100]) (c2 := 0) (s2 := 0) [.int (a2)] dX12_one_102 lk_X12_339 ls_X12_measureOf (c_X12_measureOf hfl h) rfl rfl ⟨Nat.le_of_ble_eq_true rfl, Nat.le_of_ble_eq_true rfl⟩ (Nat.le_of_ble_eq_true rfl) ⟨Nat.le_of_ble_eq_true rfl, Nat.le_of_ble_eq_true rfl, Nat.le_of_ble_eq_true rfl, Nat.le_of_ble_eq_true rfl⟩ (k_Rr fun r102 h => ?_)
        refine t_callV C (rest := []) (c2 := 0) (s2 := 0) (kd := 100) (i := 0) [.ref (200 + 256 * r102)] dX12_one_105 lk_X12_313 li_X12_eat le_X12_eat (c_X12_eat hfl h) rfl rfl (by decide) rfl ⟨_, rfl⟩ rfl ⟨Nat.le_of_ble_eq_true rfl, Nat.le_of_ble_eq_true rfl⟩ (Nat.le_of_ble_eq_true rfl) ⟨Nat.le_of_ble_eq_true rfl, Nat.le_of_ble_eq_true rfl, Nat.le_of_ble_eq_true rfl, Nat.le_of_ble_eq_true rfl⟩ (k_Wi fun r105 s105 h => ?_)
        refine z_if_eq C dX12_one_108 (tgt := 113) (by decide) (fun c108 => ?_) (fun c108 => ?_)
        · have h := h.1 c108
          exact t_drop [true, true, true, false] rfl (j_X12_one_L1_113 hfl C hr hn9 hK91 s105 a1 a2 h)
        · have h := h.2 c108
          refine z_iload_n C dX12_one_111 (i := 2) rfl rfl ?_
          refine z_istore_n C dX12_one_112 (i := 1) (lc' := [some (.ref 100), some (.int (a2)), some (.int (a2)), none]) rfl (by decide) rfl ?_
          exact t_drop [true, true, true, false] rfl (j_X12_one_L1_113 hfl C hr hn9 hK91 s105 a2 a2 h)
def w_X12_one_L1 (st : zTs)  (P : zTs → Prop) : Prop := ((zgF st 100 0 9) ≤ 0 → w_X12_blanks st (fun (s9 : zTs) => (w_X12_isWord s9 20 (fun (r16 : Int32) (s16 : zTs) => ((r16 = 0 → w_X12_byteAt s16 (zgF s16 100 0 8) (fun (r53 : Int32) => ((r53 = 40 → w_X12_opens s16 1 (fun (s63 : zTs) => (w_X12_ors_L2 s63 (fun (s67 : zTs) => (w_X12_sign s67 41 (fun (s73 : zTs) => (∀ s83 : zTs, s83 = zuF s73 100 0 12 ((zgF s73 100 0 12) - 1) → (P s83)))))))) ∧ (¬ r53 = 40 → w_X12_one_L1_91 P zfu s16 (-1) (0))))) ∧ (¬ r16 = 0 → w_X12_opens s16 3 (fun (s24 : zTs) => (w_X12_one_L2 s24 (fun (s28 : zTs) => (∀ s38 : zTs, s38 = zuF s28 100 0 12 ((zgF s28 100 0 12) - 1) → (w_X12_emits s38 1 0 (fun (s44 : zTs) => (P s44))))))))))))) ∧ (¬ (zgF st 100 0 9) ≤ 0 → P st)
set_option maxHeartbeats 4000000 in
set_option maxRecDepth 100000 in
theorem c_X12_one_L1 {Z : zZ} {l : Launch} (hfl : l.stackTraces = false) {st : zTs}  {P : zTs → Prop} (h : w_X12_one_L1 st  P) : zN Z l yX12_one cX12_one 4 none ({ frames := 34, cells := 0, slots := 0, locals := 708 } : Room) (zh Z zm1 st) [.ref 100] (zWv Z zm1 P) := by
  unfold w_X12_one_L1 at h
  refine z_enterN (by decide) (Nat.le_of_ble_eq_true rfl) (lc0 := [some (.ref 100), none, none, none]) rfl ?_
  intro p e s m args below meth c ad0 C hr _
  have hn9 : True := trivial
  replace C : zC Z p s m args meth c cX12_one 4 RX12 := C
  refine z_aload_n C dX12_one_0 (i := 0) rfl rfl ?_
  refine t_get C dX12_one_1 fl_X12_239 (k := 100) (i := 0) (by decide) rfl (fg_100_9 _ _ _) ?_
  refine z_if_le C dX12_one_4 (tgt := 8) (by decide) (fun c4 => ?_) (fun c4 => ?_)
  · have h := h.1 c4
    refine z_aload_n C dX12_one_8 (i := 0) rfl rfl ?_
    refine t_callV C (rest := []) (c2 := 0) (s2 := 0) (kd := 100) (i := 0) [] dX12_one_9 lk_X12_242 li_X12_blanks le_X12_blanks (c_X12_blanks hfl h) rfl rfl (by decide) rfl ⟨_, rfl⟩ rfl ⟨Nat.le_of_ble_eq_true rfl, Nat.le_of_ble_eq_true rfl⟩ (Nat.le_of_ble_eq_true rfl) ⟨Nat.le_of_ble_eq_true rfl, Nat.le_of_ble_eq_true rfl, Nat.le_of_ble_eq_true rfl, Nat.le_of_ble_eq_true rfl⟩ (k_Wv fun s9 h => ?_)
    refine z_aload_n C dX12_one_12 (i := 0) rfl rfl ?_
    refine z_ldc_wS C dX12_one_13 (i := 20) (text := "not") (by decide) ?_
    refine t_callV C (rest := []) (c2 := 0) (s2 := 0) (kd := 100) (i := 0) [.ref (200 + 256 * 20)] dX12_one_16 lk_X12_255 li_X12_isWord le_X12_isWord (c_X12_isWord hfl h) rfl rfl (by decide) rfl ⟨_, rfl⟩ rfl ⟨Nat.le_of_ble_eq_true rfl, Nat.le_of_ble_eq_true rfl⟩ (Nat.le_of_ble_eq_true rfl) ⟨Nat.le_of_ble_eq_true rfl, Nat.le_of_ble_eq_true rfl, Nat.le_of_ble_eq_true rfl, Nat.le_of_ble_eq_true rfl⟩ (k_Wi fun r16 s16 h => ?_)
    refine z_if_eq C dX12_one_19 (tgt := 48) (by decide) (fun c19 => ?_) (fun c19 => ?_)
    · have h := h.1 c19
      refine z_aload_n C dX12_one_48 (i := 0) rfl rfl ?_
      refine z_aload_n C dX12_one_49 (i := 0) rfl rfl ?_
      refine t_get C dX12_one_50 fl_X12_232 (k := 100) (i := 0) (by decide) rfl (fg_100_8 _ _ _) ?_
      refine t_callV C (rest := []) (c2 := 0) (s2 := 0) (kd := 100) (i := 0) [.int (zgF s16 100 0 8)] dX12_one_53 lk_X12_235 li_X12_byteAt le_X12_byteAt (c_X12_byteAt hfl h) rfl rfl (by decide) rfl ⟨_, rfl⟩ rfl ⟨Nat.le_of_ble_eq_true rfl, Nat.le_of_ble_eq_true rfl⟩ (Nat.le_of_ble_eq_true rfl) ⟨Nat.le_of_ble_eq_true rfl, Nat.le_of_ble_eq_true rfl, Nat.le_of_ble_eq_true rfl, Nat.le_of_ble_eq_true rfl⟩ (k_Ri fun r53 h => ?_)
      refine z_bipush C dX12_one_56 (v := 40) (by decide) ?_
      refine z_icmp_ne C dX12_one_58 (tgt := 87) (by decide) (fun c58 => ?_) (fun c58 => ?_)
      · have h := h.2 c58
        refine z_iconst C dX12_one_87 (v := (-1)) (by decide) ?_
        refine z_istore_n C dX12_one_88 (i := 1) (lc' := [some (.ref 100), some (.int (-1)), none, none]) rfl (by decide) rfl ?_
        refine z_iconst C dX12_one_89 (v := 0) (by decide) ?_
        refine z_istore_n C dX12_one_90 (i := 2) (lc' := [some (.ref 100), some (.int (-1)), some (.int (0)), none]) rfl (by decide) rfl ?_
        exact t_drop [true, true, true, false] rfl (j_X12_one_L1_91 hfl C hr hn9  zfu s16 (-1) (0) h)
      · have h := h.1 c58
        refine z_aload_n C dX12_one_61 (i := 0) rfl rfl ?_
        refine z_iconst C dX12_one_62 (v := 1) (by decide) ?_
        refine t_callV C (rest := []) (c2 := 0) (s2 := 0) (kd := 100) (i := 0) [.int (1)] dX12_one_63 lk_X12_329 li_X12_opens le_X12_opens (c_X12_opens hfl h) rfl rfl (by decide) rfl ⟨_, rfl⟩ rfl ⟨Nat.le_of_ble_eq_true rfl, Nat.le_of_ble_eq_true rfl⟩ (Nat.le_of_ble_eq_true rfl) ⟨Nat.le_of_ble_eq_true rfl, Nat.le_of_ble_eq_true rfl, Nat.le_of_ble_eq_true rfl, Nat.le_of_ble_eq_true rfl⟩ (k_Wv fun s63 h => ?_)
        refine z_aload_n C dX12_one_66 (i := 0) rfl rfl ?_
        refine t_callV C (rest := []) (c2 := 0) (s2 := 0) (kd := 100) (i := 0) [] dX12_one_67 lk_X12_333 li_X12_ors le_X12_ors (c_X12_ors_L2 hfl h) rfl rfl (by decide) rfl ⟨_, rfl⟩ rfl ⟨Nat.le_of_ble_eq_true rfl, Nat.le_of_ble_eq_true rfl⟩ (Nat.le_of_ble_eq_true rfl) ⟨Nat.le_of_ble_eq_true rfl, Nat.le_of_ble_eq_true rfl, Nat.le_of_ble_eq_true rfl, Nat.le_of_ble_eq_true rfl⟩ (k_Wv fun s67 h => ?_)
        refine z_aload_n C dX12_one_70 (i := 0) rfl rfl ?_
        refine z_bipush C dX12_one_71 (v := 41) (by decide) ?_
        refine t_callV C (rest := []) (c2 := 0) (s2 := 0) (kd := 100) (i := 0) [.int (41)] dX12_one_73 lk_X12_336 li_X12_sign le_X12_sign (c_X12_sign hfl h) rfl rfl (by decide) rfl ⟨_, rfl⟩ rfl ⟨Nat.le_of_ble_eq_true rfl, Nat.le_of_ble_eq_true rfl⟩ (Nat.le_of_ble_eq_true rfl) ⟨Nat.le_of_ble_eq_true rfl, Nat.le_of_ble_eq_true rfl, Nat.le_of_ble_eq_true rfl, Nat.le_of_ble_eq_true rfl⟩ (k_Wv fun s73 h => ?_)
        refine z_aload_n C dX12_one_76 (i := 0) rfl rfl ?_
        refine z_dup C dX12_one_77 rfl ?_
        refine t_get C dX12_one_78 fl_X12_324 (k := 100) (i := 0) (by decide) rfl (fg_100_12 _ _ _) ?_
        refine z_iconst C dX12_one_81 (v := 1) (by decide) ?_
        refine z_isub C dX12_one_82 ?_
        refine t_put C dX12_one_83 fq_X12_324 (Or.inl rfl) (k := 100) (i := 0) (by decide) rfl ⟨rfl, rfl⟩ (fp_100_12 _ _ _ _ _) ?_
        refine t_tops (fun s83 es83 => ?_)
        have h := h s83 es83
        exact z_vret C dX12_one_86 hr ⟨_, rfl, rfl, h⟩ (Nat.le_of_ble_eq_true rfl) (Nat.le_of_ble_eq_true rfl)
    · have h := h.2 c19
      refine z_aload_n C dX12_one_22 (i := 0) rfl rfl ?_
      refine z_iconst C dX12_one_23 (v := 3) (by decide) ?_
      refine t_callV C (rest := []) (c2 := 0) (s2 := 0) (kd := 100) (i := 0) [.int (3)] dX12_one_24 lk_X12_329 li_X12_opens le_X12_opens (c_X12_opens hfl h) rfl rfl (by decide) rfl ⟨_, rfl⟩ rfl ⟨Nat.le_of_ble_eq_true rfl, Nat.le_of_ble_eq_true rfl⟩ (Nat.le_of_ble_eq_true rfl) ⟨Nat.le_of_ble_eq_true rfl, Nat.le_of_ble_eq_true rfl, Nat.le_of_ble_eq_true rfl, Nat.le_of_ble_eq_true rfl⟩ (k_Wv fun s24 h => ?_)
      refine z_aload_n C dX12_one_27 (i := 0) rfl rfl ?_
      refine t_callV C (rest := []) (c2 := 0) (s2 := 0) (kd := 100) (i := 0) [] dX12_one_28 lk_X12_319 li_X12_one le_X12_one (c_X12_one_L2 hfl h) rfl rfl (by decide) rfl ⟨_, rfl⟩ rfl ⟨Nat.le_of_ble_eq_true rfl, Nat.le_of_ble_eq_true rfl⟩ (Nat.le_of_ble_eq_true rfl) ⟨Nat.le_of_ble_eq_true rfl, Nat.le_of_ble_eq_true rfl, Nat.le_of_ble_eq_true rfl, Nat.le_of_ble_eq_true rfl⟩ (k_Wv fun s28 h => ?_)
      refine z_aload_n C dX12_one_31 (i := 0) rfl rfl ?_
      refine z_dup C dX12_one_32 rfl ?_
      refine t_get C dX12_one_33 fl_X12_324 (k := 100) (i := 0) (by decide) rfl (fg_100_12 _ _ _) ?_
      refine z_iconst C dX12_one_36 (v := 1) (by decide) ?_
      refine z_isub C dX12_one_37 ?_
      refine t_put C dX12_one_38 fq_X12_324 (Or.inl rfl) (k := 100) (i := 0) (by decide) rfl ⟨rfl, rfl⟩ (fp_100_12 _ _ _ _ _) ?_
      refine t_tops (fun s38 es38 => ?_)
      have h := h s38 es38
      refine z_aload_n C dX12_one_41 (i := 0) rfl rfl ?_
      refine z_iconst C dX12_one_42 (v := 1) (by decide) ?_
      refine z_iconst C dX12_one_43 (v := 0) (by decide) ?_
      refine t_callV C (rest := []) (c2 := 0) (s2 := 0) (kd := 100) (i := 0) [.int (1), .int (0)] dX12_one_44 lk_X12_316 li_X12_emits le_X12_emits (c_X12_emits hfl h) rfl rfl (by decide) rfl ⟨_, rfl⟩ rfl ⟨Nat.le_of_ble_eq_true rfl, Nat.le_of_ble_eq_true rfl⟩ (Nat.le_of_ble_eq_true rfl) ⟨Nat.le_of_ble_eq_true rfl, Nat.le_of_ble_eq_true rfl, Nat.le_of_ble_eq_true rfl, Nat.le_of_ble_eq_true rfl⟩ (k_Wv fun s44 h => ?_)
      exact z_vret C dX12_one_47 hr ⟨_, rfl, rfl, h⟩ (Nat.le_of_ble_eq_true rfl) (Nat.le_of_ble_eq_true rfl)
  · have h := h.2 c4
    exact z_vret C dX12_one_7 hr ⟨_, rfl, rfl, h⟩ (Nat.le_of_ble_eq_true rfl) (Nat.le_of_ble_eq_true rfl)
def w_X12_ands_L1_4 (P : zTs → Prop)  : Nat → zTs → Prop
  | 0, _ => False
  | n9 + 1, st => w_X12_eat st 19 (fun (r8 : Int32) (s8 : zTs) => ((r8 = 0 → P s8) ∧ (¬ r8 = 0 → w_X12_one_L1 s8 (fun (s15 : zTs) => (w_X12_emits s15 2 0 (fun (s21 : zTs) => ((w_X12_ands_L1_4 P n9) s21)))))))
set_option maxHeartbeats 4000000 in
set_option maxRecDepth 100000 in
theorem j_X12_ands_L1_4 {P : zTs → Prop}  (hfl : l.stackTraces = false) (C : zC Z p s m args meth c cX12_ands 1 RX12) (hr : meth.sig.returnType = none) (hn9 : True)  : ∀ (n9 : Nat) (st : zTs), w_X12_ands_L1_4 P n9 st → zG Z ad0 h0 p l e ({ frames := 35, cells := 0, slots := 0, locals := 731 } : Room) s m args below meth c (MQ below (zQ Z ad0 h0 (zWv Z zm1 P)) args s 0 0 (zA Z)) 0 0 (zh Z zm1 st) 1 4 [some (.ref 100)] [] := by
  intro n9
  induction n9 with
  | zero => intro st h; exact h.elim
  | succ n9 hK4 =>
    intro st h
    rw [w_X12_ands_L1_4] at h
    refine z_aload_n C dX12_ands_4 (i := 0) rfl rfl ?_
    refine z_ldc_wS C dX12_ands_5 (i := 19) (text := "and") (by decide) ?_
    refine t_callV C (rest := []) (c2 := 0) (s2 := 0) (kd := 100) (i := 0) [.ref (200 + 256 * 19)] dX12_ands_8 lk_X12_313 li_X12_eat le_X12_eat (c_X12_eat hfl h) rfl rfl (by decide) rfl ⟨_, rfl⟩ rfl ⟨Nat.le_of_ble_eq_true rfl, Nat.le_of_ble_eq_true rfl⟩ (Nat.le_of_ble_eq_true rfl) ⟨Nat.le_of_ble_eq_true rfl, Nat.le_of_ble_eq_true rfl, Nat.le_of_ble_eq_true rfl, Nat.le_of_ble_eq_true rfl⟩ (k_Wi fun r8 s8 h => ?_)
    refine z_if_eq C dX12_ands_11 (tgt := 27) (by decide) (fun c11 => ?_) (fun c11 => ?_)
    · have h := h.1 c11
      exact z_vret C dX12_ands_27 hr ⟨_, rfl, rfl, h⟩ (Nat.le_of_ble_eq_true rfl) (Nat.le_of_ble_eq_true rfl)
    · have h := h.2 c11
      refine z_aload_n C dX12_ands_14 (i := 0) rfl rfl ?_
      refine t_callV C (rest := []) (c2 := 0) (s2 := 0) (kd := 100) (i := 0) [] dX12_ands_15 lk_X12_319 li_X12_one le_X12_one (c_X12_one_L1 hfl h) rfl rfl (by decide) rfl ⟨_, rfl⟩ rfl ⟨Nat.le_of_ble_eq_true rfl, Nat.le_of_ble_eq_true rfl⟩ (Nat.le_of_ble_eq_true rfl) ⟨Nat.le_of_ble_eq_true rfl, Nat.le_of_ble_eq_true rfl, Nat.le_of_ble_eq_true rfl, Nat.le_of_ble_eq_true rfl⟩ (k_Wv fun s15 h => ?_)
      refine z_aload_n C dX12_ands_18 (i := 0) rfl rfl ?_
      refine z_iconst C dX12_ands_19 (v := 2) (by decide) ?_
      refine z_iconst C dX12_ands_20 (v := 0) (by decide) ?_
      refine t_callV C (rest := []) (c2 := 0) (s2 := 0) (kd := 100) (i := 0) [.int (2), .int (0)] dX12_ands_21 lk_X12_316 li_X12_emits le_X12_emits (c_X12_emits hfl h) rfl rfl (by decide) rfl ⟨_, rfl⟩ rfl ⟨Nat.le_of_ble_eq_true rfl, Nat.le_of_ble_eq_true rfl⟩ (Nat.le_of_ble_eq_true rfl) ⟨Nat.le_of_ble_eq_true rfl, Nat.le_of_ble_eq_true rfl, Nat.le_of_ble_eq_true rfl, Nat.le_of_ble_eq_true rfl⟩ (k_Wv fun s21 h => ?_)
      refine z_goto C dX12_ands_24 (tgt := 4) (by decide) ?_
      exact t_drop [true] rfl (hK4 s21 h)
def w_X12_ands_L1 (st : zTs)  (P : zTs → Prop) : Prop := w_X12_one_L1 st (fun (s1 : zTs) => (w_X12_ands_L1_4 P zfu s1))
set_option maxHeartbeats 4000000 in
set_option maxRecDepth 100000 in
theorem c_X12_ands_L1 {Z : zZ} {l : Launch} (hfl : l.stackTraces = false) {st : zTs}  {P : zTs → Prop} (h : w_X12_ands_L1 st  P) : zN Z l yX12_ands cX12_ands 1 none ({ frames := 35, cells := 0, slots := 0, locals := 731 } : Room) (zh Z zm1 st) [.ref 100] (zWv Z zm1 P) := by
  unfold w_X12_ands_L1 at h
  refine z_enterN (by decide) (Nat.le_of_ble_eq_true rfl) (lc0 := [some (.ref 100)]) rfl ?_
  intro p e s m args below meth c ad0 C hr _
  have hn9 : True := trivial
  replace C : zC Z p s m args meth c cX12_ands 1 RX12 := C
  refine z_aload_n C dX12_ands_0 (i := 0) rfl rfl ?_
  refine t_callV C (rest := []) (c2 := 0) (s2 := 0) (kd := 100) (i := 0) [] dX12_ands_1 lk_X12_319 li_X12_one le_X12_one (c_X12_one_L1 hfl h) rfl rfl (by decide) rfl ⟨_, rfl⟩ rfl ⟨Nat.le_of_ble_eq_true rfl, Nat.le_of_ble_eq_true rfl⟩ (Nat.le_of_ble_eq_true rfl) ⟨Nat.le_of_ble_eq_true rfl, Nat.le_of_ble_eq_true rfl, Nat.le_of_ble_eq_true rfl, Nat.le_of_ble_eq_true rfl⟩ (k_Wv fun s1 h => ?_)
  exact t_drop [true] rfl (j_X12_ands_L1_4 hfl C hr hn9  zfu s1 h)
def w_X12_ors_L1_4 (P : zTs → Prop)  : Nat → zTs → Prop
  | 0, _ => False
  | n9 + 1, st => w_X12_eat st 18 (fun (r8 : Int32) (s8 : zTs) => ((r8 = 0 → P s8) ∧ (¬ r8 = 0 → w_X12_ands_L1 s8 (fun (s15 : zTs) => (w_X12_emits s15 3 0 (fun (s21 : zTs) => ((w_X12_ors_L1_4 P n9) s21)))))))
set_option maxHeartbeats 4000000 in
set_option maxRecDepth 100000 in
theorem j_X12_ors_L1_4 {P : zTs → Prop}  (hfl : l.stackTraces = false) (C : zC Z p s m args meth c cX12_ors 1 RX12) (hr : meth.sig.returnType = none) (hn9 : True)  : ∀ (n9 : Nat) (st : zTs), w_X12_ors_L1_4 P n9 st → zG Z ad0 h0 p l e ({ frames := 36, cells := 0, slots := 0, locals := 751 } : Room) s m args below meth c (MQ below (zQ Z ad0 h0 (zWv Z zm1 P)) args s 0 0 (zA Z)) 0 0 (zh Z zm1 st) 1 4 [some (.ref 100)] [] := by
  intro n9
  induction n9 with
  | zero => intro st h; exact h.elim
  | succ n9 hK4 =>
    intro st h
    rw [w_X12_ors_L1_4] at h
    refine z_aload_n C dX12_ors_4 (i := 0) rfl rfl ?_
    refine z_ldc_wS C dX12_ors_5 (i := 18) (text := "or") (by decide) ?_
    refine t_callV C (rest := []) (c2 := 0) (s2 := 0) (kd := 100) (i := 0) [.ref (200 + 256 * 18)] dX12_ors_8 lk_X12_313 li_X12_eat le_X12_eat (c_X12_eat hfl h) rfl rfl (by decide) rfl ⟨_, rfl⟩ rfl ⟨Nat.le_of_ble_eq_true rfl, Nat.le_of_ble_eq_true rfl⟩ (Nat.le_of_ble_eq_true rfl) ⟨Nat.le_of_ble_eq_true rfl, Nat.le_of_ble_eq_true rfl, Nat.le_of_ble_eq_true rfl, Nat.le_of_ble_eq_true rfl⟩ (k_Wi fun r8 s8 h => ?_)
    refine z_if_eq C dX12_ors_11 (tgt := 27) (by decide) (fun c11 => ?_) (fun c11 => ?_)
    · have h := h.1 c11
      exact z_vret C dX12_ors_27 hr ⟨_, rfl, rfl, h⟩ (Nat.le_of_ble_eq_true rfl) (Nat.le_of_ble_eq_true rfl)
    · have h := h.2 c11
      refine z_aload_n C dX12_ors_14 (i := 0) rfl rfl ?_
      refine t_callV C (rest := []) (c2 := 0) (s2 := 0) (kd := 100) (i := 0) [] dX12_ors_15 lk_X12_308 li_X12_ands le_X12_ands (c_X12_ands_L1 hfl h) rfl rfl (by decide) rfl ⟨_, rfl⟩ rfl ⟨Nat.le_of_ble_eq_true rfl, Nat.le_of_ble_eq_true rfl⟩ (Nat.le_of_ble_eq_true rfl) ⟨Nat.le_of_ble_eq_true rfl, Nat.le_of_ble_eq_true rfl, Nat.le_of_ble_eq_true rfl, Nat.le_of_ble_eq_true rfl⟩ (k_Wv fun s15 h => ?_)
      refine z_aload_n C dX12_ors_18 (i := 0) rfl rfl ?_
      refine z_iconst C dX12_ors_19 (v := 3) (by decide) ?_
      refine z_iconst C dX12_ors_20 (v := 0) (by decide) ?_
      refine t_callV C (rest := []) (c2 := 0) (s2 := 0) (kd := 100) (i := 0) [.int (3), .int (0)] dX12_ors_21 lk_X12_316 li_X12_emits le_X12_emits (c_X12_emits hfl h) rfl rfl (by decide) rfl ⟨_, rfl⟩ rfl ⟨Nat.le_of_ble_eq_true rfl, Nat.le_of_ble_eq_true rfl⟩ (Nat.le_of_ble_eq_true rfl) ⟨Nat.le_of_ble_eq_true rfl, Nat.le_of_ble_eq_true rfl, Nat.le_of_ble_eq_true rfl, Nat.le_of_ble_eq_true rfl⟩ (k_Wv fun s21 h => ?_)
      refine z_goto C dX12_ors_24 (tgt := 4) (by decide) ?_
      exact t_drop [true] rfl (hK4 s21 h)
def w_X12_ors_L1 (st : zTs)  (P : zTs → Prop) : Prop := w_X12_ands_L1 st (fun (s1 : zTs) => (w_X12_ors_L1_4 P zfu s1))
set_option maxHeartbeats 4000000 in
set_option maxRecDepth 100000 in
theorem c_X12_ors_L1 {Z : zZ} {l : Launch} (hfl : l.stackTraces = false) {st : zTs}  {P : zTs → Prop} (h : w_X12_ors_L1 st  P) : zN Z l yX12_ors cX12_ors 1 none ({ frames := 36, cells := 0, slots := 0, locals := 751 } : Room) (zh Z zm1 st) [.ref 100] (zWv Z zm1 P) := by
  unfold w_X12_ors_L1 at h
  refine z_enterN (by decide) (Nat.le_of_ble_eq_true rfl) (lc0 := [some (.ref 100)]) rfl ?_
  intro p e s m args below meth c ad0 C hr _
  have hn9 : True := trivial
  replace C : zC Z p s m args meth c cX12_ors 1 RX12 := C
  refine z_aload_n C dX12_ors_0 (i := 0) rfl rfl ?_
  refine t_callV C (rest := []) (c2 := 0) (s2 := 0) (kd := 100) (i := 0) [] dX12_ors_1 lk_X12_308 li_X12_ands le_X12_ands (c_X12_ands_L1 hfl h) rfl rfl (by decide) rfl ⟨_, rfl⟩ rfl ⟨Nat.le_of_ble_eq_true rfl, Nat.le_of_ble_eq_true rfl⟩ (Nat.le_of_ble_eq_true rfl) ⟨Nat.le_of_ble_eq_true rfl, Nat.le_of_ble_eq_true rfl, Nat.le_of_ble_eq_true rfl, Nat.le_of_ble_eq_true rfl⟩ (k_Wv fun s1 h => ?_)
  exact t_drop [true] rfl (j_X12_ors_L1_4 hfl C hr hn9  zfu s1 h)
def w_X12_one_L0_189 (P : zTs → Prop)  (st : zTs) (a1 : Int32) (a3 : Int32) (b0 : Int32) : Prop := w_X12_emits st b0 ((3 * a3) + a1) (fun (s194 : zTs) => (P s194))
set_option maxHeartbeats 4000000 in
set_option maxRecDepth 100000 in
theorem j_X12_one_L0_189 {P : zTs → Prop}  (hfl : l.stackTraces = false) (C : zC Z p s m args meth c cX12_one 4 RX12) (hr : meth.sig.returnType = none) (hn9 : True)  (st : zTs) (a1 : Int32) (a3 : Int32) (b0 : Int32) (h : w_X12_one_L0_189 P st a1 a3 b0) : zG Z ad0 h0 p l e ({ frames := 37, cells := 0, slots := 0, locals := 771 } : Room) s m args below meth c (MQ below (zQ Z ad0 h0 (zWv Z zm1 P)) args s 0 0 (zA Z)) 0 0 (zh Z zm1 st) 4 189 [none, some (.int (a1)), none, some (.int (a3))] [.int (b0), .ref 100] := by
  unfold w_X12_one_L0_189 at h
  refine z_iconst C dX12_one_189 (v := 3) (by decide) ?_
  refine z_iload_n C dX12_one_190 (i := 3) rfl rfl ?_
  refine z_imul C dX12_one_191 ?_
  refine z_iload_n C dX12_one_192 (i := 1) rfl rfl ?_
  refine z_iadd C dX12_one_193 ?_
  refine t_callV C (rest := []) (c2 := 0) (s2 := 0) (kd := 100) (i := 0) [.int (b0), .int ((3 * a3) + a1)] dX12_one_194 lk_X12_316 li_X12_emits le_X12_emits (c_X12_emits hfl h) rfl rfl (by decide) rfl ⟨_, rfl⟩ rfl ⟨Nat.le_of_ble_eq_true rfl, Nat.le_of_ble_eq_true rfl⟩ (Nat.le_of_ble_eq_true rfl) ⟨Nat.le_of_ble_eq_true rfl, Nat.le_of_ble_eq_true rfl, Nat.le_of_ble_eq_true rfl, Nat.le_of_ble_eq_true rfl⟩ (k_Wv fun s194 h => ?_)
  exact z_vret C dX12_one_197 hr ⟨_, rfl, rfl, h⟩ (Nat.le_of_ble_eq_true rfl) (Nat.le_of_ble_eq_true rfl)
def w_X12_one_L0_158 (P : zTs → Prop)  (st : zTs) (a1 : Int32) (a2 : Int32) : Prop := ∀ s165 : zTs, s165 = zuF st 100 0 8 ((zgF st 100 0 8) + 1) → (w_X12_number s165 0 9999 (fun (r173 : Int32) (s173 : zTs) => ((a2 = 60 → w_X12_one_L0_189 P s173 a1 r173 (4)) ∧ (¬ a2 = 60 → w_X12_one_L0_189 P s173 a1 r173 (5)))))
set_option maxHeartbeats 4000000 in
set_option maxRecDepth 100000 in
theorem j_X12_one_L0_158 {P : zTs → Prop}  (hfl : l.stackTraces = false) (C : zC Z p s m args meth c cX12_one 4 RX12) (hr : meth.sig.returnType = none) (hn9 : True)  (st : zTs) (a1 : Int32) (a2 : Int32) (h : w_X12_one_L0_158 P st a1 a2) : zG Z ad0 h0 p l e ({ frames := 37, cells := 0, slots := 0, locals := 771 } : Room) s m args below meth c (MQ below (zQ Z ad0 h0 (zWv Z zm1 P)) args s 0 0 (zA Z)) 0 0 (zh Z zm1 st) 4 158 [some (.ref 100), some (.int (a1)), some (.int (a2)), none] [] := by
  unfold w_X12_one_L0_158 at h
  refine z_aload_n C dX12_one_158 (i := 0) rfl rfl ?_
  refine z_dup C dX12_one_159 rfl ?_
  refine t_get C dX12_one_160 fl_X12_232 (k := 100) (i := 0) (by decide) rfl (fg_100_8 _ _ _) ?_
  refine z_iconst C dX12_one_163 (v := 1) (by decide) ?_
  refine z_iadd C dX12_one_164 ?_
  refine t_put C dX12_one_165 fq_X12_232 (Or.inl rfl) (k := 100) (i := 0) (by decide) rfl ⟨rfl, rfl⟩ (fp_100_8 _ _ _ _ _) ?_
  refine t_tops (fun s165 es165 => ?_)
  have h := h s165 es165
  refine z_aload_n C dX12_one_168 (i := 0) rfl rfl ?_
  refine z_iconst C dX12_one_169 (v := 0) (by decide) ?_
  refine z_sipush C dX12_one_170 (v := 9999) (by decide) ?_
  refine t_callV C (rest := []) (c2 := 0) (s2 := 0) (kd := 100) (i := 0) [.int (0), .int (9999)] dX12_one_173 lk_X12_342 li_X12_number le_X12_number (c_X12_number hfl h) rfl rfl (by decide) rfl ⟨_, rfl⟩ rfl ⟨Nat.le_of_ble_eq_true rfl, Nat.le_of_ble_eq_true rfl⟩ (Nat.le_of_ble_eq_true rfl) ⟨Nat.le_of_ble_eq_true rfl, Nat.le_of_ble_eq_true rfl, Nat.le_of_ble_eq_true rfl, Nat.le_of_ble_eq_true rfl⟩ (k_Wi fun r173 s173 h => ?_)
  refine z_istore_n C dX12_one_176 (i := 3) (lc' := [some (.ref 100), some (.int (a1)), some (.int (a2)), some (.int (r173))]) rfl (by decide) rfl ?_
  refine z_aload_n C dX12_one_177 (i := 0) rfl rfl ?_
  refine z_iload_n C dX12_one_178 (i := 2) rfl rfl ?_
  refine z_bipush C dX12_one_179 (v := 60) (by decide) ?_
  refine z_icmp_ne C dX12_one_181 (tgt := 188) (by decide) (fun c181 => ?_) (fun c181 => ?_)
  · have h := h.2 c181
    refine z_iconst C dX12_one_188 (v := 5) (by decide) ?_
    exact t_drop [false, true, false, true] rfl (j_X12_one_L0_189 hfl C hr hn9  s173 a1 r173 (5) h)
  · have h := h.1 c181
    refine z_iconst C dX12_one_184 (v := 4) (by decide) ?_
    refine z_goto C dX12_one_185 (tgt := 189) (by decide) ?_
    exact t_drop [false, true, false, true] rfl (j_X12_one_L0_189 hfl C hr hn9  s173 a1 r173 (4) h)
def w_X12_one_L0_148 (P : zTs → Prop)  (st : zTs) : Prop := w_X12_wrong st 1 (zgF st 100 0 8) (fun (s154 : zTs) => (P s154))
set_option maxHeartbeats 4000000 in
set_option maxRecDepth 100000 in
theorem j_X12_one_L0_148 {P : zTs → Prop}  (hfl : l.stackTraces = false) (C : zC Z p s m args meth c cX12_one 4 RX12) (hr : meth.sig.returnType = none) (hn9 : True)  (st : zTs) (h : w_X12_one_L0_148 P st) : zG Z ad0 h0 p l e ({ frames := 37, cells := 0, slots := 0, locals := 771 } : Room) s m args below meth c (MQ below (zQ Z ad0 h0 (zWv Z zm1 P)) args s 0 0 (zA Z)) 0 0 (zh Z zm1 st) 4 148 [some (.ref 100), none, none, none] [] := by
  unfold w_X12_one_L0_148 at h
  refine z_aload_n C dX12_one_148 (i := 0) rfl rfl ?_
  refine z_iconst C dX12_one_149 (v := 1) (by decide) ?_
  refine z_aload_n C dX12_one_150 (i := 0) rfl rfl ?_
  refine t_get C dX12_one_151 fl_X12_232 (k := 100) (i := 0) (by decide) rfl (fg_100_8 _ _ _) ?_
  refine t_callV C (rest := []) (c2 := 0) (s2 := 0) (kd := 100) (i := 0) [.int (1), .int (zgF st 100 0 8)] dX12_one_154 lk_X12_300 li_X12_wrong le_X12_wrong (c_X12_wrong hfl h) rfl rfl (by decide) rfl ⟨_, rfl⟩ rfl ⟨Nat.le_of_ble_eq_true rfl, Nat.le_of_ble_eq_true rfl⟩ (Nat.le_of_ble_eq_true rfl) ⟨Nat.le_of_ble_eq_true rfl, Nat.le_of_ble_eq_true rfl, Nat.le_of_ble_eq_true rfl, Nat.le_of_ble_eq_true rfl⟩ (k_Wv fun s154 h => ?_)
  exact z_vret C dX12_one_157 hr ⟨_, rfl, rfl, h⟩ (Nat.le_of_ble_eq_true rfl) (Nat.le_of_ble_eq_true rfl)
def w_X12_one_L0_119 (P : zTs → Prop)  (st : zTs) (a1 : Int32) : Prop := w_X12_blanks st (fun (s120 : zTs) => (w_X12_byteAt s120 (zgF s120 100 0 8) (fun (r128 : Int32) => ((a1 < 0 → w_X12_one_L0_148 P s120) ∧ (¬ a1 < 0 → (r128 = 60 → w_X12_one_L0_158 P s120 a1 r128) ∧ (¬ r128 = 60 → (r128 = 62 → w_X12_one_L0_158 P s120 a1 r128) ∧ (¬ r128 = 62 → w_X12_one_L0_148 P s120)))))))
set_option maxHeartbeats 4000000 in
set_option maxRecDepth 100000 in
theorem j_X12_one_L0_119 {P : zTs → Prop}  (hfl : l.stackTraces = false) (C : zC Z p s m args meth c cX12_one 4 RX12) (hr : meth.sig.returnType = none) (hn9 : True)  (st : zTs) (a1 : Int32) (h : w_X12_one_L0_119 P st a1) : zG Z ad0 h0 p l e ({ frames := 37, cells := 0, slots := 0, locals := 771 } : Room) s m args below meth c (MQ below (zQ Z ad0 h0 (zWv Z zm1 P)) args s 0 0 (zA Z)) 0 0 (zh Z zm1 st) 4 119 [some (.ref 100), some (.int (a1)), none, none] [] := by
  unfold w_X12_one_L0_119 at h
  refine z_aload_n C dX12_one_119 (i := 0) rfl rfl ?_
  refine t_callV C (rest := []) (c2 := 0) (s2 := 0) (kd := 100) (i := 0) [] dX12_one_120 lk_X12_242 li_X12_blanks le_X12_blanks (c_X12_blanks hfl h) rfl rfl (by decide) rfl ⟨_, rfl⟩ rfl ⟨Nat.le_of_ble_eq_true rfl, Nat.le_of_ble_eq_true rfl⟩ (Nat.le_of_ble_eq_true rfl) ⟨Nat.le_of_ble_eq_true rfl, Nat.le_of_ble_eq_true rfl, Nat.le_of_ble_eq_true rfl, Nat.le_of_ble_eq_true rfl⟩ (k_Wv fun s120 h => ?_)
  refine z_aload_n C dX12_one_123 (i := 0) rfl rfl ?_
  refine z_aload_n C dX12_one_124 (i := 0) rfl rfl ?_
  refine t_get C dX12_one_125 fl_X12_232 (k := 100) (i := 0) (by decide) rfl (fg_100_8 _ _ _) ?_
  refine t_callV C (rest := []) (c2 := 0) (s2 := 0) (kd := 100) (i := 0) [.int (zgF s120 100 0 8)] dX12_one_128 lk_X12_235 li_X12_byteAt le_X12_byteAt (c_X12_byteAt hfl h) rfl rfl (by decide) rfl ⟨_, rfl⟩ rfl ⟨Nat.le_of_ble_eq_true rfl, Nat.le_of_ble_eq_true rfl⟩ (Nat.le_of_ble_eq_true rfl) ⟨Nat.le_of_ble_eq_true rfl, Nat.le_of_ble_eq_true rfl, Nat.le_of_ble_eq_true rfl, Nat.le_of_ble_eq_true rfl⟩ (k_Ri fun r128 h => ?_)
  refine z_istore_n C dX12_one_131 (i := 2) (lc' := [some (.ref 100), some (.int (a1)), some (.int (r128)), none]) rfl (by decide) rfl ?_
  refine z_iload_n C dX12_one_132 (i := 1) rfl rfl ?_
  refine z_if_lt C dX12_one_133 (tgt := 148) (by decide) (fun c133 => ?_) (fun c133 => ?_)
  · have h := h.1 c133
    exact t_drop [true, false, false, false] rfl (j_X12_one_L0_148 hfl C hr hn9  s120 h)
  · have h := h.2 c133
    refine z_iload_n C dX12_one_136 (i := 2) rfl rfl ?_
    refine z_bipush C dX12_one_137 (v := 60) (by decide) ?_
    refine z_icmp_eq C dX12_one_139 (tgt := 158) (by decide) (fun c139 => ?_) (fun c139 => ?_)
    · have h := h.1 c139
      exact t_drop [true, true, true, false] rfl (j_X12_one_L0_158 hfl C hr hn9  s120 a1 r128 h)
    · have h := h.2 c139
      refine z_iload_n C dX12_one_142 (i := 2) rfl rfl ?_
      refine z_bipush C dX12_one_143 (v := 62) (by decide) ?_
      refine z_icmp_eq C dX12_one_145 (tgt := 158) (by decide) (fun c145 => ?_) (fun c145 => ?_)
      · have h := h.1 c145
        exact t_drop [true, true, true, false] rfl (j_X12_one_L0_158 hfl C hr hn9  s120 a1 r128 h)
      · have h := h.2 c145
        exact t_drop [true, false, false, false] rfl (j_X12_one_L0_148 hfl C hr hn9  s120 h)
def w_X12_one_L0_113 (P : zTs → Prop) (K91 : zTs → Int32 → Int32 → Prop) (st : zTs) (a1 : Int32) (a2 : Int32) : Prop := ∀ x113 : Int32, x113 = a2 + 1 → (K91 st a1 x113)
set_option maxHeartbeats 4000000 in
set_option maxRecDepth 100000 in
theorem j_X12_one_L0_113 {P : zTs → Prop} {K91 : zTs → Int32 → Int32 → Prop} (hfl : l.stackTraces = false) (C : zC Z p s m args meth c cX12_one 4 RX12) (hr : meth.sig.returnType = none) (hn9 : True) (hK91 : ∀ (st : zTs) (a1 : Int32) (a2 : Int32), K91 st a1 a2 → zG Z ad0 h0 p l e ({ frames := 37, cells := 0, slots := 0, locals := 771 } : Room) s m args below meth c (MQ below (zQ Z ad0 h0 (zWv Z zm1 P)) args s 0 0 (zA Z)) 0 0 (zh Z zm1 st) 4 91 [some (.ref 100), some (.int (a1)), some (.int (a2)), none] []) (st : zTs) (a1 : Int32) (a2 : Int32) (h : w_X12_one_L0_113 P K91 st a1 a2) : zG Z ad0 h0 p l e ({ frames := 37, cells := 0, slots := 0, locals := 771 } : Room) s m args below meth c (MQ below (zQ Z ad0 h0 (zWv Z zm1 P)) args s 0 0 (zA Z)) 0 0 (zh Z zm1 st) 4 113 [some (.ref 100), some (.int (a1)), some (.int (a2)), none] [] := by
  unfold w_X12_one_L0_113 at h
  obtain ⟨x113, ex113⟩ : ∃ z : Int32, z = a2 + 1 := ⟨_, rfl⟩
  have h := h x113 ex113
  refine z_iinc C dX12_one_113 (v := x113) (lc' := [some (.ref 100), some (.int (a1)), some (.int (x113)), none]) rfl (by decide) (by rw [ex113]; rfl) rfl ?_
  refine z_goto C dX12_one_116 (tgt := 91) (by decide) ?_
  exact t_drop [true, true, true, false] rfl (hK91 st a1 x113 h)
def w_X12_one_L0_91 (P : zTs → Prop)  : Nat → zTs → Int32 → Int32 → Prop
  | 0, _, _, _ => False
  | n9 + 1, st, a1, a2 => (3 ≤ a2 → w_X12_one_L0_119 P st a1) ∧ (¬ 3 ≤ a2 → (0 ≤ a1 → w_X12_one_L0_119 P st a1) ∧ (¬ 0 ≤ a1 → w_X12_measureOf st a2 (fun (r102 : Nat) => (w_X12_eat st r102 (fun (r105 : Int32) (s105 : zTs) => ((r105 = 0 → w_X12_one_L0_113 P (w_X12_one_L0_91 P n9) s105 a1 a2) ∧ (¬ r105 = 0 → w_X12_one_L0_113 P (w_X12_one_L0_91 P n9) s105 a2 a2)))))))
set_option maxHeartbeats 4000000 in
set_option maxRecDepth 100000 in
theorem j_X12_one_L0_91 {P : zTs → Prop}  (hfl : l.stackTraces = false) (C : zC Z p s m args meth c cX12_one 4 RX12) (hr : meth.sig.returnType = none) (hn9 : True)  : ∀ (n9 : Nat) (st : zTs) (a1 : Int32) (a2 : Int32), w_X12_one_L0_91 P n9 st a1 a2 → zG Z ad0 h0 p l e ({ frames := 37, cells := 0, slots := 0, locals := 771 } : Room) s m args below meth c (MQ below (zQ Z ad0 h0 (zWv Z zm1 P)) args s 0 0 (zA Z)) 0 0 (zh Z zm1 st) 4 91 [some (.ref 100), some (.int (a1)), some (.int (a2)), none] [] := by
  intro n9
  induction n9 with
  | zero => intro st a1 a2 h; exact h.elim
  | succ n9 hK91 =>
    intro st a1 a2 h
    rw [w_X12_one_L0_91] at h
    refine z_iload_n C dX12_one_91 (i := 2) rfl rfl ?_
    refine z_iconst C dX12_one_92 (v := 3) (by decide) ?_
    refine z_icmp_ge C dX12_one_93 (tgt := 119) (by decide) (fun c93 => ?_) (fun c93 => ?_)
    · have h := h.1 c93
      exact t_drop [true, true, false, false] rfl (j_X12_one_L0_119 hfl C hr hn9  st a1 h)
    · have h := h.2 c93
      refine z_iload_n C dX12_one_96 (i := 1) rfl rfl ?_
      refine z_if_ge C dX12_one_97 (tgt := 119) (by decide) (fun c97 => ?_) (fun c97 => ?_)
      · have h := h.1 c97
        exact t_drop [true, true, false, false] rfl (j_X12_one_L0_119 hfl C hr hn9  st a1 h)
      · have h := h.2 c97
        refine z_aload_n C dX12_one_100 (i := 0) rfl rfl ?_
        refine z_iload_n C dX12_one_101 (i := 2) rfl rfl ?_
        refine t_callS C (rest := [.ref 100]) (c2 := 0) (s2 := 0) [.int (a2)] dX12_one_102 lk_X12_339 ls_X12_measureOf (c_X12_measureOf hfl h) rfl rfl ⟨Nat.le_of_ble_eq_true rfl, Nat.le_of_ble_eq_true rfl⟩ (Nat.le_of_ble_eq_true rfl) ⟨Nat.le_of_ble_eq_true rfl, Nat.le_of_ble_eq_true rfl, Nat.le_of_ble_eq_true rfl, Nat.le_of_ble_eq_true rfl⟩ (k_Rr fun r102 h => ?_)
        refine t_callV C (rest := []) (c2 := 0) (s2 := 0) (kd := 100) (i := 0) [.ref (200 + 256 * r102)] dX12_one_105 lk_X12_313 li_X12_eat le_X12_eat (c_X12_eat hfl h) rfl rfl (by decide) rfl ⟨_, rfl⟩ rfl ⟨Nat.le_of_ble_eq_true rfl, Nat.le_of_ble_eq_true rfl⟩ (Nat.le_of_ble_eq_true rfl) ⟨Nat.le_of_ble_eq_true rfl, Nat.le_of_ble_eq_true rfl, Nat.le_of_ble_eq_true rfl, Nat.le_of_ble_eq_true rfl⟩ (k_Wi fun r105 s105 h => ?_)
        refine z_if_eq C dX12_one_108 (tgt := 113) (by decide) (fun c108 => ?_) (fun c108 => ?_)
        · have h := h.1 c108
          exact t_drop [true, true, true, false] rfl (j_X12_one_L0_113 hfl C hr hn9 hK91 s105 a1 a2 h)
        · have h := h.2 c108
          refine z_iload_n C dX12_one_111 (i := 2) rfl rfl ?_
          refine z_istore_n C dX12_one_112 (i := 1) (lc' := [some (.ref 100), some (.int (a2)), some (.int (a2)), none]) rfl (by decide) rfl ?_
          exact t_drop [true, true, true, false] rfl (j_X12_one_L0_113 hfl C hr hn9 hK91 s105 a2 a2 h)
def w_X12_one_L0 (st : zTs)  (P : zTs → Prop) : Prop := ((zgF st 100 0 9) ≤ 0 → w_X12_blanks st (fun (s9 : zTs) => (w_X12_isWord s9 20 (fun (r16 : Int32) (s16 : zTs) => ((r16 = 0 → w_X12_byteAt s16 (zgF s16 100 0 8) (fun (r53 : Int32) => ((r53 = 40 → w_X12_opens s16 1 (fun (s63 : zTs) => (w_X12_ors_L1 s63 (fun (s67 : zTs) => (w_X12_sign s67 41 (fun (s73 : zTs) => (∀ s83 : zTs, s83 = zuF s73 100 0 12 ((zgF s73 100 0 12) - 1) → (P s83)))))))) ∧ (¬ r53 = 40 → w_X12_one_L0_91 P zfu s16 (-1) (0))))) ∧ (¬ r16 = 0 → w_X12_opens s16 3 (fun (s24 : zTs) => (w_X12_one_L1 s24 (fun (s28 : zTs) => (∀ s38 : zTs, s38 = zuF s28 100 0 12 ((zgF s28 100 0 12) - 1) → (w_X12_emits s38 1 0 (fun (s44 : zTs) => (P s44))))))))))))) ∧ (¬ (zgF st 100 0 9) ≤ 0 → P st)
set_option maxHeartbeats 4000000 in
set_option maxRecDepth 100000 in
theorem c_X12_one_L0 {Z : zZ} {l : Launch} (hfl : l.stackTraces = false) {st : zTs}  {P : zTs → Prop} (h : w_X12_one_L0 st  P) : zN Z l yX12_one cX12_one 4 none ({ frames := 37, cells := 0, slots := 0, locals := 771 } : Room) (zh Z zm1 st) [.ref 100] (zWv Z zm1 P) := by
  unfold w_X12_one_L0 at h
  refine z_enterN (by decide) (Nat.le_of_ble_eq_true rfl) (lc0 := [some (.ref 100), none, none, none]) rfl ?_
  intro p e s m args below meth c ad0 C hr _
  have hn9 : True := trivial
  replace C : zC Z p s m args meth c cX12_one 4 RX12 := C
  refine z_aload_n C dX12_one_0 (i := 0) rfl rfl ?_
  refine t_get C dX12_one_1 fl_X12_239 (k := 100) (i := 0) (by decide) rfl (fg_100_9 _ _ _) ?_
  refine z_if_le C dX12_one_4 (tgt := 8) (by decide) (fun c4 => ?_) (fun c4 => ?_)
  · have h := h.1 c4
    refine z_aload_n C dX12_one_8 (i := 0) rfl rfl ?_
    refine t_callV C (rest := []) (c2 := 0) (s2 := 0) (kd := 100) (i := 0) [] dX12_one_9 lk_X12_242 li_X12_blanks le_X12_blanks (c_X12_blanks hfl h) rfl rfl (by decide) rfl ⟨_, rfl⟩ rfl ⟨Nat.le_of_ble_eq_true rfl, Nat.le_of_ble_eq_true rfl⟩ (Nat.le_of_ble_eq_true rfl) ⟨Nat.le_of_ble_eq_true rfl, Nat.le_of_ble_eq_true rfl, Nat.le_of_ble_eq_true rfl, Nat.le_of_ble_eq_true rfl⟩ (k_Wv fun s9 h => ?_)
    refine z_aload_n C dX12_one_12 (i := 0) rfl rfl ?_
    refine z_ldc_wS C dX12_one_13 (i := 20) (text := "not") (by decide) ?_
    refine t_callV C (rest := []) (c2 := 0) (s2 := 0) (kd := 100) (i := 0) [.ref (200 + 256 * 20)] dX12_one_16 lk_X12_255 li_X12_isWord le_X12_isWord (c_X12_isWord hfl h) rfl rfl (by decide) rfl ⟨_, rfl⟩ rfl ⟨Nat.le_of_ble_eq_true rfl, Nat.le_of_ble_eq_true rfl⟩ (Nat.le_of_ble_eq_true rfl) ⟨Nat.le_of_ble_eq_true rfl, Nat.le_of_ble_eq_true rfl, Nat.le_of_ble_eq_true rfl, Nat.le_of_ble_eq_true rfl⟩ (k_Wi fun r16 s16 h => ?_)
    refine z_if_eq C dX12_one_19 (tgt := 48) (by decide) (fun c19 => ?_) (fun c19 => ?_)
    · have h := h.1 c19
      refine z_aload_n C dX12_one_48 (i := 0) rfl rfl ?_
      refine z_aload_n C dX12_one_49 (i := 0) rfl rfl ?_
      refine t_get C dX12_one_50 fl_X12_232 (k := 100) (i := 0) (by decide) rfl (fg_100_8 _ _ _) ?_
      refine t_callV C (rest := []) (c2 := 0) (s2 := 0) (kd := 100) (i := 0) [.int (zgF s16 100 0 8)] dX12_one_53 lk_X12_235 li_X12_byteAt le_X12_byteAt (c_X12_byteAt hfl h) rfl rfl (by decide) rfl ⟨_, rfl⟩ rfl ⟨Nat.le_of_ble_eq_true rfl, Nat.le_of_ble_eq_true rfl⟩ (Nat.le_of_ble_eq_true rfl) ⟨Nat.le_of_ble_eq_true rfl, Nat.le_of_ble_eq_true rfl, Nat.le_of_ble_eq_true rfl, Nat.le_of_ble_eq_true rfl⟩ (k_Ri fun r53 h => ?_)
      refine z_bipush C dX12_one_56 (v := 40) (by decide) ?_
      refine z_icmp_ne C dX12_one_58 (tgt := 87) (by decide) (fun c58 => ?_) (fun c58 => ?_)
      · have h := h.2 c58
        refine z_iconst C dX12_one_87 (v := (-1)) (by decide) ?_
        refine z_istore_n C dX12_one_88 (i := 1) (lc' := [some (.ref 100), some (.int (-1)), none, none]) rfl (by decide) rfl ?_
        refine z_iconst C dX12_one_89 (v := 0) (by decide) ?_
        refine z_istore_n C dX12_one_90 (i := 2) (lc' := [some (.ref 100), some (.int (-1)), some (.int (0)), none]) rfl (by decide) rfl ?_
        exact t_drop [true, true, true, false] rfl (j_X12_one_L0_91 hfl C hr hn9  zfu s16 (-1) (0) h)
      · have h := h.1 c58
        refine z_aload_n C dX12_one_61 (i := 0) rfl rfl ?_
        refine z_iconst C dX12_one_62 (v := 1) (by decide) ?_
        refine t_callV C (rest := []) (c2 := 0) (s2 := 0) (kd := 100) (i := 0) [.int (1)] dX12_one_63 lk_X12_329 li_X12_opens le_X12_opens (c_X12_opens hfl h) rfl rfl (by decide) rfl ⟨_, rfl⟩ rfl ⟨Nat.le_of_ble_eq_true rfl, Nat.le_of_ble_eq_true rfl⟩ (Nat.le_of_ble_eq_true rfl) ⟨Nat.le_of_ble_eq_true rfl, Nat.le_of_ble_eq_true rfl, Nat.le_of_ble_eq_true rfl, Nat.le_of_ble_eq_true rfl⟩ (k_Wv fun s63 h => ?_)
        refine z_aload_n C dX12_one_66 (i := 0) rfl rfl ?_
        refine t_callV C (rest := []) (c2 := 0) (s2 := 0) (kd := 100) (i := 0) [] dX12_one_67 lk_X12_333 li_X12_ors le_X12_ors (c_X12_ors_L1 hfl h) rfl rfl (by decide) rfl ⟨_, rfl⟩ rfl ⟨Nat.le_of_ble_eq_true rfl, Nat.le_of_ble_eq_true rfl⟩ (Nat.le_of_ble_eq_true rfl) ⟨Nat.le_of_ble_eq_true rfl, Nat.le_of_ble_eq_true rfl, Nat.le_of_ble_eq_true rfl, Nat.le_of_ble_eq_true rfl⟩ (k_Wv fun s67 h => ?_)
        refine z_aload_n C dX12_one_70 (i := 0) rfl rfl ?_
        refine z_bipush C dX12_one_71 (v := 41) (by decide) ?_
        refine t_callV C (rest := []) (c2 := 0) (s2 := 0) (kd := 100) (i := 0) [.int (41)] dX12_one_73 lk_X12_336 li_X12_sign le_X12_sign (c_X12_sign hfl h) rfl rfl (by decide) rfl ⟨_, rfl⟩ rfl ⟨Nat.le_of_ble_eq_true rfl, Nat.le_of_ble_eq_true rfl⟩ (Nat.le_of_ble_eq_true rfl) ⟨Nat.le_of_ble_eq_true rfl, Nat.le_of_ble_eq_true rfl, Nat.le_of_ble_eq_true rfl, Nat.le_of_ble_eq_true rfl⟩ (k_Wv fun s73 h => ?_)
        refine z_aload_n C dX12_one_76 (i := 0) rfl rfl ?_
        refine z_dup C dX12_one_77 rfl ?_
        refine t_get C dX12_one_78 fl_X12_324 (k := 100) (i := 0) (by decide) rfl (fg_100_12 _ _ _) ?_
        refine z_iconst C dX12_one_81 (v := 1) (by decide) ?_
        refine z_isub C dX12_one_82 ?_
        refine t_put C dX12_one_83 fq_X12_324 (Or.inl rfl) (k := 100) (i := 0) (by decide) rfl ⟨rfl, rfl⟩ (fp_100_12 _ _ _ _ _) ?_
        refine t_tops (fun s83 es83 => ?_)
        have h := h s83 es83
        exact z_vret C dX12_one_86 hr ⟨_, rfl, rfl, h⟩ (Nat.le_of_ble_eq_true rfl) (Nat.le_of_ble_eq_true rfl)
    · have h := h.2 c19
      refine z_aload_n C dX12_one_22 (i := 0) rfl rfl ?_
      refine z_iconst C dX12_one_23 (v := 3) (by decide) ?_
      refine t_callV C (rest := []) (c2 := 0) (s2 := 0) (kd := 100) (i := 0) [.int (3)] dX12_one_24 lk_X12_329 li_X12_opens le_X12_opens (c_X12_opens hfl h) rfl rfl (by decide) rfl ⟨_, rfl⟩ rfl ⟨Nat.le_of_ble_eq_true rfl, Nat.le_of_ble_eq_true rfl⟩ (Nat.le_of_ble_eq_true rfl) ⟨Nat.le_of_ble_eq_true rfl, Nat.le_of_ble_eq_true rfl, Nat.le_of_ble_eq_true rfl, Nat.le_of_ble_eq_true rfl⟩ (k_Wv fun s24 h => ?_)
      refine z_aload_n C dX12_one_27 (i := 0) rfl rfl ?_
      refine t_callV C (rest := []) (c2 := 0) (s2 := 0) (kd := 100) (i := 0) [] dX12_one_28 lk_X12_319 li_X12_one le_X12_one (c_X12_one_L1 hfl h) rfl rfl (by decide) rfl ⟨_, rfl⟩ rfl ⟨Nat.le_of_ble_eq_true rfl, Nat.le_of_ble_eq_true rfl⟩ (Nat.le_of_ble_eq_true rfl) ⟨Nat.le_of_ble_eq_true rfl, Nat.le_of_ble_eq_true rfl, Nat.le_of_ble_eq_true rfl, Nat.le_of_ble_eq_true rfl⟩ (k_Wv fun s28 h => ?_)
      refine z_aload_n C dX12_one_31 (i := 0) rfl rfl ?_
      refine z_dup C dX12_one_32 rfl ?_
      refine t_get C dX12_one_33 fl_X12_324 (k := 100) (i := 0) (by decide) rfl (fg_100_12 _ _ _) ?_
      refine z_iconst C dX12_one_36 (v := 1) (by decide) ?_
      refine z_isub C dX12_one_37 ?_
      refine t_put C dX12_one_38 fq_X12_324 (Or.inl rfl) (k := 100) (i := 0) (by decide) rfl ⟨rfl, rfl⟩ (fp_100_12 _ _ _ _ _) ?_
      refine t_tops (fun s38 es38 => ?_)
      have h := h s38 es38
      refine z_aload_n C dX12_one_41 (i := 0) rfl rfl ?_
      refine z_iconst C dX12_one_42 (v := 1) (by decide) ?_
      refine z_iconst C dX12_one_43 (v := 0) (by decide) ?_
      refine t_callV C (rest := []) (c2 := 0) (s2 := 0) (kd := 100) (i := 0) [.int (1), .int (0)] dX12_one_44 lk_X12_316 li_X12_emits le_X12_emits (c_X12_emits hfl h) rfl rfl (by decide) rfl ⟨_, rfl⟩ rfl ⟨Nat.le_of_ble_eq_true rfl, Nat.le_of_ble_eq_true rfl⟩ (Nat.le_of_ble_eq_true rfl) ⟨Nat.le_of_ble_eq_true rfl, Nat.le_of_ble_eq_true rfl, Nat.le_of_ble_eq_true rfl, Nat.le_of_ble_eq_true rfl⟩ (k_Wv fun s44 h => ?_)
      exact z_vret C dX12_one_47 hr ⟨_, rfl, rfl, h⟩ (Nat.le_of_ble_eq_true rfl) (Nat.le_of_ble_eq_true rfl)
  · have h := h.2 c4
    exact z_vret C dX12_one_7 hr ⟨_, rfl, rfl, h⟩ (Nat.le_of_ble_eq_true rfl) (Nat.le_of_ble_eq_true rfl)
def w_X12_ands_L0_4 (P : zTs → Prop)  : Nat → zTs → Prop
  | 0, _ => False
  | n9 + 1, st => w_X12_eat st 19 (fun (r8 : Int32) (s8 : zTs) => ((r8 = 0 → P s8) ∧ (¬ r8 = 0 → w_X12_one_L0 s8 (fun (s15 : zTs) => (w_X12_emits s15 2 0 (fun (s21 : zTs) => ((w_X12_ands_L0_4 P n9) s21)))))))
set_option maxHeartbeats 4000000 in
set_option maxRecDepth 100000 in
theorem j_X12_ands_L0_4 {P : zTs → Prop}  (hfl : l.stackTraces = false) (C : zC Z p s m args meth c cX12_ands 1 RX12) (hr : meth.sig.returnType = none) (hn9 : True)  : ∀ (n9 : Nat) (st : zTs), w_X12_ands_L0_4 P n9 st → zG Z ad0 h0 p l e ({ frames := 38, cells := 0, slots := 0, locals := 794 } : Room) s m args below meth c (MQ below (zQ Z ad0 h0 (zWv Z zm1 P)) args s 0 0 (zA Z)) 0 0 (zh Z zm1 st) 1 4 [some (.ref 100)] [] := by
  intro n9
  induction n9 with
  | zero => intro st h; exact h.elim
  | succ n9 hK4 =>
    intro st h
    rw [w_X12_ands_L0_4] at h
    refine z_aload_n C dX12_ands_4 (i := 0) rfl rfl ?_
    refine z_ldc_wS C dX12_ands_5 (i := 19) (text := "and") (by decide) ?_
    refine t_callV C (rest := []) (c2 := 0) (s2 := 0) (kd := 100) (i := 0) [.ref (200 + 256 * 19)] dX12_ands_8 lk_X12_313 li_X12_eat le_X12_eat (c_X12_eat hfl h) rfl rfl (by decide) rfl ⟨_, rfl⟩ rfl ⟨Nat.le_of_ble_eq_true rfl, Nat.le_of_ble_eq_true rfl⟩ (Nat.le_of_ble_eq_true rfl) ⟨Nat.le_of_ble_eq_true rfl, Nat.le_of_ble_eq_true rfl, Nat.le_of_ble_eq_true rfl, Nat.le_of_ble_eq_true rfl⟩ (k_Wi fun r8 s8 h => ?_)
    refine z_if_eq C dX12_ands_11 (tgt := 27) (by decide) (fun c11 => ?_) (fun c11 => ?_)
    · have h := h.1 c11
      exact z_vret C dX12_ands_27 hr ⟨_, rfl, rfl, h⟩ (Nat.le_of_ble_eq_true rfl) (Nat.le_of_ble_eq_true rfl)
    · have h := h.2 c11
      refine z_aload_n C dX12_ands_14 (i := 0) rfl rfl ?_
      refine t_callV C (rest := []) (c2 := 0) (s2 := 0) (kd := 100) (i := 0) [] dX12_ands_15 lk_X12_319 li_X12_one le_X12_one (c_X12_one_L0 hfl h) rfl rfl (by decide) rfl ⟨_, rfl⟩ rfl ⟨Nat.le_of_ble_eq_true rfl, Nat.le_of_ble_eq_true rfl⟩ (Nat.le_of_ble_eq_true rfl) ⟨Nat.le_of_ble_eq_true rfl, Nat.le_of_ble_eq_true rfl, Nat.le_of_ble_eq_true rfl, Nat.le_of_ble_eq_true rfl⟩ (k_Wv fun s15 h => ?_)
      refine z_aload_n C dX12_ands_18 (i := 0) rfl rfl ?_
      refine z_iconst C dX12_ands_19 (v := 2) (by decide) ?_
      refine z_iconst C dX12_ands_20 (v := 0) (by decide) ?_
      refine t_callV C (rest := []) (c2 := 0) (s2 := 0) (kd := 100) (i := 0) [.int (2), .int (0)] dX12_ands_21 lk_X12_316 li_X12_emits le_X12_emits (c_X12_emits hfl h) rfl rfl (by decide) rfl ⟨_, rfl⟩ rfl ⟨Nat.le_of_ble_eq_true rfl, Nat.le_of_ble_eq_true rfl⟩ (Nat.le_of_ble_eq_true rfl) ⟨Nat.le_of_ble_eq_true rfl, Nat.le_of_ble_eq_true rfl, Nat.le_of_ble_eq_true rfl, Nat.le_of_ble_eq_true rfl⟩ (k_Wv fun s21 h => ?_)
      refine z_goto C dX12_ands_24 (tgt := 4) (by decide) ?_
      exact t_drop [true] rfl (hK4 s21 h)
def w_X12_ands_L0 (st : zTs)  (P : zTs → Prop) : Prop := w_X12_one_L0 st (fun (s1 : zTs) => (w_X12_ands_L0_4 P zfu s1))
set_option maxHeartbeats 4000000 in
set_option maxRecDepth 100000 in
theorem c_X12_ands_L0 {Z : zZ} {l : Launch} (hfl : l.stackTraces = false) {st : zTs}  {P : zTs → Prop} (h : w_X12_ands_L0 st  P) : zN Z l yX12_ands cX12_ands 1 none ({ frames := 38, cells := 0, slots := 0, locals := 794 } : Room) (zh Z zm1 st) [.ref 100] (zWv Z zm1 P) := by
  unfold w_X12_ands_L0 at h
  refine z_enterN (by decide) (Nat.le_of_ble_eq_true rfl) (lc0 := [some (.ref 100)]) rfl ?_
  intro p e s m args below meth c ad0 C hr _
  have hn9 : True := trivial
  replace C : zC Z p s m args meth c cX12_ands 1 RX12 := C
  refine z_aload_n C dX12_ands_0 (i := 0) rfl rfl ?_
  refine t_callV C (rest := []) (c2 := 0) (s2 := 0) (kd := 100) (i := 0) [] dX12_ands_1 lk_X12_319 li_X12_one le_X12_one (c_X12_one_L0 hfl h) rfl rfl (by decide) rfl ⟨_, rfl⟩ rfl ⟨Nat.le_of_ble_eq_true rfl, Nat.le_of_ble_eq_true rfl⟩ (Nat.le_of_ble_eq_true rfl) ⟨Nat.le_of_ble_eq_true rfl, Nat.le_of_ble_eq_true rfl, Nat.le_of_ble_eq_true rfl, Nat.le_of_ble_eq_true rfl⟩ (k_Wv fun s1 h => ?_)
  exact t_drop [true] rfl (j_X12_ands_L0_4 hfl C hr hn9  zfu s1 h)
def w_X12_ors_L0_4 (P : zTs → Prop)  : Nat → zTs → Prop
  | 0, _ => False
  | n9 + 1, st => w_X12_eat st 18 (fun (r8 : Int32) (s8 : zTs) => ((r8 = 0 → P s8) ∧ (¬ r8 = 0 → w_X12_ands_L0 s8 (fun (s15 : zTs) => (w_X12_emits s15 3 0 (fun (s21 : zTs) => ((w_X12_ors_L0_4 P n9) s21)))))))
set_option maxHeartbeats 4000000 in
set_option maxRecDepth 100000 in
theorem j_X12_ors_L0_4 {P : zTs → Prop}  (hfl : l.stackTraces = false) (C : zC Z p s m args meth c cX12_ors 1 RX12) (hr : meth.sig.returnType = none) (hn9 : True)  : ∀ (n9 : Nat) (st : zTs), w_X12_ors_L0_4 P n9 st → zG Z ad0 h0 p l e ({ frames := 39, cells := 0, slots := 0, locals := 814 } : Room) s m args below meth c (MQ below (zQ Z ad0 h0 (zWv Z zm1 P)) args s 0 0 (zA Z)) 0 0 (zh Z zm1 st) 1 4 [some (.ref 100)] [] := by
  intro n9
  induction n9 with
  | zero => intro st h; exact h.elim
  | succ n9 hK4 =>
    intro st h
    rw [w_X12_ors_L0_4] at h
    refine z_aload_n C dX12_ors_4 (i := 0) rfl rfl ?_
    refine z_ldc_wS C dX12_ors_5 (i := 18) (text := "or") (by decide) ?_
    refine t_callV C (rest := []) (c2 := 0) (s2 := 0) (kd := 100) (i := 0) [.ref (200 + 256 * 18)] dX12_ors_8 lk_X12_313 li_X12_eat le_X12_eat (c_X12_eat hfl h) rfl rfl (by decide) rfl ⟨_, rfl⟩ rfl ⟨Nat.le_of_ble_eq_true rfl, Nat.le_of_ble_eq_true rfl⟩ (Nat.le_of_ble_eq_true rfl) ⟨Nat.le_of_ble_eq_true rfl, Nat.le_of_ble_eq_true rfl, Nat.le_of_ble_eq_true rfl, Nat.le_of_ble_eq_true rfl⟩ (k_Wi fun r8 s8 h => ?_)
    refine z_if_eq C dX12_ors_11 (tgt := 27) (by decide) (fun c11 => ?_) (fun c11 => ?_)
    · have h := h.1 c11
      exact z_vret C dX12_ors_27 hr ⟨_, rfl, rfl, h⟩ (Nat.le_of_ble_eq_true rfl) (Nat.le_of_ble_eq_true rfl)
    · have h := h.2 c11
      refine z_aload_n C dX12_ors_14 (i := 0) rfl rfl ?_
      refine t_callV C (rest := []) (c2 := 0) (s2 := 0) (kd := 100) (i := 0) [] dX12_ors_15 lk_X12_308 li_X12_ands le_X12_ands (c_X12_ands_L0 hfl h) rfl rfl (by decide) rfl ⟨_, rfl⟩ rfl ⟨Nat.le_of_ble_eq_true rfl, Nat.le_of_ble_eq_true rfl⟩ (Nat.le_of_ble_eq_true rfl) ⟨Nat.le_of_ble_eq_true rfl, Nat.le_of_ble_eq_true rfl, Nat.le_of_ble_eq_true rfl, Nat.le_of_ble_eq_true rfl⟩ (k_Wv fun s15 h => ?_)
      refine z_aload_n C dX12_ors_18 (i := 0) rfl rfl ?_
      refine z_iconst C dX12_ors_19 (v := 3) (by decide) ?_
      refine z_iconst C dX12_ors_20 (v := 0) (by decide) ?_
      refine t_callV C (rest := []) (c2 := 0) (s2 := 0) (kd := 100) (i := 0) [.int (3), .int (0)] dX12_ors_21 lk_X12_316 li_X12_emits le_X12_emits (c_X12_emits hfl h) rfl rfl (by decide) rfl ⟨_, rfl⟩ rfl ⟨Nat.le_of_ble_eq_true rfl, Nat.le_of_ble_eq_true rfl⟩ (Nat.le_of_ble_eq_true rfl) ⟨Nat.le_of_ble_eq_true rfl, Nat.le_of_ble_eq_true rfl, Nat.le_of_ble_eq_true rfl, Nat.le_of_ble_eq_true rfl⟩ (k_Wv fun s21 h => ?_)
      refine z_goto C dX12_ors_24 (tgt := 4) (by decide) ?_
      exact t_drop [true] rfl (hK4 s21 h)
def w_X12_ors_L0 (st : zTs)  (P : zTs → Prop) : Prop := w_X12_ands_L0 st (fun (s1 : zTs) => (w_X12_ors_L0_4 P zfu s1))
set_option maxHeartbeats 4000000 in
set_option maxRecDepth 100000 in
theorem c_X12_ors_L0 {Z : zZ} {l : Launch} (hfl : l.stackTraces = false) {st : zTs}  {P : zTs → Prop} (h : w_X12_ors_L0 st  P) : zN Z l yX12_ors cX12_ors 1 none ({ frames := 39, cells := 0, slots := 0, locals := 814 } : Room) (zh Z zm1 st) [.ref 100] (zWv Z zm1 P) := by
  unfold w_X12_ors_L0 at h
  refine z_enterN (by decide) (Nat.le_of_ble_eq_true rfl) (lc0 := [some (.ref 100)]) rfl ?_
  intro p e s m args below meth c ad0 C hr _
  have hn9 : True := trivial
  replace C : zC Z p s m args meth c cX12_ors 1 RX12 := C
  refine z_aload_n C dX12_ors_0 (i := 0) rfl rfl ?_
  refine t_callV C (rest := []) (c2 := 0) (s2 := 0) (kd := 100) (i := 0) [] dX12_ors_1 lk_X12_308 li_X12_ands le_X12_ands (c_X12_ands_L0 hfl h) rfl rfl (by decide) rfl ⟨_, rfl⟩ rfl ⟨Nat.le_of_ble_eq_true rfl, Nat.le_of_ble_eq_true rfl⟩ (Nat.le_of_ble_eq_true rfl) ⟨Nat.le_of_ble_eq_true rfl, Nat.le_of_ble_eq_true rfl, Nat.le_of_ble_eq_true rfl, Nat.le_of_ble_eq_true rfl⟩ (k_Wv fun s1 h => ?_)
  exact t_drop [true] rfl (j_X12_ors_L0_4 hfl C hr hn9  zfu s1 h)
def w_X12_clause_307 (P : zTs → Prop)  (st : zTs) : Prop := w_X12_sign st 59 (fun (s310 : zTs) => (P s310))
set_option maxHeartbeats 4000000 in
set_option maxRecDepth 100000 in
theorem j_X12_clause_307 {P : zTs → Prop}  (hfl : l.stackTraces = false) (C : zC Z p s m args meth c cX12_clause 4 RX12) (hr : meth.sig.returnType = none) (hn9 : True)  (st : zTs) (h : w_X12_clause_307 P st) : zG Z ad0 h0 p l e ({ frames := 40, cells := 0, slots := 0, locals := 834 } : Room) s m args below meth c (MQ below (zQ Z ad0 h0 (zWv Z zm1 P)) args s 0 0 (zA Z)) 0 0 (zh Z zm1 st) 4 307 [some (.ref 100), none, none, none] [] := by
  unfold w_X12_clause_307 at h
  refine z_aload_n C dX12_clause_307 (i := 0) rfl rfl ?_
  refine z_bipush C dX12_clause_308 (v := 59) (by decide) ?_
  refine t_callV C (rest := []) (c2 := 0) (s2 := 0) (kd := 100) (i := 0) [.int (59)] dX12_clause_310 lk_X12_336 li_X12_sign le_X12_sign (c_X12_sign hfl h) rfl rfl (by decide) rfl ⟨_, rfl⟩ rfl ⟨Nat.le_of_ble_eq_true rfl, Nat.le_of_ble_eq_true rfl⟩ (Nat.le_of_ble_eq_true rfl) ⟨Nat.le_of_ble_eq_true rfl, Nat.le_of_ble_eq_true rfl, Nat.le_of_ble_eq_true rfl, Nat.le_of_ble_eq_true rfl⟩ (k_Wv fun s310 h => ?_)
  exact z_vret C dX12_clause_313 hr ⟨_, rfl, rfl, h⟩ (Nat.le_of_ble_eq_true rfl) (Nat.le_of_ble_eq_true rfl)
def w_X12_clause_303 (P : zTs → Prop)  (st : zTs) (b0 : Int32) (b1 : Int32) (b3 : Int32) : Prop := w_X12_number st b1 b0 (fun (r303 : Int32) (s303 : zTs) => (vp_in b3 15 ∧ (∀ s306 : zTs, s306 = zuA s303 104 0 (b3 : Int32).toNatClampNeg r303 → (w_X12_clause_307 P s306))))
set_option maxHeartbeats 4000000 in
set_option maxRecDepth 100000 in
theorem j_X12_clause_303 {P : zTs → Prop}  (hfl : l.stackTraces = false) (C : zC Z p s m args meth c cX12_clause 4 RX12) (hr : meth.sig.returnType = none) (hn9 : True)  (st : zTs) (b0 : Int32) (b1 : Int32) (b3 : Int32) (h : w_X12_clause_303 P st b0 b1 b3) : zG Z ad0 h0 p l e ({ frames := 40, cells := 0, slots := 0, locals := 834 } : Room) s m args below meth c (MQ below (zQ Z ad0 h0 (zWv Z zm1 P)) args s 0 0 (zA Z)) 0 0 (zh Z zm1 st) 4 303 [some (.ref 100), none, none, none] [.int (b0), .int (b1), .ref 100, .int (b3), .ref 104] := by
  unfold w_X12_clause_303 at h
  refine t_callV C (rest := [.int (b3), .ref 104]) (c2 := 0) (s2 := 0) (kd := 100) (i := 0) [.int (b1), .int (b0)] dX12_clause_303 lk_X12_342 li_X12_number le_X12_number (c_X12_number hfl h) rfl rfl (by decide) rfl ⟨_, rfl⟩ rfl ⟨Nat.le_of_ble_eq_true rfl, Nat.le_of_ble_eq_true rfl⟩ (Nat.le_of_ble_eq_true rfl) ⟨Nat.le_of_ble_eq_true rfl, Nat.le_of_ble_eq_true rfl, Nat.le_of_ble_eq_true rfl, Nat.le_of_ble_eq_true rfl⟩ (k_Wi fun r303 s303 h => ?_)
  obtain ⟨g306, h⟩ := h
  refine t_iast C dX12_clause_306 (k := 104) (i := 0) (by decide) rfl (fun s9 => sh_104 _ _ s9 _) g306 ?_
  refine t_tops (fun s306 es306 => ?_)
  have h := h s306 es306
  exact t_drop [true, false, false, false] rfl (j_X12_clause_307 hfl C hr hn9  s306 h)
def w_X12_clause_227 (P : zTs → Prop)  (st : zTs) (b0 : Int32) (b1 : Int32) : Prop := vp_in b1 15 ∧ (∀ s227 : zTs, s227 = zuA st 104 0 (b1 : Int32).toNatClampNeg b0 → (w_X12_clause_307 P s227))
set_option maxHeartbeats 4000000 in
set_option maxRecDepth 100000 in
theorem j_X12_clause_227 {P : zTs → Prop}  (hfl : l.stackTraces = false) (C : zC Z p s m args meth c cX12_clause 4 RX12) (hr : meth.sig.returnType = none) (hn9 : True)  (st : zTs) (b0 : Int32) (b1 : Int32) (h : w_X12_clause_227 P st b0 b1) : zG Z ad0 h0 p l e ({ frames := 40, cells := 0, slots := 0, locals := 834 } : Room) s m args below meth c (MQ below (zQ Z ad0 h0 (zWv Z zm1 P)) args s 0 0 (zA Z)) 0 0 (zh Z zm1 st) 4 227 [some (.ref 100), none, none, none] [.int (b0), .int (b1), .ref 104] := by
  unfold w_X12_clause_227 at h
  obtain ⟨g227, h⟩ := h
  refine t_iast C dX12_clause_227 (k := 104) (i := 0) (by decide) rfl (fun s9 => sh_104 _ _ s9 _) g227 ?_
  refine t_tops (fun s227 es227 => ?_)
  have h := h s227 es227
  refine z_goto C dX12_clause_228 (tgt := 307) (by decide) ?_
  exact t_drop [true, false, false, false] rfl (j_X12_clause_307 hfl C hr hn9  s227 h)
def w_X12_clause_213 (P : zTs → Prop)  (st : zTs) (a1 : Int32) (a2 : Int32) : Prop := (a2 = 0 → w_X12_clause_227 P st (1) a1) ∧ (¬ a2 = 0 → w_X12_clause_227 P st (0) a1)
set_option maxHeartbeats 4000000 in
set_option maxRecDepth 100000 in
theorem j_X12_clause_213 {P : zTs → Prop}  (hfl : l.stackTraces = false) (C : zC Z p s m args meth c cX12_clause 4 RX12) (hr : meth.sig.returnType = none) (hn9 : True)  (st : zTs) (a1 : Int32) (a2 : Int32) (h : w_X12_clause_213 P st a1 a2) : zG Z ad0 h0 p l e ({ frames := 40, cells := 0, slots := 0, locals := 834 } : Room) s m args below meth c (MQ below (zQ Z ad0 h0 (zWv Z zm1 P)) args s 0 0 (zA Z)) 0 0 (zh Z zm1 st) 4 213 [some (.ref 100), some (.int (a1)), some (.int (a2)), none] [] := by
  unfold w_X12_clause_213 at h
  refine z_aload_n C dX12_clause_213 (i := 0) rfl rfl ?_
  refine t_get C dX12_clause_214 fl_X12_24 (k := 100) (i := 0) (by decide) rfl (fg_100_14 _ _ _) ?_
  refine z_iload_n C dX12_clause_217 (i := 1) rfl rfl ?_
  refine z_iload_n C dX12_clause_218 (i := 2) rfl rfl ?_
  refine z_if_eq C dX12_clause_219 (tgt := 226) (by decide) (fun c219 => ?_) (fun c219 => ?_)
  · have h := h.1 c219
    refine z_iconst C dX12_clause_226 (v := 1) (by decide) ?_
    exact t_drop [true, false, false, false] rfl (j_X12_clause_227 hfl C hr hn9  st (1) a1 h)
  · have h := h.2 c219
    refine z_iconst C dX12_clause_222 (v := 0) (by decide) ?_
    refine z_goto C dX12_clause_223 (tgt := 227) (by decide) ?_
    exact t_drop [true, false, false, false] rfl (j_X12_clause_227 hfl C hr hn9  st (0) a1 h)
def w_X12_clause_169 (P : zTs → Prop) (K108 : zTs → Int32 → Int32 → Prop) (st : zTs) (a1 : Int32) (b0 : Int32) : Prop := K108 st a1 b0
set_option maxHeartbeats 4000000 in
set_option maxRecDepth 100000 in
theorem j_X12_clause_169 {P : zTs → Prop} {K108 : zTs → Int32 → Int32 → Prop} (hfl : l.stackTraces = false) (C : zC Z p s m args meth c cX12_clause 4 RX12) (hr : meth.sig.returnType = none) (hn9 : True) (hK108 : ∀ (st : zTs) (a1 : Int32) (a2 : Int32), K108 st a1 a2 → zG Z ad0 h0 p l e ({ frames := 40, cells := 0, slots := 0, locals := 834 } : Room) s m args below meth c (MQ below (zQ Z ad0 h0 (zWv Z zm1 P)) args s 0 0 (zA Z)) 0 0 (zh Z zm1 st) 4 108 [some (.ref 100), some (.int (a1)), some (.int (a2)), none] []) (st : zTs) (a1 : Int32) (b0 : Int32) (h : w_X12_clause_169 P K108 st a1 b0) : zG Z ad0 h0 p l e ({ frames := 40, cells := 0, slots := 0, locals := 834 } : Room) s m args below meth c (MQ below (zQ Z ad0 h0 (zWv Z zm1 P)) args s 0 0 (zA Z)) 0 0 (zh Z zm1 st) 4 169 [some (.ref 100), some (.int (a1)), none, none] [.int (b0)] := by
  unfold w_X12_clause_169 at h
  refine z_istore_n C dX12_clause_169 (i := 2) (lc' := [some (.ref 100), some (.int (a1)), some (.int (b0)), none]) rfl (by decide) rfl ?_
  refine z_goto C dX12_clause_170 (tgt := 108) (by decide) ?_
  exact t_drop [true, true, true, false] rfl (hK108 st a1 b0 h)
def w_X12_clause_168 (P : zTs → Prop) (K108 : zTs → Int32 → Int32 → Prop) (st : zTs) (a1 : Int32) : Prop := w_X12_clause_169 P K108 st a1 (0)
set_option maxHeartbeats 4000000 in
set_option maxRecDepth 100000 in
theorem j_X12_clause_168 {P : zTs → Prop} {K108 : zTs → Int32 → Int32 → Prop} (hfl : l.stackTraces = false) (C : zC Z p s m args meth c cX12_clause 4 RX12) (hr : meth.sig.returnType = none) (hn9 : True) (hK108 : ∀ (st : zTs) (a1 : Int32) (a2 : Int32), K108 st a1 a2 → zG Z ad0 h0 p l e ({ frames := 40, cells := 0, slots := 0, locals := 834 } : Room) s m args below meth c (MQ below (zQ Z ad0 h0 (zWv Z zm1 P)) args s 0 0 (zA Z)) 0 0 (zh Z zm1 st) 4 108 [some (.ref 100), some (.int (a1)), some (.int (a2)), none] []) (st : zTs) (a1 : Int32) (h : w_X12_clause_168 P K108 st a1) : zG Z ad0 h0 p l e ({ frames := 40, cells := 0, slots := 0, locals := 834 } : Room) s m args below meth c (MQ below (zQ Z ad0 h0 (zWv Z zm1 P)) args s 0 0 (zA Z)) 0 0 (zh Z zm1 st) 4 168 [some (.ref 100), some (.int (a1)), none, none] [] := by
  unfold w_X12_clause_168 at h
  refine z_iconst C dX12_clause_168 (v := 0) (by decide) ?_
  exact t_drop [true, true, false, false] rfl (j_X12_clause_169 hfl C hr hn9 hK108 st a1 (0) h)
def w_X12_clause_139 (P : zTs → Prop) (K108 : zTs → Int32 → Int32 → Prop) (st : zTs) (a1 : Int32) : Prop := w_X12_blanks st (fun (s140 : zTs) => (((zgF s140 100 0 9) = 0 → w_X12_byteAt s140 (zgF s140 100 0 8) (fun (r155 : Int32) => (w_X12_isDigit s140 r155 (fun (r158 : Int32) => ((r158 = 0 → w_X12_clause_168 P K108 s140 a1) ∧ (¬ r158 = 0 → w_X12_clause_169 P K108 s140 a1 (1))))))) ∧ (¬ (zgF s140 100 0 9) = 0 → w_X12_clause_168 P K108 s140 a1)))
set_option maxHeartbeats 4000000 in
set_option maxRecDepth 100000 in
theorem j_X12_clause_139 {P : zTs → Prop} {K108 : zTs → Int32 → Int32 → Prop} (hfl : l.stackTraces = false) (C : zC Z p s m args meth c cX12_clause 4 RX12) (hr : meth.sig.returnType = none) (hn9 : True) (hK108 : ∀ (st : zTs) (a1 : Int32) (a2 : Int32), K108 st a1 a2 → zG Z ad0 h0 p l e ({ frames := 40, cells := 0, slots := 0, locals := 834 } : Room) s m args below meth c (MQ below (zQ Z ad0 h0 (zWv Z zm1 P)) args s 0 0 (zA Z)) 0 0 (zh Z zm1 st) 4 108 [some (.ref 100), some (.int (a1)), some (.int (a2)), none] []) (st : zTs) (a1 : Int32) (h : w_X12_clause_139 P K108 st a1) : zG Z ad0 h0 p l e ({ frames := 40, cells := 0, slots := 0, locals := 834 } : Room) s m args below meth c (MQ below (zQ Z ad0 h0 (zWv Z zm1 P)) args s 0 0 (zA Z)) 0 0 (zh Z zm1 st) 4 139 [some (.ref 100), some (.int (a1)), none, none] [] := by
  unfold w_X12_clause_139 at h
  refine z_aload_n C dX12_clause_139 (i := 0) rfl rfl ?_
  refine t_callV C (rest := []) (c2 := 0) (s2 := 0) (kd := 100) (i := 0) [] dX12_clause_140 lk_X12_242 li_X12_blanks le_X12_blanks (c_X12_blanks hfl h) rfl rfl (by decide) rfl ⟨_, rfl⟩ rfl ⟨Nat.le_of_ble_eq_true rfl, Nat.le_of_ble_eq_true rfl⟩ (Nat.le_of_ble_eq_true rfl) ⟨Nat.le_of_ble_eq_true rfl, Nat.le_of_ble_eq_true rfl, Nat.le_of_ble_eq_true rfl, Nat.le_of_ble_eq_true rfl⟩ (k_Wv fun s140 h => ?_)
  refine z_aload_n C dX12_clause_143 (i := 0) rfl rfl ?_
  refine t_get C dX12_clause_144 fl_X12_239 (k := 100) (i := 0) (by decide) rfl (fg_100_9 _ _ _) ?_
  refine z_if_ne C dX12_clause_147 (tgt := 168) (by decide) (fun c147 => ?_) (fun c147 => ?_)
  · have h := h.2 c147
    exact t_drop [true, true, false, false] rfl (j_X12_clause_168 hfl C hr hn9 hK108 s140 a1 h)
  · have h := h.1 c147
    refine z_aload_n C dX12_clause_150 (i := 0) rfl rfl ?_
    refine z_aload_n C dX12_clause_151 (i := 0) rfl rfl ?_
    refine t_get C dX12_clause_152 fl_X12_232 (k := 100) (i := 0) (by decide) rfl (fg_100_8 _ _ _) ?_
    refine t_callV C (rest := []) (c2 := 0) (s2 := 0) (kd := 100) (i := 0) [.int (zgF s140 100 0 8)] dX12_clause_155 lk_X12_235 li_X12_byteAt le_X12_byteAt (c_X12_byteAt hfl h) rfl rfl (by decide) rfl ⟨_, rfl⟩ rfl ⟨Nat.le_of_ble_eq_true rfl, Nat.le_of_ble_eq_true rfl⟩ (Nat.le_of_ble_eq_true rfl) ⟨Nat.le_of_ble_eq_true rfl, Nat.le_of_ble_eq_true rfl, Nat.le_of_ble_eq_true rfl, Nat.le_of_ble_eq_true rfl⟩ (k_Ri fun r155 h => ?_)
    refine t_callS C (rest := []) (c2 := 0) (s2 := 0) [.int (r155)] dX12_clause_158 lk_X12_297 ls_X12_isDigit (c_X12_isDigit hfl h) rfl rfl ⟨Nat.le_of_ble_eq_true rfl, Nat.le_of_ble_eq_true rfl⟩ (Nat.le_of_ble_eq_true rfl) ⟨Nat.le_of_ble_eq_true rfl, Nat.le_of_ble_eq_true rfl, Nat.le_of_ble_eq_true rfl, Nat.le_of_ble_eq_true rfl⟩ (k_Ri fun r158 h => ?_)
    refine z_if_eq C dX12_clause_161 (tgt := 168) (by decide) (fun c161 => ?_) (fun c161 => ?_)
    · have h := h.1 c161
      exact t_drop [true, true, false, false] rfl (j_X12_clause_168 hfl C hr hn9 hK108 s140 a1 h)
    · have h := h.2 c161
      refine z_iconst C dX12_clause_164 (v := 1) (by decide) ?_
      refine z_goto C dX12_clause_165 (tgt := 169) (by decide) ?_
      exact t_drop [true, true, false, false] rfl (j_X12_clause_169 hfl C hr hn9 hK108 s140 a1 (1) h)
def w_X12_clause_108 (P : zTs → Prop)  : Nat → zTs → Int32 → Int32 → Prop
  | 0, _, _, _ => False
  | n9 + 1, st, a1, a2 => (a2 = 0 → w_X12_clause_307 P st) ∧ (¬ a2 = 0 → w_X12_number st 0 6 (fun (r116 : Int32) (s116 : zTs) => (((zgF s116 100 0 9) = 0 → vp_in a1 15 ∧ (vp_in a1 15 ∧ (∀ s138 : zTs, s138 = zuA s116 104 0 (a1 : Int32).toNatClampNeg ((zgA s116 104 0 (a1 : Int32).toNatClampNeg) ||| (1 <<< (r116 &&& 31))) → (w_X12_clause_139 P (w_X12_clause_108 P n9) s138 a1)))) ∧ (¬ (zgF s116 100 0 9) = 0 → w_X12_clause_139 P (w_X12_clause_108 P n9) s116 a1))))
set_option maxHeartbeats 4000000 in
set_option maxRecDepth 100000 in
theorem j_X12_clause_108 {P : zTs → Prop}  (hfl : l.stackTraces = false) (C : zC Z p s m args meth c cX12_clause 4 RX12) (hr : meth.sig.returnType = none) (hn9 : True)  : ∀ (n9 : Nat) (st : zTs) (a1 : Int32) (a2 : Int32), w_X12_clause_108 P n9 st a1 a2 → zG Z ad0 h0 p l e ({ frames := 40, cells := 0, slots := 0, locals := 834 } : Room) s m args below meth c (MQ below (zQ Z ad0 h0 (zWv Z zm1 P)) args s 0 0 (zA Z)) 0 0 (zh Z zm1 st) 4 108 [some (.ref 100), some (.int (a1)), some (.int (a2)), none] [] := by
  intro n9
  induction n9 with
  | zero => intro st a1 a2 h; exact h.elim
  | succ n9 hK108 =>
    intro st a1 a2 h
    rw [w_X12_clause_108] at h
    refine z_iload_n C dX12_clause_108 (i := 2) rfl rfl ?_
    refine z_if_eq C dX12_clause_109 (tgt := 173) (by decide) (fun c109 => ?_) (fun c109 => ?_)
    · have h := h.1 c109
      refine z_goto C dX12_clause_173 (tgt := 307) (by decide) ?_
      exact t_drop [true, false, false, false] rfl (j_X12_clause_307 hfl C hr hn9  st h)
    · have h := h.2 c109
      refine z_aload_n C dX12_clause_112 (i := 0) rfl rfl ?_
      refine z_iconst C dX12_clause_113 (v := 0) (by decide) ?_
      refine z_bipush C dX12_clause_114 (v := 6) (by decide) ?_
      refine t_callV C (rest := []) (c2 := 0) (s2 := 0) (kd := 100) (i := 0) [.int (0), .int (6)] dX12_clause_116 lk_X12_342 li_X12_number le_X12_number (c_X12_number hfl h) rfl rfl (by decide) rfl ⟨_, rfl⟩ rfl ⟨Nat.le_of_ble_eq_true rfl, Nat.le_of_ble_eq_true rfl⟩ (Nat.le_of_ble_eq_true rfl) ⟨Nat.le_of_ble_eq_true rfl, Nat.le_of_ble_eq_true rfl, Nat.le_of_ble_eq_true rfl, Nat.le_of_ble_eq_true rfl⟩ (k_Wi fun r116 s116 h => ?_)
      refine z_istore_n C dX12_clause_119 (i := 3) (lc' := [some (.ref 100), some (.int (a1)), some (.int (a2)), some (.int (r116))]) rfl (by decide) rfl ?_
      refine z_aload_n C dX12_clause_120 (i := 0) rfl rfl ?_
      refine t_get C dX12_clause_121 fl_X12_239 (k := 100) (i := 0) (by decide) rfl (fg_100_9 _ _ _) ?_
      refine z_if_ne C dX12_clause_124 (tgt := 139) (by decide) (fun c124 => ?_) (fun c124 => ?_)
      · have h := h.2 c124
        exact t_drop [true, true, false, false] rfl (j_X12_clause_139 hfl C hr hn9 hK108 s116 a1 h)
      · have h := h.1 c124
        refine z_aload_n C dX12_clause_127 (i := 0) rfl rfl ?_
        refine t_get C dX12_clause_128 fl_X12_24 (k := 100) (i := 0) (by decide) rfl (fg_100_14 _ _ _) ?_
        refine z_iload_n C dX12_clause_131 (i := 1) rfl rfl ?_
        refine z_dup2 C dX12_clause_132 rfl rfl ?_
        obtain ⟨g133, h⟩ := h
        refine t_iald C dX12_clause_133 (k := 104) (i := 0) (by decide) rfl (sh_104 _ _ _ _) g133 ?_
        refine z_iconst C dX12_clause_134 (v := 1) (by decide) ?_
        refine z_iload_n C dX12_clause_135 (i := 3) rfl rfl ?_
        refine z_ishl C dX12_clause_136 ?_
        refine z_ior C dX12_clause_137 ?_
        obtain ⟨g138, h⟩ := h
        refine t_iast C dX12_clause_138 (k := 104) (i := 0) (by decide) rfl (fun s9 => sh_104 _ _ s9 _) g138 ?_
        refine t_tops (fun s138 es138 => ?_)
        have h := h s138 es138
        exact t_drop [true, true, false, false] rfl (j_X12_clause_139 hfl C hr hn9 hK108 s138 a1 h)
def w_X12_clause (st : zTs)  (P : zTs → Prop) : Prop := w_X12_wordHere st (fun (r1 : Int32) (s1 : zTs) => ((0 ≤ r1 → w_X12_wordOf s1 r1 (fun (r25 : Nat) => ((r25 < 34) ∧ (w_J0_length_8abf5_s s1 r25 (fun (r28 : Int32) => (∀ s32 : zTs, s32 = zuF s1 100 0 8 ((zgF s1 100 0 8) + r28) → ((4 ≤ r1 → (r1 = 5 → vp_in r1 15 ∧ (∀ s105 : zTs, s105 = zuA s32 104 0 (r1 : Int32).toNatClampNeg 0 → (w_X12_clause_108 P zfu s105 r1 (1)))) ∧ (¬ r1 = 5 → (r1 = 7 → w_X12_eat s32 16 (fun (r186 : Int32) (s186 : zTs) => ((r186 = 0 → w_X12_eat s186 17 (fun (r198 : Int32) (s198 : zTs) => ((r198 = 0 → w_X12_wrong s198 1 (zgF s198 100 0 8) (fun (s210 : zTs) => (w_X12_clause_213 P s210 r1 r186))) ∧ (¬ r198 = 0 → w_X12_clause_213 P s198 r1 r186)))) ∧ (¬ r186 = 0 → w_X12_clause_213 P s186 r1 r186)))) ∧ (¬ r1 = 7 → (r1 = 13 → w_X12_number s32 0 24 (fun (r247 : Int32) (s247 : zTs) => (vp_in 13 15 ∧ (∀ s250 : zTs, s250 = zuA s247 104 0 (13 : Int32).toNatClampNeg r247 → (w_X12_sign s250 45 (fun (s254 : zTs) => (vp_in 13 15 ∧ (w_X12_number s254 ((zgA s254 104 0 (13 : Int32).toNatClampNeg) + 1) 24 (fun (r275 : Int32) (s275 : zTs) => (vp_in 14 15 ∧ (∀ s278 : zTs, s278 = zuA s275 104 0 (14 : Int32).toNatClampNeg r275 → (w_X12_clause_307 P s278)))))))))))) ∧ (¬ r1 = 13 → (r1 = 10 → w_X12_clause_303 P s32 (100) (0) r1) ∧ (¬ r1 = 10 → w_X12_clause_303 P s32 (400) (0) r1))))) ∧ (¬ 4 ≤ r1 → w_X12_number s32 0 400 (fun (r50 : Int32) (s50 : zTs) => (vp_in r1 15 ∧ (∀ s53 : zTs, s53 = zuA s50 104 0 (r1 : Int32).toNatClampNeg r50 → (vp_in r1 4 ∧ (∀ s60 : zTs, s60 = zuA s53 106 0 (r1 : Int32).toNatClampNeg (-1) → (w_X12_eat s60 15 (fun (r65 : Int32) (s65 : zTs) => ((r65 = 0 → w_X12_clause_307 P s65) ∧ (¬ r65 = 0 → vp_in r1 4 ∧ (∀ s80 : zTs, s80 = zuA s65 106 0 (r1 : Int32).toNatClampNeg (zgF s65 100 0 21) → (w_X12_ors_L0 s80 (fun (s82 : zTs) => (w_X12_emits s82 0 0 (fun (s88 : zTs) => (w_X12_clause_307 P s88))))))))))))))))))))))) ∧ (¬ 0 ≤ r1 → w_X12_wrong s1 1 (zgF s1 100 0 8) (fun (s15 : zTs) => (P s15)))))
set_option maxHeartbeats 4000000 in
set_option maxRecDepth 100000 in
theorem c_X12_clause {Z : zZ} {l : Launch} (hfl : l.stackTraces = false) {st : zTs}  {P : zTs → Prop} (h : w_X12_clause st  P) : zN Z l yX12_clause cX12_clause 4 none ({ frames := 40, cells := 0, slots := 0, locals := 834 } : Room) (zh Z zm1 st) [.ref 100] (zWv Z zm1 P) := by
  unfold w_X12_clause at h
  refine z_enterN (by decide) (Nat.le_of_ble_eq_true rfl) (lc0 := [some (.ref 100), none, none, none]) rfl ?_
  intro p e s m args below meth c ad0 C hr _
  have hn9 : True := trivial
  replace C : zC Z p s m args meth c cX12_clause 4 RX12 := C
  refine z_aload_n C dX12_clause_0 (i := 0) rfl rfl ?_
  refine t_callV C (rest := []) (c2 := 0) (s2 := 0) (kd := 100) (i := 0) [] dX12_clause_1 lk_X12_346 li_X12_wordHere le_X12_wordHere (c_X12_wordHere hfl h) rfl rfl (by decide) rfl ⟨_, rfl⟩ rfl ⟨Nat.le_of_ble_eq_true rfl, Nat.le_of_ble_eq_true rfl⟩ (Nat.le_of_ble_eq_true rfl) ⟨Nat.le_of_ble_eq_true rfl, Nat.le_of_ble_eq_true rfl, Nat.le_of_ble_eq_true rfl, Nat.le_of_ble_eq_true rfl⟩ (k_Wi fun r1 s1 h => ?_)
  refine z_istore_n C dX12_clause_4 (i := 1) (lc' := [some (.ref 100), some (.int (r1)), none, none]) rfl (by decide) rfl ?_
  refine z_iload_n C dX12_clause_5 (i := 1) rfl rfl ?_
  refine z_if_ge C dX12_clause_6 (tgt := 19) (by decide) (fun c6 => ?_) (fun c6 => ?_)
  · have h := h.1 c6
    refine z_aload_n C dX12_clause_19 (i := 0) rfl rfl ?_
    refine z_dup C dX12_clause_20 rfl ?_
    refine t_get C dX12_clause_21 fl_X12_232 (k := 100) (i := 0) (by decide) rfl (fg_100_8 _ _ _) ?_
    refine z_iload_n C dX12_clause_24 (i := 1) rfl rfl ?_
    refine t_callS C (rest := [.int (zgF s1 100 0 8), .ref 100]) (c2 := 0) (s2 := 0) [.int (r1)] dX12_clause_25 lk_X12_287 ls_X12_wordOf (c_X12_wordOf hfl h) rfl rfl ⟨Nat.le_of_ble_eq_true rfl, Nat.le_of_ble_eq_true rfl⟩ (Nat.le_of_ble_eq_true rfl) ⟨Nat.le_of_ble_eq_true rfl, Nat.le_of_ble_eq_true rfl, Nat.le_of_ble_eq_true rfl, Nat.le_of_ble_eq_true rfl⟩ (k_Rr fun r25 h => ?_)
    obtain ⟨g28, h⟩ := h
    refine z_kcallV C (rest := [.int (zgF s1 100 0 8), .ref 100]) (b := 200 + 256 * r25) (av := []) dX12_clause_28 lk_X12_245 li_J0_length_8abf5 le_J0_length_8abf5 (c_J0_length_8abf5_s hfl h) rfl rfl (zk_md200 r25) (zk_recS g28) ⟨Nat.le_of_ble_eq_true rfl, Nat.le_of_ble_eq_true rfl⟩ (Nat.le_of_ble_eq_true rfl) ⟨Nat.le_of_ble_eq_true rfl, Nat.le_of_ble_eq_true rfl⟩ (k_Ri fun r28 h => ?_)
    refine z_iadd C dX12_clause_31 ?_
    refine t_put C dX12_clause_32 fq_X12_232 (Or.inl rfl) (k := 100) (i := 0) (by decide) rfl ⟨rfl, rfl⟩ (fp_100_8 _ _ _ _ _) ?_
    refine t_tops (fun s32 es32 => ?_)
    have h := h s32 es32
    refine z_iload_n C dX12_clause_35 (i := 1) rfl rfl ?_
    refine z_iconst C dX12_clause_36 (v := 4) (by decide) ?_
    refine z_icmp_ge C dX12_clause_37 (tgt := 94) (by decide) (fun c37 => ?_) (fun c37 => ?_)
    · have h := h.1 c37
      refine z_iload_n C dX12_clause_94 (i := 1) rfl rfl ?_
      refine z_iconst C dX12_clause_95 (v := 5) (by decide) ?_
      refine z_icmp_ne C dX12_clause_96 (tgt := 176) (by decide) (fun c96 => ?_) (fun c96 => ?_)
      · have h := h.2 c96
        refine z_iload_n C dX12_clause_176 (i := 1) rfl rfl ?_
        refine z_bipush C dX12_clause_177 (v := 7) (by decide) ?_
        refine z_icmp_ne C dX12_clause_179 (tgt := 231) (by decide) (fun c179 => ?_) (fun c179 => ?_)
        · have h := h.2 c179
          refine z_iload_n C dX12_clause_231 (i := 1) rfl rfl ?_
          refine z_bipush C dX12_clause_232 (v := 13) (by decide) ?_
          refine z_icmp_ne C dX12_clause_234 (tgt := 282) (by decide) (fun c234 => ?_) (fun c234 => ?_)
          · have h := h.2 c234
            refine z_aload_n C dX12_clause_282 (i := 0) rfl rfl ?_
            refine t_get C dX12_clause_283 fl_X12_24 (k := 100) (i := 0) (by decide) rfl (fg_100_14 _ _ _) ?_
            refine z_iload_n C dX12_clause_286 (i := 1) rfl rfl ?_
            refine z_aload_n C dX12_clause_287 (i := 0) rfl rfl ?_
            refine z_iconst C dX12_clause_288 (v := 0) (by decide) ?_
            refine z_iload_n C dX12_clause_289 (i := 1) rfl rfl ?_
            refine z_bipush C dX12_clause_290 (v := 10) (by decide) ?_
            refine z_icmp_ne C dX12_clause_292 (tgt := 300) (by decide) (fun c292 => ?_) (fun c292 => ?_)
            · have h := h.2 c292
              refine z_sipush C dX12_clause_300 (v := 400) (by decide) ?_
              exact t_drop [true, false, false, false] rfl (j_X12_clause_303 hfl C hr hn9  s32 (400) (0) r1 h)
            · have h := h.1 c292
              refine z_bipush C dX12_clause_295 (v := 100) (by decide) ?_
              refine z_goto C dX12_clause_297 (tgt := 303) (by decide) ?_
              exact t_drop [true, false, false, false] rfl (j_X12_clause_303 hfl C hr hn9  s32 (100) (0) r1 h)
          · have h := h.1 c234
            refine z_aload_n C dX12_clause_237 (i := 0) rfl rfl ?_
            refine t_get C dX12_clause_238 fl_X12_24 (k := 100) (i := 0) (by decide) rfl (fg_100_14 _ _ _) ?_
            refine z_bipush C dX12_clause_241 (v := 13) (by decide) ?_
            refine z_aload_n C dX12_clause_243 (i := 0) rfl rfl ?_
            refine z_iconst C dX12_clause_244 (v := 0) (by decide) ?_
            refine z_bipush C dX12_clause_245 (v := 24) (by decide) ?_
            refine t_callV C (rest := [.int (13), .ref 104]) (c2 := 0) (s2 := 0) (kd := 100) (i := 0) [.int (0), .int (24)] dX12_clause_247 lk_X12_342 li_X12_number le_X12_number (c_X12_number hfl h) rfl rfl (by decide) rfl ⟨_, rfl⟩ rfl ⟨Nat.le_of_ble_eq_true rfl, Nat.le_of_ble_eq_true rfl⟩ (Nat.le_of_ble_eq_true rfl) ⟨Nat.le_of_ble_eq_true rfl, Nat.le_of_ble_eq_true rfl, Nat.le_of_ble_eq_true rfl, Nat.le_of_ble_eq_true rfl⟩ (k_Wi fun r247 s247 h => ?_)
            obtain ⟨g250, h⟩ := h
            refine t_iast C dX12_clause_250 (k := 104) (i := 0) (by decide) rfl (fun s9 => sh_104 _ _ s9 _) g250 ?_
            refine t_tops (fun s250 es250 => ?_)
            have h := h s250 es250
            refine z_aload_n C dX12_clause_251 (i := 0) rfl rfl ?_
            refine z_bipush C dX12_clause_252 (v := 45) (by decide) ?_
            refine t_callV C (rest := []) (c2 := 0) (s2 := 0) (kd := 100) (i := 0) [.int (45)] dX12_clause_254 lk_X12_336 li_X12_sign le_X12_sign (c_X12_sign hfl h) rfl rfl (by decide) rfl ⟨_, rfl⟩ rfl ⟨Nat.le_of_ble_eq_true rfl, Nat.le_of_ble_eq_true rfl⟩ (Nat.le_of_ble_eq_true rfl) ⟨Nat.le_of_ble_eq_true rfl, Nat.le_of_ble_eq_true rfl, Nat.le_of_ble_eq_true rfl, Nat.le_of_ble_eq_true rfl⟩ (k_Wv fun s254 h => ?_)
            refine z_aload_n C dX12_clause_257 (i := 0) rfl rfl ?_
            refine t_get C dX12_clause_258 fl_X12_24 (k := 100) (i := 0) (by decide) rfl (fg_100_14 _ _ _) ?_
            refine z_bipush C dX12_clause_261 (v := 14) (by decide) ?_
            refine z_aload_n C dX12_clause_263 (i := 0) rfl rfl ?_
            refine z_aload_n C dX12_clause_264 (i := 0) rfl rfl ?_
            refine t_get C dX12_clause_265 fl_X12_24 (k := 100) (i := 0) (by decide) rfl (fg_100_14 _ _ _) ?_
            refine z_bipush C dX12_clause_268 (v := 13) (by decide) ?_
            obtain ⟨g270, h⟩ := h
            refine t_iald C dX12_clause_270 (k := 104) (i := 0) (by decide) rfl (sh_104 _ _ _ _) g270 ?_
            refine z_iconst C dX12_clause_271 (v := 1) (by decide) ?_
            refine z_iadd C dX12_clause_272 ?_
            refine z_bipush C dX12_clause_273 (v := 24) (by decide) ?_
            refine t_callV C (rest := [.int (14), .ref 104]) (c2 := 0) (s2 := 0) (kd := 100) (i := 0) [.int ((zgA s254 104 0 (13 : Int32).toNatClampNeg) + 1), .int (24)] dX12_clause_275 lk_X12_342 li_X12_number le_X12_number (c_X12_number hfl h) rfl rfl (by decide) rfl ⟨_, rfl⟩ rfl ⟨Nat.le_of_ble_eq_true rfl, Nat.le_of_ble_eq_true rfl⟩ (Nat.le_of_ble_eq_true rfl) ⟨Nat.le_of_ble_eq_true rfl, Nat.le_of_ble_eq_true rfl, Nat.le_of_ble_eq_true rfl, Nat.le_of_ble_eq_true rfl⟩ (k_Wi fun r275 s275 h => ?_)
            obtain ⟨g278, h⟩ := h
            refine t_iast C dX12_clause_278 (k := 104) (i := 0) (by decide) rfl (fun s9 => sh_104 _ _ s9 _) g278 ?_
            refine t_tops (fun s278 es278 => ?_)
            have h := h s278 es278
            refine z_goto C dX12_clause_279 (tgt := 307) (by decide) ?_
            exact t_drop [true, false, false, false] rfl (j_X12_clause_307 hfl C hr hn9  s278 h)
        · have h := h.1 c179
          refine z_aload_n C dX12_clause_182 (i := 0) rfl rfl ?_
          refine z_ldc_wS C dX12_clause_183 (i := 16) (text := "consent") (by decide) ?_
          refine t_callV C (rest := []) (c2 := 0) (s2 := 0) (kd := 100) (i := 0) [.ref (200 + 256 * 16)] dX12_clause_186 lk_X12_313 li_X12_eat le_X12_eat (c_X12_eat hfl h) rfl rfl (by decide) rfl ⟨_, rfl⟩ rfl ⟨Nat.le_of_ble_eq_true rfl, Nat.le_of_ble_eq_true rfl⟩ (Nat.le_of_ble_eq_true rfl) ⟨Nat.le_of_ble_eq_true rfl, Nat.le_of_ble_eq_true rfl, Nat.le_of_ble_eq_true rfl, Nat.le_of_ble_eq_true rfl⟩ (k_Wi fun r186 s186 h => ?_)
          refine z_istore_n C dX12_clause_189 (i := 2) (lc' := [some (.ref 100), some (.int (r1)), some (.int (r186)), none]) rfl (by decide) rfl ?_
          refine z_iload_n C dX12_clause_190 (i := 2) rfl rfl ?_
          refine z_if_ne C dX12_clause_191 (tgt := 213) (by decide) (fun c191 => ?_) (fun c191 => ?_)
          · have h := h.2 c191
            exact t_drop [true, true, true, false] rfl (j_X12_clause_213 hfl C hr hn9  s186 r1 r186 h)
          · have h := h.1 c191
            refine z_aload_n C dX12_clause_194 (i := 0) rfl rfl ?_
            refine z_ldc_wS C dX12_clause_195 (i := 17) (text := "dispute") (by decide) ?_
            refine t_callV C (rest := []) (c2 := 0) (s2 := 0) (kd := 100) (i := 0) [.ref (200 + 256 * 17)] dX12_clause_198 lk_X12_313 li_X12_eat le_X12_eat (c_X12_eat hfl h) rfl rfl (by decide) rfl ⟨_, rfl⟩ rfl ⟨Nat.le_of_ble_eq_true rfl, Nat.le_of_ble_eq_true rfl⟩ (Nat.le_of_ble_eq_true rfl) ⟨Nat.le_of_ble_eq_true rfl, Nat.le_of_ble_eq_true rfl, Nat.le_of_ble_eq_true rfl, Nat.le_of_ble_eq_true rfl⟩ (k_Wi fun r198 s198 h => ?_)
            refine z_if_ne C dX12_clause_201 (tgt := 213) (by decide) (fun c201 => ?_) (fun c201 => ?_)
            · have h := h.2 c201
              exact t_drop [true, true, true, false] rfl (j_X12_clause_213 hfl C hr hn9  s198 r1 r186 h)
            · have h := h.1 c201
              refine z_aload_n C dX12_clause_204 (i := 0) rfl rfl ?_
              refine z_iconst C dX12_clause_205 (v := 1) (by decide) ?_
              refine z_aload_n C dX12_clause_206 (i := 0) rfl rfl ?_
              refine t_get C dX12_clause_207 fl_X12_232 (k := 100) (i := 0) (by decide) rfl (fg_100_8 _ _ _) ?_
              refine t_callV C (rest := []) (c2 := 0) (s2 := 0) (kd := 100) (i := 0) [.int (1), .int (zgF s198 100 0 8)] dX12_clause_210 lk_X12_300 li_X12_wrong le_X12_wrong (c_X12_wrong hfl h) rfl rfl (by decide) rfl ⟨_, rfl⟩ rfl ⟨Nat.le_of_ble_eq_true rfl, Nat.le_of_ble_eq_true rfl⟩ (Nat.le_of_ble_eq_true rfl) ⟨Nat.le_of_ble_eq_true rfl, Nat.le_of_ble_eq_true rfl, Nat.le_of_ble_eq_true rfl, Nat.le_of_ble_eq_true rfl⟩ (k_Wv fun s210 h => ?_)
              exact t_drop [true, true, true, false] rfl (j_X12_clause_213 hfl C hr hn9  s210 r1 r186 h)
      · have h := h.1 c96
        refine z_aload_n C dX12_clause_99 (i := 0) rfl rfl ?_
        refine t_get C dX12_clause_100 fl_X12_24 (k := 100) (i := 0) (by decide) rfl (fg_100_14 _ _ _) ?_
        refine z_iload_n C dX12_clause_103 (i := 1) rfl rfl ?_
        refine z_iconst C dX12_clause_104 (v := 0) (by decide) ?_
        obtain ⟨g105, h⟩ := h
        refine t_iast C dX12_clause_105 (k := 104) (i := 0) (by decide) rfl (fun s9 => sh_104 _ _ s9 _) g105 ?_
        refine t_tops (fun s105 es105 => ?_)
        have h := h s105 es105
        refine z_iconst C dX12_clause_106 (v := 1) (by decide) ?_
        refine z_istore_n C dX12_clause_107 (i := 2) (lc' := [some (.ref 100), some (.int (r1)), some (.int (1)), none]) rfl (by decide) rfl ?_
        exact t_drop [true, true, true, false] rfl (j_X12_clause_108 hfl C hr hn9  zfu s105 r1 (1) h)
    · have h := h.2 c37
      refine z_aload_n C dX12_clause_40 (i := 0) rfl rfl ?_
      refine t_get C dX12_clause_41 fl_X12_24 (k := 100) (i := 0) (by decide) rfl (fg_100_14 _ _ _) ?_
      refine z_iload_n C dX12_clause_44 (i := 1) rfl rfl ?_
      refine z_aload_n C dX12_clause_45 (i := 0) rfl rfl ?_
      refine z_iconst C dX12_clause_46 (v := 0) (by decide) ?_
      refine z_sipush C dX12_clause_47 (v := 400) (by decide) ?_
      refine t_callV C (rest := [.int (r1), .ref 104]) (c2 := 0) (s2 := 0) (kd := 100) (i := 0) [.int (0), .int (400)] dX12_clause_50 lk_X12_342 li_X12_number le_X12_number (c_X12_number hfl h) rfl rfl (by decide) rfl ⟨_, rfl⟩ rfl ⟨Nat.le_of_ble_eq_true rfl, Nat.le_of_ble_eq_true rfl⟩ (Nat.le_of_ble_eq_true rfl) ⟨Nat.le_of_ble_eq_true rfl, Nat.le_of_ble_eq_true rfl, Nat.le_of_ble_eq_true rfl, Nat.le_of_ble_eq_true rfl⟩ (k_Wi fun r50 s50 h => ?_)
      obtain ⟨g53, h⟩ := h
      refine t_iast C dX12_clause_53 (k := 104) (i := 0) (by decide) rfl (fun s9 => sh_104 _ _ s9 _) g53 ?_
      refine t_tops (fun s53 es53 => ?_)
      have h := h s53 es53
      refine z_aload_n C dX12_clause_54 (i := 0) rfl rfl ?_
      refine t_get C dX12_clause_55 fl_X12_30 (k := 100) (i := 0) (by decide) rfl (fg_100_16 _ _ _) ?_
      refine z_iload_n C dX12_clause_58 (i := 1) rfl rfl ?_
      refine z_iconst C dX12_clause_59 (v := (-1)) (by decide) ?_
      obtain ⟨g60, h⟩ := h
      refine t_iast C dX12_clause_60 (k := 106) (i := 0) (by decide) rfl (fun s9 => sh_106 _ _ s9 _) g60 ?_
      refine t_tops (fun s60 es60 => ?_)
      have h := h s60 es60
      refine z_aload_n C dX12_clause_61 (i := 0) rfl rfl ?_
      refine z_ldc_wS C dX12_clause_62 (i := 15) (text := "if") (by decide) ?_
      refine t_callV C (rest := []) (c2 := 0) (s2 := 0) (kd := 100) (i := 0) [.ref (200 + 256 * 15)] dX12_clause_65 lk_X12_313 li_X12_eat le_X12_eat (c_X12_eat hfl h) rfl rfl (by decide) rfl ⟨_, rfl⟩ rfl ⟨Nat.le_of_ble_eq_true rfl, Nat.le_of_ble_eq_true rfl⟩ (Nat.le_of_ble_eq_true rfl) ⟨Nat.le_of_ble_eq_true rfl, Nat.le_of_ble_eq_true rfl, Nat.le_of_ble_eq_true rfl, Nat.le_of_ble_eq_true rfl⟩ (k_Wi fun r65 s65 h => ?_)
      refine z_if_eq C dX12_clause_68 (tgt := 307) (by decide) (fun c68 => ?_) (fun c68 => ?_)
      · have h := h.1 c68
        exact t_drop [true, false, false, false] rfl (j_X12_clause_307 hfl C hr hn9  s65 h)
      · have h := h.2 c68
        refine z_aload_n C dX12_clause_71 (i := 0) rfl rfl ?_
        refine t_get C dX12_clause_72 fl_X12_30 (k := 100) (i := 0) (by decide) rfl (fg_100_16 _ _ _) ?_
        refine z_iload_n C dX12_clause_75 (i := 1) rfl rfl ?_
        refine z_aload_n C dX12_clause_76 (i := 0) rfl rfl ?_
        refine t_get C dX12_clause_77 fl_X12_305 (k := 100) (i := 0) (by decide) rfl (fg_100_21 _ _ _) ?_
        obtain ⟨g80, h⟩ := h
        refine t_iast C dX12_clause_80 (k := 106) (i := 0) (by decide) rfl (fun s9 => sh_106 _ _ s9 _) g80 ?_
        refine t_tops (fun s80 es80 => ?_)
        have h := h s80 es80
        refine z_aload_n C dX12_clause_81 (i := 0) rfl rfl ?_
        refine t_callV C (rest := []) (c2 := 0) (s2 := 0) (kd := 100) (i := 0) [] dX12_clause_82 lk_X12_333 li_X12_ors le_X12_ors (c_X12_ors_L0 hfl h) rfl rfl (by decide) rfl ⟨_, rfl⟩ rfl ⟨Nat.le_of_ble_eq_true rfl, Nat.le_of_ble_eq_true rfl⟩ (Nat.le_of_ble_eq_true rfl) ⟨Nat.le_of_ble_eq_true rfl, Nat.le_of_ble_eq_true rfl, Nat.le_of_ble_eq_true rfl, Nat.le_of_ble_eq_true rfl⟩ (k_Wv fun s82 h => ?_)
        refine z_aload_n C dX12_clause_85 (i := 0) rfl rfl ?_
        refine z_iconst C dX12_clause_86 (v := 0) (by decide) ?_
        refine z_iconst C dX12_clause_87 (v := 0) (by decide) ?_
        refine t_callV C (rest := []) (c2 := 0) (s2 := 0) (kd := 100) (i := 0) [.int (0), .int (0)] dX12_clause_88 lk_X12_316 li_X12_emits le_X12_emits (c_X12_emits hfl h) rfl rfl (by decide) rfl ⟨_, rfl⟩ rfl ⟨Nat.le_of_ble_eq_true rfl, Nat.le_of_ble_eq_true rfl⟩ (Nat.le_of_ble_eq_true rfl) ⟨Nat.le_of_ble_eq_true rfl, Nat.le_of_ble_eq_true rfl, Nat.le_of_ble_eq_true rfl, Nat.le_of_ble_eq_true rfl⟩ (k_Wv fun s88 h => ?_)
        refine z_goto C dX12_clause_91 (tgt := 307) (by decide) ?_
        exact t_drop [true, false, false, false] rfl (j_X12_clause_307 hfl C hr hn9  s88 h)
  · have h := h.2 c6
    refine z_aload_n C dX12_clause_9 (i := 0) rfl rfl ?_
    refine z_iconst C dX12_clause_10 (v := 1) (by decide) ?_
    refine z_aload_n C dX12_clause_11 (i := 0) rfl rfl ?_
    refine t_get C dX12_clause_12 fl_X12_232 (k := 100) (i := 0) (by decide) rfl (fg_100_8 _ _ _) ?_
    refine t_callV C (rest := []) (c2 := 0) (s2 := 0) (kd := 100) (i := 0) [.int (1), .int (zgF s1 100 0 8)] dX12_clause_15 lk_X12_300 li_X12_wrong le_X12_wrong (c_X12_wrong hfl h) rfl rfl (by decide) rfl ⟨_, rfl⟩ rfl ⟨Nat.le_of_ble_eq_true rfl, Nat.le_of_ble_eq_true rfl⟩ (Nat.le_of_ble_eq_true rfl) ⟨Nat.le_of_ble_eq_true rfl, Nat.le_of_ble_eq_true rfl, Nat.le_of_ble_eq_true rfl, Nat.le_of_ble_eq_true rfl⟩ (k_Wv fun s15 h => ?_)
    exact z_vret C dX12_clause_18 hr ⟨_, rfl, rfl, h⟩ (Nat.le_of_ble_eq_true rfl) (Nat.le_of_ble_eq_true rfl)
def w_X12_rule_201 (P : Int32 → zTs → Prop)  : Nat → zTs → Int32 → Int32 → Prop
  | 0, _, _, _ => False
  | n9 + 1, st, a2, a3 => ((zgF st 100 0 21) ≤ a3 → P a2 st) ∧ (¬ (zgF st 100 0 21) ≤ a3 → vp_in a3 800 ∧ (vp_in a3 800 ∧ (∀ s220 : zTs, s220 = zuA st 107 0 (a3 : Int32).toNatClampNeg (zgA st 109 0 (a3 : Int32).toNatClampNeg) → (vp_in a3 800 ∧ (vp_in a3 800 ∧ (∀ s232 : zTs, s232 = zuA s220 108 0 (a3 : Int32).toNatClampNeg (zgA s220 110 0 (a3 : Int32).toNatClampNeg) → (∀ x233 : Int32, x233 = a3 + 1 → ((w_X12_rule_201 P n9) s232 a2 x233))))))))
set_option maxHeartbeats 4000000 in
set_option maxRecDepth 100000 in
theorem j_X12_rule_201 {P : Int32 → zTs → Prop}  (hfl : l.stackTraces = false) (C : zC Z p s m args meth c cX12_rule 4 RX12) (hr : meth.sig.returnType = (some .int)) (hn9 : True)  : ∀ (n9 : Nat) (st : zTs) (a2 : Int32) (a3 : Int32), w_X12_rule_201 P n9 st a2 a3 → zG Z ad0 h0 p l e ({ frames := 41, cells := 0, slots := 0, locals := 857 } : Room) s m args below meth c (MQ below (zQ Z ad0 h0 (zWi Z P)) args s 0 0 (zA Z)) 0 0 (zh Z zm1 st) 4 201 [some (.ref 100), none, some (.int (a2)), some (.int (a3))] [] := by
  intro n9
  induction n9 with
  | zero => intro st a2 a3 h; exact h.elim
  | succ n9 hK201 =>
    intro st a2 a3 h
    rw [w_X12_rule_201] at h
    refine z_iload_n C dX12_rule_201 (i := 3) rfl rfl ?_
    refine z_aload_n C dX12_rule_202 (i := 0) rfl rfl ?_
    refine t_get C dX12_rule_203 fl_X12_305 (k := 100) (i := 0) (by decide) rfl (fg_100_21 _ _ _) ?_
    refine z_icmp_ge C dX12_rule_206 (tgt := 239) (by decide) (fun c206 => ?_) (fun c206 => ?_)
    · have h := h.1 c206
      refine z_iload_n C dX12_rule_239 (i := 2) rfl rfl ?_
      exact z_iret C dX12_rule_240 hr rfl ⟨_, _, rfl, rfl, h⟩ (Nat.le_of_ble_eq_true rfl) (Nat.le_of_ble_eq_true rfl)
    · have h := h.2 c206
      refine z_aload_n C dX12_rule_209 (i := 0) rfl rfl ?_
      refine t_get C dX12_rule_210 fl_X12_33 (k := 100) (i := 0) (by decide) rfl (fg_100_17 _ _ _) ?_
      refine z_iload_n C dX12_rule_213 (i := 3) rfl rfl ?_
      refine z_aload_n C dX12_rule_214 (i := 0) rfl rfl ?_
      refine t_get C dX12_rule_215 fl_X12_39 (k := 100) (i := 0) (by decide) rfl (fg_100_19 _ _ _) ?_
      refine z_iload_n C dX12_rule_218 (i := 3) rfl rfl ?_
      obtain ⟨g219, h⟩ := h
      refine t_iald C dX12_rule_219 (k := 109) (i := 0) (by decide) rfl (sh_109 _ _ _ _) g219 ?_
      obtain ⟨g220, h⟩ := h
      refine t_iast C dX12_rule_220 (k := 107) (i := 0) (by decide) rfl (fun s9 => sh_107 _ _ s9 _) g220 ?_
      refine t_tops (fun s220 es220 => ?_)
      have h := h s220 es220
      refine z_aload_n C dX12_rule_221 (i := 0) rfl rfl ?_
      refine t_get C dX12_rule_222 fl_X12_36 (k := 100) (i := 0) (by decide) rfl (fg_100_18 _ _ _) ?_
      refine z_iload_n C dX12_rule_225 (i := 3) rfl rfl ?_
      refine z_aload_n C dX12_rule_226 (i := 0) rfl rfl ?_
      refine t_get C dX12_rule_227 fl_X12_42 (k := 100) (i := 0) (by decide) rfl (fg_100_20 _ _ _) ?_
      refine z_iload_n C dX12_rule_230 (i := 3) rfl rfl ?_
      obtain ⟨g231, h⟩ := h
      refine t_iald C dX12_rule_231 (k := 110) (i := 0) (by decide) rfl (sh_110 _ _ _ _) g231 ?_
      obtain ⟨g232, h⟩ := h
      refine t_iast C dX12_rule_232 (k := 108) (i := 0) (by decide) rfl (fun s9 => sh_108 _ _ s9 _) g232 ?_
      refine t_tops (fun s232 es232 => ?_)
      have h := h s232 es232
      obtain ⟨x233, ex233⟩ : ∃ z : Int32, z = a3 + 1 := ⟨_, rfl⟩
      have h := h x233 ex233
      refine z_iinc C dX12_rule_233 (v := x233) (lc' := [some (.ref 100), none, some (.int (a2)), some (.int (x233))]) rfl (by decide) (by rw [ex233]; rfl) rfl ?_
      refine z_goto C dX12_rule_236 (tgt := 201) (by decide) ?_
      exact t_drop [true, false, true, true] rfl (hK201 s232 a2 x233 h)
def w_X12_rule_176 (P : Int32 → zTs → Prop)  : Nat → zTs → Int32 → Int32 → Prop
  | 0, _, _, _ => False
  | n9 + 1, st, a2, a3 => (4 ≤ a3 → w_X12_rule_201 P zfu st a2 (0)) ∧ (¬ 4 ≤ a3 → vp_in a3 4 ∧ (vp_in a3 4 ∧ (∀ s192 : zTs, s192 = zuA st 105 0 (a3 : Int32).toNatClampNeg (zgA st 106 0 (a3 : Int32).toNatClampNeg) → (∀ x193 : Int32, x193 = a3 + 1 → ((w_X12_rule_176 P n9) s192 a2 x193)))))
set_option maxHeartbeats 4000000 in
set_option maxRecDepth 100000 in
theorem j_X12_rule_176 {P : Int32 → zTs → Prop}  (hfl : l.stackTraces = false) (C : zC Z p s m args meth c cX12_rule 4 RX12) (hr : meth.sig.returnType = (some .int)) (hn9 : True)  : ∀ (n9 : Nat) (st : zTs) (a2 : Int32) (a3 : Int32), w_X12_rule_176 P n9 st a2 a3 → zG Z ad0 h0 p l e ({ frames := 41, cells := 0, slots := 0, locals := 857 } : Room) s m args below meth c (MQ below (zQ Z ad0 h0 (zWi Z P)) args s 0 0 (zA Z)) 0 0 (zh Z zm1 st) 4 176 [some (.ref 100), none, some (.int (a2)), some (.int (a3))] [] := by
  intro n9
  induction n9 with
  | zero => intro st a2 a3 h; exact h.elim
  | succ n9 hK176 =>
    intro st a2 a3 h
    rw [w_X12_rule_176] at h
    refine z_iload_n C dX12_rule_176 (i := 3) rfl rfl ?_
    refine z_iconst C dX12_rule_177 (v := 4) (by decide) ?_
    refine z_icmp_ge C dX12_rule_178 (tgt := 199) (by decide) (fun c178 => ?_) (fun c178 => ?_)
    · have h := h.1 c178
      refine z_iconst C dX12_rule_199 (v := 0) (by decide) ?_
      refine z_istore_n C dX12_rule_200 (i := 3) (lc' := [some (.ref 100), none, some (.int (a2)), some (.int (0))]) rfl (by decide) rfl ?_
      exact t_drop [true, false, true, true] rfl (j_X12_rule_201 hfl C hr hn9  zfu st a2 (0) h)
    · have h := h.2 c178
      refine z_aload_n C dX12_rule_181 (i := 0) rfl rfl ?_
      refine t_get C dX12_rule_182 fl_X12_27 (k := 100) (i := 0) (by decide) rfl (fg_100_15 _ _ _) ?_
      refine z_iload_n C dX12_rule_185 (i := 3) rfl rfl ?_
      refine z_aload_n C dX12_rule_186 (i := 0) rfl rfl ?_
      refine t_get C dX12_rule_187 fl_X12_30 (k := 100) (i := 0) (by decide) rfl (fg_100_16 _ _ _) ?_
      refine z_iload_n C dX12_rule_190 (i := 3) rfl rfl ?_
      obtain ⟨g191, h⟩ := h
      refine t_iald C dX12_rule_191 (k := 106) (i := 0) (by decide) rfl (sh_106 _ _ _ _) g191 ?_
      obtain ⟨g192, h⟩ := h
      refine t_iast C dX12_rule_192 (k := 105) (i := 0) (by decide) rfl (fun s9 => sh_105 _ _ s9 _) g192 ?_
      refine t_tops (fun s192 es192 => ?_)
      have h := h s192 es192
      obtain ⟨x193, ex193⟩ : ∃ z : Int32, z = a3 + 1 := ⟨_, rfl⟩
      have h := h x193 ex193
      refine z_iinc C dX12_rule_193 (v := x193) (lc' := [some (.ref 100), none, some (.int (a2)), some (.int (x193))]) rfl (by decide) (by rw [ex193]; rfl) rfl ?_
      refine z_goto C dX12_rule_196 (tgt := 176) (by decide) ?_
      exact t_drop [true, false, true, true] rfl (hK176 s192 a2 x193 h)
def w_X12_rule_150 (P : Int32 → zTs → Prop)  : Nat → zTs → Int32 → Int32 → Prop
  | 0, _, _, _ => False
  | n9 + 1, st, a2, a3 => (15 ≤ a3 → w_X12_rule_176 P zfu st a2 (0)) ∧ (¬ 15 ≤ a3 → vp_in a3 15 ∧ (vp_in a3 15 ∧ (∀ s167 : zTs, s167 = zuA st 103 0 (a3 : Int32).toNatClampNeg (zgA st 104 0 (a3 : Int32).toNatClampNeg) → (∀ x168 : Int32, x168 = a3 + 1 → ((w_X12_rule_150 P n9) s167 a2 x168)))))
set_option maxHeartbeats 4000000 in
set_option maxRecDepth 100000 in
theorem j_X12_rule_150 {P : Int32 → zTs → Prop}  (hfl : l.stackTraces = false) (C : zC Z p s m args meth c cX12_rule 4 RX12) (hr : meth.sig.returnType = (some .int)) (hn9 : True)  : ∀ (n9 : Nat) (st : zTs) (a2 : Int32) (a3 : Int32), w_X12_rule_150 P n9 st a2 a3 → zG Z ad0 h0 p l e ({ frames := 41, cells := 0, slots := 0, locals := 857 } : Room) s m args below meth c (MQ below (zQ Z ad0 h0 (zWi Z P)) args s 0 0 (zA Z)) 0 0 (zh Z zm1 st) 4 150 [some (.ref 100), none, some (.int (a2)), some (.int (a3))] [] := by
  intro n9
  induction n9 with
  | zero => intro st a2 a3 h; exact h.elim
  | succ n9 hK150 =>
    intro st a2 a3 h
    rw [w_X12_rule_150] at h
    refine z_iload_n C dX12_rule_150 (i := 3) rfl rfl ?_
    refine z_bipush C dX12_rule_151 (v := 15) (by decide) ?_
    refine z_icmp_ge C dX12_rule_153 (tgt := 174) (by decide) (fun c153 => ?_) (fun c153 => ?_)
    · have h := h.1 c153
      refine z_iconst C dX12_rule_174 (v := 0) (by decide) ?_
      refine z_istore_n C dX12_rule_175 (i := 3) (lc' := [some (.ref 100), none, some (.int (a2)), some (.int (0))]) rfl (by decide) rfl ?_
      exact t_drop [true, false, true, true] rfl (j_X12_rule_176 hfl C hr hn9  zfu st a2 (0) h)
    · have h := h.2 c153
      refine z_aload_n C dX12_rule_156 (i := 0) rfl rfl ?_
      refine t_get C dX12_rule_157 fl_X12_21 (k := 100) (i := 0) (by decide) rfl (fg_100_13 _ _ _) ?_
      refine z_iload_n C dX12_rule_160 (i := 3) rfl rfl ?_
      refine z_aload_n C dX12_rule_161 (i := 0) rfl rfl ?_
      refine t_get C dX12_rule_162 fl_X12_24 (k := 100) (i := 0) (by decide) rfl (fg_100_14 _ _ _) ?_
      refine z_iload_n C dX12_rule_165 (i := 3) rfl rfl ?_
      obtain ⟨g166, h⟩ := h
      refine t_iald C dX12_rule_166 (k := 104) (i := 0) (by decide) rfl (sh_104 _ _ _ _) g166 ?_
      obtain ⟨g167, h⟩ := h
      refine t_iast C dX12_rule_167 (k := 103) (i := 0) (by decide) rfl (fun s9 => sh_103 _ _ s9 _) g167 ?_
      refine t_tops (fun s167 es167 => ?_)
      have h := h s167 es167
      obtain ⟨x168, ex168⟩ : ∃ z : Int32, z = a3 + 1 := ⟨_, rfl⟩
      have h := h x168 ex168
      refine z_iinc C dX12_rule_168 (v := x168) (lc' := [some (.ref 100), none, some (.int (a2)), some (.int (x168))]) rfl (by decide) (by rw [ex168]; rfl) rfl ?_
      refine z_goto C dX12_rule_171 (tgt := 150) (by decide) ?_
      exact t_drop [true, false, true, true] rfl (hK150 s167 a2 x168 h)
def w_X12_rule_128 (P : Int32 → zTs → Prop)  (st : zTs) (a2 : Int32) : Prop := ((zgF st 100 0 9) ≤ 0 → ∀ s145 : zTs, s145 = zuF st 100 0 11 a2 → (w_X12_rule_150 P zfu s145 a2 (0))) ∧ (¬ (zgF st 100 0 9) ≤ 0 → P ((zgF st 100 0 9) - 10) st)
set_option maxHeartbeats 4000000 in
set_option maxRecDepth 100000 in
theorem j_X12_rule_128 {P : Int32 → zTs → Prop}  (hfl : l.stackTraces = false) (C : zC Z p s m args meth c cX12_rule 4 RX12) (hr : meth.sig.returnType = (some .int)) (hn9 : True)  (st : zTs) (a2 : Int32) (h : w_X12_rule_128 P st a2) : zG Z ad0 h0 p l e ({ frames := 41, cells := 0, slots := 0, locals := 857 } : Room) s m args below meth c (MQ below (zQ Z ad0 h0 (zWi Z P)) args s 0 0 (zA Z)) 0 0 (zh Z zm1 st) 4 128 [some (.ref 100), none, some (.int (a2)), none] [] := by
  unfold w_X12_rule_128 at h
  refine z_aload_n C dX12_rule_128 (i := 0) rfl rfl ?_
  refine t_get C dX12_rule_129 fl_X12_239 (k := 100) (i := 0) (by decide) rfl (fg_100_9 _ _ _) ?_
  refine z_if_le C dX12_rule_132 (tgt := 143) (by decide) (fun c132 => ?_) (fun c132 => ?_)
  · have h := h.1 c132
    refine z_aload_n C dX12_rule_143 (i := 0) rfl rfl ?_
    refine z_iload_n C dX12_rule_144 (i := 2) rfl rfl ?_
    refine t_put C dX12_rule_145 fq_X12_361 (Or.inl rfl) (k := 100) (i := 0) (by decide) rfl ⟨rfl, rfl⟩ (fp_100_11 _ _ _ _ _) ?_
    refine t_tops (fun s145 es145 => ?_)
    have h := h s145 es145
    refine z_iconst C dX12_rule_148 (v := 0) (by decide) ?_
    refine z_istore_n C dX12_rule_149 (i := 3) (lc' := [some (.ref 100), none, some (.int (a2)), some (.int (0))]) rfl (by decide) rfl ?_
    exact t_drop [true, false, true, true] rfl (j_X12_rule_150 hfl C hr hn9  zfu s145 a2 (0) h)
  · have h := h.2 c132
    refine z_aload_n C dX12_rule_135 (i := 0) rfl rfl ?_
    refine t_get C dX12_rule_136 fl_X12_239 (k := 100) (i := 0) (by decide) rfl (fg_100_9 _ _ _) ?_
    refine z_bipush C dX12_rule_139 (v := 10) (by decide) ?_
    refine z_isub C dX12_rule_141 ?_
    exact z_iret C dX12_rule_142 hr rfl ⟨_, _, rfl, rfl, h⟩ (Nat.le_of_ble_eq_true rfl) (Nat.le_of_ble_eq_true rfl)
def w_X12_rule_104 (P : Int32 → zTs → Prop) (K67 : zTs → Int32 → Prop) (st : zTs) (a2 : Int32) (b0 : Int32) : Prop := w_X12_wrong st b0 (zgF st 100 0 8) (fun (s108 : zTs) => (K67 s108 a2))
set_option maxHeartbeats 4000000 in
set_option maxRecDepth 100000 in
theorem j_X12_rule_104 {P : Int32 → zTs → Prop} {K67 : zTs → Int32 → Prop} (hfl : l.stackTraces = false) (C : zC Z p s m args meth c cX12_rule 4 RX12) (hr : meth.sig.returnType = (some .int)) (hn9 : True) (hK67 : ∀ (st : zTs) (a2 : Int32), K67 st a2 → zG Z ad0 h0 p l e ({ frames := 41, cells := 0, slots := 0, locals := 857 } : Room) s m args below meth c (MQ below (zQ Z ad0 h0 (zWi Z P)) args s 0 0 (zA Z)) 0 0 (zh Z zm1 st) 4 67 [some (.ref 100), none, some (.int (a2)), none] []) (st : zTs) (a2 : Int32) (b0 : Int32) (h : w_X12_rule_104 P K67 st a2 b0) : zG Z ad0 h0 p l e ({ frames := 41, cells := 0, slots := 0, locals := 857 } : Room) s m args below meth c (MQ below (zQ Z ad0 h0 (zWi Z P)) args s 0 0 (zA Z)) 0 0 (zh Z zm1 st) 4 104 [some (.ref 100), none, some (.int (a2)), none] [.int (b0), .ref 100] := by
  unfold w_X12_rule_104 at h
  refine z_aload_n C dX12_rule_104 (i := 0) rfl rfl ?_
  refine t_get C dX12_rule_105 fl_X12_232 (k := 100) (i := 0) (by decide) rfl (fg_100_8 _ _ _) ?_
  refine t_callV C (rest := []) (c2 := 0) (s2 := 0) (kd := 100) (i := 0) [.int (b0), .int (zgF st 100 0 8)] dX12_rule_108 lk_X12_300 li_X12_wrong le_X12_wrong (c_X12_wrong hfl h) rfl rfl (by decide) rfl ⟨_, rfl⟩ rfl ⟨Nat.le_of_ble_eq_true rfl, Nat.le_of_ble_eq_true rfl⟩ (Nat.le_of_ble_eq_true rfl) ⟨Nat.le_of_ble_eq_true rfl, Nat.le_of_ble_eq_true rfl, Nat.le_of_ble_eq_true rfl, Nat.le_of_ble_eq_true rfl⟩ (k_Wv fun s108 h => ?_)
  refine z_goto C dX12_rule_111 (tgt := 67) (by decide) ?_
  exact t_drop [true, false, true, false] rfl (hK67 s108 a2 h)
def w_X12_rule_67 (P : Int32 → zTs → Prop)  : Nat → zTs → Int32 → Prop
  | 0, _, _ => False
  | n9 + 1, st, a2 => ((zgF st 100 0 9) = 0 → ((zgF st 100 0 7) ≤ (zgF st 100 0 8) → w_X12_rule_128 P st a2) ∧ (¬ (zgF st 100 0 7) ≤ (zgF st 100 0 8) → (a2 = 20 → w_X12_wordHere st (fun (r93 : Int32) (s93 : zTs) => ((r93 < 0 → w_X12_rule_104 P (w_X12_rule_67 P n9) s93 a2 (1)) ∧ (¬ r93 < 0 → w_X12_rule_104 P (w_X12_rule_67 P n9) s93 a2 (3))))) ∧ (¬ a2 = 20 → w_X12_clause st (fun (s115 : zTs) => (∀ x118 : Int32, x118 = a2 + 1 → (w_X12_blanks s115 (fun (s122 : zTs) => ((w_X12_rule_67 P n9) s122 x118)))))))) ∧ (¬ (zgF st 100 0 9) = 0 → w_X12_rule_128 P st a2)
set_option maxHeartbeats 4000000 in
set_option maxRecDepth 100000 in
theorem j_X12_rule_67 {P : Int32 → zTs → Prop}  (hfl : l.stackTraces = false) (C : zC Z p s m args meth c cX12_rule 4 RX12) (hr : meth.sig.returnType = (some .int)) (hn9 : True)  : ∀ (n9 : Nat) (st : zTs) (a2 : Int32), w_X12_rule_67 P n9 st a2 → zG Z ad0 h0 p l e ({ frames := 41, cells := 0, slots := 0, locals := 857 } : Room) s m args below meth c (MQ below (zQ Z ad0 h0 (zWi Z P)) args s 0 0 (zA Z)) 0 0 (zh Z zm1 st) 4 67 [some (.ref 100), none, some (.int (a2)), none] [] := by
  intro n9
  induction n9 with
  | zero => intro st a2 h; exact h.elim
  | succ n9 hK67 =>
    intro st a2 h
    rw [w_X12_rule_67] at h
    refine z_aload_n C dX12_rule_67 (i := 0) rfl rfl ?_
    refine t_get C dX12_rule_68 fl_X12_239 (k := 100) (i := 0) (by decide) rfl (fg_100_9 _ _ _) ?_
    refine z_if_ne C dX12_rule_71 (tgt := 128) (by decide) (fun c71 => ?_) (fun c71 => ?_)
    · have h := h.2 c71
      exact t_drop [true, false, true, false] rfl (j_X12_rule_128 hfl C hr hn9  st a2 h)
    · have h := h.1 c71
      refine z_aload_n C dX12_rule_74 (i := 0) rfl rfl ?_
      refine t_get C dX12_rule_75 fl_X12_232 (k := 100) (i := 0) (by decide) rfl (fg_100_8 _ _ _) ?_
      refine z_aload_n C dX12_rule_78 (i := 0) rfl rfl ?_
      refine t_get C dX12_rule_79 fl_X12_229 (k := 100) (i := 0) (by decide) rfl (fg_100_7 _ _ _) ?_
      refine z_icmp_ge C dX12_rule_82 (tgt := 128) (by decide) (fun c82 => ?_) (fun c82 => ?_)
      · have h := h.1 c82
        exact t_drop [true, false, true, false] rfl (j_X12_rule_128 hfl C hr hn9  st a2 h)
      · have h := h.2 c82
        refine z_iload_n C dX12_rule_85 (i := 2) rfl rfl ?_
        refine z_bipush C dX12_rule_86 (v := 20) (by decide) ?_
        refine z_icmp_ne C dX12_rule_88 (tgt := 114) (by decide) (fun c88 => ?_) (fun c88 => ?_)
        · have h := h.2 c88
          refine z_aload_n C dX12_rule_114 (i := 0) rfl rfl ?_
          refine t_callV C (rest := []) (c2 := 0) (s2 := 0) (kd := 100) (i := 0) [] dX12_rule_115 lk_X12_358 li_X12_clause le_X12_clause (c_X12_clause hfl h) rfl rfl (by decide) rfl ⟨_, rfl⟩ rfl ⟨Nat.le_of_ble_eq_true rfl, Nat.le_of_ble_eq_true rfl⟩ (Nat.le_of_ble_eq_true rfl) ⟨Nat.le_of_ble_eq_true rfl, Nat.le_of_ble_eq_true rfl, Nat.le_of_ble_eq_true rfl, Nat.le_of_ble_eq_true rfl⟩ (k_Wv fun s115 h => ?_)
          obtain ⟨x118, ex118⟩ : ∃ z : Int32, z = a2 + 1 := ⟨_, rfl⟩
          have h := h x118 ex118
          refine z_iinc C dX12_rule_118 (v := x118) (lc' := [some (.ref 100), none, some (.int (x118)), none]) rfl (by decide) (by rw [ex118]; rfl) rfl ?_
          refine z_aload_n C dX12_rule_121 (i := 0) rfl rfl ?_
          refine t_callV C (rest := []) (c2 := 0) (s2 := 0) (kd := 100) (i := 0) [] dX12_rule_122 lk_X12_242 li_X12_blanks le_X12_blanks (c_X12_blanks hfl h) rfl rfl (by decide) rfl ⟨_, rfl⟩ rfl ⟨Nat.le_of_ble_eq_true rfl, Nat.le_of_ble_eq_true rfl⟩ (Nat.le_of_ble_eq_true rfl) ⟨Nat.le_of_ble_eq_true rfl, Nat.le_of_ble_eq_true rfl, Nat.le_of_ble_eq_true rfl, Nat.le_of_ble_eq_true rfl⟩ (k_Wv fun s122 h => ?_)
          refine z_goto C dX12_rule_125 (tgt := 67) (by decide) ?_
          exact t_drop [true, false, true, false] rfl (hK67 s122 x118 h)
        · have h := h.1 c88
          refine z_aload_n C dX12_rule_91 (i := 0) rfl rfl ?_
          refine z_aload_n C dX12_rule_92 (i := 0) rfl rfl ?_
          refine t_callV C (rest := [.ref 100]) (c2 := 0) (s2 := 0) (kd := 100) (i := 0) [] dX12_rule_93 lk_X12_346 li_X12_wordHere le_X12_wordHere (c_X12_wordHere hfl h) rfl rfl (by decide) rfl ⟨_, rfl⟩ rfl ⟨Nat.le_of_ble_eq_true rfl, Nat.le_of_ble_eq_true rfl⟩ (Nat.le_of_ble_eq_true rfl) ⟨Nat.le_of_ble_eq_true rfl, Nat.le_of_ble_eq_true rfl, Nat.le_of_ble_eq_true rfl, Nat.le_of_ble_eq_true rfl⟩ (k_Wi fun r93 s93 h => ?_)
          refine z_if_lt C dX12_rule_96 (tgt := 103) (by decide) (fun c96 => ?_) (fun c96 => ?_)
          · have h := h.1 c96
            refine z_iconst C dX12_rule_103 (v := 1) (by decide) ?_
            exact t_drop [true, false, true, false] rfl (j_X12_rule_104 hfl C hr hn9 hK67 s93 a2 (1) h)
          · have h := h.2 c96
            refine z_iconst C dX12_rule_99 (v := 3) (by decide) ?_
            refine z_goto C dX12_rule_100 (tgt := 104) (by decide) ?_
            exact t_drop [true, false, true, false] rfl (j_X12_rule_104 hfl C hr hn9 hK67 s93 a2 (3) h)
def w_X12_rule_23 (P : Int32 → zTs → Prop)  (st : zTs) (a1 : Int32) (b0 : Int32) : Prop := w_X12_bad st b0 1 (fun (r24 : Int32) (s24 : zTs) => ((r24 = 0 → ∀ s34 : zTs, s34 = zuF s24 100 0 7 a1 → (∀ s39 : zTs, s39 = zuF s34 100 0 6 0 → (∀ s44 : zTs, s44 = zuF s39 100 0 8 0 → (∀ s49 : zTs, s49 = zuF s44 100 0 9 0 → (∀ s54 : zTs, s54 = zuF s49 100 0 10 (-1) → (w_X12_starts s54 (fun (s58 : zTs) => (w_X12_blanks s58 (fun (s64 : zTs) => (w_X12_rule_67 P zfu s64 (0))))))))))) ∧ (¬ r24 = 0 → P 0 s24)))
set_option maxHeartbeats 4000000 in
set_option maxRecDepth 100000 in
theorem j_X12_rule_23 {P : Int32 → zTs → Prop}  (hfl : l.stackTraces = false) (C : zC Z p s m args meth c cX12_rule 4 RX12) (hr : meth.sig.returnType = (some .int)) (hn9 : True)  (st : zTs) (a1 : Int32) (b0 : Int32) (h : w_X12_rule_23 P st a1 b0) : zG Z ad0 h0 p l e ({ frames := 41, cells := 0, slots := 0, locals := 857 } : Room) s m args below meth c (MQ below (zQ Z ad0 h0 (zWi Z P)) args s 0 0 (zA Z)) 0 0 (zh Z zm1 st) 4 23 [some (.ref 100), some (.int (a1)), none, none] [.int (b0), .ref 100] := by
  unfold w_X12_rule_23 at h
  refine z_iconst C dX12_rule_23 (v := 1) (by decide) ?_
  refine t_callV C (rest := []) (c2 := 0) (s2 := 0) (kd := 100) (i := 0) [.int (b0), .int (1)] dX12_rule_24 lk_X12_205 li_X12_bad le_X12_bad (c_X12_bad hfl h) rfl rfl (by decide) rfl ⟨_, rfl⟩ rfl ⟨Nat.le_of_ble_eq_true rfl, Nat.le_of_ble_eq_true rfl⟩ (Nat.le_of_ble_eq_true rfl) ⟨Nat.le_of_ble_eq_true rfl, Nat.le_of_ble_eq_true rfl, Nat.le_of_ble_eq_true rfl, Nat.le_of_ble_eq_true rfl⟩ (k_Wi fun r24 s24 h => ?_)
  refine z_if_eq C dX12_rule_27 (tgt := 32) (by decide) (fun c27 => ?_) (fun c27 => ?_)
  · have h := h.1 c27
    refine z_aload_n C dX12_rule_32 (i := 0) rfl rfl ?_
    refine z_iload_n C dX12_rule_33 (i := 1) rfl rfl ?_
    refine t_put C dX12_rule_34 fq_X12_229 (Or.inl rfl) (k := 100) (i := 0) (by decide) rfl ⟨rfl, rfl⟩ (fp_100_7 _ _ _ _ _) ?_
    refine t_tops (fun s34 es34 => ?_)
    have h := h s34 es34
    refine z_aload_n C dX12_rule_37 (i := 0) rfl rfl ?_
    refine z_iconst C dX12_rule_38 (v := 0) (by decide) ?_
    refine t_put C dX12_rule_39 fq_X12_226 (Or.inl rfl) (k := 100) (i := 0) (by decide) rfl ⟨rfl, rfl⟩ (fp_100_6 _ _ _ _ _) ?_
    refine t_tops (fun s39 es39 => ?_)
    have h := h s39 es39
    refine z_aload_n C dX12_rule_42 (i := 0) rfl rfl ?_
    refine z_iconst C dX12_rule_43 (v := 0) (by decide) ?_
    refine t_put C dX12_rule_44 fq_X12_232 (Or.inl rfl) (k := 100) (i := 0) (by decide) rfl ⟨rfl, rfl⟩ (fp_100_8 _ _ _ _ _) ?_
    refine t_tops (fun s44 es44 => ?_)
    have h := h s44 es44
    refine z_aload_n C dX12_rule_47 (i := 0) rfl rfl ?_
    refine z_iconst C dX12_rule_48 (v := 0) (by decide) ?_
    refine t_put C dX12_rule_49 fq_X12_239 (Or.inl rfl) (k := 100) (i := 0) (by decide) rfl ⟨rfl, rfl⟩ (fp_100_9 _ _ _ _ _) ?_
    refine t_tops (fun s49 es49 => ?_)
    have h := h s49 es49
    refine z_aload_n C dX12_rule_52 (i := 0) rfl rfl ?_
    refine z_iconst C dX12_rule_53 (v := (-1)) (by decide) ?_
    refine t_put C dX12_rule_54 fq_X12_17 (Or.inl rfl) (k := 100) (i := 0) (by decide) rfl ⟨rfl, rfl⟩ (fp_100_10 _ _ _ _ _) ?_
    refine t_tops (fun s54 es54 => ?_)
    have h := h s54 es54
    refine z_aload_n C dX12_rule_57 (i := 0) rfl rfl ?_
    refine t_callV C (rest := []) (c2 := 0) (s2 := 0) (kd := 100) (i := 0) [] dX12_rule_58 lk_X12_355 li_X12_starts le_X12_starts (c_X12_starts hfl h) rfl rfl (by decide) rfl ⟨_, rfl⟩ rfl ⟨Nat.le_of_ble_eq_true rfl, Nat.le_of_ble_eq_true rfl⟩ (Nat.le_of_ble_eq_true rfl) ⟨Nat.le_of_ble_eq_true rfl, Nat.le_of_ble_eq_true rfl, Nat.le_of_ble_eq_true rfl, Nat.le_of_ble_eq_true rfl⟩ (k_Wv fun s58 h => ?_)
    refine z_iconst C dX12_rule_61 (v := 0) (by decide) ?_
    refine z_istore_n C dX12_rule_62 (i := 2) (lc' := [some (.ref 100), some (.int (a1)), some (.int (0)), none]) rfl (by decide) rfl ?_
    refine z_aload_n C dX12_rule_63 (i := 0) rfl rfl ?_
    refine t_callV C (rest := []) (c2 := 0) (s2 := 0) (kd := 100) (i := 0) [] dX12_rule_64 lk_X12_242 li_X12_blanks le_X12_blanks (c_X12_blanks hfl h) rfl rfl (by decide) rfl ⟨_, rfl⟩ rfl ⟨Nat.le_of_ble_eq_true rfl, Nat.le_of_ble_eq_true rfl⟩ (Nat.le_of_ble_eq_true rfl) ⟨Nat.le_of_ble_eq_true rfl, Nat.le_of_ble_eq_true rfl, Nat.le_of_ble_eq_true rfl, Nat.le_of_ble_eq_true rfl⟩ (k_Wv fun s64 h => ?_)
    exact t_drop [true, false, true, false] rfl (j_X12_rule_67 hfl C hr hn9  zfu s64 (0) h)
  · have h := h.2 c27
    refine z_iconst C dX12_rule_30 (v := 0) (by decide) ?_
    exact z_iret C dX12_rule_31 hr rfl ⟨_, _, rfl, rfl, h⟩ (Nat.le_of_ble_eq_true rfl) (Nat.le_of_ble_eq_true rfl)
def w_X12_rule (st : zTs) (a1 : Int32) (P : Int32 → zTs → Prop) : Prop := ∀ s2 : zTs, s2 = zuF st 100 0 0 0 → ((a1 < 0 → w_X12_rule_23 P s2 a1 (1)) ∧ (¬ a1 < 0 → (a1 ≤ (zgF s2 100 0 6) → w_X12_rule_23 P s2 a1 (0)) ∧ (¬ a1 ≤ (zgF s2 100 0 6) → w_X12_rule_23 P s2 a1 (1))))
set_option maxHeartbeats 4000000 in
set_option maxRecDepth 100000 in
theorem c_X12_rule {Z : zZ} {l : Launch} (hfl : l.stackTraces = false) {st : zTs} {a1 : Int32} {P : Int32 → zTs → Prop} (h : w_X12_rule st a1 P) : zN Z l yX12_rule cX12_rule 4 (some .int) ({ frames := 41, cells := 0, slots := 0, locals := 857 } : Room) (zh Z zm1 st) [.ref 100, .int (a1)] (zWi Z P) := by
  unfold w_X12_rule at h
  refine z_enterN (by decide) (Nat.le_of_ble_eq_true rfl) (lc0 := [some (.ref 100), some (.int (a1)), none, none]) rfl ?_
  intro p e s m args below meth c ad0 C hr _
  have hn9 : True := trivial
  replace C : zC Z p s m args meth c cX12_rule 4 RX12 := C
  refine z_aload_n C dX12_rule_0 (i := 0) rfl rfl ?_
  refine z_iconst C dX12_rule_1 (v := 0) (by decide) ?_
  refine t_put C dX12_rule_2 fq_X12_199 (Or.inl rfl) (k := 100) (i := 0) (by decide) rfl ⟨rfl, rfl⟩ (fp_100_0 _ _ _ _ _) ?_
  refine t_tops (fun s2 es2 => ?_)
  have h := h s2 es2
  refine z_aload_n C dX12_rule_5 (i := 0) rfl rfl ?_
  refine z_iload_n C dX12_rule_6 (i := 1) rfl rfl ?_
  refine z_if_lt C dX12_rule_7 (tgt := 18) (by decide) (fun c7 => ?_) (fun c7 => ?_)
  · have h := h.1 c7
    refine z_iconst C dX12_rule_18 (v := 1) (by decide) ?_
    refine z_goto C dX12_rule_19 (tgt := 23) (by decide) ?_
    exact t_drop [true, true, false, false] rfl (j_X12_rule_23 hfl C hr hn9  s2 a1 (1) h)
  · have h := h.2 c7
    refine z_iload_n C dX12_rule_10 (i := 1) rfl rfl ?_
    refine z_aload_n C dX12_rule_11 (i := 0) rfl rfl ?_
    refine t_get C dX12_rule_12 fl_X12_226 (k := 100) (i := 0) (by decide) rfl (fg_100_6 _ _ _) ?_
    refine z_icmp_le C dX12_rule_15 (tgt := 22) (by decide) (fun c15 => ?_) (fun c15 => ?_)
    · have h := h.1 c15
      refine z_iconst C dX12_rule_22 (v := 0) (by decide) ?_
      exact t_drop [true, true, false, false] rfl (j_X12_rule_23 hfl C hr hn9  s2 a1 (0) h)
    · have h := h.2 c15
      refine z_iconst C dX12_rule_18 (v := 1) (by decide) ?_
      refine z_goto C dX12_rule_19 (tgt := 23) (by decide) ?_
      exact t_drop [true, true, false, false] rfl (j_X12_rule_23 hfl C hr hn9  s2 a1 (1) h)
end
