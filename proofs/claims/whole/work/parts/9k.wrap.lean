/-! THE WRAPPERS: each calls the class, keeps its answer, tells which exception it was. Written by wip/whole/gen/law.py -/
theorem lw_L_owner : zLw RL 150 yL_owner cL_owner 3 (some .int) [(0, 8, 11, 13)] 2 := ⟨zw_2 91 (by decide +kernel) (by decide +kernel), zw_1 0 (by decide +kernel) (by decide +kernel), by decide +kernel, zw_2 89 (by decide +kernel) (by decide +kernel), zw_2 90 (by decide +kernel) (by decide +kernel)⟩
set_option maxHeartbeats 4000000 in
set_option maxRecDepth 100000 in
theorem c_L_owner {Z : zZ} {l : Launch} (hfl : l.stackTraces = false) {st : zTs} {X : Nat → zTs → Prop} {P : Int32 → zTs → Prop} {P1 : Int32 → Nat → zTs → Prop} (h : w_X11_owner st X P) (hX : ∀ k s9, X k s9 → (k = 2 ∧ ∀ x, P1 1 x s9)) (hP : ∀ r s9, P r s9 → P1 0 (zjn r.toInt64) s9) : zO Z l yL_owner cL_owner 3 (some .int) [(0, 8, 11, 13)] ({ frames := 10, cells := 1, slots := 6, locals := 141 } : Room) (zh Z zm1 st) [.ref 10, .ref 9] (zWx Z P1) := by
  refine z_enterW (by decide) (Nat.le_of_ble_eq_true rfl) (lc0 := [some (.ref 10), some (.ref 9), none]) rfl ?_
  intro p e s m args below meth c ad0 C hr ht
  replace C : zC Z p s m args meth c cL_owner 3 RL := C
  refine z_aload_n C dL_owner_0 (i := 1) rfl rfl ?_
  refine z_iconst C dL_owner_1 (v := 0) (by decide) ?_
  refine z_aload_n C dL_owner_2 (i := 0) rfl rfl ?_
  refine t_callVC C ht hr (rest := [.int 0, .ref 9]) (c2 := 1) (s2 := 6) [] dL_owner_3 lk_L_7 li_X11_owner le_X11_owner (c_X11_owner hfl h) rfl rfl rfl ⟨Nat.le_of_ble_eq_true rfl, Nat.le_of_ble_eq_true rfl⟩ (Nat.le_of_ble_eq_true rfl) ⟨Nat.le_of_ble_eq_true rfl, Nat.le_of_ble_eq_true rfl, Nat.le_of_ble_eq_true rfl, Nat.le_of_ble_eq_true rfl⟩ ⟨Nat.le_of_ble_eq_true rfl, Nat.le_of_ble_eq_true rfl⟩ (fun k9 h1 hx => ?_) (k_Wi fun r s9 hp => ?_)
  · obtain ⟨s9, rfl, hx⟩ := hx
    rcases hX k9 s9 hx with ⟨rfl, hy⟩
    · exact ⟨1, ⟨[], ⟨0, 8, 11, 13⟩, [], 1, 2, 1, rfl, (fun z hz => by cases hz), by decide, by decide, zw_2 92 (by decide +kernel) (by decide +kernel), by decide, by decide, Or.inl ⟨2, rfl, rfl, dL_owner_11⟩, dL_owner_12, by decide, dL_owner_13⟩, ⟨1, Z.2.1 9, s9, rfl, by rw [zZx_self], hy _⟩⟩
  · refine z_i2l C dL_owner_6 ?_
    refine t_jst C dL_owner_7 rfl ?_
    refine z_goto C dL_owner_8 (tgt := 14) (by decide) ?_
    refine z_iconst C dL_owner_14 (v := 0) (by decide) ?_
    exact z_iret C dL_owner_15 hr rfl ⟨0, _, s9, rfl, rfl, hP r s9 hp⟩ (Nat.le_of_ble_eq_true rfl) (Nat.le_of_ble_eq_true rfl)
theorem lw_L_wall : zLw RL 159 yL_wall cL_wall 5 (some .int) [(0, 10, 13, 19), (0, 10, 17, 13)] 4 := ⟨zw_2 169 (by decide +kernel) (by decide +kernel), zw_1 0 (by decide +kernel) (by decide +kernel), by decide +kernel, zw_2 167 (by decide +kernel) (by decide +kernel), zw_2 168 (by decide +kernel) (by decide +kernel)⟩
set_option maxHeartbeats 4000000 in
set_option maxRecDepth 100000 in
theorem c_L_wall {Z : zZ} {l : Launch} (hfl : l.stackTraces = false) {st : zTs} {a1 : Int32} {a2 : Int32} {X : Nat → zTs → Prop} {P : Int32 → zTs → Prop} {P1 : Int32 → Nat → zTs → Prop} (h : w_X11_wall st a1 a2 X P) (hX : ∀ k s9, X k s9 → (k = 0 ∧ ∀ x, P1 1 x s9) ∨ (k = 2 ∧ ∀ x, P1 2 x s9)) (hP : ∀ r s9, P r s9 → P1 0 (zjn r.toInt64) s9) : zO Z l yL_wall cL_wall 5 (some .int) [(0, 10, 13, 19), (0, 10, 17, 13)] ({ frames := 10, cells := 11, slots := 1038, locals := 186 } : Room) (zh Z zm1 st) [.ref 10, .int a1, .int a2, .ref 9] (zWx Z P1) := by
  refine z_enterW (by decide) (Nat.le_of_ble_eq_true rfl) (lc0 := [some (.ref 10), some (.int a1), some (.int a2), some (.ref 9), none]) rfl ?_
  intro p e s m args below meth c ad0 C hr ht
  replace C : zC Z p s m args meth c cL_wall 5 RL := C
  refine z_aload_n C dL_wall_0 (i := 3) rfl rfl ?_
  refine z_iconst C dL_wall_1 (v := 0) (by decide) ?_
  refine z_aload_n C dL_wall_2 (i := 0) rfl rfl ?_
  refine z_iload_n C dL_wall_3 (i := 1) rfl rfl ?_
  refine z_iload_n C dL_wall_4 (i := 2) rfl rfl ?_
  refine t_callVC C ht hr (rest := [.int 0, .ref 9]) (c2 := 11) (s2 := 1038) [.int a1, .int a2] dL_wall_5 lk_L_15 li_X11_wall le_X11_wall (c_X11_wall hfl h) rfl rfl rfl ⟨Nat.le_of_ble_eq_true rfl, Nat.le_of_ble_eq_true rfl⟩ (Nat.le_of_ble_eq_true rfl) ⟨Nat.le_of_ble_eq_true rfl, Nat.le_of_ble_eq_true rfl, Nat.le_of_ble_eq_true rfl, Nat.le_of_ble_eq_true rfl⟩ ⟨Nat.le_of_ble_eq_true rfl, Nat.le_of_ble_eq_true rfl⟩ (fun k9 h1 hx => ?_) (k_Wi fun r s9 hp => ?_)
  · obtain ⟨s9, rfl, hx⟩ := hx
    rcases hX k9 s9 hx with ⟨rfl, hy⟩ | ⟨rfl, hy⟩
    · exact ⟨1, ⟨[], ⟨0, 10, 13, 19⟩, [⟨0, 10, 17, 13⟩], 2, 4, 1, rfl, (fun z hz => by cases hz), by decide, by decide, zw_2 170 (by decide +kernel) (by decide +kernel), by decide, by decide, Or.inr ⟨rfl, dL_wall_13⟩, dL_wall_15, by decide, dL_wall_16⟩, ⟨1, Z.2.1 9, s9, rfl, by rw [zZx_self], hy _⟩⟩
    · exact ⟨2, ⟨[⟨0, 10, 13, 19⟩], ⟨0, 10, 17, 13⟩, [], 2, 4, 2, rfl, (fun z hz => by
          rcases List.mem_cons.mp hz with rfl | hz
          · exact Or.inr ⟨by decide, "java/lang/IndexOutOfBoundsException", zw_2 170 (by decide +kernel) (by decide +kernel), by decide⟩
          cases hz), by decide, by decide, zw_2 92 (by decide +kernel) (by decide +kernel), by decide, by decide, Or.inr ⟨rfl, dL_wall_17⟩, dL_wall_19, by decide, dL_wall_20⟩, ⟨2, Z.2.1 9, s9, rfl, by rw [zZx_self], hy _⟩⟩
  · refine z_i2l C dL_wall_8 ?_
    refine t_jst C dL_wall_9 rfl ?_
    refine z_goto C dL_wall_10 (tgt := 21) (by decide) ?_
    refine z_iconst C dL_wall_21 (v := 0) (by decide) ?_
    exact z_iret C dL_wall_22 hr rfl ⟨0, _, s9, rfl, rfl, hP r s9 hp⟩ (Nat.le_of_ble_eq_true rfl) (Nat.le_of_ble_eq_true rfl)
theorem lw_L_sell : zLw RL 163 yL_sell cL_sell 6 (some .int) [(0, 12, 15, 19), (0, 12, 19, 25)] 5 := ⟨zw_3 44 (by decide +kernel) (by decide +kernel), zw_1 0 (by decide +kernel) (by decide +kernel), by decide +kernel, zw_3 42 (by decide +kernel) (by decide +kernel), zw_3 43 (by decide +kernel) (by decide +kernel)⟩
set_option maxHeartbeats 4000000 in
set_option maxRecDepth 100000 in
theorem c_L_sell {Z : zZ} {l : Launch} (hfl : l.stackTraces = false) {st : zTs} {a1 : Int32} {a2 : Int32} {a3 : Int32} {X : Nat → zTs → Prop} {P : Int32 → zTs → Prop} {P1 : Int32 → Nat → zTs → Prop} (h : w_X11_sell st a1 a2 a3 X P) (hX : ∀ k s9, X k s9 → (k = 0 ∧ ∀ x, P1 1 x s9) ∨ (k = 1 ∧ ∀ x, P1 2 x s9)) (hP : ∀ r s9, P r s9 → P1 0 (zjn r.toInt64) s9) : zO Z l yL_sell cL_sell 6 (some .int) [(0, 12, 15, 19), (0, 12, 19, 25)] ({ frames := 11, cells := 3, slots := 18, locals := 167 } : Room) (zh Z zm1 st) [.ref 10, .int a1, .int a2, .int a3, .ref 9] (zWx Z P1) := by
  refine z_enterW (by decide) (Nat.le_of_ble_eq_true rfl) (lc0 := [some (.ref 10), some (.int a1), some (.int a2), some (.int a3), some (.ref 9), none]) rfl ?_
  intro p e s m args below meth c ad0 C hr ht
  replace C : zC Z p s m args meth c cL_sell 6 RL := C
  refine z_aload C dL_sell_0 (i := 4) rfl ?_
  refine z_iconst C dL_sell_2 (v := 0) (by decide) ?_
  refine z_aload_n C dL_sell_3 (i := 0) rfl rfl ?_
  refine z_iload_n C dL_sell_4 (i := 1) rfl rfl ?_
  refine z_iload_n C dL_sell_5 (i := 2) rfl rfl ?_
  refine z_iload_n C dL_sell_6 (i := 3) rfl rfl ?_
  refine t_callVC C ht hr (rest := [.int 0, .ref 9]) (c2 := 3) (s2 := 18) [.int a1, .int a2, .int a3] dL_sell_7 lk_L_21 li_X11_sell le_X11_sell (c_X11_sell hfl h) rfl rfl rfl ⟨Nat.le_of_ble_eq_true rfl, Nat.le_of_ble_eq_true rfl⟩ (Nat.le_of_ble_eq_true rfl) ⟨Nat.le_of_ble_eq_true rfl, Nat.le_of_ble_eq_true rfl, Nat.le_of_ble_eq_true rfl, Nat.le_of_ble_eq_true rfl⟩ ⟨Nat.le_of_ble_eq_true rfl, Nat.le_of_ble_eq_true rfl⟩ (fun k9 h1 hx => ?_) (k_Wi fun r s9 hp => ?_)
  · obtain ⟨s9, rfl, hx⟩ := hx
    rcases hX k9 s9 hx with ⟨rfl, hy⟩ | ⟨rfl, hy⟩
    · exact ⟨1, ⟨[], ⟨0, 12, 15, 19⟩, [⟨0, 12, 19, 25⟩], 2, 5, 1, rfl, (fun z hz => by cases hz), by decide, by decide, zw_2 170 (by decide +kernel) (by decide +kernel), by decide, by decide, Or.inr ⟨rfl, dL_sell_15⟩, dL_sell_17, by decide, dL_sell_18⟩, ⟨1, Z.2.1 9, s9, rfl, by rw [zZx_self], hy _⟩⟩
    · exact ⟨2, ⟨[⟨0, 12, 15, 19⟩], ⟨0, 12, 19, 25⟩, [], 2, 5, 2, rfl, (fun z hz => by
          rcases List.mem_cons.mp hz with rfl | hz
          · exact Or.inr ⟨by decide, "java/lang/IndexOutOfBoundsException", zw_2 170 (by decide +kernel) (by decide +kernel), by decide⟩
          cases hz), by decide, by decide, zw_3 45 (by decide +kernel) (by decide +kernel), by decide, by decide, Or.inr ⟨rfl, dL_sell_19⟩, dL_sell_21, by decide, dL_sell_22⟩, ⟨2, Z.2.1 9, s9, rfl, by rw [zZx_self], hy _⟩⟩
  · refine z_i2l C dL_sell_10 ?_
    refine t_jst C dL_sell_11 rfl ?_
    refine z_goto C dL_sell_12 (tgt := 23) (by decide) ?_
    refine z_iconst C dL_sell_23 (v := 0) (by decide) ?_
    exact z_iret C dL_sell_24 hr rfl ⟨0, _, s9, rfl, rfl, hP r s9 hp⟩ (Nat.le_of_ble_eq_true rfl) (Nat.le_of_ble_eq_true rfl)
theorem lw_L_wait : zLw RL 167 yL_wait cL_wait 4 (some .int) [(0, 9, 12, 25), (0, 9, 15, 13)] 3 := ⟨zw_3 101 (by decide +kernel) (by decide +kernel), zw_1 0 (by decide +kernel) (by decide +kernel), by decide +kernel, zw_3 99 (by decide +kernel) (by decide +kernel), zw_3 100 (by decide +kernel) (by decide +kernel)⟩
set_option maxHeartbeats 4000000 in
set_option maxRecDepth 100000 in
theorem c_L_wait {Z : zZ} {l : Launch} (hfl : l.stackTraces = false) {st : zTs} {a1 : Int32} {X : Nat → zTs → Prop} {P : Int32 → zTs → Prop} {P1 : Int32 → Nat → zTs → Prop} (h : w_X11_wait st a1 X P) (hX : ∀ k s9, X k s9 → (k = 1 ∧ ∀ x, P1 1 x s9) ∨ (k = 2 ∧ ∀ x, P1 2 x s9)) (hP : ∀ r s9, P r s9 → P1 0 (zjn r.toInt64) s9) : zO Z l yL_wait cL_wait 4 (some .int) [(0, 9, 12, 25), (0, 9, 15, 13)] ({ frames := 10, cells := 2, slots := 12, locals := 143 } : Room) (zh Z zm1 st) [.ref 10, .int a1, .ref 9] (zWx Z P1) := by
  refine z_enterW (by decide) (Nat.le_of_ble_eq_true rfl) (lc0 := [some (.ref 10), some (.int a1), some (.ref 9), none]) rfl ?_
  intro p e s m args below meth c ad0 C hr ht
  replace C : zC Z p s m args meth c cL_wait 4 RL := C
  refine z_aload_n C dL_wait_0 (i := 2) rfl rfl ?_
  refine z_iconst C dL_wait_1 (v := 0) (by decide) ?_
  refine z_aload_n C dL_wait_2 (i := 0) rfl rfl ?_
  refine z_iload_n C dL_wait_3 (i := 1) rfl rfl ?_
  refine t_callVC C ht hr (rest := [.int 0, .ref 9]) (c2 := 2) (s2 := 12) [.int a1] dL_wait_4 lk_L_27 li_X11_wait le_X11_wait (c_X11_wait hfl h) rfl rfl rfl ⟨Nat.le_of_ble_eq_true rfl, Nat.le_of_ble_eq_true rfl⟩ (Nat.le_of_ble_eq_true rfl) ⟨Nat.le_of_ble_eq_true rfl, Nat.le_of_ble_eq_true rfl, Nat.le_of_ble_eq_true rfl, Nat.le_of_ble_eq_true rfl⟩ ⟨Nat.le_of_ble_eq_true rfl, Nat.le_of_ble_eq_true rfl⟩ (fun k9 h1 hx => ?_) (k_Wi fun r s9 hp => ?_)
  · obtain ⟨s9, rfl, hx⟩ := hx
    rcases hX k9 s9 hx with ⟨rfl, hy⟩ | ⟨rfl, hy⟩
    · exact ⟨1, ⟨[], ⟨0, 9, 12, 25⟩, [⟨0, 9, 15, 13⟩], 1, 3, 1, rfl, (fun z hz => by cases hz), by decide, by decide, zw_3 45 (by decide +kernel) (by decide +kernel), by decide, by decide, Or.inl ⟨3, rfl, rfl, dL_wait_12⟩, dL_wait_13, by decide, dL_wait_14⟩, ⟨1, Z.2.1 9, s9, rfl, by rw [zZx_self], hy _⟩⟩
    · exact ⟨2, ⟨[⟨0, 9, 12, 25⟩], ⟨0, 9, 15, 13⟩, [], 1, 3, 2, rfl, (fun z hz => by
          rcases List.mem_cons.mp hz with rfl | hz
          · exact Or.inr ⟨by decide, "java/lang/IllegalArgumentException", zw_3 45 (by decide +kernel) (by decide +kernel), by decide⟩
          cases hz), by decide, by decide, zw_2 92 (by decide +kernel) (by decide +kernel), by decide, by decide, Or.inl ⟨3, rfl, rfl, dL_wait_15⟩, dL_wait_16, by decide, dL_wait_17⟩, ⟨2, Z.2.1 9, s9, rfl, by rw [zZx_self], hy _⟩⟩
  · refine z_i2l C dL_wait_7 ?_
    refine t_jst C dL_wait_8 rfl ?_
    refine z_goto C dL_wait_9 (tgt := 18) (by decide) ?_
    refine z_iconst C dL_wait_18 (v := 0) (by decide) ?_
    exact z_iret C dL_wait_19 hr rfl ⟨0, _, s9, rfl, rfl, hP r s9 hp⟩ (Nat.le_of_ble_eq_true rfl) (Nat.le_of_ble_eq_true rfl)
theorem lw_L_rule : zLw RL 175 yL_rule cL_rule 4 (some .int) [(0, 9, 12, 25)] 3 := ⟨zw_3 110 (by decide +kernel) (by decide +kernel), zw_1 0 (by decide +kernel) (by decide +kernel), by decide +kernel, zw_3 108 (by decide +kernel) (by decide +kernel), zw_3 109 (by decide +kernel) (by decide +kernel)⟩
set_option maxHeartbeats 4000000 in
set_option maxRecDepth 100000 in
theorem c_L_rule {Z : zZ} {l : Launch} (hfl : l.stackTraces = false) {st : zTs} {a1 : Int32} {X : Nat → zTs → Prop} {P : Int32 → zTs → Prop} {P1 : Int32 → Nat → zTs → Prop} (h : w_X11_rule st a1 X P) (hX : ∀ k s9, X k s9 → (k = 1 ∧ ∀ x, P1 1 x s9)) (hP : ∀ r s9, P r s9 → P1 0 (zjn r.toInt64) s9) : zO Z l yL_rule cL_rule 4 (some .int) [(0, 9, 12, 25)] ({ frames := 45, cells := 30, slots := 8828, locals := 1023 } : Room) (zh Z zm1 st) [.ref 10, .int a1, .ref 9] (zWx Z P1) := by
  refine z_enterW (by decide) (Nat.le_of_ble_eq_true rfl) (lc0 := [some (.ref 10), some (.int a1), some (.ref 9), none]) rfl ?_
  intro p e s m args below meth c ad0 C hr ht
  replace C : zC Z p s m args meth c cL_rule 4 RL := C
  refine z_aload_n C dL_rule_0 (i := 2) rfl rfl ?_
  refine z_iconst C dL_rule_1 (v := 0) (by decide) ?_
  refine z_aload_n C dL_rule_2 (i := 0) rfl rfl ?_
  refine z_iload_n C dL_rule_3 (i := 1) rfl rfl ?_
  refine t_callVC C ht hr (rest := [.int 0, .ref 9]) (c2 := 30) (s2 := 8828) [.int a1] dL_rule_4 lk_L_31 li_X11_rule le_X11_rule (c_X11_rule hfl h) rfl rfl rfl ⟨Nat.le_of_ble_eq_true rfl, Nat.le_of_ble_eq_true rfl⟩ (Nat.le_of_ble_eq_true rfl) ⟨Nat.le_of_ble_eq_true rfl, Nat.le_of_ble_eq_true rfl, Nat.le_of_ble_eq_true rfl, Nat.le_of_ble_eq_true rfl⟩ ⟨Nat.le_of_ble_eq_true rfl, Nat.le_of_ble_eq_true rfl⟩ (fun k9 h1 hx => ?_) (k_Wi fun r s9 hp => ?_)
  · obtain ⟨s9, rfl, hx⟩ := hx
    rcases hX k9 s9 hx with ⟨rfl, hy⟩
    · exact ⟨1, ⟨[], ⟨0, 9, 12, 25⟩, [], 1, 3, 1, rfl, (fun z hz => by cases hz), by decide, by decide, zw_3 45 (by decide +kernel) (by decide +kernel), by decide, by decide, Or.inl ⟨3, rfl, rfl, dL_rule_12⟩, dL_rule_13, by decide, dL_rule_14⟩, ⟨1, Z.2.1 9, s9, rfl, by rw [zZx_self], hy _⟩⟩
  · refine z_i2l C dL_rule_7 ?_
    refine t_jst C dL_rule_8 rfl ?_
    refine z_goto C dL_rule_9 (tgt := 15) (by decide) ?_
    refine z_iconst C dL_rule_15 (v := 0) (by decide) ?_
    exact z_iret C dL_rule_16 hr rfl ⟨0, _, s9, rfl, rfl, hP r s9 hp⟩ (Nat.le_of_ble_eq_true rfl) (Nat.le_of_ble_eq_true rfl)
theorem lw_L_counted : zLw RL 182 yL_counted cL_counted 5 (some .int) [(0, 10, 13, 25), (0, 10, 17, 13)] 4 := ⟨zw_4 33 (by decide +kernel) (by decide +kernel), zw_1 0 (by decide +kernel) (by decide +kernel), by decide +kernel, zw_4 31 (by decide +kernel) (by decide +kernel), zw_4 32 (by decide +kernel) (by decide +kernel)⟩
set_option maxHeartbeats 4000000 in
set_option maxRecDepth 100000 in
theorem c_L_counted {Z : zZ} {l : Launch} (hfl : l.stackTraces = false) {st : zTs} {a1 : Int32} {a2 : Int32} {X : Nat → Prop} {P : Int32 → Prop} {P1 : Int32 → Nat → zTs → Prop} (h : w_X11_counted st a1 a2 X P) (hX : ∀ k, X k → (k = 1 ∧ ∀ x, P1 1 x st) ∨ (k = 2 ∧ ∀ x, P1 2 x st)) (hP : ∀ r, P r → P1 0 (zjn r.toInt64) st) : zO Z l yL_counted cL_counted 5 (some .int) [(0, 10, 13, 25), (0, 10, 17, 13)] ({ frames := 10, cells := 3, slots := 18, locals := 144 } : Room) (zh Z zm1 st) [.ref 10, .int a1, .int a2, .ref 9] (zWx Z P1) := by
  refine z_enterW (by decide) (Nat.le_of_ble_eq_true rfl) (lc0 := [some (.ref 10), some (.int a1), some (.int a2), some (.ref 9), none]) rfl ?_
  intro p e s m args below meth c ad0 C hr ht
  replace C : zC Z p s m args meth c cL_counted 5 RL := C
  refine z_aload_n C dL_counted_0 (i := 3) rfl rfl ?_
  refine z_iconst C dL_counted_1 (v := 0) (by decide) ?_
  refine z_aload_n C dL_counted_2 (i := 0) rfl rfl ?_
  refine z_iload_n C dL_counted_3 (i := 1) rfl rfl ?_
  refine z_iload_n C dL_counted_4 (i := 2) rfl rfl ?_
  refine t_callVC C ht hr (rest := [.int 0, .ref 9]) (c2 := 3) (s2 := 18) [.int a1, .int a2] dL_counted_5 lk_L_34 li_X11_counted le_X11_counted (c_X11_counted hfl h) rfl rfl rfl ⟨Nat.le_of_ble_eq_true rfl, Nat.le_of_ble_eq_true rfl⟩ (Nat.le_of_ble_eq_true rfl) ⟨Nat.le_of_ble_eq_true rfl, Nat.le_of_ble_eq_true rfl, Nat.le_of_ble_eq_true rfl, Nat.le_of_ble_eq_true rfl⟩ ⟨Nat.le_of_ble_eq_true rfl, Nat.le_of_ble_eq_true rfl⟩ (fun k9 h1 hx => ?_) (k_Ri fun r hp => ?_)
  · obtain ⟨rfl, hx⟩ := hx
    rcases hX k9 hx with ⟨rfl, hy⟩ | ⟨rfl, hy⟩
    · exact ⟨1, ⟨[], ⟨0, 10, 13, 25⟩, [⟨0, 10, 17, 13⟩], 2, 4, 1, rfl, (fun z hz => by cases hz), by decide, by decide, zw_3 45 (by decide +kernel) (by decide +kernel), by decide, by decide, Or.inr ⟨rfl, dL_counted_13⟩, dL_counted_15, by decide, dL_counted_16⟩, ⟨1, Z.2.1 9, st, rfl, by rw [zZx_self], hy _⟩⟩
    · exact ⟨2, ⟨[⟨0, 10, 13, 25⟩], ⟨0, 10, 17, 13⟩, [], 2, 4, 2, rfl, (fun z hz => by
          rcases List.mem_cons.mp hz with rfl | hz
          · exact Or.inr ⟨by decide, "java/lang/IllegalArgumentException", zw_3 45 (by decide +kernel) (by decide +kernel), by decide⟩
          cases hz), by decide, by decide, zw_2 92 (by decide +kernel) (by decide +kernel), by decide, by decide, Or.inr ⟨rfl, dL_counted_17⟩, dL_counted_19, by decide, dL_counted_20⟩, ⟨2, Z.2.1 9, st, rfl, by rw [zZx_self], hy _⟩⟩
  · refine z_i2l C dL_counted_8 ?_
    refine t_jst C dL_counted_9 rfl ?_
    refine z_goto C dL_counted_10 (tgt := 21) (by decide) ?_
    refine z_iconst C dL_counted_21 (v := 0) (by decide) ?_
    exact z_iret C dL_counted_22 hr rfl ⟨0, _, st, rfl, rfl, hP r hp⟩ (Nat.le_of_ble_eq_true rfl) (Nat.le_of_ble_eq_true rfl)
theorem lw_L_work : zLw RL 185 yL_work cL_work 9 (some .int) [(0, 18, 21, 19), (0, 18, 25, 25), (0, 18, 29, 13)] 8 := ⟨zw_4 53 (by decide +kernel) (by decide +kernel), zw_1 0 (by decide +kernel) (by decide +kernel), by decide +kernel, zw_4 51 (by decide +kernel) (by decide +kernel), zw_4 52 (by decide +kernel) (by decide +kernel)⟩
set_option maxHeartbeats 4000000 in
set_option maxRecDepth 100000 in
theorem c_L_work {Z : zZ} {l : Launch} (hfl : l.stackTraces = false) {st : zTs} {a1 : Int32} {a2 : Int32} {a3 : Int32} {a4 : Int32} {a5 : Int32} {a6 : Int32} {X : Nat → zTs → Prop} {P : Int32 → zTs → Prop} {P1 : Int32 → Nat → zTs → Prop} (h : w_X11_work st a1 a2 a3 a4 a5 a6 X P) (hX : ∀ k s9, X k s9 → (k = 0 ∧ ∀ x, P1 1 x s9) ∨ (k = 1 ∧ ∀ x, P1 2 x s9) ∨ (k = 2 ∧ ∀ x, P1 3 x s9)) (hP : ∀ r s9, P r s9 → P1 0 (zjn r.toInt64) s9) : zO Z l yL_work cL_work 9 (some .int) [(0, 18, 21, 19), (0, 18, 25, 25), (0, 18, 29, 13)] ({ frames := 11, cells := 11, slots := 106, locals := 192 } : Room) (zh Z zm1 st) [.ref 10, .int a1, .int a2, .int a3, .int a4, .int a5, .int a6, .ref 9] (zWx Z P1) := by
  refine z_enterW (by decide) (Nat.le_of_ble_eq_true rfl) (lc0 := [some (.ref 10), some (.int a1), some (.int a2), some (.int a3), some (.int a4), some (.int a5), some (.int a6), some (.ref 9), none]) rfl ?_
  intro p e s m args below meth c ad0 C hr ht
  replace C : zC Z p s m args meth c cL_work 9 RL := C
  refine z_aload C dL_work_0 (i := 7) rfl ?_
  refine z_iconst C dL_work_2 (v := 0) (by decide) ?_
  refine z_aload_n C dL_work_3 (i := 0) rfl rfl ?_
  refine z_iload_n C dL_work_4 (i := 1) rfl rfl ?_
  refine z_iload_n C dL_work_5 (i := 2) rfl rfl ?_
  refine z_iload_n C dL_work_6 (i := 3) rfl rfl ?_
  refine z_iload C dL_work_7 (i := 4) rfl ?_
  refine z_iload C dL_work_9 (i := 5) rfl ?_
  refine z_iload C dL_work_11 (i := 6) rfl ?_
  refine t_callVC C ht hr (rest := [.int 0, .ref 9]) (c2 := 11) (s2 := 106) [.int a1, .int a2, .int a3, .int a4, .int a5, .int a6] dL_work_13 lk_L_37 li_X11_work le_X11_work (c_X11_work hfl h) rfl rfl rfl ⟨Nat.le_of_ble_eq_true rfl, Nat.le_of_ble_eq_true rfl⟩ (Nat.le_of_ble_eq_true rfl) ⟨Nat.le_of_ble_eq_true rfl, Nat.le_of_ble_eq_true rfl, Nat.le_of_ble_eq_true rfl, Nat.le_of_ble_eq_true rfl⟩ ⟨Nat.le_of_ble_eq_true rfl, Nat.le_of_ble_eq_true rfl⟩ (fun k9 h1 hx => ?_) (k_Wi fun r s9 hp => ?_)
  · obtain ⟨s9, rfl, hx⟩ := hx
    rcases hX k9 s9 hx with ⟨rfl, hy⟩ | ⟨rfl, hy⟩ | ⟨rfl, hy⟩
    · exact ⟨1, ⟨[], ⟨0, 18, 21, 19⟩, [⟨0, 18, 25, 25⟩, ⟨0, 18, 29, 13⟩], 2, 8, 1, rfl, (fun z hz => by cases hz), by decide, by decide, zw_2 170 (by decide +kernel) (by decide +kernel), by decide, by decide, Or.inr ⟨rfl, dL_work_21⟩, dL_work_23, by decide, dL_work_24⟩, ⟨1, Z.2.1 9, s9, rfl, by rw [zZx_self], hy _⟩⟩
    · exact ⟨2, ⟨[⟨0, 18, 21, 19⟩], ⟨0, 18, 25, 25⟩, [⟨0, 18, 29, 13⟩], 2, 8, 2, rfl, (fun z hz => by
          rcases List.mem_cons.mp hz with rfl | hz
          · exact Or.inr ⟨by decide, "java/lang/IndexOutOfBoundsException", zw_2 170 (by decide +kernel) (by decide +kernel), by decide⟩
          cases hz), by decide, by decide, zw_3 45 (by decide +kernel) (by decide +kernel), by decide, by decide, Or.inr ⟨rfl, dL_work_25⟩, dL_work_27, by decide, dL_work_28⟩, ⟨2, Z.2.1 9, s9, rfl, by rw [zZx_self], hy _⟩⟩
    · exact ⟨3, ⟨[⟨0, 18, 21, 19⟩, ⟨0, 18, 25, 25⟩], ⟨0, 18, 29, 13⟩, [], 2, 8, 3, rfl, (fun z hz => by
          rcases List.mem_cons.mp hz with rfl | hz
          · exact Or.inr ⟨by decide, "java/lang/IndexOutOfBoundsException", zw_2 170 (by decide +kernel) (by decide +kernel), by decide⟩
          rcases List.mem_cons.mp hz with rfl | hz
          · exact Or.inr ⟨by decide, "java/lang/IllegalArgumentException", zw_3 45 (by decide +kernel) (by decide +kernel), by decide⟩
          cases hz), by decide, by decide, zw_2 92 (by decide +kernel) (by decide +kernel), by decide, by decide, Or.inr ⟨rfl, dL_work_29⟩, dL_work_31, by decide, dL_work_32⟩, ⟨3, Z.2.1 9, s9, rfl, by rw [zZx_self], hy _⟩⟩
  · refine z_i2l C dL_work_16 ?_
    refine t_jst C dL_work_17 rfl ?_
    refine z_goto C dL_work_18 (tgt := 33) (by decide) ?_
    refine z_iconst C dL_work_33 (v := 0) (by decide) ?_
    exact z_iret C dL_work_34 hr rfl ⟨0, _, s9, rfl, rfl, hP r s9 hp⟩ (Nat.le_of_ble_eq_true rfl) (Nat.le_of_ble_eq_true rfl)
theorem lw_L_state : zLw RL 189 yL_state cL_state 4 (some .int) [(0, 9, 12, 19)] 3 := ⟨zw_4 143 (by decide +kernel) (by decide +kernel), zw_1 0 (by decide +kernel) (by decide +kernel), by decide +kernel, zw_4 141 (by decide +kernel) (by decide +kernel), zw_4 142 (by decide +kernel) (by decide +kernel)⟩
set_option maxHeartbeats 4000000 in
set_option maxRecDepth 100000 in
theorem c_L_state {Z : zZ} {l : Launch} (hfl : l.stackTraces = false) {st : zTs} {a1 : Int32} {X : Nat → zTs → Prop} {P : Int32 → zTs → Prop} {P1 : Int32 → Nat → zTs → Prop} (h : w_X11_state st a1 X P) (hX : ∀ k s9, X k s9 → (k = 0 ∧ ∀ x, P1 1 x s9)) (hP : ∀ r s9, P r s9 → P1 0 (zjn r.toInt64) s9) : zO Z l yL_state cL_state 4 (some .int) [(0, 9, 12, 19)] ({ frames := 10, cells := 1, slots := 6, locals := 143 } : Room) (zh Z zm1 st) [.ref 10, .int a1, .ref 9] (zWx Z P1) := by
  refine z_enterW (by decide) (Nat.le_of_ble_eq_true rfl) (lc0 := [some (.ref 10), some (.int a1), some (.ref 9), none]) rfl ?_
  intro p e s m args below meth c ad0 C hr ht
  replace C : zC Z p s m args meth c cL_state 4 RL := C
  refine z_aload_n C dL_state_0 (i := 2) rfl rfl ?_
  refine z_iconst C dL_state_1 (v := 0) (by decide) ?_
  refine z_aload_n C dL_state_2 (i := 0) rfl rfl ?_
  refine z_iload_n C dL_state_3 (i := 1) rfl rfl ?_
  refine t_callVC C ht hr (rest := [.int 0, .ref 9]) (c2 := 1) (s2 := 6) [.int a1] dL_state_4 lk_L_41 li_X11_state le_X11_state (c_X11_state hfl h) rfl rfl rfl ⟨Nat.le_of_ble_eq_true rfl, Nat.le_of_ble_eq_true rfl⟩ (Nat.le_of_ble_eq_true rfl) ⟨Nat.le_of_ble_eq_true rfl, Nat.le_of_ble_eq_true rfl, Nat.le_of_ble_eq_true rfl, Nat.le_of_ble_eq_true rfl⟩ ⟨Nat.le_of_ble_eq_true rfl, Nat.le_of_ble_eq_true rfl⟩ (fun k9 h1 hx => ?_) (k_Wi fun r s9 hp => ?_)
  · obtain ⟨s9, rfl, hx⟩ := hx
    rcases hX k9 s9 hx with ⟨rfl, hy⟩
    · exact ⟨1, ⟨[], ⟨0, 9, 12, 19⟩, [], 1, 3, 1, rfl, (fun z hz => by cases hz), by decide, by decide, zw_2 170 (by decide +kernel) (by decide +kernel), by decide, by decide, Or.inl ⟨3, rfl, rfl, dL_state_12⟩, dL_state_13, by decide, dL_state_14⟩, ⟨1, Z.2.1 9, s9, rfl, by rw [zZx_self], hy _⟩⟩
  · refine z_i2l C dL_state_7 ?_
    refine t_jst C dL_state_8 rfl ?_
    refine z_goto C dL_state_9 (tgt := 15) (by decide) ?_
    refine z_iconst C dL_state_15 (v := 0) (by decide) ?_
    exact z_iret C dL_state_16 hr rfl ⟨0, _, s9, rfl, rfl, hP r s9 hp⟩ (Nat.le_of_ble_eq_true rfl) (Nat.le_of_ble_eq_true rfl)
theorem lw_L_notice : zLw RL 192 yL_notice cL_notice 4 (some .int) [(0, 9, 12, 19)] 3 := ⟨zw_4 167 (by decide +kernel) (by decide +kernel), zw_1 0 (by decide +kernel) (by decide +kernel), by decide +kernel, zw_4 165 (by decide +kernel) (by decide +kernel), zw_4 166 (by decide +kernel) (by decide +kernel)⟩
set_option maxHeartbeats 4000000 in
set_option maxRecDepth 100000 in
theorem c_L_notice {Z : zZ} {l : Launch} (hfl : l.stackTraces = false) {st : zTs} {a1 : Int32} {X : Nat → zTs → Prop} {P : Int32 → zTs → Prop} {P1 : Int32 → Nat → zTs → Prop} (h : w_X11_notice st a1 X P) (hX : ∀ k s9, X k s9 → (k = 0 ∧ ∀ x, P1 1 x s9)) (hP : ∀ r s9, P r s9 → P1 0 (zjn r.toInt64) s9) : zO Z l yL_notice cL_notice 4 (some .int) [(0, 9, 12, 19)] ({ frames := 10, cells := 1, slots := 6, locals := 144 } : Room) (zh Z zm1 st) [.ref 10, .int a1, .ref 9] (zWx Z P1) := by
  refine z_enterW (by decide) (Nat.le_of_ble_eq_true rfl) (lc0 := [some (.ref 10), some (.int a1), some (.ref 9), none]) rfl ?_
  intro p e s m args below meth c ad0 C hr ht
  replace C : zC Z p s m args meth c cL_notice 4 RL := C
  refine z_aload_n C dL_notice_0 (i := 2) rfl rfl ?_
  refine z_iconst C dL_notice_1 (v := 0) (by decide) ?_
  refine z_aload_n C dL_notice_2 (i := 0) rfl rfl ?_
  refine z_iload_n C dL_notice_3 (i := 1) rfl rfl ?_
  refine t_callVC C ht hr (rest := [.int 0, .ref 9]) (c2 := 1) (s2 := 6) [.int a1] dL_notice_4 lk_L_44 li_X11_notice le_X11_notice (c_X11_notice hfl h) rfl rfl rfl ⟨Nat.le_of_ble_eq_true rfl, Nat.le_of_ble_eq_true rfl⟩ (Nat.le_of_ble_eq_true rfl) ⟨Nat.le_of_ble_eq_true rfl, Nat.le_of_ble_eq_true rfl, Nat.le_of_ble_eq_true rfl, Nat.le_of_ble_eq_true rfl⟩ ⟨Nat.le_of_ble_eq_true rfl, Nat.le_of_ble_eq_true rfl⟩ (fun k9 h1 hx => ?_) (k_Wi fun r s9 hp => ?_)
  · obtain ⟨s9, rfl, hx⟩ := hx
    rcases hX k9 s9 hx with ⟨rfl, hy⟩
    · exact ⟨1, ⟨[], ⟨0, 9, 12, 19⟩, [], 1, 3, 1, rfl, (fun z hz => by cases hz), by decide, by decide, zw_2 170 (by decide +kernel) (by decide +kernel), by decide, by decide, Or.inl ⟨3, rfl, rfl, dL_notice_12⟩, dL_notice_13, by decide, dL_notice_14⟩, ⟨1, Z.2.1 9, s9, rfl, by rw [zZx_self], hy _⟩⟩
  · refine z_i2l C dL_notice_7 ?_
    refine t_jst C dL_notice_8 rfl ?_
    refine z_goto C dL_notice_9 (tgt := 15) (by decide) ?_
    refine z_iconst C dL_notice_15 (v := 0) (by decide) ?_
    exact z_iret C dL_notice_16 hr rfl ⟨0, _, s9, rfl, rfl, hP r s9 hp⟩ (Nat.le_of_ble_eq_true rfl) (Nat.le_of_ble_eq_true rfl)
theorem lw_L_answer : zLw RL 195 yL_answer cL_answer 5 (some .int) [(0, 10, 13, 19)] 4 := ⟨zw_4 179 (by decide +kernel) (by decide +kernel), zw_1 0 (by decide +kernel) (by decide +kernel), by decide +kernel, zw_4 177 (by decide +kernel) (by decide +kernel), zw_4 178 (by decide +kernel) (by decide +kernel)⟩
set_option maxHeartbeats 4000000 in
set_option maxRecDepth 100000 in
theorem c_L_answer {Z : zZ} {l : Launch} (hfl : l.stackTraces = false) {st : zTs} {a1 : Int32} {a2 : Int32} {X : Nat → zTs → Prop} {P : Int32 → zTs → Prop} {P1 : Int32 → Nat → zTs → Prop} (h : w_X11_answer st a1 a2 X P) (hX : ∀ k s9, X k s9 → (k = 0 ∧ ∀ x, P1 1 x s9)) (hP : ∀ r s9, P r s9 → P1 0 (zjn r.toInt64) s9) : zO Z l yL_answer cL_answer 5 (some .int) [(0, 10, 13, 19)] ({ frames := 10, cells := 1, slots := 6, locals := 145 } : Room) (zh Z zm1 st) [.ref 10, .int a1, .int a2, .ref 9] (zWx Z P1) := by
  refine z_enterW (by decide) (Nat.le_of_ble_eq_true rfl) (lc0 := [some (.ref 10), some (.int a1), some (.int a2), some (.ref 9), none]) rfl ?_
  intro p e s m args below meth c ad0 C hr ht
  replace C : zC Z p s m args meth c cL_answer 5 RL := C
  refine z_aload_n C dL_answer_0 (i := 3) rfl rfl ?_
  refine z_iconst C dL_answer_1 (v := 0) (by decide) ?_
  refine z_aload_n C dL_answer_2 (i := 0) rfl rfl ?_
  refine z_iload_n C dL_answer_3 (i := 1) rfl rfl ?_
  refine z_iload_n C dL_answer_4 (i := 2) rfl rfl ?_
  refine t_callVC C ht hr (rest := [.int 0, .ref 9]) (c2 := 1) (s2 := 6) [.int a1, .int a2] dL_answer_5 lk_L_47 li_X11_answer le_X11_answer (c_X11_answer hfl h) rfl rfl rfl ⟨Nat.le_of_ble_eq_true rfl, Nat.le_of_ble_eq_true rfl⟩ (Nat.le_of_ble_eq_true rfl) ⟨Nat.le_of_ble_eq_true rfl, Nat.le_of_ble_eq_true rfl, Nat.le_of_ble_eq_true rfl, Nat.le_of_ble_eq_true rfl⟩ ⟨Nat.le_of_ble_eq_true rfl, Nat.le_of_ble_eq_true rfl⟩ (fun k9 h1 hx => ?_) (k_Wi fun r s9 hp => ?_)
  · obtain ⟨s9, rfl, hx⟩ := hx
    rcases hX k9 s9 hx with ⟨rfl, hy⟩
    · exact ⟨1, ⟨[], ⟨0, 10, 13, 19⟩, [], 2, 4, 1, rfl, (fun z hz => by cases hz), by decide, by decide, zw_2 170 (by decide +kernel) (by decide +kernel), by decide, by decide, Or.inr ⟨rfl, dL_answer_13⟩, dL_answer_15, by decide, dL_answer_16⟩, ⟨1, Z.2.1 9, s9, rfl, by rw [zZx_self], hy _⟩⟩
  · refine z_i2l C dL_answer_8 ?_
    refine t_jst C dL_answer_9 rfl ?_
    refine z_goto C dL_answer_10 (tgt := 17) (by decide) ?_
    refine z_iconst C dL_answer_17 (v := 0) (by decide) ?_
    exact z_iret C dL_answer_18 hr rfl ⟨0, _, s9, rfl, rfl, hP r s9 hp⟩ (Nat.le_of_ble_eq_true rfl) (Nat.le_of_ble_eq_true rfl)
theorem lw_L_told : zLw RL 199 yL_told cL_told 5 (some .int) [(0, 10, 13, 19), (0, 10, 17, 25)] 4 := ⟨zw_4 188 (by decide +kernel) (by decide +kernel), zw_1 0 (by decide +kernel) (by decide +kernel), by decide +kernel, zw_4 186 (by decide +kernel) (by decide +kernel), zw_4 187 (by decide +kernel) (by decide +kernel)⟩
set_option maxHeartbeats 4000000 in
set_option maxRecDepth 100000 in
theorem c_L_told {Z : zZ} {l : Launch} (hfl : l.stackTraces = false) {st : zTs} {a1 : Int32} {a2 : Int32} {X : Nat → zTs → Prop} {P : Int32 → zTs → Prop} {P1 : Int32 → Nat → zTs → Prop} (h : w_X11_told st a1 a2 X P) (hX : ∀ k s9, X k s9 → (k = 0 ∧ ∀ x, P1 1 x s9) ∨ (k = 1 ∧ ∀ x, P1 2 x s9)) (hP : ∀ r s9, P r s9 → P1 0 (zjn r.toInt64) s9) : zO Z l yL_told cL_told 5 (some .int) [(0, 10, 13, 19), (0, 10, 17, 25)] ({ frames := 10, cells := 2, slots := 12, locals := 145 } : Room) (zh Z zm1 st) [.ref 10, .int a1, .int a2, .ref 9] (zWx Z P1) := by
  refine z_enterW (by decide) (Nat.le_of_ble_eq_true rfl) (lc0 := [some (.ref 10), some (.int a1), some (.int a2), some (.ref 9), none]) rfl ?_
  intro p e s m args below meth c ad0 C hr ht
  replace C : zC Z p s m args meth c cL_told 5 RL := C
  refine z_aload_n C dL_told_0 (i := 3) rfl rfl ?_
  refine z_iconst C dL_told_1 (v := 0) (by decide) ?_
  refine z_aload_n C dL_told_2 (i := 0) rfl rfl ?_
  refine z_iload_n C dL_told_3 (i := 1) rfl rfl ?_
  refine z_iload_n C dL_told_4 (i := 2) rfl rfl ?_
  refine t_callVC C ht hr (rest := [.int 0, .ref 9]) (c2 := 2) (s2 := 12) [.int a1, .int a2] dL_told_5 lk_L_51 li_X11_told le_X11_told (c_X11_told hfl h) rfl rfl rfl ⟨Nat.le_of_ble_eq_true rfl, Nat.le_of_ble_eq_true rfl⟩ (Nat.le_of_ble_eq_true rfl) ⟨Nat.le_of_ble_eq_true rfl, Nat.le_of_ble_eq_true rfl, Nat.le_of_ble_eq_true rfl, Nat.le_of_ble_eq_true rfl⟩ ⟨Nat.le_of_ble_eq_true rfl, Nat.le_of_ble_eq_true rfl⟩ (fun k9 h1 hx => ?_) (k_Wi fun r s9 hp => ?_)
  · obtain ⟨s9, rfl, hx⟩ := hx
    rcases hX k9 s9 hx with ⟨rfl, hy⟩ | ⟨rfl, hy⟩
    · exact ⟨1, ⟨[], ⟨0, 10, 13, 19⟩, [⟨0, 10, 17, 25⟩], 2, 4, 1, rfl, (fun z hz => by cases hz), by decide, by decide, zw_2 170 (by decide +kernel) (by decide +kernel), by decide, by decide, Or.inr ⟨rfl, dL_told_13⟩, dL_told_15, by decide, dL_told_16⟩, ⟨1, Z.2.1 9, s9, rfl, by rw [zZx_self], hy _⟩⟩
    · exact ⟨2, ⟨[⟨0, 10, 13, 19⟩], ⟨0, 10, 17, 25⟩, [], 2, 4, 2, rfl, (fun z hz => by
          rcases List.mem_cons.mp hz with rfl | hz
          · exact Or.inr ⟨by decide, "java/lang/IndexOutOfBoundsException", zw_2 170 (by decide +kernel) (by decide +kernel), by decide⟩
          cases hz), by decide, by decide, zw_3 45 (by decide +kernel) (by decide +kernel), by decide, by decide, Or.inr ⟨rfl, dL_told_17⟩, dL_told_19, by decide, dL_told_20⟩, ⟨2, Z.2.1 9, s9, rfl, by rw [zZx_self], hy _⟩⟩
  · refine z_i2l C dL_told_8 ?_
    refine t_jst C dL_told_9 rfl ?_
    refine z_goto C dL_told_10 (tgt := 21) (by decide) ?_
    refine z_iconst C dL_told_21 (v := 0) (by decide) ?_
    exact z_iret C dL_told_22 hr rfl ⟨0, _, s9, rfl, rfl, hP r s9 hp⟩ (Nat.le_of_ble_eq_true rfl) (Nat.le_of_ble_eq_true rfl)
theorem lw_L_surveyor : zLw RL 202 yL_surveyor cL_surveyor 4 (some .int) [(0, 9, 12, 25), (0, 9, 15, 13)] 3 := ⟨zw_4 215 (by decide +kernel) (by decide +kernel), zw_1 0 (by decide +kernel) (by decide +kernel), by decide +kernel, zw_4 213 (by decide +kernel) (by decide +kernel), zw_4 214 (by decide +kernel) (by decide +kernel)⟩
set_option maxHeartbeats 4000000 in
set_option maxRecDepth 100000 in
theorem c_L_surveyor {Z : zZ} {l : Launch} (hfl : l.stackTraces = false) {st : zTs} {a1 : Int32} {X : Nat → zTs → Prop} {P : Int32 → zTs → Prop} {P1 : Int32 → Nat → zTs → Prop} (h : w_X11_surveyor st a1 X P) (hX : ∀ k s9, X k s9 → (k = 1 ∧ ∀ x, P1 1 x s9) ∨ (k = 2 ∧ ∀ x, P1 2 x s9)) (hP : ∀ r s9, P r s9 → P1 0 (zjn r.toInt64) s9) : zO Z l yL_surveyor cL_surveyor 4 (some .int) [(0, 9, 12, 25), (0, 9, 15, 13)] ({ frames := 10, cells := 2, slots := 12, locals := 143 } : Room) (zh Z zm1 st) [.ref 10, .int a1, .ref 9] (zWx Z P1) := by
  refine z_enterW (by decide) (Nat.le_of_ble_eq_true rfl) (lc0 := [some (.ref 10), some (.int a1), some (.ref 9), none]) rfl ?_
  intro p e s m args below meth c ad0 C hr ht
  replace C : zC Z p s m args meth c cL_surveyor 4 RL := C
  refine z_aload_n C dL_surveyor_0 (i := 2) rfl rfl ?_
  refine z_iconst C dL_surveyor_1 (v := 0) (by decide) ?_
  refine z_aload_n C dL_surveyor_2 (i := 0) rfl rfl ?_
  refine z_iload_n C dL_surveyor_3 (i := 1) rfl rfl ?_
  refine t_callVC C ht hr (rest := [.int 0, .ref 9]) (c2 := 2) (s2 := 12) [.int a1] dL_surveyor_4 lk_L_54 li_X11_surveyor le_X11_surveyor (c_X11_surveyor hfl h) rfl rfl rfl ⟨Nat.le_of_ble_eq_true rfl, Nat.le_of_ble_eq_true rfl⟩ (Nat.le_of_ble_eq_true rfl) ⟨Nat.le_of_ble_eq_true rfl, Nat.le_of_ble_eq_true rfl, Nat.le_of_ble_eq_true rfl, Nat.le_of_ble_eq_true rfl⟩ ⟨Nat.le_of_ble_eq_true rfl, Nat.le_of_ble_eq_true rfl⟩ (fun k9 h1 hx => ?_) (k_Wi fun r s9 hp => ?_)
  · obtain ⟨s9, rfl, hx⟩ := hx
    rcases hX k9 s9 hx with ⟨rfl, hy⟩ | ⟨rfl, hy⟩
    · exact ⟨1, ⟨[], ⟨0, 9, 12, 25⟩, [⟨0, 9, 15, 13⟩], 1, 3, 1, rfl, (fun z hz => by cases hz), by decide, by decide, zw_3 45 (by decide +kernel) (by decide +kernel), by decide, by decide, Or.inl ⟨3, rfl, rfl, dL_surveyor_12⟩, dL_surveyor_13, by decide, dL_surveyor_14⟩, ⟨1, Z.2.1 9, s9, rfl, by rw [zZx_self], hy _⟩⟩
    · exact ⟨2, ⟨[⟨0, 9, 12, 25⟩], ⟨0, 9, 15, 13⟩, [], 1, 3, 2, rfl, (fun z hz => by
          rcases List.mem_cons.mp hz with rfl | hz
          · exact Or.inr ⟨by decide, "java/lang/IllegalArgumentException", zw_3 45 (by decide +kernel) (by decide +kernel), by decide⟩
          cases hz), by decide, by decide, zw_2 92 (by decide +kernel) (by decide +kernel), by decide, by decide, Or.inl ⟨3, rfl, rfl, dL_surveyor_15⟩, dL_surveyor_16, by decide, dL_surveyor_17⟩, ⟨2, Z.2.1 9, s9, rfl, by rw [zZx_self], hy _⟩⟩
  · refine z_i2l C dL_surveyor_7 ?_
    refine t_jst C dL_surveyor_8 rfl ?_
    refine z_goto C dL_surveyor_9 (tgt := 18) (by decide) ?_
    refine z_iconst C dL_surveyor_18 (v := 0) (by decide) ?_
    exact z_iret C dL_surveyor_19 hr rfl ⟨0, _, s9, rfl, rfl, hP r s9 hp⟩ (Nat.le_of_ble_eq_true rfl) (Nat.le_of_ble_eq_true rfl)
theorem lw_L_appoint : zLw RL 205 yL_appoint cL_appoint 7 (some .int) [(0, 14, 17, 19), (0, 14, 21, 25)] 6 := ⟨zw_4 222 (by decide +kernel) (by decide +kernel), zw_1 0 (by decide +kernel) (by decide +kernel), by decide +kernel, zw_4 220 (by decide +kernel) (by decide +kernel), zw_4 221 (by decide +kernel) (by decide +kernel)⟩
set_option maxHeartbeats 4000000 in
set_option maxRecDepth 100000 in
theorem c_L_appoint {Z : zZ} {l : Launch} (hfl : l.stackTraces = false) {st : zTs} {a1 : Int32} {a2 : Int32} {a3 : Int32} {a4 : Int32} {X : Nat → zTs → Prop} {P : Int32 → zTs → Prop} {P1 : Int32 → Nat → zTs → Prop} (h : w_X11_appoint st a1 a2 a3 a4 X P) (hX : ∀ k s9, X k s9 → (k = 0 ∧ ∀ x, P1 1 x s9) ∨ (k = 1 ∧ ∀ x, P1 2 x s9)) (hP : ∀ r s9, P r s9 → P1 0 (zjn r.toInt64) s9) : zO Z l yL_appoint cL_appoint 7 (some .int) [(0, 14, 17, 19), (0, 14, 21, 25)] ({ frames := 11, cells := 4, slots := 24, locals := 167 } : Room) (zh Z zm1 st) [.ref 10, .int a1, .int a2, .int a3, .int a4, .ref 9] (zWx Z P1) := by
  refine z_enterW (by decide) (Nat.le_of_ble_eq_true rfl) (lc0 := [some (.ref 10), some (.int a1), some (.int a2), some (.int a3), some (.int a4), some (.ref 9), none]) rfl ?_
  intro p e s m args below meth c ad0 C hr ht
  replace C : zC Z p s m args meth c cL_appoint 7 RL := C
  refine z_aload C dL_appoint_0 (i := 5) rfl ?_
  refine z_iconst C dL_appoint_2 (v := 0) (by decide) ?_
  refine z_aload_n C dL_appoint_3 (i := 0) rfl rfl ?_
  refine z_iload_n C dL_appoint_4 (i := 1) rfl rfl ?_
  refine z_iload_n C dL_appoint_5 (i := 2) rfl rfl ?_
  refine z_iload_n C dL_appoint_6 (i := 3) rfl rfl ?_
  refine z_iload C dL_appoint_7 (i := 4) rfl ?_
  refine t_callVC C ht hr (rest := [.int 0, .ref 9]) (c2 := 4) (s2 := 24) [.int a1, .int a2, .int a3, .int a4] dL_appoint_9 lk_L_57 li_X11_appoint le_X11_appoint (c_X11_appoint hfl h) rfl rfl rfl ⟨Nat.le_of_ble_eq_true rfl, Nat.le_of_ble_eq_true rfl⟩ (Nat.le_of_ble_eq_true rfl) ⟨Nat.le_of_ble_eq_true rfl, Nat.le_of_ble_eq_true rfl, Nat.le_of_ble_eq_true rfl, Nat.le_of_ble_eq_true rfl⟩ ⟨Nat.le_of_ble_eq_true rfl, Nat.le_of_ble_eq_true rfl⟩ (fun k9 h1 hx => ?_) (k_Wi fun r s9 hp => ?_)
  · obtain ⟨s9, rfl, hx⟩ := hx
    rcases hX k9 s9 hx with ⟨rfl, hy⟩ | ⟨rfl, hy⟩
    · exact ⟨1, ⟨[], ⟨0, 14, 17, 19⟩, [⟨0, 14, 21, 25⟩], 2, 6, 1, rfl, (fun z hz => by cases hz), by decide, by decide, zw_2 170 (by decide +kernel) (by decide +kernel), by decide, by decide, Or.inr ⟨rfl, dL_appoint_17⟩, dL_appoint_19, by decide, dL_appoint_20⟩, ⟨1, Z.2.1 9, s9, rfl, by rw [zZx_self], hy _⟩⟩
    · exact ⟨2, ⟨[⟨0, 14, 17, 19⟩], ⟨0, 14, 21, 25⟩, [], 2, 6, 2, rfl, (fun z hz => by
          rcases List.mem_cons.mp hz with rfl | hz
          · exact Or.inr ⟨by decide, "java/lang/IndexOutOfBoundsException", zw_2 170 (by decide +kernel) (by decide +kernel), by decide⟩
          cases hz), by decide, by decide, zw_3 45 (by decide +kernel) (by decide +kernel), by decide, by decide, Or.inr ⟨rfl, dL_appoint_21⟩, dL_appoint_23, by decide, dL_appoint_24⟩, ⟨2, Z.2.1 9, s9, rfl, by rw [zZx_self], hy _⟩⟩
  · refine z_i2l C dL_appoint_12 ?_
    refine t_jst C dL_appoint_13 rfl ?_
    refine z_goto C dL_appoint_14 (tgt := 25) (by decide) ?_
    refine z_iconst C dL_appoint_25 (v := 0) (by decide) ?_
    exact z_iret C dL_appoint_26 hr rfl ⟨0, _, s9, rfl, rfl, hP r s9 hp⟩ (Nat.le_of_ble_eq_true rfl) (Nat.le_of_ble_eq_true rfl)
theorem lw_L_surveys : zLw RL 209 yL_surveys cL_surveys 5 (some .int) [(0, 10, 13, 19), (0, 10, 17, 25)] 4 := ⟨zw_5 1 (by decide +kernel) (by decide +kernel), zw_1 0 (by decide +kernel) (by decide +kernel), by decide +kernel, zw_4 239 (by decide +kernel) (by decide +kernel), zw_5 0 (by decide +kernel) (by decide +kernel)⟩
set_option maxHeartbeats 4000000 in
set_option maxRecDepth 100000 in
theorem c_L_surveys {Z : zZ} {l : Launch} (hfl : l.stackTraces = false) {st : zTs} {a1 : Int32} {a2 : Int32} {X : Nat → zTs → Prop} {P : Int32 → zTs → Prop} {P1 : Int32 → Nat → zTs → Prop} (h : w_X11_surveys st a1 a2 X P) (hX : ∀ k s9, X k s9 → (k = 0 ∧ ∀ x, P1 1 x s9) ∨ (k = 1 ∧ ∀ x, P1 2 x s9)) (hP : ∀ r s9, P r s9 → P1 0 (zjn r.toInt64) s9) : zO Z l yL_surveys cL_surveys 5 (some .int) [(0, 10, 13, 19), (0, 10, 17, 25)] ({ frames := 10, cells := 2, slots := 12, locals := 145 } : Room) (zh Z zm1 st) [.ref 10, .int a1, .int a2, .ref 9] (zWx Z P1) := by
  refine z_enterW (by decide) (Nat.le_of_ble_eq_true rfl) (lc0 := [some (.ref 10), some (.int a1), some (.int a2), some (.ref 9), none]) rfl ?_
  intro p e s m args below meth c ad0 C hr ht
  replace C : zC Z p s m args meth c cL_surveys 5 RL := C
  refine z_aload_n C dL_surveys_0 (i := 3) rfl rfl ?_
  refine z_iconst C dL_surveys_1 (v := 0) (by decide) ?_
  refine z_aload_n C dL_surveys_2 (i := 0) rfl rfl ?_
  refine z_iload_n C dL_surveys_3 (i := 1) rfl rfl ?_
  refine z_iload_n C dL_surveys_4 (i := 2) rfl rfl ?_
  refine t_callVC C ht hr (rest := [.int 0, .ref 9]) (c2 := 2) (s2 := 12) [.int a1, .int a2] dL_surveys_5 lk_L_61 li_X11_surveys le_X11_surveys (c_X11_surveys hfl h) rfl rfl rfl ⟨Nat.le_of_ble_eq_true rfl, Nat.le_of_ble_eq_true rfl⟩ (Nat.le_of_ble_eq_true rfl) ⟨Nat.le_of_ble_eq_true rfl, Nat.le_of_ble_eq_true rfl, Nat.le_of_ble_eq_true rfl, Nat.le_of_ble_eq_true rfl⟩ ⟨Nat.le_of_ble_eq_true rfl, Nat.le_of_ble_eq_true rfl⟩ (fun k9 h1 hx => ?_) (k_Wi fun r s9 hp => ?_)
  · obtain ⟨s9, rfl, hx⟩ := hx
    rcases hX k9 s9 hx with ⟨rfl, hy⟩ | ⟨rfl, hy⟩
    · exact ⟨1, ⟨[], ⟨0, 10, 13, 19⟩, [⟨0, 10, 17, 25⟩], 2, 4, 1, rfl, (fun z hz => by cases hz), by decide, by decide, zw_2 170 (by decide +kernel) (by decide +kernel), by decide, by decide, Or.inr ⟨rfl, dL_surveys_13⟩, dL_surveys_15, by decide, dL_surveys_16⟩, ⟨1, Z.2.1 9, s9, rfl, by rw [zZx_self], hy _⟩⟩
    · exact ⟨2, ⟨[⟨0, 10, 13, 19⟩], ⟨0, 10, 17, 25⟩, [], 2, 4, 2, rfl, (fun z hz => by
          rcases List.mem_cons.mp hz with rfl | hz
          · exact Or.inr ⟨by decide, "java/lang/IndexOutOfBoundsException", zw_2 170 (by decide +kernel) (by decide +kernel), by decide⟩
          cases hz), by decide, by decide, zw_3 45 (by decide +kernel) (by decide +kernel), by decide, by decide, Or.inr ⟨rfl, dL_surveys_17⟩, dL_surveys_19, by decide, dL_surveys_20⟩, ⟨2, Z.2.1 9, s9, rfl, by rw [zZx_self], hy _⟩⟩
  · refine z_i2l C dL_surveys_8 ?_
    refine t_jst C dL_surveys_9 rfl ?_
    refine z_goto C dL_surveys_10 (tgt := 21) (by decide) ?_
    refine z_iconst C dL_surveys_21 (v := 0) (by decide) ?_
    exact z_iret C dL_surveys_22 hr rfl ⟨0, _, s9, rfl, rfl, hP r s9 hp⟩ (Nat.le_of_ble_eq_true rfl) (Nat.le_of_ble_eq_true rfl)
theorem lw_L_propose : zLw RL 212 yL_propose cL_propose 8 (some .int) [(0, 16, 19, 19), (0, 16, 23, 25)] 7 := ⟨zw_5 8 (by decide +kernel) (by decide +kernel), zw_1 0 (by decide +kernel) (by decide +kernel), by decide +kernel, zw_5 6 (by decide +kernel) (by decide +kernel), zw_5 7 (by decide +kernel) (by decide +kernel)⟩
set_option maxHeartbeats 4000000 in
set_option maxRecDepth 100000 in
theorem c_L_propose {Z : zZ} {l : Launch} (hfl : l.stackTraces = false) {st : zTs} {a1 : Int32} {a2 : Int32} {a3 : Int32} {a4 : Int32} {a5 : Int32} {X : Nat → zTs → Prop} {P : Int32 → zTs → Prop} {P1 : Int32 → Nat → zTs → Prop} (h : w_X11_propose st a1 a2 a3 a4 a5 X P) (hX : ∀ k s9, X k s9 → (k = 0 ∧ ∀ x, P1 1 x s9) ∨ (k = 1 ∧ ∀ x, P1 2 x s9)) (hP : ∀ r s9, P r s9 → P1 0 (zjn r.toInt64) s9) : zO Z l yL_propose cL_propose 8 (some .int) [(0, 16, 19, 19), (0, 16, 23, 25)] ({ frames := 10, cells := 7, slots := 39, locals := 149 } : Room) (zh Z zm1 st) [.ref 10, .int a1, .int a2, .int a3, .int a4, .int a5, .ref 9] (zWx Z P1) := by
  refine z_enterW (by decide) (Nat.le_of_ble_eq_true rfl) (lc0 := [some (.ref 10), some (.int a1), some (.int a2), some (.int a3), some (.int a4), some (.int a5), some (.ref 9), none]) rfl ?_
  intro p e s m args below meth c ad0 C hr ht
  replace C : zC Z p s m args meth c cL_propose 8 RL := C
  refine z_aload C dL_propose_0 (i := 6) rfl ?_
  refine z_iconst C dL_propose_2 (v := 0) (by decide) ?_
  refine z_aload_n C dL_propose_3 (i := 0) rfl rfl ?_
  refine z_iload_n C dL_propose_4 (i := 1) rfl rfl ?_
  refine z_iload_n C dL_propose_5 (i := 2) rfl rfl ?_
  refine z_iload_n C dL_propose_6 (i := 3) rfl rfl ?_
  refine z_iload C dL_propose_7 (i := 4) rfl ?_
  refine z_iload C dL_propose_9 (i := 5) rfl ?_
  refine t_callVC C ht hr (rest := [.int 0, .ref 9]) (c2 := 7) (s2 := 39) [.int a1, .int a2, .int a3, .int a4, .int a5] dL_propose_11 lk_L_64 li_X11_propose le_X11_propose (c_X11_propose hfl h) rfl rfl rfl ⟨Nat.le_of_ble_eq_true rfl, Nat.le_of_ble_eq_true rfl⟩ (Nat.le_of_ble_eq_true rfl) ⟨Nat.le_of_ble_eq_true rfl, Nat.le_of_ble_eq_true rfl, Nat.le_of_ble_eq_true rfl, Nat.le_of_ble_eq_true rfl⟩ ⟨Nat.le_of_ble_eq_true rfl, Nat.le_of_ble_eq_true rfl⟩ (fun k9 h1 hx => ?_) (k_Wi fun r s9 hp => ?_)
  · obtain ⟨s9, rfl, hx⟩ := hx
    rcases hX k9 s9 hx with ⟨rfl, hy⟩ | ⟨rfl, hy⟩
    · exact ⟨1, ⟨[], ⟨0, 16, 19, 19⟩, [⟨0, 16, 23, 25⟩], 2, 7, 1, rfl, (fun z hz => by cases hz), by decide, by decide, zw_2 170 (by decide +kernel) (by decide +kernel), by decide, by decide, Or.inr ⟨rfl, dL_propose_19⟩, dL_propose_21, by decide, dL_propose_22⟩, ⟨1, Z.2.1 9, s9, rfl, by rw [zZx_self], hy _⟩⟩
    · exact ⟨2, ⟨[⟨0, 16, 19, 19⟩], ⟨0, 16, 23, 25⟩, [], 2, 7, 2, rfl, (fun z hz => by
          rcases List.mem_cons.mp hz with rfl | hz
          · exact Or.inr ⟨by decide, "java/lang/IndexOutOfBoundsException", zw_2 170 (by decide +kernel) (by decide +kernel), by decide⟩
          cases hz), by decide, by decide, zw_3 45 (by decide +kernel) (by decide +kernel), by decide, by decide, Or.inr ⟨rfl, dL_propose_23⟩, dL_propose_25, by decide, dL_propose_26⟩, ⟨2, Z.2.1 9, s9, rfl, by rw [zZx_self], hy _⟩⟩
  · refine z_i2l C dL_propose_14 ?_
    refine t_jst C dL_propose_15 rfl ?_
    refine z_goto C dL_propose_16 (tgt := 27) (by decide) ?_
    refine z_iconst C dL_propose_27 (v := 0) (by decide) ?_
    exact z_iret C dL_propose_28 hr rfl ⟨0, _, s9, rfl, rfl, hP r s9 hp⟩ (Nat.le_of_ble_eq_true rfl) (Nat.le_of_ble_eq_true rfl)
theorem lw_L_appeal : zLw RL 216 yL_appeal cL_appeal 4 (some .int) [(0, 9, 12, 19)] 3 := ⟨zw_5 50 (by decide +kernel) (by decide +kernel), zw_1 0 (by decide +kernel) (by decide +kernel), by decide +kernel, zw_5 48 (by decide +kernel) (by decide +kernel), zw_5 49 (by decide +kernel) (by decide +kernel)⟩
set_option maxHeartbeats 4000000 in
set_option maxRecDepth 100000 in
theorem c_L_appeal {Z : zZ} {l : Launch} (hfl : l.stackTraces = false) {st : zTs} {a1 : Int32} {X : Nat → zTs → Prop} {P : Int32 → zTs → Prop} {P1 : Int32 → Nat → zTs → Prop} (h : w_X11_appeal st a1 X P) (hX : ∀ k s9, X k s9 → (k = 0 ∧ ∀ x, P1 1 x s9)) (hP : ∀ r s9, P r s9 → P1 0 (zjn r.toInt64) s9) : zO Z l yL_appeal cL_appeal 4 (some .int) [(0, 9, 12, 19)] ({ frames := 10, cells := 1, slots := 6, locals := 144 } : Room) (zh Z zm1 st) [.ref 10, .int a1, .ref 9] (zWx Z P1) := by
  refine z_enterW (by decide) (Nat.le_of_ble_eq_true rfl) (lc0 := [some (.ref 10), some (.int a1), some (.ref 9), none]) rfl ?_
  intro p e s m args below meth c ad0 C hr ht
  replace C : zC Z p s m args meth c cL_appeal 4 RL := C
  refine z_aload_n C dL_appeal_0 (i := 2) rfl rfl ?_
  refine z_iconst C dL_appeal_1 (v := 0) (by decide) ?_
  refine z_aload_n C dL_appeal_2 (i := 0) rfl rfl ?_
  refine z_iload_n C dL_appeal_3 (i := 1) rfl rfl ?_
  refine t_callVC C ht hr (rest := [.int 0, .ref 9]) (c2 := 1) (s2 := 6) [.int a1] dL_appeal_4 lk_L_68 li_X11_appeal le_X11_appeal (c_X11_appeal hfl h) rfl rfl rfl ⟨Nat.le_of_ble_eq_true rfl, Nat.le_of_ble_eq_true rfl⟩ (Nat.le_of_ble_eq_true rfl) ⟨Nat.le_of_ble_eq_true rfl, Nat.le_of_ble_eq_true rfl, Nat.le_of_ble_eq_true rfl, Nat.le_of_ble_eq_true rfl⟩ ⟨Nat.le_of_ble_eq_true rfl, Nat.le_of_ble_eq_true rfl⟩ (fun k9 h1 hx => ?_) (k_Wi fun r s9 hp => ?_)
  · obtain ⟨s9, rfl, hx⟩ := hx
    rcases hX k9 s9 hx with ⟨rfl, hy⟩
    · exact ⟨1, ⟨[], ⟨0, 9, 12, 19⟩, [], 1, 3, 1, rfl, (fun z hz => by cases hz), by decide, by decide, zw_2 170 (by decide +kernel) (by decide +kernel), by decide, by decide, Or.inl ⟨3, rfl, rfl, dL_appeal_12⟩, dL_appeal_13, by decide, dL_appeal_14⟩, ⟨1, Z.2.1 9, s9, rfl, by rw [zZx_self], hy _⟩⟩
  · refine z_i2l C dL_appeal_7 ?_
    refine t_jst C dL_appeal_8 rfl ?_
    refine z_goto C dL_appeal_9 (tgt := 15) (by decide) ?_
    refine z_iconst C dL_appeal_15 (v := 0) (by decide) ?_
    exact z_iret C dL_appeal_16 hr rfl ⟨0, _, s9, rfl, rfl, hP r s9 hp⟩ (Nat.le_of_ble_eq_true rfl) (Nat.le_of_ble_eq_true rfl)
theorem lw_L_begin : zLw RL 219 yL_begin cL_begin 4 (some .int) [(0, 9, 12, 19)] 3 := ⟨zw_5 61 (by decide +kernel) (by decide +kernel), zw_1 0 (by decide +kernel) (by decide +kernel), by decide +kernel, zw_5 59 (by decide +kernel) (by decide +kernel), zw_5 60 (by decide +kernel) (by decide +kernel)⟩
set_option maxHeartbeats 4000000 in
set_option maxRecDepth 100000 in
theorem c_L_begin {Z : zZ} {l : Launch} (hfl : l.stackTraces = false) {st : zTs} {a1 : Int32} {X : Nat → zTs → Prop} {P : Int32 → zTs → Prop} {P1 : Int32 → Nat → zTs → Prop} (h : w_X11_begin st a1 X P) (hX : ∀ k s9, X k s9 → (k = 0 ∧ ∀ x, P1 1 x s9)) (hP : ∀ r s9, P r s9 → P1 0 (zjn r.toInt64) s9) : zO Z l yL_begin cL_begin 4 (some .int) [(0, 9, 12, 19)] ({ frames := 10, cells := 1, slots := 6, locals := 144 } : Room) (zh Z zm1 st) [.ref 10, .int a1, .ref 9] (zWx Z P1) := by
  refine z_enterW (by decide) (Nat.le_of_ble_eq_true rfl) (lc0 := [some (.ref 10), some (.int a1), some (.ref 9), none]) rfl ?_
  intro p e s m args below meth c ad0 C hr ht
  replace C : zC Z p s m args meth c cL_begin 4 RL := C
  refine z_aload_n C dL_begin_0 (i := 2) rfl rfl ?_
  refine z_iconst C dL_begin_1 (v := 0) (by decide) ?_
  refine z_aload_n C dL_begin_2 (i := 0) rfl rfl ?_
  refine z_iload_n C dL_begin_3 (i := 1) rfl rfl ?_
  refine t_callVC C ht hr (rest := [.int 0, .ref 9]) (c2 := 1) (s2 := 6) [.int a1] dL_begin_4 lk_L_71 li_X11_begin le_X11_begin (c_X11_begin hfl h) rfl rfl rfl ⟨Nat.le_of_ble_eq_true rfl, Nat.le_of_ble_eq_true rfl⟩ (Nat.le_of_ble_eq_true rfl) ⟨Nat.le_of_ble_eq_true rfl, Nat.le_of_ble_eq_true rfl, Nat.le_of_ble_eq_true rfl, Nat.le_of_ble_eq_true rfl⟩ ⟨Nat.le_of_ble_eq_true rfl, Nat.le_of_ble_eq_true rfl⟩ (fun k9 h1 hx => ?_) (k_Wi fun r s9 hp => ?_)
  · obtain ⟨s9, rfl, hx⟩ := hx
    rcases hX k9 s9 hx with ⟨rfl, hy⟩
    · exact ⟨1, ⟨[], ⟨0, 9, 12, 19⟩, [], 1, 3, 1, rfl, (fun z hz => by cases hz), by decide, by decide, zw_2 170 (by decide +kernel) (by decide +kernel), by decide, by decide, Or.inl ⟨3, rfl, rfl, dL_begin_12⟩, dL_begin_13, by decide, dL_begin_14⟩, ⟨1, Z.2.1 9, s9, rfl, by rw [zZx_self], hy _⟩⟩
  · refine z_i2l C dL_begin_7 ?_
    refine t_jst C dL_begin_8 rfl ?_
    refine z_goto C dL_begin_9 (tgt := 15) (by decide) ?_
    refine z_iconst C dL_begin_15 (v := 0) (by decide) ?_
    exact z_iret C dL_begin_16 hr rfl ⟨0, _, s9, rfl, rfl, hP r s9 hp⟩ (Nat.le_of_ble_eq_true rfl) (Nat.le_of_ble_eq_true rfl)
theorem lw_L_done : zLw RL 222 yL_done cL_done 4 (some .int) [(0, 9, 12, 19)] 3 := ⟨zw_5 72 (by decide +kernel) (by decide +kernel), zw_1 0 (by decide +kernel) (by decide +kernel), by decide +kernel, zw_5 70 (by decide +kernel) (by decide +kernel), zw_5 71 (by decide +kernel) (by decide +kernel)⟩
set_option maxHeartbeats 4000000 in
set_option maxRecDepth 100000 in
theorem c_L_done {Z : zZ} {l : Launch} (hfl : l.stackTraces = false) {st : zTs} {a1 : Int32} {X : Nat → zTs → Prop} {P : Int32 → zTs → Prop} {P1 : Int32 → Nat → zTs → Prop} (h : w_X11_done st a1 X P) (hX : ∀ k s9, X k s9 → (k = 0 ∧ ∀ x, P1 1 x s9)) (hP : ∀ r s9, P r s9 → P1 0 (zjn r.toInt64) s9) : zO Z l yL_done cL_done 4 (some .int) [(0, 9, 12, 19)] ({ frames := 10, cells := 1, slots := 6, locals := 144 } : Room) (zh Z zm1 st) [.ref 10, .int a1, .ref 9] (zWx Z P1) := by
  refine z_enterW (by decide) (Nat.le_of_ble_eq_true rfl) (lc0 := [some (.ref 10), some (.int a1), some (.ref 9), none]) rfl ?_
  intro p e s m args below meth c ad0 C hr ht
  replace C : zC Z p s m args meth c cL_done 4 RL := C
  refine z_aload_n C dL_done_0 (i := 2) rfl rfl ?_
  refine z_iconst C dL_done_1 (v := 0) (by decide) ?_
  refine z_aload_n C dL_done_2 (i := 0) rfl rfl ?_
  refine z_iload_n C dL_done_3 (i := 1) rfl rfl ?_
  refine t_callVC C ht hr (rest := [.int 0, .ref 9]) (c2 := 1) (s2 := 6) [.int a1] dL_done_4 lk_L_74 li_X11_done le_X11_done (c_X11_done hfl h) rfl rfl rfl ⟨Nat.le_of_ble_eq_true rfl, Nat.le_of_ble_eq_true rfl⟩ (Nat.le_of_ble_eq_true rfl) ⟨Nat.le_of_ble_eq_true rfl, Nat.le_of_ble_eq_true rfl, Nat.le_of_ble_eq_true rfl, Nat.le_of_ble_eq_true rfl⟩ ⟨Nat.le_of_ble_eq_true rfl, Nat.le_of_ble_eq_true rfl⟩ (fun k9 h1 hx => ?_) (k_Wi fun r s9 hp => ?_)
  · obtain ⟨s9, rfl, hx⟩ := hx
    rcases hX k9 s9 hx with ⟨rfl, hy⟩
    · exact ⟨1, ⟨[], ⟨0, 9, 12, 19⟩, [], 1, 3, 1, rfl, (fun z hz => by cases hz), by decide, by decide, zw_2 170 (by decide +kernel) (by decide +kernel), by decide, by decide, Or.inl ⟨3, rfl, rfl, dL_done_12⟩, dL_done_13, by decide, dL_done_14⟩, ⟨1, Z.2.1 9, s9, rfl, by rw [zZx_self], hy _⟩⟩
  · refine z_i2l C dL_done_7 ?_
    refine t_jst C dL_done_8 rfl ?_
    refine z_goto C dL_done_9 (tgt := 15) (by decide) ?_
    refine z_iconst C dL_done_15 (v := 0) (by decide) ?_
    exact z_iret C dL_done_16 hr rfl ⟨0, _, s9, rfl, rfl, hP r s9 hp⟩ (Nat.le_of_ble_eq_true rfl) (Nat.le_of_ble_eq_true rfl)
theorem lw_L_enter : zLw RL 225 yL_enter cL_enter 5 (some .int) [(0, 10, 13, 19), (0, 10, 17, 25)] 4 := ⟨zw_5 79 (by decide +kernel) (by decide +kernel), zw_1 0 (by decide +kernel) (by decide +kernel), by decide +kernel, zw_5 77 (by decide +kernel) (by decide +kernel), zw_5 78 (by decide +kernel) (by decide +kernel)⟩
set_option maxHeartbeats 4000000 in
set_option maxRecDepth 100000 in
theorem c_L_enter {Z : zZ} {l : Launch} (hfl : l.stackTraces = false) {st : zTs} {a1 : Int32} {a2 : Int32} {X : Nat → zTs → Prop} {P : Int32 → zTs → Prop} {P1 : Int32 → Nat → zTs → Prop} (h : w_X11_enter st a1 a2 X P) (hX : ∀ k s9, X k s9 → (k = 0 ∧ ∀ x, P1 1 x s9) ∨ (k = 1 ∧ ∀ x, P1 2 x s9)) (hP : ∀ r s9, P r s9 → P1 0 (zjn r.toInt64) s9) : zO Z l yL_enter cL_enter 5 (some .int) [(0, 10, 13, 19), (0, 10, 17, 25)] ({ frames := 10, cells := 2, slots := 12, locals := 145 } : Room) (zh Z zm1 st) [.ref 10, .int a1, .int a2, .ref 9] (zWx Z P1) := by
  refine z_enterW (by decide) (Nat.le_of_ble_eq_true rfl) (lc0 := [some (.ref 10), some (.int a1), some (.int a2), some (.ref 9), none]) rfl ?_
  intro p e s m args below meth c ad0 C hr ht
  replace C : zC Z p s m args meth c cL_enter 5 RL := C
  refine z_aload_n C dL_enter_0 (i := 3) rfl rfl ?_
  refine z_iconst C dL_enter_1 (v := 0) (by decide) ?_
  refine z_aload_n C dL_enter_2 (i := 0) rfl rfl ?_
  refine z_iload_n C dL_enter_3 (i := 1) rfl rfl ?_
  refine z_iload_n C dL_enter_4 (i := 2) rfl rfl ?_
  refine t_callVC C ht hr (rest := [.int 0, .ref 9]) (c2 := 2) (s2 := 12) [.int a1, .int a2] dL_enter_5 lk_L_77 li_X11_enter le_X11_enter (c_X11_enter hfl h) rfl rfl rfl ⟨Nat.le_of_ble_eq_true rfl, Nat.le_of_ble_eq_true rfl⟩ (Nat.le_of_ble_eq_true rfl) ⟨Nat.le_of_ble_eq_true rfl, Nat.le_of_ble_eq_true rfl, Nat.le_of_ble_eq_true rfl, Nat.le_of_ble_eq_true rfl⟩ ⟨Nat.le_of_ble_eq_true rfl, Nat.le_of_ble_eq_true rfl⟩ (fun k9 h1 hx => ?_) (k_Wi fun r s9 hp => ?_)
  · obtain ⟨s9, rfl, hx⟩ := hx
    rcases hX k9 s9 hx with ⟨rfl, hy⟩ | ⟨rfl, hy⟩
    · exact ⟨1, ⟨[], ⟨0, 10, 13, 19⟩, [⟨0, 10, 17, 25⟩], 2, 4, 1, rfl, (fun z hz => by cases hz), by decide, by decide, zw_2 170 (by decide +kernel) (by decide +kernel), by decide, by decide, Or.inr ⟨rfl, dL_enter_13⟩, dL_enter_15, by decide, dL_enter_16⟩, ⟨1, Z.2.1 9, s9, rfl, by rw [zZx_self], hy _⟩⟩
    · exact ⟨2, ⟨[⟨0, 10, 13, 19⟩], ⟨0, 10, 17, 25⟩, [], 2, 4, 2, rfl, (fun z hz => by
          rcases List.mem_cons.mp hz with rfl | hz
          · exact Or.inr ⟨by decide, "java/lang/IndexOutOfBoundsException", zw_2 170 (by decide +kernel) (by decide +kernel), by decide⟩
          cases hz), by decide, by decide, zw_3 45 (by decide +kernel) (by decide +kernel), by decide, by decide, Or.inr ⟨rfl, dL_enter_17⟩, dL_enter_19, by decide, dL_enter_20⟩, ⟨2, Z.2.1 9, s9, rfl, by rw [zZx_self], hy _⟩⟩
  · refine z_i2l C dL_enter_8 ?_
    refine t_jst C dL_enter_9 rfl ?_
    refine z_goto C dL_enter_10 (tgt := 21) (by decide) ?_
    refine z_iconst C dL_enter_21 (v := 0) (by decide) ?_
    exact z_iret C dL_enter_22 hr rfl ⟨0, _, s9, rfl, rfl, hP r s9 hp⟩ (Nat.le_of_ble_eq_true rfl) (Nat.le_of_ble_eq_true rfl)
theorem lw_L_entries : zLw RL 228 yL_entries cL_entries 5 (some .int) [(0, 10, 13, 19), (0, 10, 17, 25)] 4 := ⟨zw_5 110 (by decide +kernel) (by decide +kernel), zw_1 0 (by decide +kernel) (by decide +kernel), by decide +kernel, zw_5 108 (by decide +kernel) (by decide +kernel), zw_5 109 (by decide +kernel) (by decide +kernel)⟩
set_option maxHeartbeats 4000000 in
set_option maxRecDepth 100000 in
theorem c_L_entries {Z : zZ} {l : Launch} (hfl : l.stackTraces = false) {st : zTs} {a1 : Int32} {a2 : Int32} {X : Nat → zTs → Prop} {P : Int32 → zTs → Prop} {P1 : Int32 → Nat → zTs → Prop} (h : w_X11_entries st a1 a2 X P) (hX : ∀ k s9, X k s9 → (k = 0 ∧ ∀ x, P1 1 x s9) ∨ (k = 1 ∧ ∀ x, P1 2 x s9)) (hP : ∀ r s9, P r s9 → P1 0 (zjn r.toInt64) s9) : zO Z l yL_entries cL_entries 5 (some .int) [(0, 10, 13, 19), (0, 10, 17, 25)] ({ frames := 10, cells := 2, slots := 12, locals := 145 } : Room) (zh Z zm1 st) [.ref 10, .int a1, .int a2, .ref 9] (zWx Z P1) := by
  refine z_enterW (by decide) (Nat.le_of_ble_eq_true rfl) (lc0 := [some (.ref 10), some (.int a1), some (.int a2), some (.ref 9), none]) rfl ?_
  intro p e s m args below meth c ad0 C hr ht
  replace C : zC Z p s m args meth c cL_entries 5 RL := C
  refine z_aload_n C dL_entries_0 (i := 3) rfl rfl ?_
  refine z_iconst C dL_entries_1 (v := 0) (by decide) ?_
  refine z_aload_n C dL_entries_2 (i := 0) rfl rfl ?_
  refine z_iload_n C dL_entries_3 (i := 1) rfl rfl ?_
  refine z_iload_n C dL_entries_4 (i := 2) rfl rfl ?_
  refine t_callVC C ht hr (rest := [.int 0, .ref 9]) (c2 := 2) (s2 := 12) [.int a1, .int a2] dL_entries_5 lk_L_80 li_X11_entries le_X11_entries (c_X11_entries hfl h) rfl rfl rfl ⟨Nat.le_of_ble_eq_true rfl, Nat.le_of_ble_eq_true rfl⟩ (Nat.le_of_ble_eq_true rfl) ⟨Nat.le_of_ble_eq_true rfl, Nat.le_of_ble_eq_true rfl, Nat.le_of_ble_eq_true rfl, Nat.le_of_ble_eq_true rfl⟩ ⟨Nat.le_of_ble_eq_true rfl, Nat.le_of_ble_eq_true rfl⟩ (fun k9 h1 hx => ?_) (k_Wi fun r s9 hp => ?_)
  · obtain ⟨s9, rfl, hx⟩ := hx
    rcases hX k9 s9 hx with ⟨rfl, hy⟩ | ⟨rfl, hy⟩
    · exact ⟨1, ⟨[], ⟨0, 10, 13, 19⟩, [⟨0, 10, 17, 25⟩], 2, 4, 1, rfl, (fun z hz => by cases hz), by decide, by decide, zw_2 170 (by decide +kernel) (by decide +kernel), by decide, by decide, Or.inr ⟨rfl, dL_entries_13⟩, dL_entries_15, by decide, dL_entries_16⟩, ⟨1, Z.2.1 9, s9, rfl, by rw [zZx_self], hy _⟩⟩
    · exact ⟨2, ⟨[⟨0, 10, 13, 19⟩], ⟨0, 10, 17, 25⟩, [], 2, 4, 2, rfl, (fun z hz => by
          rcases List.mem_cons.mp hz with rfl | hz
          · exact Or.inr ⟨by decide, "java/lang/IndexOutOfBoundsException", zw_2 170 (by decide +kernel) (by decide +kernel), by decide⟩
          cases hz), by decide, by decide, zw_3 45 (by decide +kernel) (by decide +kernel), by decide, by decide, Or.inr ⟨rfl, dL_entries_17⟩, dL_entries_19, by decide, dL_entries_20⟩, ⟨2, Z.2.1 9, s9, rfl, by rw [zZx_self], hy _⟩⟩
  · refine z_i2l C dL_entries_8 ?_
    refine t_jst C dL_entries_9 rfl ?_
    refine z_goto C dL_entries_10 (tgt := 21) (by decide) ?_
    refine z_iconst C dL_entries_21 (v := 0) (by decide) ?_
    exact z_iret C dL_entries_22 hr rfl ⟨0, _, s9, rfl, rfl, hP r s9 hp⟩ (Nat.le_of_ble_eq_true rfl) (Nat.le_of_ble_eq_true rfl)
theorem lw_L_build : zLw RL 231 yL_build cL_build 8 (some .int) [(0, 16, 19, 19), (0, 16, 23, 25)] 7 := ⟨zw_5 117 (by decide +kernel) (by decide +kernel), zw_1 0 (by decide +kernel) (by decide +kernel), by decide +kernel, zw_5 115 (by decide +kernel) (by decide +kernel), zw_5 116 (by decide +kernel) (by decide +kernel)⟩
set_option maxHeartbeats 4000000 in
set_option maxRecDepth 100000 in
theorem c_L_build {Z : zZ} {l : Launch} (hfl : l.stackTraces = false) {st : zTs} {a1 : Int32} {a2 : Int32} {a3 : Int32} {a4 : Int32} {a5 : Int32} {X : Nat → zTs → Prop} {P : Int32 → zTs → Prop} {P1 : Int32 → Nat → zTs → Prop} (h : w_X11_build st a1 a2 a3 a4 a5 X P) (hX : ∀ k s9, X k s9 → (k = 0 ∧ ∀ x, P1 1 x s9) ∨ (k = 1 ∧ ∀ x, P1 2 x s9)) (hP : ∀ r s9, P r s9 → P1 0 (zjn r.toInt64) s9) : zO Z l yL_build cL_build 8 (some .int) [(0, 16, 19, 19), (0, 16, 23, 25)] ({ frames := 11, cells := 5, slots := 30, locals := 171 } : Room) (zh Z zm1 st) [.ref 10, .int a1, .int a2, .int a3, .int a4, .int a5, .ref 9] (zWx Z P1) := by
  refine z_enterW (by decide) (Nat.le_of_ble_eq_true rfl) (lc0 := [some (.ref 10), some (.int a1), some (.int a2), some (.int a3), some (.int a4), some (.int a5), some (.ref 9), none]) rfl ?_
  intro p e s m args below meth c ad0 C hr ht
  replace C : zC Z p s m args meth c cL_build 8 RL := C
  refine z_aload C dL_build_0 (i := 6) rfl ?_
  refine z_iconst C dL_build_2 (v := 0) (by decide) ?_
  refine z_aload_n C dL_build_3 (i := 0) rfl rfl ?_
  refine z_iload_n C dL_build_4 (i := 1) rfl rfl ?_
  refine z_iload_n C dL_build_5 (i := 2) rfl rfl ?_
  refine z_iload_n C dL_build_6 (i := 3) rfl rfl ?_
  refine z_iload C dL_build_7 (i := 4) rfl ?_
  refine z_iload C dL_build_9 (i := 5) rfl ?_
  refine t_callVC C ht hr (rest := [.int 0, .ref 9]) (c2 := 5) (s2 := 30) [.int a1, .int a2, .int a3, .int a4, .int a5] dL_build_11 lk_L_83 li_X11_build le_X11_build (c_X11_build hfl h) rfl rfl rfl ⟨Nat.le_of_ble_eq_true rfl, Nat.le_of_ble_eq_true rfl⟩ (Nat.le_of_ble_eq_true rfl) ⟨Nat.le_of_ble_eq_true rfl, Nat.le_of_ble_eq_true rfl, Nat.le_of_ble_eq_true rfl, Nat.le_of_ble_eq_true rfl⟩ ⟨Nat.le_of_ble_eq_true rfl, Nat.le_of_ble_eq_true rfl⟩ (fun k9 h1 hx => ?_) (k_Wi fun r s9 hp => ?_)
  · obtain ⟨s9, rfl, hx⟩ := hx
    rcases hX k9 s9 hx with ⟨rfl, hy⟩ | ⟨rfl, hy⟩
    · exact ⟨1, ⟨[], ⟨0, 16, 19, 19⟩, [⟨0, 16, 23, 25⟩], 2, 7, 1, rfl, (fun z hz => by cases hz), by decide, by decide, zw_2 170 (by decide +kernel) (by decide +kernel), by decide, by decide, Or.inr ⟨rfl, dL_build_19⟩, dL_build_21, by decide, dL_build_22⟩, ⟨1, Z.2.1 9, s9, rfl, by rw [zZx_self], hy _⟩⟩
    · exact ⟨2, ⟨[⟨0, 16, 19, 19⟩], ⟨0, 16, 23, 25⟩, [], 2, 7, 2, rfl, (fun z hz => by
          rcases List.mem_cons.mp hz with rfl | hz
          · exact Or.inr ⟨by decide, "java/lang/IndexOutOfBoundsException", zw_2 170 (by decide +kernel) (by decide +kernel), by decide⟩
          cases hz), by decide, by decide, zw_3 45 (by decide +kernel) (by decide +kernel), by decide, by decide, Or.inr ⟨rfl, dL_build_23⟩, dL_build_25, by decide, dL_build_26⟩, ⟨2, Z.2.1 9, s9, rfl, by rw [zZx_self], hy _⟩⟩
  · refine z_i2l C dL_build_14 ?_
    refine t_jst C dL_build_15 rfl ?_
    refine z_goto C dL_build_16 (tgt := 27) (by decide) ?_
    refine z_iconst C dL_build_27 (v := 0) (by decide) ?_
    exact z_iret C dL_build_28 hr rfl ⟨0, _, s9, rfl, rfl, hP r s9 hp⟩ (Nat.le_of_ble_eq_true rfl) (Nat.le_of_ble_eq_true rfl)
theorem lw_L_lower : zLw RL 234 yL_lower cL_lower 6 (some .int) [(0, 12, 15, 19), (0, 12, 19, 25)] 5 := ⟨zw_5 141 (by decide +kernel) (by decide +kernel), zw_1 0 (by decide +kernel) (by decide +kernel), by decide +kernel, zw_5 139 (by decide +kernel) (by decide +kernel), zw_5 140 (by decide +kernel) (by decide +kernel)⟩
set_option maxHeartbeats 4000000 in
set_option maxRecDepth 100000 in
theorem c_L_lower {Z : zZ} {l : Launch} (hfl : l.stackTraces = false) {st : zTs} {a1 : Int32} {a2 : Int32} {a3 : Int32} {X : Nat → zTs → Prop} {P : Int32 → zTs → Prop} {P1 : Int32 → Nat → zTs → Prop} (h : w_X11_lower st a1 a2 a3 X P) (hX : ∀ k s9, X k s9 → (k = 0 ∧ ∀ x, P1 1 x s9) ∨ (k = 1 ∧ ∀ x, P1 2 x s9)) (hP : ∀ r s9, P r s9 → P1 0 (zjn r.toInt64) s9) : zO Z l yL_lower cL_lower 6 (some .int) [(0, 12, 15, 19), (0, 12, 19, 25)] ({ frames := 11, cells := 3, slots := 18, locals := 167 } : Room) (zh Z zm1 st) [.ref 10, .int a1, .int a2, .int a3, .ref 9] (zWx Z P1) := by
  refine z_enterW (by decide) (Nat.le_of_ble_eq_true rfl) (lc0 := [some (.ref 10), some (.int a1), some (.int a2), some (.int a3), some (.ref 9), none]) rfl ?_
  intro p e s m args below meth c ad0 C hr ht
  replace C : zC Z p s m args meth c cL_lower 6 RL := C
  refine z_aload C dL_lower_0 (i := 4) rfl ?_
  refine z_iconst C dL_lower_2 (v := 0) (by decide) ?_
  refine z_aload_n C dL_lower_3 (i := 0) rfl rfl ?_
  refine z_iload_n C dL_lower_4 (i := 1) rfl rfl ?_
  refine z_iload_n C dL_lower_5 (i := 2) rfl rfl ?_
  refine z_iload_n C dL_lower_6 (i := 3) rfl rfl ?_
  refine t_callVC C ht hr (rest := [.int 0, .ref 9]) (c2 := 3) (s2 := 18) [.int a1, .int a2, .int a3] dL_lower_7 lk_L_86 li_X11_lower le_X11_lower (c_X11_lower hfl h) rfl rfl rfl ⟨Nat.le_of_ble_eq_true rfl, Nat.le_of_ble_eq_true rfl⟩ (Nat.le_of_ble_eq_true rfl) ⟨Nat.le_of_ble_eq_true rfl, Nat.le_of_ble_eq_true rfl, Nat.le_of_ble_eq_true rfl, Nat.le_of_ble_eq_true rfl⟩ ⟨Nat.le_of_ble_eq_true rfl, Nat.le_of_ble_eq_true rfl⟩ (fun k9 h1 hx => ?_) (k_Wi fun r s9 hp => ?_)
  · obtain ⟨s9, rfl, hx⟩ := hx
    rcases hX k9 s9 hx with ⟨rfl, hy⟩ | ⟨rfl, hy⟩
    · exact ⟨1, ⟨[], ⟨0, 12, 15, 19⟩, [⟨0, 12, 19, 25⟩], 2, 5, 1, rfl, (fun z hz => by cases hz), by decide, by decide, zw_2 170 (by decide +kernel) (by decide +kernel), by decide, by decide, Or.inr ⟨rfl, dL_lower_15⟩, dL_lower_17, by decide, dL_lower_18⟩, ⟨1, Z.2.1 9, s9, rfl, by rw [zZx_self], hy _⟩⟩
    · exact ⟨2, ⟨[⟨0, 12, 15, 19⟩], ⟨0, 12, 19, 25⟩, [], 2, 5, 2, rfl, (fun z hz => by
          rcases List.mem_cons.mp hz with rfl | hz
          · exact Or.inr ⟨by decide, "java/lang/IndexOutOfBoundsException", zw_2 170 (by decide +kernel) (by decide +kernel), by decide⟩
          cases hz), by decide, by decide, zw_3 45 (by decide +kernel) (by decide +kernel), by decide, by decide, Or.inr ⟨rfl, dL_lower_19⟩, dL_lower_21, by decide, dL_lower_22⟩, ⟨2, Z.2.1 9, s9, rfl, by rw [zZx_self], hy _⟩⟩
  · refine z_i2l C dL_lower_10 ?_
    refine t_jst C dL_lower_11 rfl ?_
    refine z_goto C dL_lower_12 (tgt := 23) (by decide) ?_
    refine z_iconst C dL_lower_23 (v := 0) (by decide) ?_
    exact z_iret C dL_lower_24 hr rfl ⟨0, _, s9, rfl, rfl, hP r s9 hp⟩ (Nat.le_of_ble_eq_true rfl) (Nat.le_of_ble_eq_true rfl)
theorem lw_L_use : zLw RL 237 yL_use cL_use 8 (some .int) [(0, 16, 19, 19), (0, 16, 23, 25)] 7 := ⟨zw_5 152 (by decide +kernel) (by decide +kernel), zw_1 0 (by decide +kernel) (by decide +kernel), by decide +kernel, zw_5 150 (by decide +kernel) (by decide +kernel), zw_5 151 (by decide +kernel) (by decide +kernel)⟩
set_option maxHeartbeats 4000000 in
set_option maxRecDepth 100000 in
theorem c_L_use {Z : zZ} {l : Launch} (hfl : l.stackTraces = false) {st : zTs} {a1 : Int32} {a2 : Int32} {a3 : Int32} {a4 : Int32} {a5 : Int32} {X : Nat → zTs → Prop} {P : Int32 → zTs → Prop} {P1 : Int32 → Nat → zTs → Prop} (h : w_X11_use st a1 a2 a3 a4 a5 X P) (hX : ∀ k s9, X k s9 → (k = 0 ∧ ∀ x, P1 1 x s9) ∨ (k = 1 ∧ ∀ x, P1 2 x s9)) (hP : ∀ r s9, P r s9 → P1 0 (zjn r.toInt64) s9) : zO Z l yL_use cL_use 8 (some .int) [(0, 16, 19, 19), (0, 16, 23, 25)] ({ frames := 11, cells := 5, slots := 30, locals := 171 } : Room) (zh Z zm1 st) [.ref 10, .int a1, .int a2, .int a3, .int a4, .int a5, .ref 9] (zWx Z P1) := by
  refine z_enterW (by decide) (Nat.le_of_ble_eq_true rfl) (lc0 := [some (.ref 10), some (.int a1), some (.int a2), some (.int a3), some (.int a4), some (.int a5), some (.ref 9), none]) rfl ?_
  intro p e s m args below meth c ad0 C hr ht
  replace C : zC Z p s m args meth c cL_use 8 RL := C
  refine z_aload C dL_use_0 (i := 6) rfl ?_
  refine z_iconst C dL_use_2 (v := 0) (by decide) ?_
  refine z_aload_n C dL_use_3 (i := 0) rfl rfl ?_
  refine z_iload_n C dL_use_4 (i := 1) rfl rfl ?_
  refine z_iload_n C dL_use_5 (i := 2) rfl rfl ?_
  refine z_iload_n C dL_use_6 (i := 3) rfl rfl ?_
  refine z_iload C dL_use_7 (i := 4) rfl ?_
  refine z_iload C dL_use_9 (i := 5) rfl ?_
  refine t_callVC C ht hr (rest := [.int 0, .ref 9]) (c2 := 5) (s2 := 30) [.int a1, .int a2, .int a3, .int a4, .int a5] dL_use_11 lk_L_89 li_X11_use le_X11_use (c_X11_use hfl h) rfl rfl rfl ⟨Nat.le_of_ble_eq_true rfl, Nat.le_of_ble_eq_true rfl⟩ (Nat.le_of_ble_eq_true rfl) ⟨Nat.le_of_ble_eq_true rfl, Nat.le_of_ble_eq_true rfl, Nat.le_of_ble_eq_true rfl, Nat.le_of_ble_eq_true rfl⟩ ⟨Nat.le_of_ble_eq_true rfl, Nat.le_of_ble_eq_true rfl⟩ (fun k9 h1 hx => ?_) (k_Wi fun r s9 hp => ?_)
  · obtain ⟨s9, rfl, hx⟩ := hx
    rcases hX k9 s9 hx with ⟨rfl, hy⟩ | ⟨rfl, hy⟩
    · exact ⟨1, ⟨[], ⟨0, 16, 19, 19⟩, [⟨0, 16, 23, 25⟩], 2, 7, 1, rfl, (fun z hz => by cases hz), by decide, by decide, zw_2 170 (by decide +kernel) (by decide +kernel), by decide, by decide, Or.inr ⟨rfl, dL_use_19⟩, dL_use_21, by decide, dL_use_22⟩, ⟨1, Z.2.1 9, s9, rfl, by rw [zZx_self], hy _⟩⟩
    · exact ⟨2, ⟨[⟨0, 16, 19, 19⟩], ⟨0, 16, 23, 25⟩, [], 2, 7, 2, rfl, (fun z hz => by
          rcases List.mem_cons.mp hz with rfl | hz
          · exact Or.inr ⟨by decide, "java/lang/IndexOutOfBoundsException", zw_2 170 (by decide +kernel) (by decide +kernel), by decide⟩
          cases hz), by decide, by decide, zw_3 45 (by decide +kernel) (by decide +kernel), by decide, by decide, Or.inr ⟨rfl, dL_use_23⟩, dL_use_25, by decide, dL_use_26⟩, ⟨2, Z.2.1 9, s9, rfl, by rw [zZx_self], hy _⟩⟩
  · refine z_i2l C dL_use_14 ?_
    refine t_jst C dL_use_15 rfl ?_
    refine z_goto C dL_use_16 (tgt := 27) (by decide) ?_
    refine z_iconst C dL_use_27 (v := 0) (by decide) ?_
    exact z_iret C dL_use_28 hr rfl ⟨0, _, s9, rfl, rfl, hP r s9 hp⟩ (Nat.le_of_ble_eq_true rfl) (Nat.le_of_ble_eq_true rfl)
theorem lw_L_cell : zLw RL 240 yL_cell cL_cell 7 (some .int) [(0, 14, 17, 19), (0, 14, 21, 25)] 6 := ⟨zw_5 180 (by decide +kernel) (by decide +kernel), zw_1 0 (by decide +kernel) (by decide +kernel), by decide +kernel, zw_5 178 (by decide +kernel) (by decide +kernel), zw_5 179 (by decide +kernel) (by decide +kernel)⟩
set_option maxHeartbeats 4000000 in
set_option maxRecDepth 100000 in
theorem c_L_cell {Z : zZ} {l : Launch} (hfl : l.stackTraces = false) {st : zTs} {a1 : Int32} {a2 : Int32} {a3 : Int32} {a4 : Int32} {X : Nat → Prop} {P : Int32 → Prop} {P1 : Int32 → Nat → zTs → Prop} (h : w_X11_cell st a1 a2 a3 a4 X P) (hX : ∀ k, X k → (k = 0 ∧ ∀ x, P1 1 x st) ∨ (k = 1 ∧ ∀ x, P1 2 x st)) (hP : ∀ r, P r → P1 0 (zjn r.toInt64) st) : zO Z l yL_cell cL_cell 7 (some .int) [(0, 14, 17, 19), (0, 14, 21, 25)] ({ frames := 10, cells := 3, slots := 18, locals := 147 } : Room) (zh Z zm1 st) [.ref 10, .int a1, .int a2, .int a3, .int a4, .ref 9] (zWx Z P1) := by
  refine z_enterW (by decide) (Nat.le_of_ble_eq_true rfl) (lc0 := [some (.ref 10), some (.int a1), some (.int a2), some (.int a3), some (.int a4), some (.ref 9), none]) rfl ?_
  intro p e s m args below meth c ad0 C hr ht
  replace C : zC Z p s m args meth c cL_cell 7 RL := C
  refine z_aload C dL_cell_0 (i := 5) rfl ?_
  refine z_iconst C dL_cell_2 (v := 0) (by decide) ?_
  refine z_aload_n C dL_cell_3 (i := 0) rfl rfl ?_
  refine z_iload_n C dL_cell_4 (i := 1) rfl rfl ?_
  refine z_iload_n C dL_cell_5 (i := 2) rfl rfl ?_
  refine z_iload_n C dL_cell_6 (i := 3) rfl rfl ?_
  refine z_iload C dL_cell_7 (i := 4) rfl ?_
  refine t_callVC C ht hr (rest := [.int 0, .ref 9]) (c2 := 3) (s2 := 18) [.int a1, .int a2, .int a3, .int a4] dL_cell_9 lk_L_92 li_X11_cell le_X11_cell (c_X11_cell hfl h) rfl rfl rfl ⟨Nat.le_of_ble_eq_true rfl, Nat.le_of_ble_eq_true rfl⟩ (Nat.le_of_ble_eq_true rfl) ⟨Nat.le_of_ble_eq_true rfl, Nat.le_of_ble_eq_true rfl, Nat.le_of_ble_eq_true rfl, Nat.le_of_ble_eq_true rfl⟩ ⟨Nat.le_of_ble_eq_true rfl, Nat.le_of_ble_eq_true rfl⟩ (fun k9 h1 hx => ?_) (k_Ri fun r hp => ?_)
  · obtain ⟨rfl, hx⟩ := hx
    rcases hX k9 hx with ⟨rfl, hy⟩ | ⟨rfl, hy⟩
    · exact ⟨1, ⟨[], ⟨0, 14, 17, 19⟩, [⟨0, 14, 21, 25⟩], 2, 6, 1, rfl, (fun z hz => by cases hz), by decide, by decide, zw_2 170 (by decide +kernel) (by decide +kernel), by decide, by decide, Or.inr ⟨rfl, dL_cell_17⟩, dL_cell_19, by decide, dL_cell_20⟩, ⟨1, Z.2.1 9, st, rfl, by rw [zZx_self], hy _⟩⟩
    · exact ⟨2, ⟨[⟨0, 14, 17, 19⟩], ⟨0, 14, 21, 25⟩, [], 2, 6, 2, rfl, (fun z hz => by
          rcases List.mem_cons.mp hz with rfl | hz
          · exact Or.inr ⟨by decide, "java/lang/IndexOutOfBoundsException", zw_2 170 (by decide +kernel) (by decide +kernel), by decide⟩
          cases hz), by decide, by decide, zw_3 45 (by decide +kernel) (by decide +kernel), by decide, by decide, Or.inr ⟨rfl, dL_cell_21⟩, dL_cell_23, by decide, dL_cell_24⟩, ⟨2, Z.2.1 9, st, rfl, by rw [zZx_self], hy _⟩⟩
  · refine z_i2l C dL_cell_12 ?_
    refine t_jst C dL_cell_13 rfl ?_
    refine z_goto C dL_cell_14 (tgt := 25) (by decide) ?_
    refine z_iconst C dL_cell_25 (v := 0) (by decide) ?_
    exact z_iret C dL_cell_26 hr rfl ⟨0, _, st, rfl, rfl, hP r hp⟩ (Nat.le_of_ble_eq_true rfl) (Nat.le_of_ble_eq_true rfl)
theorem lw_L_spend : zLw RL 243 yL_spend cL_spend 5 (some .int) [(0, 10, 13, 19), (0, 10, 17, 25)] 4 := ⟨zw_5 197 (by decide +kernel) (by decide +kernel), zw_1 0 (by decide +kernel) (by decide +kernel), by decide +kernel, zw_5 195 (by decide +kernel) (by decide +kernel), zw_5 196 (by decide +kernel) (by decide +kernel)⟩
set_option maxHeartbeats 4000000 in
set_option maxRecDepth 100000 in
theorem c_L_spend {Z : zZ} {l : Launch} (hfl : l.stackTraces = false) {st : zTs} {a1 : Int32} {a2 : Int32} {X : Nat → zTs → Prop} {P : Int32 → zTs → Prop} {P1 : Int32 → Nat → zTs → Prop} (h : w_X11_spend st a1 a2 X P) (hX : ∀ k s9, X k s9 → (k = 0 ∧ ∀ x, P1 1 x s9) ∨ (k = 1 ∧ ∀ x, P1 2 x s9)) (hP : ∀ r s9, P r s9 → P1 0 (zjn r.toInt64) s9) : zO Z l yL_spend cL_spend 5 (some .int) [(0, 10, 13, 19), (0, 10, 17, 25)] ({ frames := 10, cells := 2, slots := 12, locals := 146 } : Room) (zh Z zm1 st) [.ref 10, .int a1, .int a2, .ref 9] (zWx Z P1) := by
  refine z_enterW (by decide) (Nat.le_of_ble_eq_true rfl) (lc0 := [some (.ref 10), some (.int a1), some (.int a2), some (.ref 9), none]) rfl ?_
  intro p e s m args below meth c ad0 C hr ht
  replace C : zC Z p s m args meth c cL_spend 5 RL := C
  refine z_aload_n C dL_spend_0 (i := 3) rfl rfl ?_
  refine z_iconst C dL_spend_1 (v := 0) (by decide) ?_
  refine z_aload_n C dL_spend_2 (i := 0) rfl rfl ?_
  refine z_iload_n C dL_spend_3 (i := 1) rfl rfl ?_
  refine z_iload_n C dL_spend_4 (i := 2) rfl rfl ?_
  refine t_callVC C ht hr (rest := [.int 0, .ref 9]) (c2 := 2) (s2 := 12) [.int a1, .int a2] dL_spend_5 lk_L_95 li_X11_spend le_X11_spend (c_X11_spend hfl h) rfl rfl rfl ⟨Nat.le_of_ble_eq_true rfl, Nat.le_of_ble_eq_true rfl⟩ (Nat.le_of_ble_eq_true rfl) ⟨Nat.le_of_ble_eq_true rfl, Nat.le_of_ble_eq_true rfl, Nat.le_of_ble_eq_true rfl, Nat.le_of_ble_eq_true rfl⟩ ⟨Nat.le_of_ble_eq_true rfl, Nat.le_of_ble_eq_true rfl⟩ (fun k9 h1 hx => ?_) (k_Wi fun r s9 hp => ?_)
  · obtain ⟨s9, rfl, hx⟩ := hx
    rcases hX k9 s9 hx with ⟨rfl, hy⟩ | ⟨rfl, hy⟩
    · exact ⟨1, ⟨[], ⟨0, 10, 13, 19⟩, [⟨0, 10, 17, 25⟩], 2, 4, 1, rfl, (fun z hz => by cases hz), by decide, by decide, zw_2 170 (by decide +kernel) (by decide +kernel), by decide, by decide, Or.inr ⟨rfl, dL_spend_13⟩, dL_spend_15, by decide, dL_spend_16⟩, ⟨1, Z.2.1 9, s9, rfl, by rw [zZx_self], hy _⟩⟩
    · exact ⟨2, ⟨[⟨0, 10, 13, 19⟩], ⟨0, 10, 17, 25⟩, [], 2, 4, 2, rfl, (fun z hz => by
          rcases List.mem_cons.mp hz with rfl | hz
          · exact Or.inr ⟨by decide, "java/lang/IndexOutOfBoundsException", zw_2 170 (by decide +kernel) (by decide +kernel), by decide⟩
          cases hz), by decide, by decide, zw_3 45 (by decide +kernel) (by decide +kernel), by decide, by decide, Or.inr ⟨rfl, dL_spend_17⟩, dL_spend_19, by decide, dL_spend_20⟩, ⟨2, Z.2.1 9, s9, rfl, by rw [zZx_self], hy _⟩⟩
  · refine z_i2l C dL_spend_8 ?_
    refine t_jst C dL_spend_9 rfl ?_
    refine z_goto C dL_spend_10 (tgt := 21) (by decide) ?_
    refine z_iconst C dL_spend_21 (v := 0) (by decide) ?_
    exact z_iret C dL_spend_22 hr rfl ⟨0, _, s9, rfl, rfl, hP r s9 hp⟩ (Nat.le_of_ble_eq_true rfl) (Nat.le_of_ble_eq_true rfl)
theorem lw_L_secure : zLw RL 246 yL_secure cL_secure 5 (some .int) [(0, 10, 13, 19), (0, 10, 17, 25)] 4 := ⟨zw_5 204 (by decide +kernel) (by decide +kernel), zw_1 0 (by decide +kernel) (by decide +kernel), by decide +kernel, zw_5 202 (by decide +kernel) (by decide +kernel), zw_5 203 (by decide +kernel) (by decide +kernel)⟩
set_option maxHeartbeats 4000000 in
set_option maxRecDepth 100000 in
theorem c_L_secure {Z : zZ} {l : Launch} (hfl : l.stackTraces = false) {st : zTs} {a1 : Int32} {a2 : Int32} {X : Nat → zTs → Prop} {P : Int32 → zTs → Prop} {P1 : Int32 → Nat → zTs → Prop} (h : w_X11_secure st a1 a2 X P) (hX : ∀ k s9, X k s9 → (k = 0 ∧ ∀ x, P1 1 x s9) ∨ (k = 1 ∧ ∀ x, P1 2 x s9)) (hP : ∀ r s9, P r s9 → P1 0 (zjn r.toInt64) s9) : zO Z l yL_secure cL_secure 5 (some .int) [(0, 10, 13, 19), (0, 10, 17, 25)] ({ frames := 10, cells := 2, slots := 12, locals := 145 } : Room) (zh Z zm1 st) [.ref 10, .int a1, .int a2, .ref 9] (zWx Z P1) := by
  refine z_enterW (by decide) (Nat.le_of_ble_eq_true rfl) (lc0 := [some (.ref 10), some (.int a1), some (.int a2), some (.ref 9), none]) rfl ?_
  intro p e s m args below meth c ad0 C hr ht
  replace C : zC Z p s m args meth c cL_secure 5 RL := C
  refine z_aload_n C dL_secure_0 (i := 3) rfl rfl ?_
  refine z_iconst C dL_secure_1 (v := 0) (by decide) ?_
  refine z_aload_n C dL_secure_2 (i := 0) rfl rfl ?_
  refine z_iload_n C dL_secure_3 (i := 1) rfl rfl ?_
  refine z_iload_n C dL_secure_4 (i := 2) rfl rfl ?_
  refine t_callVC C ht hr (rest := [.int 0, .ref 9]) (c2 := 2) (s2 := 12) [.int a1, .int a2] dL_secure_5 lk_L_98 li_X11_secure le_X11_secure (c_X11_secure hfl h) rfl rfl rfl ⟨Nat.le_of_ble_eq_true rfl, Nat.le_of_ble_eq_true rfl⟩ (Nat.le_of_ble_eq_true rfl) ⟨Nat.le_of_ble_eq_true rfl, Nat.le_of_ble_eq_true rfl, Nat.le_of_ble_eq_true rfl, Nat.le_of_ble_eq_true rfl⟩ ⟨Nat.le_of_ble_eq_true rfl, Nat.le_of_ble_eq_true rfl⟩ (fun k9 h1 hx => ?_) (k_Wi fun r s9 hp => ?_)
  · obtain ⟨s9, rfl, hx⟩ := hx
    rcases hX k9 s9 hx with ⟨rfl, hy⟩ | ⟨rfl, hy⟩
    · exact ⟨1, ⟨[], ⟨0, 10, 13, 19⟩, [⟨0, 10, 17, 25⟩], 2, 4, 1, rfl, (fun z hz => by cases hz), by decide, by decide, zw_2 170 (by decide +kernel) (by decide +kernel), by decide, by decide, Or.inr ⟨rfl, dL_secure_13⟩, dL_secure_15, by decide, dL_secure_16⟩, ⟨1, Z.2.1 9, s9, rfl, by rw [zZx_self], hy _⟩⟩
    · exact ⟨2, ⟨[⟨0, 10, 13, 19⟩], ⟨0, 10, 17, 25⟩, [], 2, 4, 2, rfl, (fun z hz => by
          rcases List.mem_cons.mp hz with rfl | hz
          · exact Or.inr ⟨by decide, "java/lang/IndexOutOfBoundsException", zw_2 170 (by decide +kernel) (by decide +kernel), by decide⟩
          cases hz), by decide, by decide, zw_3 45 (by decide +kernel) (by decide +kernel), by decide, by decide, Or.inr ⟨rfl, dL_secure_17⟩, dL_secure_19, by decide, dL_secure_20⟩, ⟨2, Z.2.1 9, s9, rfl, by rw [zZx_self], hy _⟩⟩
  · refine z_i2l C dL_secure_8 ?_
    refine t_jst C dL_secure_9 rfl ?_
    refine z_goto C dL_secure_10 (tgt := 21) (by decide) ?_
    refine z_iconst C dL_secure_21 (v := 0) (by decide) ?_
    exact z_iret C dL_secure_22 hr rfl ⟨0, _, s9, rfl, rfl, hP r s9 hp⟩ (Nat.le_of_ble_eq_true rfl) (Nat.le_of_ble_eq_true rfl)
theorem lw_L_settle : zLw RL 249 yL_settle cL_settle 5 (some .int) [(0, 10, 13, 19), (0, 10, 17, 25)] 4 := ⟨zw_5 211 (by decide +kernel) (by decide +kernel), zw_1 0 (by decide +kernel) (by decide +kernel), by decide +kernel, zw_5 209 (by decide +kernel) (by decide +kernel), zw_5 210 (by decide +kernel) (by decide +kernel)⟩
set_option maxHeartbeats 4000000 in
set_option maxRecDepth 100000 in
theorem c_L_settle {Z : zZ} {l : Launch} (hfl : l.stackTraces = false) {st : zTs} {a1 : Int32} {a2 : Int32} {X : Nat → zTs → Prop} {P : Int32 → zTs → Prop} {P1 : Int32 → Nat → zTs → Prop} (h : w_X11_settle st a1 a2 X P) (hX : ∀ k s9, X k s9 → (k = 0 ∧ ∀ x, P1 1 x s9) ∨ (k = 1 ∧ ∀ x, P1 2 x s9)) (hP : ∀ r s9, P r s9 → P1 0 (zjn r.toInt64) s9) : zO Z l yL_settle cL_settle 5 (some .int) [(0, 10, 13, 19), (0, 10, 17, 25)] ({ frames := 10, cells := 2, slots := 12, locals := 146 } : Room) (zh Z zm1 st) [.ref 10, .int a1, .int a2, .ref 9] (zWx Z P1) := by
  refine z_enterW (by decide) (Nat.le_of_ble_eq_true rfl) (lc0 := [some (.ref 10), some (.int a1), some (.int a2), some (.ref 9), none]) rfl ?_
  intro p e s m args below meth c ad0 C hr ht
  replace C : zC Z p s m args meth c cL_settle 5 RL := C
  refine z_aload_n C dL_settle_0 (i := 3) rfl rfl ?_
  refine z_iconst C dL_settle_1 (v := 0) (by decide) ?_
  refine z_aload_n C dL_settle_2 (i := 0) rfl rfl ?_
  refine z_iload_n C dL_settle_3 (i := 1) rfl rfl ?_
  refine z_iload_n C dL_settle_4 (i := 2) rfl rfl ?_
  refine t_callVC C ht hr (rest := [.int 0, .ref 9]) (c2 := 2) (s2 := 12) [.int a1, .int a2] dL_settle_5 lk_L_101 li_X11_settle le_X11_settle (c_X11_settle hfl h) rfl rfl rfl ⟨Nat.le_of_ble_eq_true rfl, Nat.le_of_ble_eq_true rfl⟩ (Nat.le_of_ble_eq_true rfl) ⟨Nat.le_of_ble_eq_true rfl, Nat.le_of_ble_eq_true rfl, Nat.le_of_ble_eq_true rfl, Nat.le_of_ble_eq_true rfl⟩ ⟨Nat.le_of_ble_eq_true rfl, Nat.le_of_ble_eq_true rfl⟩ (fun k9 h1 hx => ?_) (k_Wi fun r s9 hp => ?_)
  · obtain ⟨s9, rfl, hx⟩ := hx
    rcases hX k9 s9 hx with ⟨rfl, hy⟩ | ⟨rfl, hy⟩
    · exact ⟨1, ⟨[], ⟨0, 10, 13, 19⟩, [⟨0, 10, 17, 25⟩], 2, 4, 1, rfl, (fun z hz => by cases hz), by decide, by decide, zw_2 170 (by decide +kernel) (by decide +kernel), by decide, by decide, Or.inr ⟨rfl, dL_settle_13⟩, dL_settle_15, by decide, dL_settle_16⟩, ⟨1, Z.2.1 9, s9, rfl, by rw [zZx_self], hy _⟩⟩
    · exact ⟨2, ⟨[⟨0, 10, 13, 19⟩], ⟨0, 10, 17, 25⟩, [], 2, 4, 2, rfl, (fun z hz => by
          rcases List.mem_cons.mp hz with rfl | hz
          · exact Or.inr ⟨by decide, "java/lang/IndexOutOfBoundsException", zw_2 170 (by decide +kernel) (by decide +kernel), by decide⟩
          cases hz), by decide, by decide, zw_3 45 (by decide +kernel) (by decide +kernel), by decide, by decide, Or.inr ⟨rfl, dL_settle_17⟩, dL_settle_19, by decide, dL_settle_20⟩, ⟨2, Z.2.1 9, s9, rfl, by rw [zZx_self], hy _⟩⟩
  · refine z_i2l C dL_settle_8 ?_
    refine t_jst C dL_settle_9 rfl ?_
    refine z_goto C dL_settle_10 (tgt := 21) (by decide) ?_
    refine z_iconst C dL_settle_21 (v := 0) (by decide) ?_
    exact z_iret C dL_settle_22 hr rfl ⟨0, _, s9, rfl, rfl, hP r s9 hp⟩ (Nat.le_of_ble_eq_true rfl) (Nat.le_of_ble_eq_true rfl)
theorem lw_L_mend : zLw RL 252 yL_mend cL_mend 5 (some .int) [(0, 10, 13, 19), (0, 10, 17, 25)] 4 := ⟨zw_5 219 (by decide +kernel) (by decide +kernel), zw_1 0 (by decide +kernel) (by decide +kernel), by decide +kernel, zw_5 217 (by decide +kernel) (by decide +kernel), zw_5 218 (by decide +kernel) (by decide +kernel)⟩
set_option maxHeartbeats 4000000 in
set_option maxRecDepth 100000 in
theorem c_L_mend {Z : zZ} {l : Launch} (hfl : l.stackTraces = false) {st : zTs} {a1 : Int32} {a2 : Int32} {X : Nat → zTs → Prop} {P : Int32 → zTs → Prop} {P1 : Int32 → Nat → zTs → Prop} (h : w_X11_mend st a1 a2 X P) (hX : ∀ k s9, X k s9 → (k = 0 ∧ ∀ x, P1 1 x s9) ∨ (k = 1 ∧ ∀ x, P1 2 x s9)) (hP : ∀ r s9, P r s9 → P1 0 (zjn r.toInt64) s9) : zO Z l yL_mend cL_mend 5 (some .int) [(0, 10, 13, 19), (0, 10, 17, 25)] ({ frames := 10, cells := 2, slots := 12, locals := 145 } : Room) (zh Z zm1 st) [.ref 10, .int a1, .int a2, .ref 9] (zWx Z P1) := by
  refine z_enterW (by decide) (Nat.le_of_ble_eq_true rfl) (lc0 := [some (.ref 10), some (.int a1), some (.int a2), some (.ref 9), none]) rfl ?_
  intro p e s m args below meth c ad0 C hr ht
  replace C : zC Z p s m args meth c cL_mend 5 RL := C
  refine z_aload_n C dL_mend_0 (i := 3) rfl rfl ?_
  refine z_iconst C dL_mend_1 (v := 0) (by decide) ?_
  refine z_aload_n C dL_mend_2 (i := 0) rfl rfl ?_
  refine z_iload_n C dL_mend_3 (i := 1) rfl rfl ?_
  refine z_iload_n C dL_mend_4 (i := 2) rfl rfl ?_
  refine t_callVC C ht hr (rest := [.int 0, .ref 9]) (c2 := 2) (s2 := 12) [.int a1, .int a2] dL_mend_5 lk_L_104 li_X11_mend le_X11_mend (c_X11_mend hfl h) rfl rfl rfl ⟨Nat.le_of_ble_eq_true rfl, Nat.le_of_ble_eq_true rfl⟩ (Nat.le_of_ble_eq_true rfl) ⟨Nat.le_of_ble_eq_true rfl, Nat.le_of_ble_eq_true rfl, Nat.le_of_ble_eq_true rfl, Nat.le_of_ble_eq_true rfl⟩ ⟨Nat.le_of_ble_eq_true rfl, Nat.le_of_ble_eq_true rfl⟩ (fun k9 h1 hx => ?_) (k_Wi fun r s9 hp => ?_)
  · obtain ⟨s9, rfl, hx⟩ := hx
    rcases hX k9 s9 hx with ⟨rfl, hy⟩ | ⟨rfl, hy⟩
    · exact ⟨1, ⟨[], ⟨0, 10, 13, 19⟩, [⟨0, 10, 17, 25⟩], 2, 4, 1, rfl, (fun z hz => by cases hz), by decide, by decide, zw_2 170 (by decide +kernel) (by decide +kernel), by decide, by decide, Or.inr ⟨rfl, dL_mend_13⟩, dL_mend_15, by decide, dL_mend_16⟩, ⟨1, Z.2.1 9, s9, rfl, by rw [zZx_self], hy _⟩⟩
    · exact ⟨2, ⟨[⟨0, 10, 13, 19⟩], ⟨0, 10, 17, 25⟩, [], 2, 4, 2, rfl, (fun z hz => by
          rcases List.mem_cons.mp hz with rfl | hz
          · exact Or.inr ⟨by decide, "java/lang/IndexOutOfBoundsException", zw_2 170 (by decide +kernel) (by decide +kernel), by decide⟩
          cases hz), by decide, by decide, zw_3 45 (by decide +kernel) (by decide +kernel), by decide, by decide, Or.inr ⟨rfl, dL_mend_17⟩, dL_mend_19, by decide, dL_mend_20⟩, ⟨2, Z.2.1 9, s9, rfl, by rw [zZx_self], hy _⟩⟩
  · refine z_i2l C dL_mend_8 ?_
    refine t_jst C dL_mend_9 rfl ?_
    refine z_goto C dL_mend_10 (tgt := 21) (by decide) ?_
    refine z_iconst C dL_mend_21 (v := 0) (by decide) ?_
    exact z_iret C dL_mend_22 hr rfl ⟨0, _, s9, rfl, rfl, hP r s9 hp⟩ (Nat.le_of_ble_eq_true rfl) (Nat.le_of_ble_eq_true rfl)
theorem lw_L_payment : zLw RL 255 yL_payment cL_payment 5 (some .int) [(0, 10, 13, 19), (0, 10, 17, 25)] 4 := ⟨zw_5 235 (by decide +kernel) (by decide +kernel), zw_1 0 (by decide +kernel) (by decide +kernel), by decide +kernel, zw_5 233 (by decide +kernel) (by decide +kernel), zw_5 234 (by decide +kernel) (by decide +kernel)⟩
set_option maxHeartbeats 4000000 in
set_option maxRecDepth 100000 in
theorem c_L_payment {Z : zZ} {l : Launch} (hfl : l.stackTraces = false) {st : zTs} {a1 : Int32} {a2 : Int32} {X : Nat → Prop} {P : Int32 → Prop} {P1 : Int32 → Nat → zTs → Prop} (h : w_X11_payment st a1 a2 X P) (hX : ∀ k, X k → (k = 0 ∧ ∀ x, P1 1 x st) ∨ (k = 1 ∧ ∀ x, P1 2 x st)) (hP : ∀ r, P r → P1 0 (zjn r.toInt64) st) : zO Z l yL_payment cL_payment 5 (some .int) [(0, 10, 13, 19), (0, 10, 17, 25)] ({ frames := 10, cells := 2, slots := 12, locals := 144 } : Room) (zh Z zm1 st) [.ref 10, .int a1, .int a2, .ref 9] (zWx Z P1) := by
  refine z_enterW (by decide) (Nat.le_of_ble_eq_true rfl) (lc0 := [some (.ref 10), some (.int a1), some (.int a2), some (.ref 9), none]) rfl ?_
  intro p e s m args below meth c ad0 C hr ht
  replace C : zC Z p s m args meth c cL_payment 5 RL := C
  refine z_aload_n C dL_payment_0 (i := 3) rfl rfl ?_
  refine z_iconst C dL_payment_1 (v := 0) (by decide) ?_
  refine z_aload_n C dL_payment_2 (i := 0) rfl rfl ?_
  refine z_iload_n C dL_payment_3 (i := 1) rfl rfl ?_
  refine z_iload_n C dL_payment_4 (i := 2) rfl rfl ?_
  refine t_callVC C ht hr (rest := [.int 0, .ref 9]) (c2 := 2) (s2 := 12) [.int a1, .int a2] dL_payment_5 lk_L_107 li_X11_payment le_X11_payment (c_X11_payment hfl h) rfl rfl rfl ⟨Nat.le_of_ble_eq_true rfl, Nat.le_of_ble_eq_true rfl⟩ (Nat.le_of_ble_eq_true rfl) ⟨Nat.le_of_ble_eq_true rfl, Nat.le_of_ble_eq_true rfl, Nat.le_of_ble_eq_true rfl, Nat.le_of_ble_eq_true rfl⟩ ⟨Nat.le_of_ble_eq_true rfl, Nat.le_of_ble_eq_true rfl⟩ (fun k9 h1 hx => ?_) (k_Ri fun r hp => ?_)
  · obtain ⟨rfl, hx⟩ := hx
    rcases hX k9 hx with ⟨rfl, hy⟩ | ⟨rfl, hy⟩
    · exact ⟨1, ⟨[], ⟨0, 10, 13, 19⟩, [⟨0, 10, 17, 25⟩], 2, 4, 1, rfl, (fun z hz => by cases hz), by decide, by decide, zw_2 170 (by decide +kernel) (by decide +kernel), by decide, by decide, Or.inr ⟨rfl, dL_payment_13⟩, dL_payment_15, by decide, dL_payment_16⟩, ⟨1, Z.2.1 9, st, rfl, by rw [zZx_self], hy _⟩⟩
    · exact ⟨2, ⟨[⟨0, 10, 13, 19⟩], ⟨0, 10, 17, 25⟩, [], 2, 4, 2, rfl, (fun z hz => by
          rcases List.mem_cons.mp hz with rfl | hz
          · exact Or.inr ⟨by decide, "java/lang/IndexOutOfBoundsException", zw_2 170 (by decide +kernel) (by decide +kernel), by decide⟩
          cases hz), by decide, by decide, zw_3 45 (by decide +kernel) (by decide +kernel), by decide, by decide, Or.inr ⟨rfl, dL_payment_17⟩, dL_payment_19, by decide, dL_payment_20⟩, ⟨2, Z.2.1 9, st, rfl, by rw [zZx_self], hy _⟩⟩
  · refine z_i2l C dL_payment_8 ?_
    refine t_jst C dL_payment_9 rfl ?_
    refine z_goto C dL_payment_10 (tgt := 21) (by decide) ?_
    refine z_iconst C dL_payment_21 (v := 0) (by decide) ?_
    exact z_iret C dL_payment_22 hr rfl ⟨0, _, st, rfl, rfl, hP r hp⟩ (Nat.le_of_ble_eq_true rfl) (Nat.le_of_ble_eq_true rfl)
theorem lw_L_balance : zLw RL 258 yL_balance cL_balance 6 (some .int) [(0, 11, 14, 19)] 5 := ⟨zw_6 14 (by decide +kernel) (by decide +kernel), zw_1 0 (by decide +kernel) (by decide +kernel), by decide +kernel, zw_6 12 (by decide +kernel) (by decide +kernel), zw_6 13 (by decide +kernel) (by decide +kernel)⟩
set_option maxHeartbeats 4000000 in
set_option maxRecDepth 100000 in
theorem c_L_balance {Z : zZ} {l : Launch} (hfl : l.stackTraces = false) {st : zTs} {a1 : Int32} {a2 : Int32} {a3 : Int32} {X : Nat → Prop} {P : Int64 → Prop} {P1 : Int32 → Nat → zTs → Prop} (h : w_X11_balance st a1 a2 a3 X P) (hX : ∀ k, X k → (k = 0 ∧ ∀ x, P1 1 x st)) (hP : ∀ r, P r → P1 0 (zjn r) st) : zO Z l yL_balance cL_balance 6 (some .int) [(0, 11, 14, 19)] ({ frames := 10, cells := 1, slots := 6, locals := 144 } : Room) (zh Z zm1 st) [.ref 10, .int a1, .int a2, .int a3, .ref 9] (zWx Z P1) := by
  refine z_enterW (by decide) (Nat.le_of_ble_eq_true rfl) (lc0 := [some (.ref 10), some (.int a1), some (.int a2), some (.int a3), some (.ref 9), none]) rfl ?_
  intro p e s m args below meth c ad0 C hr ht
  replace C : zC Z p s m args meth c cL_balance 6 RL := C
  refine z_aload C dL_balance_0 (i := 4) rfl ?_
  refine z_iconst C dL_balance_2 (v := 0) (by decide) ?_
  refine z_aload_n C dL_balance_3 (i := 0) rfl rfl ?_
  refine z_iload_n C dL_balance_4 (i := 1) rfl rfl ?_
  refine z_iload_n C dL_balance_5 (i := 2) rfl rfl ?_
  refine z_iload_n C dL_balance_6 (i := 3) rfl rfl ?_
  refine t_callVC C ht hr (rest := [.int 0, .ref 9]) (c2 := 1) (s2 := 6) [.int a1, .int a2, .int a3] dL_balance_7 lk_L_110 li_X11_balance le_X11_balance (c_X11_balance hfl h) rfl rfl rfl ⟨Nat.le_of_ble_eq_true rfl, Nat.le_of_ble_eq_true rfl⟩ (Nat.le_of_ble_eq_true rfl) ⟨Nat.le_of_ble_eq_true rfl, Nat.le_of_ble_eq_true rfl, Nat.le_of_ble_eq_true rfl, Nat.le_of_ble_eq_true rfl⟩ ⟨Nat.le_of_ble_eq_true rfl, Nat.le_of_ble_eq_true rfl⟩ (fun k9 h1 hx => ?_) (k_Rl fun r hp => ?_)
  · obtain ⟨rfl, hx⟩ := hx
    rcases hX k9 hx with ⟨rfl, hy⟩
    · exact ⟨1, ⟨[], ⟨0, 11, 14, 19⟩, [], 2, 5, 1, rfl, (fun z hz => by cases hz), by decide, by decide, zw_2 170 (by decide +kernel) (by decide +kernel), by decide, by decide, Or.inr ⟨rfl, dL_balance_14⟩, dL_balance_16, by decide, dL_balance_17⟩, ⟨1, Z.2.1 9, st, rfl, by rw [zZx_self], hy _⟩⟩
  · refine t_jst C dL_balance_10 rfl ?_
    refine z_goto C dL_balance_11 (tgt := 18) (by decide) ?_
    refine z_iconst C dL_balance_18 (v := 0) (by decide) ?_
    exact z_iret C dL_balance_19 hr rfl ⟨0, _, st, rfl, rfl, hP r hp⟩ (Nat.le_of_ble_eq_true rfl) (Nat.le_of_ble_eq_true rfl)
theorem lw_L_hand : zLw RL 261 yL_hand cL_hand 4 (some .int) [(0, 9, 12, 25), (0, 9, 15, 13)] 3 := ⟨zw_6 26 (by decide +kernel) (by decide +kernel), zw_1 0 (by decide +kernel) (by decide +kernel), by decide +kernel, zw_6 24 (by decide +kernel) (by decide +kernel), zw_6 25 (by decide +kernel) (by decide +kernel)⟩
set_option maxHeartbeats 4000000 in
set_option maxRecDepth 100000 in
theorem c_L_hand {Z : zZ} {l : Launch} (hfl : l.stackTraces = false) {st : zTs} {a1 : Int32} {X : Nat → zTs → Prop} {P : Int32 → zTs → Prop} {P1 : Int32 → Nat → zTs → Prop} (h : w_X11_hand st a1 X P) (hX : ∀ k s9, X k s9 → (k = 1 ∧ ∀ x, P1 1 x s9) ∨ (k = 2 ∧ ∀ x, P1 2 x s9)) (hP : ∀ r s9, P r s9 → P1 0 (zjn r.toInt64) s9) : zO Z l yL_hand cL_hand 4 (some .int) [(0, 9, 12, 25), (0, 9, 15, 13)] ({ frames := 10, cells := 2, slots := 12, locals := 143 } : Room) (zh Z zm1 st) [.ref 10, .int a1, .ref 9] (zWx Z P1) := by
  refine z_enterW (by decide) (Nat.le_of_ble_eq_true rfl) (lc0 := [some (.ref 10), some (.int a1), some (.ref 9), none]) rfl ?_
  intro p e s m args below meth c ad0 C hr ht
  replace C : zC Z p s m args meth c cL_hand 4 RL := C
  refine z_aload_n C dL_hand_0 (i := 2) rfl rfl ?_
  refine z_iconst C dL_hand_1 (v := 0) (by decide) ?_
  refine z_aload_n C dL_hand_2 (i := 0) rfl rfl ?_
  refine z_iload_n C dL_hand_3 (i := 1) rfl rfl ?_
  refine t_callVC C ht hr (rest := [.int 0, .ref 9]) (c2 := 2) (s2 := 12) [.int a1] dL_hand_4 lk_L_114 li_X11_hand le_X11_hand (c_X11_hand hfl h) rfl rfl rfl ⟨Nat.le_of_ble_eq_true rfl, Nat.le_of_ble_eq_true rfl⟩ (Nat.le_of_ble_eq_true rfl) ⟨Nat.le_of_ble_eq_true rfl, Nat.le_of_ble_eq_true rfl, Nat.le_of_ble_eq_true rfl, Nat.le_of_ble_eq_true rfl⟩ ⟨Nat.le_of_ble_eq_true rfl, Nat.le_of_ble_eq_true rfl⟩ (fun k9 h1 hx => ?_) (k_Wi fun r s9 hp => ?_)
  · obtain ⟨s9, rfl, hx⟩ := hx
    rcases hX k9 s9 hx with ⟨rfl, hy⟩ | ⟨rfl, hy⟩
    · exact ⟨1, ⟨[], ⟨0, 9, 12, 25⟩, [⟨0, 9, 15, 13⟩], 1, 3, 1, rfl, (fun z hz => by cases hz), by decide, by decide, zw_3 45 (by decide +kernel) (by decide +kernel), by decide, by decide, Or.inl ⟨3, rfl, rfl, dL_hand_12⟩, dL_hand_13, by decide, dL_hand_14⟩, ⟨1, Z.2.1 9, s9, rfl, by rw [zZx_self], hy _⟩⟩
    · exact ⟨2, ⟨[⟨0, 9, 12, 25⟩], ⟨0, 9, 15, 13⟩, [], 1, 3, 2, rfl, (fun z hz => by
          rcases List.mem_cons.mp hz with rfl | hz
          · exact Or.inr ⟨by decide, "java/lang/IllegalArgumentException", zw_3 45 (by decide +kernel) (by decide +kernel), by decide⟩
          cases hz), by decide, by decide, zw_2 92 (by decide +kernel) (by decide +kernel), by decide, by decide, Or.inl ⟨3, rfl, rfl, dL_hand_15⟩, dL_hand_16, by decide, dL_hand_17⟩, ⟨2, Z.2.1 9, s9, rfl, by rw [zZx_self], hy _⟩⟩
  · refine z_i2l C dL_hand_7 ?_
    refine t_jst C dL_hand_8 rfl ?_
    refine z_goto C dL_hand_9 (tgt := 18) (by decide) ?_
    refine z_iconst C dL_hand_18 (v := 0) (by decide) ?_
    exact z_iret C dL_hand_19 hr rfl ⟨0, _, s9, rfl, rfl, hP r s9 hp⟩ (Nat.le_of_ble_eq_true rfl) (Nat.le_of_ble_eq_true rfl)
theorem lw_L_survey : zLw RL 264 yL_survey cL_survey 4 (some .int) [(0, 9, 12, 19), (0, 9, 15, 13)] 3 := ⟨zw_6 33 (by decide +kernel) (by decide +kernel), zw_1 0 (by decide +kernel) (by decide +kernel), by decide +kernel, zw_6 31 (by decide +kernel) (by decide +kernel), zw_6 32 (by decide +kernel) (by decide +kernel)⟩
set_option maxHeartbeats 4000000 in
set_option maxRecDepth 100000 in
theorem c_L_survey {Z : zZ} {l : Launch} (hfl : l.stackTraces = false) {st : zTs} {a1 : Int32} {X : Nat → zTs → Prop} {P : Int32 → zTs → Prop} {P1 : Int32 → Nat → zTs → Prop} (h : w_X11_survey st a1 X P) (hX : ∀ k s9, X k s9 → (k = 0 ∧ ∀ x, P1 1 x s9) ∨ (k = 2 ∧ ∀ x, P1 2 x s9)) (hP : ∀ r s9, P r s9 → P1 0 (zjn r.toInt64) s9) : zO Z l yL_survey cL_survey 4 (some .int) [(0, 9, 12, 19), (0, 9, 15, 13)] ({ frames := 10, cells := 6, slots := 96, locals := 185 } : Room) (zh Z zm1 st) [.ref 10, .int a1, .ref 9] (zWx Z P1) := by
  refine z_enterW (by decide) (Nat.le_of_ble_eq_true rfl) (lc0 := [some (.ref 10), some (.int a1), some (.ref 9), none]) rfl ?_
  intro p e s m args below meth c ad0 C hr ht
  replace C : zC Z p s m args meth c cL_survey 4 RL := C
  refine z_aload_n C dL_survey_0 (i := 2) rfl rfl ?_
  refine z_iconst C dL_survey_1 (v := 0) (by decide) ?_
  refine z_aload_n C dL_survey_2 (i := 0) rfl rfl ?_
  refine z_iload_n C dL_survey_3 (i := 1) rfl rfl ?_
  refine t_callVC C ht hr (rest := [.int 0, .ref 9]) (c2 := 6) (s2 := 96) [.int a1] dL_survey_4 lk_L_117 li_X11_survey le_X11_survey (c_X11_survey hfl h) rfl rfl rfl ⟨Nat.le_of_ble_eq_true rfl, Nat.le_of_ble_eq_true rfl⟩ (Nat.le_of_ble_eq_true rfl) ⟨Nat.le_of_ble_eq_true rfl, Nat.le_of_ble_eq_true rfl, Nat.le_of_ble_eq_true rfl, Nat.le_of_ble_eq_true rfl⟩ ⟨Nat.le_of_ble_eq_true rfl, Nat.le_of_ble_eq_true rfl⟩ (fun k9 h1 hx => ?_) (k_Wi fun r s9 hp => ?_)
  · obtain ⟨s9, rfl, hx⟩ := hx
    rcases hX k9 s9 hx with ⟨rfl, hy⟩ | ⟨rfl, hy⟩
    · exact ⟨1, ⟨[], ⟨0, 9, 12, 19⟩, [⟨0, 9, 15, 13⟩], 1, 3, 1, rfl, (fun z hz => by cases hz), by decide, by decide, zw_2 170 (by decide +kernel) (by decide +kernel), by decide, by decide, Or.inl ⟨3, rfl, rfl, dL_survey_12⟩, dL_survey_13, by decide, dL_survey_14⟩, ⟨1, Z.2.1 9, s9, rfl, by rw [zZx_self], hy _⟩⟩
    · exact ⟨2, ⟨[⟨0, 9, 12, 19⟩], ⟨0, 9, 15, 13⟩, [], 1, 3, 2, rfl, (fun z hz => by
          rcases List.mem_cons.mp hz with rfl | hz
          · exact Or.inr ⟨by decide, "java/lang/IndexOutOfBoundsException", zw_2 170 (by decide +kernel) (by decide +kernel), by decide⟩
          cases hz), by decide, by decide, zw_2 92 (by decide +kernel) (by decide +kernel), by decide, by decide, Or.inl ⟨3, rfl, rfl, dL_survey_15⟩, dL_survey_16, by decide, dL_survey_17⟩, ⟨2, Z.2.1 9, s9, rfl, by rw [zZx_self], hy _⟩⟩
  · refine z_i2l C dL_survey_7 ?_
    refine t_jst C dL_survey_8 rfl ?_
    refine z_goto C dL_survey_9 (tgt := 18) (by decide) ?_
    refine z_iconst C dL_survey_18 (v := 0) (by decide) ?_
    exact z_iret C dL_survey_19 hr rfl ⟨0, _, s9, rfl, rfl, hP r s9 hp⟩ (Nat.le_of_ble_eq_true rfl) (Nat.le_of_ble_eq_true rfl)
theorem lw_L_crack : zLw RL 267 yL_crack cL_crack 6 (some .int) [(0, 12, 15, 19), (0, 12, 19, 25)] 5 := ⟨zw_6 59 (by decide +kernel) (by decide +kernel), zw_1 0 (by decide +kernel) (by decide +kernel), by decide +kernel, zw_6 57 (by decide +kernel) (by decide +kernel), zw_6 58 (by decide +kernel) (by decide +kernel)⟩
set_option maxHeartbeats 4000000 in
set_option maxRecDepth 100000 in
theorem c_L_crack {Z : zZ} {l : Launch} (hfl : l.stackTraces = false) {st : zTs} {a1 : Int32} {a2 : Int32} {a3 : Int32} {X : Nat → zTs → Prop} {P : Int32 → zTs → Prop} {P1 : Int32 → Nat → zTs → Prop} (h : w_X11_crack st a1 a2 a3 X P) (hX : ∀ k s9, X k s9 → (k = 0 ∧ ∀ x, P1 1 x s9) ∨ (k = 1 ∧ ∀ x, P1 2 x s9)) (hP : ∀ r s9, P r s9 → P1 0 (zjn r.toInt64) s9) : zO Z l yL_crack cL_crack 6 (some .int) [(0, 12, 15, 19), (0, 12, 19, 25)] ({ frames := 10, cells := 3, slots := 18, locals := 146 } : Room) (zh Z zm1 st) [.ref 10, .int a1, .int a2, .int a3, .ref 9] (zWx Z P1) := by
  refine z_enterW (by decide) (Nat.le_of_ble_eq_true rfl) (lc0 := [some (.ref 10), some (.int a1), some (.int a2), some (.int a3), some (.ref 9), none]) rfl ?_
  intro p e s m args below meth c ad0 C hr ht
  replace C : zC Z p s m args meth c cL_crack 6 RL := C
  refine z_aload C dL_crack_0 (i := 4) rfl ?_
  refine z_iconst C dL_crack_2 (v := 0) (by decide) ?_
  refine z_aload_n C dL_crack_3 (i := 0) rfl rfl ?_
  refine z_iload_n C dL_crack_4 (i := 1) rfl rfl ?_
  refine z_iload_n C dL_crack_5 (i := 2) rfl rfl ?_
  refine z_iload_n C dL_crack_6 (i := 3) rfl rfl ?_
  refine t_callVC C ht hr (rest := [.int 0, .ref 9]) (c2 := 3) (s2 := 18) [.int a1, .int a2, .int a3] dL_crack_7 lk_L_120 li_X11_crack le_X11_crack (c_X11_crack hfl h) rfl rfl rfl ⟨Nat.le_of_ble_eq_true rfl, Nat.le_of_ble_eq_true rfl⟩ (Nat.le_of_ble_eq_true rfl) ⟨Nat.le_of_ble_eq_true rfl, Nat.le_of_ble_eq_true rfl, Nat.le_of_ble_eq_true rfl, Nat.le_of_ble_eq_true rfl⟩ ⟨Nat.le_of_ble_eq_true rfl, Nat.le_of_ble_eq_true rfl⟩ (fun k9 h1 hx => ?_) (k_Wi fun r s9 hp => ?_)
  · obtain ⟨s9, rfl, hx⟩ := hx
    rcases hX k9 s9 hx with ⟨rfl, hy⟩ | ⟨rfl, hy⟩
    · exact ⟨1, ⟨[], ⟨0, 12, 15, 19⟩, [⟨0, 12, 19, 25⟩], 2, 5, 1, rfl, (fun z hz => by cases hz), by decide, by decide, zw_2 170 (by decide +kernel) (by decide +kernel), by decide, by decide, Or.inr ⟨rfl, dL_crack_15⟩, dL_crack_17, by decide, dL_crack_18⟩, ⟨1, Z.2.1 9, s9, rfl, by rw [zZx_self], hy _⟩⟩
    · exact ⟨2, ⟨[⟨0, 12, 15, 19⟩], ⟨0, 12, 19, 25⟩, [], 2, 5, 2, rfl, (fun z hz => by
          rcases List.mem_cons.mp hz with rfl | hz
          · exact Or.inr ⟨by decide, "java/lang/IndexOutOfBoundsException", zw_2 170 (by decide +kernel) (by decide +kernel), by decide⟩
          cases hz), by decide, by decide, zw_3 45 (by decide +kernel) (by decide +kernel), by decide, by decide, Or.inr ⟨rfl, dL_crack_19⟩, dL_crack_21, by decide, dL_crack_22⟩, ⟨2, Z.2.1 9, s9, rfl, by rw [zZx_self], hy _⟩⟩
  · refine z_i2l C dL_crack_10 ?_
    refine t_jst C dL_crack_11 rfl ?_
    refine z_goto C dL_crack_12 (tgt := 23) (by decide) ?_
    refine z_iconst C dL_crack_23 (v := 0) (by decide) ?_
    exact z_iret C dL_crack_24 hr rfl ⟨0, _, s9, rfl, rfl, hP r s9 hp⟩ (Nat.le_of_ble_eq_true rfl) (Nat.le_of_ble_eq_true rfl)
theorem lw_L_joined : zLw RL 270 yL_joined cL_joined 6 (some .int) [(0, 12, 15, 19), (0, 12, 19, 25)] 5 := ⟨zw_6 83 (by decide +kernel) (by decide +kernel), zw_1 0 (by decide +kernel) (by decide +kernel), by decide +kernel, zw_6 81 (by decide +kernel) (by decide +kernel), zw_6 82 (by decide +kernel) (by decide +kernel)⟩
set_option maxHeartbeats 4000000 in
set_option maxRecDepth 100000 in
theorem c_L_joined {Z : zZ} {l : Launch} (hfl : l.stackTraces = false) {st : zTs} {a1 : Int32} {a2 : Int32} {a3 : Int32} {X : Nat → zTs → Prop} {P : Int32 → zTs → Prop} {P1 : Int32 → Nat → zTs → Prop} (h : w_X11_joined st a1 a2 a3 X P) (hX : ∀ k s9, X k s9 → (k = 0 ∧ ∀ x, P1 1 x s9) ∨ (k = 1 ∧ ∀ x, P1 2 x s9)) (hP : ∀ r s9, P r s9 → P1 0 (zjn r.toInt64) s9) : zO Z l yL_joined cL_joined 6 (some .int) [(0, 12, 15, 19), (0, 12, 19, 25)] ({ frames := 10, cells := 3, slots := 18, locals := 148 } : Room) (zh Z zm1 st) [.ref 10, .int a1, .int a2, .int a3, .ref 9] (zWx Z P1) := by
  refine z_enterW (by decide) (Nat.le_of_ble_eq_true rfl) (lc0 := [some (.ref 10), some (.int a1), some (.int a2), some (.int a3), some (.ref 9), none]) rfl ?_
  intro p e s m args below meth c ad0 C hr ht
  replace C : zC Z p s m args meth c cL_joined 6 RL := C
  refine z_aload C dL_joined_0 (i := 4) rfl ?_
  refine z_iconst C dL_joined_2 (v := 0) (by decide) ?_
  refine z_aload_n C dL_joined_3 (i := 0) rfl rfl ?_
  refine z_iload_n C dL_joined_4 (i := 1) rfl rfl ?_
  refine z_iload_n C dL_joined_5 (i := 2) rfl rfl ?_
  refine z_iload_n C dL_joined_6 (i := 3) rfl rfl ?_
  refine t_callVC C ht hr (rest := [.int 0, .ref 9]) (c2 := 3) (s2 := 18) [.int a1, .int a2, .int a3] dL_joined_7 lk_L_123 li_X11_joined le_X11_joined (c_X11_joined hfl h) rfl rfl rfl ⟨Nat.le_of_ble_eq_true rfl, Nat.le_of_ble_eq_true rfl⟩ (Nat.le_of_ble_eq_true rfl) ⟨Nat.le_of_ble_eq_true rfl, Nat.le_of_ble_eq_true rfl, Nat.le_of_ble_eq_true rfl, Nat.le_of_ble_eq_true rfl⟩ ⟨Nat.le_of_ble_eq_true rfl, Nat.le_of_ble_eq_true rfl⟩ (fun k9 h1 hx => ?_) (k_Wi fun r s9 hp => ?_)
  · obtain ⟨s9, rfl, hx⟩ := hx
    rcases hX k9 s9 hx with ⟨rfl, hy⟩ | ⟨rfl, hy⟩
    · exact ⟨1, ⟨[], ⟨0, 12, 15, 19⟩, [⟨0, 12, 19, 25⟩], 2, 5, 1, rfl, (fun z hz => by cases hz), by decide, by decide, zw_2 170 (by decide +kernel) (by decide +kernel), by decide, by decide, Or.inr ⟨rfl, dL_joined_15⟩, dL_joined_17, by decide, dL_joined_18⟩, ⟨1, Z.2.1 9, s9, rfl, by rw [zZx_self], hy _⟩⟩
    · exact ⟨2, ⟨[⟨0, 12, 15, 19⟩], ⟨0, 12, 19, 25⟩, [], 2, 5, 2, rfl, (fun z hz => by
          rcases List.mem_cons.mp hz with rfl | hz
          · exact Or.inr ⟨by decide, "java/lang/IndexOutOfBoundsException", zw_2 170 (by decide +kernel) (by decide +kernel), by decide⟩
          cases hz), by decide, by decide, zw_3 45 (by decide +kernel) (by decide +kernel), by decide, by decide, Or.inr ⟨rfl, dL_joined_19⟩, dL_joined_21, by decide, dL_joined_22⟩, ⟨2, Z.2.1 9, s9, rfl, by rw [zZx_self], hy _⟩⟩
  · refine z_i2l C dL_joined_10 ?_
    refine t_jst C dL_joined_11 rfl ?_
    refine z_goto C dL_joined_12 (tgt := 23) (by decide) ?_
    refine z_iconst C dL_joined_23 (v := 0) (by decide) ?_
    exact z_iret C dL_joined_24 hr rfl ⟨0, _, s9, rfl, rfl, hP r s9 hp⟩ (Nat.le_of_ble_eq_true rfl) (Nat.le_of_ble_eq_true rfl)
theorem lw_L_pair : zLw RL 273 yL_pair cL_pair 6 (some .int) [(0, 12, 15, 19)] 5 := ⟨zw_6 130 (by decide +kernel) (by decide +kernel), zw_1 0 (by decide +kernel) (by decide +kernel), by decide +kernel, zw_6 128 (by decide +kernel) (by decide +kernel), zw_6 129 (by decide +kernel) (by decide +kernel)⟩
set_option maxHeartbeats 4000000 in
set_option maxRecDepth 100000 in
theorem c_L_pair {Z : zZ} {l : Launch} (hfl : l.stackTraces = false) {st : zTs} {a1 : Int32} {a2 : Int32} {a3 : Int32} {X : Nat → zTs → Prop} {P : Int32 → zTs → Prop} {P1 : Int32 → Nat → zTs → Prop} (h : w_X11_pair st a1 a2 a3 X P) (hX : ∀ k s9, X k s9 → (k = 0 ∧ ∀ x, P1 1 x s9)) (hP : ∀ r s9, P r s9 → P1 0 (zjn r.toInt64) s9) : zO Z l yL_pair cL_pair 6 (some .int) [(0, 12, 15, 19)] ({ frames := 10, cells := 2, slots := 12, locals := 146 } : Room) (zh Z zm1 st) [.ref 10, .int a1, .int a2, .int a3, .ref 9] (zWx Z P1) := by
  refine z_enterW (by decide) (Nat.le_of_ble_eq_true rfl) (lc0 := [some (.ref 10), some (.int a1), some (.int a2), some (.int a3), some (.ref 9), none]) rfl ?_
  intro p e s m args below meth c ad0 C hr ht
  replace C : zC Z p s m args meth c cL_pair 6 RL := C
  refine z_aload C dL_pair_0 (i := 4) rfl ?_
  refine z_iconst C dL_pair_2 (v := 0) (by decide) ?_
  refine z_aload_n C dL_pair_3 (i := 0) rfl rfl ?_
  refine z_iload_n C dL_pair_4 (i := 1) rfl rfl ?_
  refine z_iload_n C dL_pair_5 (i := 2) rfl rfl ?_
  refine z_iload_n C dL_pair_6 (i := 3) rfl rfl ?_
  refine t_callVC C ht hr (rest := [.int 0, .ref 9]) (c2 := 2) (s2 := 12) [.int a1, .int a2, .int a3] dL_pair_7 lk_L_126 li_X11_pair le_X11_pair (c_X11_pair hfl h) rfl rfl rfl ⟨Nat.le_of_ble_eq_true rfl, Nat.le_of_ble_eq_true rfl⟩ (Nat.le_of_ble_eq_true rfl) ⟨Nat.le_of_ble_eq_true rfl, Nat.le_of_ble_eq_true rfl, Nat.le_of_ble_eq_true rfl, Nat.le_of_ble_eq_true rfl⟩ ⟨Nat.le_of_ble_eq_true rfl, Nat.le_of_ble_eq_true rfl⟩ (fun k9 h1 hx => ?_) (k_Wi fun r s9 hp => ?_)
  · obtain ⟨s9, rfl, hx⟩ := hx
    rcases hX k9 s9 hx with ⟨rfl, hy⟩
    · exact ⟨1, ⟨[], ⟨0, 12, 15, 19⟩, [], 2, 5, 1, rfl, (fun z hz => by cases hz), by decide, by decide, zw_2 170 (by decide +kernel) (by decide +kernel), by decide, by decide, Or.inr ⟨rfl, dL_pair_15⟩, dL_pair_17, by decide, dL_pair_18⟩, ⟨1, Z.2.1 9, s9, rfl, by rw [zZx_self], hy _⟩⟩
  · refine z_i2l C dL_pair_10 ?_
    refine t_jst C dL_pair_11 rfl ?_
    refine z_goto C dL_pair_12 (tgt := 19) (by decide) ?_
    refine z_iconst C dL_pair_19 (v := 0) (by decide) ?_
    exact z_iret C dL_pair_20 hr rfl ⟨0, _, s9, rfl, rfl, hP r s9 hp⟩ (Nat.le_of_ble_eq_true rfl) (Nat.le_of_ble_eq_true rfl)
theorem lw_L_gauge : zLw RL 276 yL_gauge cL_gauge 3 (some .int) [(0, 8, 11, 13)] 2 := ⟨zw_6 141 (by decide +kernel) (by decide +kernel), zw_1 0 (by decide +kernel) (by decide +kernel), by decide +kernel, zw_6 139 (by decide +kernel) (by decide +kernel), zw_6 140 (by decide +kernel) (by decide +kernel)⟩
set_option maxHeartbeats 4000000 in
set_option maxRecDepth 100000 in
theorem c_L_gauge {Z : zZ} {l : Launch} (hfl : l.stackTraces = false) {st : zTs} {X : Nat → zTs → Prop} {P : Int32 → zTs → Prop} {P1 : Int32 → Nat → zTs → Prop} (h : w_X11_gauge st X P) (hX : ∀ k s9, X k s9 → (k = 2 ∧ ∀ x, P1 1 x s9)) (hP : ∀ r s9, P r s9 → P1 0 (zjn r.toInt64) s9) : zO Z l yL_gauge cL_gauge 3 (some .int) [(0, 8, 11, 13)] ({ frames := 10, cells := 5, slots := 129, locals := 184 } : Room) (zh Z zm1 st) [.ref 10, .ref 9] (zWx Z P1) := by
  refine z_enterW (by decide) (Nat.le_of_ble_eq_true rfl) (lc0 := [some (.ref 10), some (.ref 9), none]) rfl ?_
  intro p e s m args below meth c ad0 C hr ht
  replace C : zC Z p s m args meth c cL_gauge 3 RL := C
  refine z_aload_n C dL_gauge_0 (i := 1) rfl rfl ?_
  refine z_iconst C dL_gauge_1 (v := 0) (by decide) ?_
  refine z_aload_n C dL_gauge_2 (i := 0) rfl rfl ?_
  refine t_callVC C ht hr (rest := [.int 0, .ref 9]) (c2 := 5) (s2 := 129) [] dL_gauge_3 lk_L_129 li_X11_gauge le_X11_gauge (c_X11_gauge hfl h) rfl rfl rfl ⟨Nat.le_of_ble_eq_true rfl, Nat.le_of_ble_eq_true rfl⟩ (Nat.le_of_ble_eq_true rfl) ⟨Nat.le_of_ble_eq_true rfl, Nat.le_of_ble_eq_true rfl, Nat.le_of_ble_eq_true rfl, Nat.le_of_ble_eq_true rfl⟩ ⟨Nat.le_of_ble_eq_true rfl, Nat.le_of_ble_eq_true rfl⟩ (fun k9 h1 hx => ?_) (k_Wi fun r s9 hp => ?_)
  · obtain ⟨s9, rfl, hx⟩ := hx
    rcases hX k9 s9 hx with ⟨rfl, hy⟩
    · exact ⟨1, ⟨[], ⟨0, 8, 11, 13⟩, [], 1, 2, 1, rfl, (fun z hz => by cases hz), by decide, by decide, zw_2 92 (by decide +kernel) (by decide +kernel), by decide, by decide, Or.inl ⟨2, rfl, rfl, dL_gauge_11⟩, dL_gauge_12, by decide, dL_gauge_13⟩, ⟨1, Z.2.1 9, s9, rfl, by rw [zZx_self], hy _⟩⟩
  · refine z_i2l C dL_gauge_6 ?_
    refine t_jst C dL_gauge_7 rfl ?_
    refine z_goto C dL_gauge_8 (tgt := 14) (by decide) ?_
    refine z_iconst C dL_gauge_14 (v := 0) (by decide) ?_
    exact z_iret C dL_gauge_15 hr rfl ⟨0, _, s9, rfl, rfl, hP r s9 hp⟩ (Nat.le_of_ble_eq_true rfl) (Nat.le_of_ble_eq_true rfl)
theorem lw_L_read : zLw RL 279 yL_read cL_read 6 (some .int) [(0, 12, 15, 19), (0, 12, 19, 25)] 5 := ⟨zw_6 164 (by decide +kernel) (by decide +kernel), zw_1 0 (by decide +kernel) (by decide +kernel), by decide +kernel, zw_6 162 (by decide +kernel) (by decide +kernel), zw_6 163 (by decide +kernel) (by decide +kernel)⟩
set_option maxHeartbeats 4000000 in
set_option maxRecDepth 100000 in
theorem c_L_read {Z : zZ} {l : Launch} (hfl : l.stackTraces = false) {st : zTs} {a1 : Int32} {a2 : Int32} {a3 : Int32} {X : Nat → zTs → Prop} {P : Int32 → zTs → Prop} {P1 : Int32 → Nat → zTs → Prop} (h : w_X11_read st a1 a2 a3 X P) (hX : ∀ k s9, X k s9 → (k = 0 ∧ ∀ x, P1 1 x s9) ∨ (k = 1 ∧ ∀ x, P1 2 x s9)) (hP : ∀ r s9, P r s9 → P1 0 (zjn r.toInt64) s9) : zO Z l yL_read cL_read 6 (some .int) [(0, 12, 15, 19), (0, 12, 19, 25)] ({ frames := 10, cells := 3, slots := 18, locals := 146 } : Room) (zh Z zm1 st) [.ref 10, .int a1, .int a2, .int a3, .ref 9] (zWx Z P1) := by
  refine z_enterW (by decide) (Nat.le_of_ble_eq_true rfl) (lc0 := [some (.ref 10), some (.int a1), some (.int a2), some (.int a3), some (.ref 9), none]) rfl ?_
  intro p e s m args below meth c ad0 C hr ht
  replace C : zC Z p s m args meth c cL_read 6 RL := C
  refine z_aload C dL_read_0 (i := 4) rfl ?_
  refine z_iconst C dL_read_2 (v := 0) (by decide) ?_
  refine z_aload_n C dL_read_3 (i := 0) rfl rfl ?_
  refine z_iload_n C dL_read_4 (i := 1) rfl rfl ?_
  refine z_iload_n C dL_read_5 (i := 2) rfl rfl ?_
  refine z_iload_n C dL_read_6 (i := 3) rfl rfl ?_
  refine t_callVC C ht hr (rest := [.int 0, .ref 9]) (c2 := 3) (s2 := 18) [.int a1, .int a2, .int a3] dL_read_7 lk_L_132 li_X11_read le_X11_read (c_X11_read hfl h) rfl rfl rfl ⟨Nat.le_of_ble_eq_true rfl, Nat.le_of_ble_eq_true rfl⟩ (Nat.le_of_ble_eq_true rfl) ⟨Nat.le_of_ble_eq_true rfl, Nat.le_of_ble_eq_true rfl, Nat.le_of_ble_eq_true rfl, Nat.le_of_ble_eq_true rfl⟩ ⟨Nat.le_of_ble_eq_true rfl, Nat.le_of_ble_eq_true rfl⟩ (fun k9 h1 hx => ?_) (k_Wi fun r s9 hp => ?_)
  · obtain ⟨s9, rfl, hx⟩ := hx
    rcases hX k9 s9 hx with ⟨rfl, hy⟩ | ⟨rfl, hy⟩
    · exact ⟨1, ⟨[], ⟨0, 12, 15, 19⟩, [⟨0, 12, 19, 25⟩], 2, 5, 1, rfl, (fun z hz => by cases hz), by decide, by decide, zw_2 170 (by decide +kernel) (by decide +kernel), by decide, by decide, Or.inr ⟨rfl, dL_read_15⟩, dL_read_17, by decide, dL_read_18⟩, ⟨1, Z.2.1 9, s9, rfl, by rw [zZx_self], hy _⟩⟩
    · exact ⟨2, ⟨[⟨0, 12, 15, 19⟩], ⟨0, 12, 19, 25⟩, [], 2, 5, 2, rfl, (fun z hz => by
          rcases List.mem_cons.mp hz with rfl | hz
          · exact Or.inr ⟨by decide, "java/lang/IndexOutOfBoundsException", zw_2 170 (by decide +kernel) (by decide +kernel), by decide⟩
          cases hz), by decide, by decide, zw_3 45 (by decide +kernel) (by decide +kernel), by decide, by decide, Or.inr ⟨rfl, dL_read_19⟩, dL_read_21, by decide, dL_read_22⟩, ⟨2, Z.2.1 9, s9, rfl, by rw [zZx_self], hy _⟩⟩
  · refine z_i2l C dL_read_10 ?_
    refine t_jst C dL_read_11 rfl ?_
    refine z_goto C dL_read_12 (tgt := 23) (by decide) ?_
    refine z_iconst C dL_read_23 (v := 0) (by decide) ?_
    exact z_iret C dL_read_24 hr rfl ⟨0, _, s9, rfl, rfl, hP r s9 hp⟩ (Nat.le_of_ble_eq_true rfl) (Nat.le_of_ble_eq_true rfl)
theorem lw_L_at : zLw RL 282 yL_at cL_at 5 (some .int) [(0, 10, 13, 19)] 4 := ⟨zw_6 188 (by decide +kernel) (by decide +kernel), zw_1 0 (by decide +kernel) (by decide +kernel), by decide +kernel, zw_6 186 (by decide +kernel) (by decide +kernel), zw_6 187 (by decide +kernel) (by decide +kernel)⟩
set_option maxHeartbeats 4000000 in
set_option maxRecDepth 100000 in
theorem c_L_at {Z : zZ} {l : Launch} (hfl : l.stackTraces = false) {st : zTs} {a1 : Int32} {a2 : Int32} {X : Nat → Prop} {P : Int32 → Prop} {P1 : Int32 → Nat → zTs → Prop} (h : w_X11_at st a1 a2 X P) (hX : ∀ k, X k → (k = 0 ∧ ∀ x, P1 1 x st)) (hP : ∀ r, P r → P1 0 (zjn r.toInt64) st) : zO Z l yL_at cL_at 5 (some .int) [(0, 10, 13, 19)] ({ frames := 10, cells := 1, slots := 6, locals := 144 } : Room) (zh Z zm1 st) [.ref 10, .int a1, .int a2, .ref 9] (zWx Z P1) := by
  refine z_enterW (by decide) (Nat.le_of_ble_eq_true rfl) (lc0 := [some (.ref 10), some (.int a1), some (.int a2), some (.ref 9), none]) rfl ?_
  intro p e s m args below meth c ad0 C hr ht
  replace C : zC Z p s m args meth c cL_at 5 RL := C
  refine z_aload_n C dL_at_0 (i := 3) rfl rfl ?_
  refine z_iconst C dL_at_1 (v := 0) (by decide) ?_
  refine z_aload_n C dL_at_2 (i := 0) rfl rfl ?_
  refine z_iload_n C dL_at_3 (i := 1) rfl rfl ?_
  refine z_iload_n C dL_at_4 (i := 2) rfl rfl ?_
  refine t_callVC C ht hr (rest := [.int 0, .ref 9]) (c2 := 1) (s2 := 6) [.int a1, .int a2] dL_at_5 lk_L_135 li_X11_at le_X11_at (c_X11_at hfl h) rfl rfl rfl ⟨Nat.le_of_ble_eq_true rfl, Nat.le_of_ble_eq_true rfl⟩ (Nat.le_of_ble_eq_true rfl) ⟨Nat.le_of_ble_eq_true rfl, Nat.le_of_ble_eq_true rfl, Nat.le_of_ble_eq_true rfl, Nat.le_of_ble_eq_true rfl⟩ ⟨Nat.le_of_ble_eq_true rfl, Nat.le_of_ble_eq_true rfl⟩ (fun k9 h1 hx => ?_) (k_Ri fun r hp => ?_)
  · obtain ⟨rfl, hx⟩ := hx
    rcases hX k9 hx with ⟨rfl, hy⟩
    · exact ⟨1, ⟨[], ⟨0, 10, 13, 19⟩, [], 2, 4, 1, rfl, (fun z hz => by cases hz), by decide, by decide, zw_2 170 (by decide +kernel) (by decide +kernel), by decide, by decide, Or.inr ⟨rfl, dL_at_13⟩, dL_at_15, by decide, dL_at_16⟩, ⟨1, Z.2.1 9, st, rfl, by rw [zZx_self], hy _⟩⟩
  · refine z_i2l C dL_at_8 ?_
    refine t_jst C dL_at_9 rfl ?_
    refine z_goto C dL_at_10 (tgt := 17) (by decide) ?_
    refine z_iconst C dL_at_17 (v := 0) (by decide) ?_
    exact z_iret C dL_at_18 hr rfl ⟨0, _, st, rfl, rfl, hP r hp⟩ (Nat.le_of_ble_eq_true rfl) (Nat.le_of_ble_eq_true rfl)
theorem lw_L_cause : zLw RL 285 yL_cause cL_cause 8 (some .int) [(0, 15, 18, 19), (0, 15, 22, 25)] 7 := ⟨zw_6 210 (by decide +kernel) (by decide +kernel), zw_1 0 (by decide +kernel) (by decide +kernel), by decide +kernel, zw_6 208 (by decide +kernel) (by decide +kernel), zw_6 209 (by decide +kernel) (by decide +kernel)⟩
set_option maxHeartbeats 4000000 in
set_option maxRecDepth 100000 in
theorem c_L_cause {Z : zZ} {l : Launch} (hfl : l.stackTraces = false) {st : zTs} {a1 : Int32} {a2 : Int32} {a3 : Int32} {a4 : Int32} {a5 : Int32} {X : Nat → zTs → Prop} {P : Int64 → zTs → Prop} {P1 : Int32 → Nat → zTs → Prop} (h : w_X11_cause st a1 a2 a3 a4 a5 X P) (hX : ∀ k s9, X k s9 → (k = 0 ∧ ∀ x, P1 1 x s9) ∨ (k = 1 ∧ ∀ x, P1 2 x s9)) (hP : ∀ r s9, P r s9 → P1 0 (zjn r) s9) : zO Z l yL_cause cL_cause 8 (some .int) [(0, 15, 18, 19), (0, 15, 22, 25)] ({ frames := 10, cells := 4, slots := 24, locals := 159 } : Room) (zh Z zm1 st) [.ref 10, .int a1, .int a2, .int a3, .int a4, .int a5, .ref 9] (zWx Z P1) := by
  refine z_enterW (by decide) (Nat.le_of_ble_eq_true rfl) (lc0 := [some (.ref 10), some (.int a1), some (.int a2), some (.int a3), some (.int a4), some (.int a5), some (.ref 9), none]) rfl ?_
  intro p e s m args below meth c ad0 C hr ht
  replace C : zC Z p s m args meth c cL_cause 8 RL := C
  refine z_aload C dL_cause_0 (i := 6) rfl ?_
  refine z_iconst C dL_cause_2 (v := 0) (by decide) ?_
  refine z_aload_n C dL_cause_3 (i := 0) rfl rfl ?_
  refine z_iload_n C dL_cause_4 (i := 1) rfl rfl ?_
  refine z_iload_n C dL_cause_5 (i := 2) rfl rfl ?_
  refine z_iload_n C dL_cause_6 (i := 3) rfl rfl ?_
  refine z_iload C dL_cause_7 (i := 4) rfl ?_
  refine z_iload C dL_cause_9 (i := 5) rfl ?_
  refine t_callVC C ht hr (rest := [.int 0, .ref 9]) (c2 := 4) (s2 := 24) [.int a1, .int a2, .int a3, .int a4, .int a5] dL_cause_11 lk_L_138 li_X11_cause le_X11_cause (c_X11_cause hfl h) rfl rfl rfl ⟨Nat.le_of_ble_eq_true rfl, Nat.le_of_ble_eq_true rfl⟩ (Nat.le_of_ble_eq_true rfl) ⟨Nat.le_of_ble_eq_true rfl, Nat.le_of_ble_eq_true rfl, Nat.le_of_ble_eq_true rfl, Nat.le_of_ble_eq_true rfl⟩ ⟨Nat.le_of_ble_eq_true rfl, Nat.le_of_ble_eq_true rfl⟩ (fun k9 h1 hx => ?_) (k_Wl fun r s9 hp => ?_)
  · obtain ⟨s9, rfl, hx⟩ := hx
    rcases hX k9 s9 hx with ⟨rfl, hy⟩ | ⟨rfl, hy⟩
    · exact ⟨1, ⟨[], ⟨0, 15, 18, 19⟩, [⟨0, 15, 22, 25⟩], 2, 7, 1, rfl, (fun z hz => by cases hz), by decide, by decide, zw_2 170 (by decide +kernel) (by decide +kernel), by decide, by decide, Or.inr ⟨rfl, dL_cause_18⟩, dL_cause_20, by decide, dL_cause_21⟩, ⟨1, Z.2.1 9, s9, rfl, by rw [zZx_self], hy _⟩⟩
    · exact ⟨2, ⟨[⟨0, 15, 18, 19⟩], ⟨0, 15, 22, 25⟩, [], 2, 7, 2, rfl, (fun z hz => by
          rcases List.mem_cons.mp hz with rfl | hz
          · exact Or.inr ⟨by decide, "java/lang/IndexOutOfBoundsException", zw_2 170 (by decide +kernel) (by decide +kernel), by decide⟩
          cases hz), by decide, by decide, zw_3 45 (by decide +kernel) (by decide +kernel), by decide, by decide, Or.inr ⟨rfl, dL_cause_22⟩, dL_cause_24, by decide, dL_cause_25⟩, ⟨2, Z.2.1 9, s9, rfl, by rw [zZx_self], hy _⟩⟩
  · refine t_jst C dL_cause_14 rfl ?_
    refine z_goto C dL_cause_15 (tgt := 26) (by decide) ?_
    refine z_iconst C dL_cause_26 (v := 0) (by decide) ?_
    exact z_iret C dL_cause_27 hr rfl ⟨0, _, s9, rfl, rfl, hP r s9 hp⟩ (Nat.le_of_ble_eq_true rfl) (Nat.le_of_ble_eq_true rfl)
theorem lw_L_blamed : zLw RL 288 yL_blamed cL_blamed 7 (some .int) [(0, 21, 24, 19)] 6 := ⟨zw_6 233 (by decide +kernel) (by decide +kernel), zw_1 0 (by decide +kernel) (by decide +kernel), by decide +kernel, zw_6 231 (by decide +kernel) (by decide +kernel), zw_6 232 (by decide +kernel) (by decide +kernel)⟩
set_option maxHeartbeats 4000000 in
set_option maxRecDepth 100000 in
theorem c_L_blamed {Z : zZ} {l : Launch} (hfl : l.stackTraces = false) {st : zTs} {a1 : Int32} {a2 : Int32} {a3 : Int32} {a4 : Int32} {X : Nat → zTs → Prop} {P : Int32 → zTs → Prop} {P1 : Int32 → Nat → zTs → Prop} (h : w_X11_blamed st a1 a2 a3 a4 X P) (hX : ∀ k s9, X k s9 → (k = 0 ∧ ∀ x, P1 1 x s9)) (hP : ∀ r s9, P r s9 → P1 0 (zjn (if r = 0 then 0 else 1)) s9) : zO Z l yL_blamed cL_blamed 7 (some .int) [(0, 21, 24, 19)] ({ frames := 10, cells := 3, slots := 18, locals := 157 } : Room) (zh Z zm1 st) [.ref 10, .int a1, .int a2, .int a3, .int a4, .ref 9] (zWx Z P1) := by
  refine z_enterW (by decide) (Nat.le_of_ble_eq_true rfl) (lc0 := [some (.ref 10), some (.int a1), some (.int a2), some (.int a3), some (.int a4), some (.ref 9), none]) rfl ?_
  intro p e s m args below meth c ad0 C hr ht
  replace C : zC Z p s m args meth c cL_blamed 7 RL := C
  refine z_aload C dL_blamed_0 (i := 5) rfl ?_
  refine z_iconst C dL_blamed_2 (v := 0) (by decide) ?_
  refine z_aload_n C dL_blamed_3 (i := 0) rfl rfl ?_
  refine z_iload_n C dL_blamed_4 (i := 1) rfl rfl ?_
  refine z_iload_n C dL_blamed_5 (i := 2) rfl rfl ?_
  refine z_iload_n C dL_blamed_6 (i := 3) rfl rfl ?_
  refine z_iload C dL_blamed_7 (i := 4) rfl ?_
  refine t_callVC C ht hr (rest := [.int 0, .ref 9]) (c2 := 3) (s2 := 18) [.int a1, .int a2, .int a3, .int a4] dL_blamed_9 lk_L_142 li_X11_blamed le_X11_blamed (c_X11_blamed hfl h) rfl rfl rfl ⟨Nat.le_of_ble_eq_true rfl, Nat.le_of_ble_eq_true rfl⟩ (Nat.le_of_ble_eq_true rfl) ⟨Nat.le_of_ble_eq_true rfl, Nat.le_of_ble_eq_true rfl, Nat.le_of_ble_eq_true rfl, Nat.le_of_ble_eq_true rfl⟩ ⟨Nat.le_of_ble_eq_true rfl, Nat.le_of_ble_eq_true rfl⟩ (fun k9 h1 hx => ?_) (k_Wi fun r s9 hp => ?_)
  · obtain ⟨s9, rfl, hx⟩ := hx
    rcases hX k9 s9 hx with ⟨rfl, hy⟩
    · exact ⟨1, ⟨[], ⟨0, 21, 24, 19⟩, [], 2, 6, 1, rfl, (fun z hz => by cases hz), by decide, by decide, zw_2 170 (by decide +kernel) (by decide +kernel), by decide, by decide, Or.inr ⟨rfl, dL_blamed_24⟩, dL_blamed_26, by decide, dL_blamed_27⟩, ⟨1, Z.2.1 9, s9, rfl, by rw [zZx_self], hy _⟩⟩
  · replace hp := hP r s9 hp
    refine z_if_eq C dL_blamed_12 (tgt := 19) (by decide) (fun z => ?_) (fun z => ?_)
    · rw [if_pos z] at hp
      refine z_lconst C dL_blamed_19 (v := 0) (by decide) ?_
      refine t_jst C dL_blamed_20 rfl ?_
      refine z_goto C dL_blamed_21 (tgt := 28) (by decide) ?_
      refine z_iconst C dL_blamed_28 (v := 0) (by decide) ?_
      exact z_iret C dL_blamed_29 hr rfl ⟨0, _, s9, rfl, rfl, hp⟩ (Nat.le_of_ble_eq_true rfl) (Nat.le_of_ble_eq_true rfl)
    · rw [if_neg z] at hp
      refine z_lconst C dL_blamed_15 (v := 1) (by decide) ?_
      refine z_goto C dL_blamed_16 (tgt := 20) (by decide) ?_
      refine t_jst C dL_blamed_20 rfl ?_
      refine z_goto C dL_blamed_21 (tgt := 28) (by decide) ?_
      refine z_iconst C dL_blamed_28 (v := 0) (by decide) ?_
      exact z_iret C dL_blamed_29 hr rfl ⟨0, _, s9, rfl, rfl, hp⟩ (Nat.le_of_ble_eq_true rfl) (Nat.le_of_ble_eq_true rfl)
