section
variable {Z : zZ} {p : Program} {l : Launch} {e : Env} {s : State} {m : MethodId} {args : Array Value} {below : List Frame} {meth : Method} {c : Code} {ad0 : Nat → Nat} {h0 : zH}
def w_X12_thrown (st : zTs)  (P : Int32 → Prop) : Prop := P (zgF st 100 0 0)
set_option maxHeartbeats 4000000 in
set_option maxRecDepth 100000 in
theorem c_X12_thrown {Z : zZ} {l : Launch} (hfl : l.stackTraces = false) {st : zTs}  {P : Int32 → Prop} (h : w_X12_thrown st  P) : zN Z l yX12_thrown cX12_thrown 1 (some .int) ({ frames := 1, cells := 0, slots := 0, locals := 12 } : Room) (zh Z zm1 st) [.ref 100] (zRi Z st P) := by
  unfold w_X12_thrown at h
  refine z_enterN (by decide) (Nat.le_of_ble_eq_true rfl) (lc0 := [some (.ref 100)]) rfl ?_
  intro p e s m args below meth c ad0 C hr _
  have hn9 : True := trivial
  replace C : zC Z p s m args meth c cX12_thrown 1 RX12 := C
  refine z_aload_n C dX12_thrown_0 (i := 0) rfl rfl ?_
  refine t_get C dX12_thrown_1 fl_X12_199 (k := 100) (i := 0) (by decide) rfl (fg_100_0 _ _ _) ?_
  exact z_iret C dX12_thrown_4 hr rfl ⟨rfl, _, rfl, h⟩ (Nat.le_of_ble_eq_true rfl) (Nat.le_of_ble_eq_true rfl)
def w_X12_bad (st : zTs) (a1 : Int32) (a2 : Int32) (P : Int32 → zTs → Prop) : Prop := (a1 = 0 → (a1 = 0 ∨ a1 = 1) ∧ (P a1 st)) ∧ (¬ a1 = 0 → ∀ s6 : zTs, s6 = zuF st 100 0 0 a2 → ((a1 = 0 ∨ a1 = 1) ∧ (P a1 s6)))
set_option maxHeartbeats 4000000 in
set_option maxRecDepth 100000 in
theorem c_X12_bad {Z : zZ} {l : Launch} (hfl : l.stackTraces = false) {st : zTs} {a1 : Int32} {a2 : Int32} {P : Int32 → zTs → Prop} (h : w_X12_bad st a1 a2 P) : zN Z l yX12_bad cX12_bad 3 (some .boolean) ({ frames := 1, cells := 0, slots := 0, locals := 12 } : Room) (zh Z zm1 st) [.ref 100, .int (a1), .int (a2)] (zWi Z P) := by
  unfold w_X12_bad at h
  refine z_enterN (by decide) (Nat.le_of_ble_eq_true rfl) (lc0 := [some (.ref 100), some (.int (a1)), some (.int (a2))]) rfl ?_
  intro p e s m args below meth c ad0 C hr _
  have hn9 : True := trivial
  replace C : zC Z p s m args meth c cX12_bad 3 RX12 := C
  refine z_iload_n C dX12_bad_0 (i := 1) rfl rfl ?_
  refine z_if_eq C dX12_bad_1 (tgt := 9) (by decide) (fun c1 => ?_) (fun c1 => ?_)
  · have h := h.1 c1
    refine z_iload_n C dX12_bad_9 (i := 1) rfl rfl ?_
    obtain ⟨g10, h⟩ := h
    exact z_iret C dX12_bad_10 hr (zn_bool g10) ⟨_, _, rfl, rfl, h⟩ (Nat.le_of_ble_eq_true rfl) (Nat.le_of_ble_eq_true rfl)
  · have h := h.2 c1
    refine z_aload_n C dX12_bad_4 (i := 0) rfl rfl ?_
    refine z_iload_n C dX12_bad_5 (i := 2) rfl rfl ?_
    refine t_put C dX12_bad_6 fq_X12_199 (Or.inl rfl) (k := 100) (i := 0) (by decide) rfl ⟨rfl, rfl⟩ (fp_100_0 _ _ _ _ _) ?_
    refine t_tops (fun s6 es6 => ?_)
    have h := h s6 es6
    refine z_iload_n C dX12_bad_9 (i := 1) rfl rfl ?_
    obtain ⟨g10, h⟩ := h
    exact z_iret C dX12_bad_10 hr (zn_bool g10) ⟨_, _, rfl, rfl, h⟩ (Nat.le_of_ble_eq_true rfl) (Nat.le_of_ble_eq_true rfl)
def w_X12_isOwner (st : zTs) (a1 : Int32) (P : Int32 → Prop) : Prop := (a1 < 0 → P 0) ∧ (¬ a1 < 0 → ((zgF st 100 0 1) ≤ a1 → P 0) ∧ (¬ (zgF st 100 0 1) ≤ a1 → P 1))
set_option maxHeartbeats 4000000 in
set_option maxRecDepth 100000 in
theorem c_X12_isOwner {Z : zZ} {l : Launch} (hfl : l.stackTraces = false) {st : zTs} {a1 : Int32} {P : Int32 → Prop} (h : w_X12_isOwner st a1 P) : zN Z l yX12_isOwner cX12_isOwner 2 (some .boolean) ({ frames := 1, cells := 0, slots := 0, locals := 12 } : Room) (zh Z zm1 st) [.ref 100, .int (a1)] (zRi Z st P) := by
  unfold w_X12_isOwner at h
  refine z_enterN (by decide) (Nat.le_of_ble_eq_true rfl) (lc0 := [some (.ref 100), some (.int (a1))]) rfl ?_
  intro p e s m args below meth c ad0 C hr _
  have hn9 : True := trivial
  replace C : zC Z p s m args meth c cX12_isOwner 2 RX12 := C
  refine z_iload_n C dX12_isOwner_0 (i := 1) rfl rfl ?_
  refine z_if_lt C dX12_isOwner_1 (tgt := 16) (by decide) (fun c1 => ?_) (fun c1 => ?_)
  · have h := h.1 c1
    refine z_iconst C dX12_isOwner_16 (v := 0) (by decide) ?_
    exact z_iret C dX12_isOwner_17 hr rfl ⟨rfl, _, rfl, h⟩ (Nat.le_of_ble_eq_true rfl) (Nat.le_of_ble_eq_true rfl)
  · have h := h.2 c1
    refine z_iload_n C dX12_isOwner_4 (i := 1) rfl rfl ?_
    refine z_aload_n C dX12_isOwner_5 (i := 0) rfl rfl ?_
    refine t_get C dX12_isOwner_6 fl_X12_202 (k := 100) (i := 0) (by decide) rfl (fg_100_1 _ _ _) ?_
    refine z_icmp_ge C dX12_isOwner_9 (tgt := 16) (by decide) (fun c9 => ?_) (fun c9 => ?_)
    · have h := h.1 c9
      refine z_iconst C dX12_isOwner_16 (v := 0) (by decide) ?_
      exact z_iret C dX12_isOwner_17 hr rfl ⟨rfl, _, rfl, h⟩ (Nat.le_of_ble_eq_true rfl) (Nat.le_of_ble_eq_true rfl)
    · have h := h.2 c9
      refine z_iconst C dX12_isOwner_12 (v := 1) (by decide) ?_
      refine z_goto C dX12_isOwner_13 (tgt := 17) (by decide) ?_
      exact z_iret C dX12_isOwner_17 hr rfl ⟨rfl, _, rfl, h⟩ (Nat.le_of_ble_eq_true rfl) (Nat.le_of_ble_eq_true rfl)
def w_X12_isWall (st : zTs) (a1 : Int32) (P : Int32 → Prop) : Prop := (a1 < 0 → P 0) ∧ (¬ a1 < 0 → ((zgF st 100 0 2) ≤ a1 → P 0) ∧ (¬ (zgF st 100 0 2) ≤ a1 → P 1))
set_option maxHeartbeats 4000000 in
set_option maxRecDepth 100000 in
theorem c_X12_isWall {Z : zZ} {l : Launch} (hfl : l.stackTraces = false) {st : zTs} {a1 : Int32} {P : Int32 → Prop} (h : w_X12_isWall st a1 P) : zN Z l yX12_isWall cX12_isWall 2 (some .boolean) ({ frames := 1, cells := 0, slots := 0, locals := 12 } : Room) (zh Z zm1 st) [.ref 100, .int (a1)] (zRi Z st P) := by
  unfold w_X12_isWall at h
  refine z_enterN (by decide) (Nat.le_of_ble_eq_true rfl) (lc0 := [some (.ref 100), some (.int (a1))]) rfl ?_
  intro p e s m args below meth c ad0 C hr _
  have hn9 : True := trivial
  replace C : zC Z p s m args meth c cX12_isWall 2 RX12 := C
  refine z_iload_n C dX12_isWall_0 (i := 1) rfl rfl ?_
  refine z_if_lt C dX12_isWall_1 (tgt := 16) (by decide) (fun c1 => ?_) (fun c1 => ?_)
  · have h := h.1 c1
    refine z_iconst C dX12_isWall_16 (v := 0) (by decide) ?_
    exact z_iret C dX12_isWall_17 hr rfl ⟨rfl, _, rfl, h⟩ (Nat.le_of_ble_eq_true rfl) (Nat.le_of_ble_eq_true rfl)
  · have h := h.2 c1
    refine z_iload_n C dX12_isWall_4 (i := 1) rfl rfl ?_
    refine z_aload_n C dX12_isWall_5 (i := 0) rfl rfl ?_
    refine t_get C dX12_isWall_6 fl_X12_209 (k := 100) (i := 0) (by decide) rfl (fg_100_2 _ _ _) ?_
    refine z_icmp_ge C dX12_isWall_9 (tgt := 16) (by decide) (fun c9 => ?_) (fun c9 => ?_)
    · have h := h.1 c9
      refine z_iconst C dX12_isWall_16 (v := 0) (by decide) ?_
      exact z_iret C dX12_isWall_17 hr rfl ⟨rfl, _, rfl, h⟩ (Nat.le_of_ble_eq_true rfl) (Nat.le_of_ble_eq_true rfl)
    · have h := h.2 c9
      refine z_iconst C dX12_isWall_12 (v := 1) (by decide) ?_
      refine z_goto C dX12_isWall_13 (tgt := 17) (by decide) ?_
      exact z_iret C dX12_isWall_17 hr rfl ⟨rfl, _, rfl, h⟩ (Nat.le_of_ble_eq_true rfl) (Nat.le_of_ble_eq_true rfl)
def w_X12_isSide (st : zTs) (a0 : Int32) (P : Int32 → Prop) : Prop := (a0 = 0 → P 1) ∧ (¬ a0 = 0 → (a0 = 1 → P 1) ∧ (¬ a0 = 1 → P 0))
set_option maxHeartbeats 4000000 in
set_option maxRecDepth 100000 in
theorem c_X12_isSide {Z : zZ} {l : Launch} (hfl : l.stackTraces = false) {st : zTs} {a0 : Int32} {P : Int32 → Prop} (h : w_X12_isSide st a0 P) : zN Z l yX12_isSide cX12_isSide 1 (some .boolean) ({ frames := 1, cells := 0, slots := 0, locals := 12 } : Room) (zh Z zm1 st) [.int (a0)] (zRi Z st P) := by
  unfold w_X12_isSide at h
  refine z_enterN (by decide) (Nat.le_of_ble_eq_true rfl) (lc0 := [some (.int (a0))]) rfl ?_
  intro p e s m args below meth c ad0 C hr _
  have hn9 : True := trivial
  replace C : zC Z p s m args meth c cX12_isSide 1 RX12 := C
  refine z_iload_n C dX12_isSide_0 (i := 0) rfl rfl ?_
  refine z_if_eq C dX12_isSide_1 (tgt := 9) (by decide) (fun c1 => ?_) (fun c1 => ?_)
  · have h := h.1 c1
    refine z_iconst C dX12_isSide_9 (v := 1) (by decide) ?_
    refine z_goto C dX12_isSide_10 (tgt := 14) (by decide) ?_
    exact z_iret C dX12_isSide_14 hr rfl ⟨rfl, _, rfl, h⟩ (Nat.le_of_ble_eq_true rfl) (Nat.le_of_ble_eq_true rfl)
  · have h := h.2 c1
    refine z_iload_n C dX12_isSide_4 (i := 0) rfl rfl ?_
    refine z_iconst C dX12_isSide_5 (v := 1) (by decide) ?_
    refine z_icmp_ne C dX12_isSide_6 (tgt := 13) (by decide) (fun c6 => ?_) (fun c6 => ?_)
    · have h := h.2 c6
      refine z_iconst C dX12_isSide_13 (v := 0) (by decide) ?_
      exact z_iret C dX12_isSide_14 hr rfl ⟨rfl, _, rfl, h⟩ (Nat.le_of_ble_eq_true rfl) (Nat.le_of_ble_eq_true rfl)
    · have h := h.1 c6
      refine z_iconst C dX12_isSide_9 (v := 1) (by decide) ?_
      refine z_goto C dX12_isSide_10 (tgt := 14) (by decide) ?_
      exact z_iret C dX12_isSide_14 hr rfl ⟨rfl, _, rfl, h⟩ (Nat.le_of_ble_eq_true rfl) (Nat.le_of_ble_eq_true rfl)
def w_X12_owner_20 (P : Int32 → zTs → Prop)  (st : zTs) (b0 : Int32) : Prop := w_X12_bad st b0 1 (fun (r21 : Int32) (s21 : zTs) => ((r21 = 0 → ∀ s36 : zTs, s36 = zuF s21 100 0 1 ((zgF s21 100 0 1) + 1) → (P ((zgF s36 100 0 1) - 1) s36)) ∧ (¬ r21 = 0 → P 0 s21)))
set_option maxHeartbeats 4000000 in
set_option maxRecDepth 100000 in
theorem j_X12_owner_20 {P : Int32 → zTs → Prop}  (hfl : l.stackTraces = false) (C : zC Z p s m args meth c cX12_owner 1 RX12) (hr : meth.sig.returnType = (some .int)) (hn9 : True)  (st : zTs) (b0 : Int32) (h : w_X12_owner_20 P st b0) : zG Z ad0 h0 p l e ({ frames := 2, cells := 0, slots := 0, locals := 34 } : Room) s m args below meth c (MQ below (zQ Z ad0 h0 (zWi Z P)) args s 0 0 (zA Z)) 0 0 (zh Z zm1 st) 1 20 [some (.ref 100)] [.int (b0), .ref 100] := by
  unfold w_X12_owner_20 at h
  refine z_iconst C dX12_owner_20 (v := 1) (by decide) ?_
  refine t_callV C (rest := []) (c2 := 0) (s2 := 0) (kd := 100) (i := 0) [.int (b0), .int (1)] dX12_owner_21 lk_X12_205 li_X12_bad le_X12_bad (c_X12_bad hfl h) rfl rfl (by decide) rfl ⟨_, rfl⟩ rfl ⟨Nat.le_of_ble_eq_true rfl, Nat.le_of_ble_eq_true rfl⟩ (Nat.le_of_ble_eq_true rfl) ⟨Nat.le_of_ble_eq_true rfl, Nat.le_of_ble_eq_true rfl, Nat.le_of_ble_eq_true rfl, Nat.le_of_ble_eq_true rfl⟩ (k_Wi fun r21 s21 h => ?_)
  refine z_if_eq C dX12_owner_24 (tgt := 29) (by decide) (fun c24 => ?_) (fun c24 => ?_)
  · have h := h.1 c24
    refine z_aload_n C dX12_owner_29 (i := 0) rfl rfl ?_
    refine z_dup C dX12_owner_30 rfl ?_
    refine t_get C dX12_owner_31 fl_X12_202 (k := 100) (i := 0) (by decide) rfl (fg_100_1 _ _ _) ?_
    refine z_iconst C dX12_owner_34 (v := 1) (by decide) ?_
    refine z_iadd C dX12_owner_35 ?_
    refine t_put C dX12_owner_36 fq_X12_202 (Or.inl rfl) (k := 100) (i := 0) (by decide) rfl ⟨rfl, rfl⟩ (fp_100_1 _ _ _ _ _) ?_
    refine t_tops (fun s36 es36 => ?_)
    have h := h s36 es36
    refine z_aload_n C dX12_owner_39 (i := 0) rfl rfl ?_
    refine t_get C dX12_owner_40 fl_X12_202 (k := 100) (i := 0) (by decide) rfl (fg_100_1 _ _ _) ?_
    refine z_iconst C dX12_owner_43 (v := 1) (by decide) ?_
    refine z_isub C dX12_owner_44 ?_
    exact z_iret C dX12_owner_45 hr rfl ⟨_, _, rfl, rfl, h⟩ (Nat.le_of_ble_eq_true rfl) (Nat.le_of_ble_eq_true rfl)
  · have h := h.2 c24
    refine z_iconst C dX12_owner_27 (v := 0) (by decide) ?_
    exact z_iret C dX12_owner_28 hr rfl ⟨_, _, rfl, rfl, h⟩ (Nat.le_of_ble_eq_true rfl) (Nat.le_of_ble_eq_true rfl)
def w_X12_owner (st : zTs)  (P : Int32 → zTs → Prop) : Prop := ∀ s2 : zTs, s2 = zuF st 100 0 0 0 → (((zgF s2 100 0 1) = 20 → w_X12_owner_20 P s2 (1)) ∧ (¬ (zgF s2 100 0 1) = 20 → w_X12_owner_20 P s2 (0)))
set_option maxHeartbeats 4000000 in
set_option maxRecDepth 100000 in
theorem c_X12_owner {Z : zZ} {l : Launch} (hfl : l.stackTraces = false) {st : zTs}  {P : Int32 → zTs → Prop} (h : w_X12_owner st  P) : zN Z l yX12_owner cX12_owner 1 (some .int) ({ frames := 2, cells := 0, slots := 0, locals := 34 } : Room) (zh Z zm1 st) [.ref 100] (zWi Z P) := by
  unfold w_X12_owner at h
  refine z_enterN (by decide) (Nat.le_of_ble_eq_true rfl) (lc0 := [some (.ref 100)]) rfl ?_
  intro p e s m args below meth c ad0 C hr _
  have hn9 : True := trivial
  replace C : zC Z p s m args meth c cX12_owner 1 RX12 := C
  refine z_aload_n C dX12_owner_0 (i := 0) rfl rfl ?_
  refine z_iconst C dX12_owner_1 (v := 0) (by decide) ?_
  refine t_put C dX12_owner_2 fq_X12_199 (Or.inl rfl) (k := 100) (i := 0) (by decide) rfl ⟨rfl, rfl⟩ (fp_100_0 _ _ _ _ _) ?_
  refine t_tops (fun s2 es2 => ?_)
  have h := h s2 es2
  refine z_aload_n C dX12_owner_5 (i := 0) rfl rfl ?_
  refine z_aload_n C dX12_owner_6 (i := 0) rfl rfl ?_
  refine t_get C dX12_owner_7 fl_X12_202 (k := 100) (i := 0) (by decide) rfl (fg_100_1 _ _ _) ?_
  refine z_bipush C dX12_owner_10 (v := 20) (by decide) ?_
  refine z_icmp_ne C dX12_owner_12 (tgt := 19) (by decide) (fun c12 => ?_) (fun c12 => ?_)
  · have h := h.2 c12
    refine z_iconst C dX12_owner_19 (v := 0) (by decide) ?_
    exact t_drop [true] rfl (j_X12_owner_20 hfl C hr hn9  s2 (0) h)
  · have h := h.1 c12
    refine z_iconst C dX12_owner_15 (v := 1) (by decide) ?_
    refine z_goto C dX12_owner_16 (tgt := 20) (by decide) ?_
    exact t_drop [true] rfl (j_X12_owner_20 hfl C hr hn9  s2 (1) h)
def w_X12_wall_49 (P : Int32 → zTs → Prop)  (st : zTs) (a1 : Int32) (a2 : Int32) (b0 : Int32) : Prop := w_X12_bad st b0 2 (fun (r50 : Int32) (s50 : zTs) => ((r50 = 0 → vp_in (2 * (zgF s50 100 0 2)) 12 ∧ (∀ s69 : zTs, s69 = zuA s50 101 0 (2 * (zgF s50 100 0 2) : Int32).toNatClampNeg a1 → (vp_in ((2 * (zgF s69 100 0 2)) + 1) 12 ∧ (∀ s83 : zTs, s83 = zuA s69 101 0 ((2 * (zgF s69 100 0 2)) + 1 : Int32).toNatClampNeg a2 → (∀ s91 : zTs, s91 = zuF s83 100 0 2 ((zgF s83 100 0 2) + 1) → (P ((zgF s91 100 0 2) - 1) s91)))))) ∧ (¬ r50 = 0 → P 0 s50)))
set_option maxHeartbeats 4000000 in
set_option maxRecDepth 100000 in
theorem j_X12_wall_49 {P : Int32 → zTs → Prop}  (hfl : l.stackTraces = false) (C : zC Z p s m args meth c cX12_wall 3 RX12) (hr : meth.sig.returnType = (some .int)) (hn9 : True)  (st : zTs) (a1 : Int32) (a2 : Int32) (b0 : Int32) (h : w_X12_wall_49 P st a1 a2 b0) : zG Z ad0 h0 p l e ({ frames := 2, cells := 0, slots := 0, locals := 34 } : Room) s m args below meth c (MQ below (zQ Z ad0 h0 (zWi Z P)) args s 0 0 (zA Z)) 0 0 (zh Z zm1 st) 3 49 [some (.ref 100), some (.int (a1)), some (.int (a2))] [.int (b0), .ref 100] := by
  unfold w_X12_wall_49 at h
  refine z_iconst C dX12_wall_49 (v := 2) (by decide) ?_
  refine t_callV C (rest := []) (c2 := 0) (s2 := 0) (kd := 100) (i := 0) [.int (b0), .int (2)] dX12_wall_50 lk_X12_205 li_X12_bad le_X12_bad (c_X12_bad hfl h) rfl rfl (by decide) rfl ⟨_, rfl⟩ rfl ⟨Nat.le_of_ble_eq_true rfl, Nat.le_of_ble_eq_true rfl⟩ (Nat.le_of_ble_eq_true rfl) ⟨Nat.le_of_ble_eq_true rfl, Nat.le_of_ble_eq_true rfl, Nat.le_of_ble_eq_true rfl, Nat.le_of_ble_eq_true rfl⟩ (k_Wi fun r50 s50 h => ?_)
  refine z_if_eq C dX12_wall_53 (tgt := 58) (by decide) (fun c53 => ?_) (fun c53 => ?_)
  · have h := h.1 c53
    refine z_aload_n C dX12_wall_58 (i := 0) rfl rfl ?_
    refine t_get C dX12_wall_59 fl_X12_9 (k := 100) (i := 0) (by decide) rfl (fg_100_4 _ _ _) ?_
    refine z_iconst C dX12_wall_62 (v := 2) (by decide) ?_
    refine z_aload_n C dX12_wall_63 (i := 0) rfl rfl ?_
    refine t_get C dX12_wall_64 fl_X12_209 (k := 100) (i := 0) (by decide) rfl (fg_100_2 _ _ _) ?_
    refine z_imul C dX12_wall_67 ?_
    refine z_iload_n C dX12_wall_68 (i := 1) rfl rfl ?_
    obtain ⟨g69, h⟩ := h
    refine t_iast C dX12_wall_69 (k := 101) (i := 0) (by decide) rfl (fun s9 => sh_101 _ _ s9 _) g69 ?_
    refine t_tops (fun s69 es69 => ?_)
    have h := h s69 es69
    refine z_aload_n C dX12_wall_70 (i := 0) rfl rfl ?_
    refine t_get C dX12_wall_71 fl_X12_9 (k := 100) (i := 0) (by decide) rfl (fg_100_4 _ _ _) ?_
    refine z_iconst C dX12_wall_74 (v := 2) (by decide) ?_
    refine z_aload_n C dX12_wall_75 (i := 0) rfl rfl ?_
    refine t_get C dX12_wall_76 fl_X12_209 (k := 100) (i := 0) (by decide) rfl (fg_100_2 _ _ _) ?_
    refine z_imul C dX12_wall_79 ?_
    refine z_iconst C dX12_wall_80 (v := 1) (by decide) ?_
    refine z_iadd C dX12_wall_81 ?_
    refine z_iload_n C dX12_wall_82 (i := 2) rfl rfl ?_
    obtain ⟨g83, h⟩ := h
    refine t_iast C dX12_wall_83 (k := 101) (i := 0) (by decide) rfl (fun s9 => sh_101 _ _ s9 _) g83 ?_
    refine t_tops (fun s83 es83 => ?_)
    have h := h s83 es83
    refine z_aload_n C dX12_wall_84 (i := 0) rfl rfl ?_
    refine z_dup C dX12_wall_85 rfl ?_
    refine t_get C dX12_wall_86 fl_X12_209 (k := 100) (i := 0) (by decide) rfl (fg_100_2 _ _ _) ?_
    refine z_iconst C dX12_wall_89 (v := 1) (by decide) ?_
    refine z_iadd C dX12_wall_90 ?_
    refine t_put C dX12_wall_91 fq_X12_209 (Or.inl rfl) (k := 100) (i := 0) (by decide) rfl ⟨rfl, rfl⟩ (fp_100_2 _ _ _ _ _) ?_
    refine t_tops (fun s91 es91 => ?_)
    have h := h s91 es91
    refine z_aload_n C dX12_wall_94 (i := 0) rfl rfl ?_
    refine t_get C dX12_wall_95 fl_X12_209 (k := 100) (i := 0) (by decide) rfl (fg_100_2 _ _ _) ?_
    refine z_iconst C dX12_wall_98 (v := 1) (by decide) ?_
    refine z_isub C dX12_wall_99 ?_
    exact z_iret C dX12_wall_100 hr rfl ⟨_, _, rfl, rfl, h⟩ (Nat.le_of_ble_eq_true rfl) (Nat.le_of_ble_eq_true rfl)
  · have h := h.2 c53
    refine z_iconst C dX12_wall_56 (v := 0) (by decide) ?_
    exact z_iret C dX12_wall_57 hr rfl ⟨_, _, rfl, rfl, h⟩ (Nat.le_of_ble_eq_true rfl) (Nat.le_of_ble_eq_true rfl)
def w_X12_wall_27 (P : Int32 → zTs → Prop)  (st : zTs) (a1 : Int32) (a2 : Int32) (b0 : Int32) : Prop := w_X12_bad st b0 1 (fun (r28 : Int32) (s28 : zTs) => ((r28 = 0 → ((zgF s28 100 0 2) = 6 → w_X12_wall_49 P s28 a1 a2 (1)) ∧ (¬ (zgF s28 100 0 2) = 6 → w_X12_wall_49 P s28 a1 a2 (0))) ∧ (¬ r28 = 0 → P 0 s28)))
set_option maxHeartbeats 4000000 in
set_option maxRecDepth 100000 in
theorem j_X12_wall_27 {P : Int32 → zTs → Prop}  (hfl : l.stackTraces = false) (C : zC Z p s m args meth c cX12_wall 3 RX12) (hr : meth.sig.returnType = (some .int)) (hn9 : True)  (st : zTs) (a1 : Int32) (a2 : Int32) (b0 : Int32) (h : w_X12_wall_27 P st a1 a2 b0) : zG Z ad0 h0 p l e ({ frames := 2, cells := 0, slots := 0, locals := 34 } : Room) s m args below meth c (MQ below (zQ Z ad0 h0 (zWi Z P)) args s 0 0 (zA Z)) 0 0 (zh Z zm1 st) 3 27 [some (.ref 100), some (.int (a1)), some (.int (a2))] [.int (b0), .ref 100] := by
  unfold w_X12_wall_27 at h
  refine z_iconst C dX12_wall_27 (v := 1) (by decide) ?_
  refine t_callV C (rest := []) (c2 := 0) (s2 := 0) (kd := 100) (i := 0) [.int (b0), .int (1)] dX12_wall_28 lk_X12_205 li_X12_bad le_X12_bad (c_X12_bad hfl h) rfl rfl (by decide) rfl ⟨_, rfl⟩ rfl ⟨Nat.le_of_ble_eq_true rfl, Nat.le_of_ble_eq_true rfl⟩ (Nat.le_of_ble_eq_true rfl) ⟨Nat.le_of_ble_eq_true rfl, Nat.le_of_ble_eq_true rfl, Nat.le_of_ble_eq_true rfl, Nat.le_of_ble_eq_true rfl⟩ (k_Wi fun r28 s28 h => ?_)
  refine z_if_ne C dX12_wall_31 (tgt := 56) (by decide) (fun c31 => ?_) (fun c31 => ?_)
  · have h := h.2 c31
    refine z_iconst C dX12_wall_56 (v := 0) (by decide) ?_
    exact z_iret C dX12_wall_57 hr rfl ⟨_, _, rfl, rfl, h⟩ (Nat.le_of_ble_eq_true rfl) (Nat.le_of_ble_eq_true rfl)
  · have h := h.1 c31
    refine z_aload_n C dX12_wall_34 (i := 0) rfl rfl ?_
    refine z_aload_n C dX12_wall_35 (i := 0) rfl rfl ?_
    refine t_get C dX12_wall_36 fl_X12_209 (k := 100) (i := 0) (by decide) rfl (fg_100_2 _ _ _) ?_
    refine z_bipush C dX12_wall_39 (v := 6) (by decide) ?_
    refine z_icmp_ne C dX12_wall_41 (tgt := 48) (by decide) (fun c41 => ?_) (fun c41 => ?_)
    · have h := h.2 c41
      refine z_iconst C dX12_wall_48 (v := 0) (by decide) ?_
      exact t_drop [true, true, true] rfl (j_X12_wall_49 hfl C hr hn9  s28 a1 a2 (0) h)
    · have h := h.1 c41
      refine z_iconst C dX12_wall_44 (v := 1) (by decide) ?_
      refine z_goto C dX12_wall_45 (tgt := 49) (by decide) ?_
      exact t_drop [true, true, true] rfl (j_X12_wall_49 hfl C hr hn9  s28 a1 a2 (1) h)
def w_X12_wall (st : zTs) (a1 : Int32) (a2 : Int32) (P : Int32 → zTs → Prop) : Prop := ∀ s2 : zTs, s2 = zuF st 100 0 0 0 → (w_X12_isOwner s2 a1 (fun (r8 : Int32) => ((r8 = 0 → w_X12_wall_27 P s2 a1 a2 (1)) ∧ (¬ r8 = 0 → w_X12_isOwner s2 a2 (fun (r16 : Int32) => ((r16 = 0 → w_X12_wall_27 P s2 a1 a2 (1)) ∧ (¬ r16 = 0 → w_X12_wall_27 P s2 a1 a2 (0))))))))
set_option maxHeartbeats 4000000 in
set_option maxRecDepth 100000 in
theorem c_X12_wall {Z : zZ} {l : Launch} (hfl : l.stackTraces = false) {st : zTs} {a1 : Int32} {a2 : Int32} {P : Int32 → zTs → Prop} (h : w_X12_wall st a1 a2 P) : zN Z l yX12_wall cX12_wall 3 (some .int) ({ frames := 2, cells := 0, slots := 0, locals := 34 } : Room) (zh Z zm1 st) [.ref 100, .int (a1), .int (a2)] (zWi Z P) := by
  unfold w_X12_wall at h
  refine z_enterN (by decide) (Nat.le_of_ble_eq_true rfl) (lc0 := [some (.ref 100), some (.int (a1)), some (.int (a2))]) rfl ?_
  intro p e s m args below meth c ad0 C hr _
  have hn9 : True := trivial
  replace C : zC Z p s m args meth c cX12_wall 3 RX12 := C
  refine z_aload_n C dX12_wall_0 (i := 0) rfl rfl ?_
  refine z_iconst C dX12_wall_1 (v := 0) (by decide) ?_
  refine t_put C dX12_wall_2 fq_X12_199 (Or.inl rfl) (k := 100) (i := 0) (by decide) rfl ⟨rfl, rfl⟩ (fp_100_0 _ _ _ _ _) ?_
  refine t_tops (fun s2 es2 => ?_)
  have h := h s2 es2
  refine z_aload_n C dX12_wall_5 (i := 0) rfl rfl ?_
  refine z_aload_n C dX12_wall_6 (i := 0) rfl rfl ?_
  refine z_iload_n C dX12_wall_7 (i := 1) rfl rfl ?_
  refine t_callV C (rest := [.ref 100]) (c2 := 0) (s2 := 0) (kd := 100) (i := 0) [.int (a1)] dX12_wall_8 lk_X12_212 li_X12_isOwner le_X12_isOwner (c_X12_isOwner hfl h) rfl rfl (by decide) rfl ⟨_, rfl⟩ rfl ⟨Nat.le_of_ble_eq_true rfl, Nat.le_of_ble_eq_true rfl⟩ (Nat.le_of_ble_eq_true rfl) ⟨Nat.le_of_ble_eq_true rfl, Nat.le_of_ble_eq_true rfl, Nat.le_of_ble_eq_true rfl, Nat.le_of_ble_eq_true rfl⟩ (k_Ri fun r8 h => ?_)
  refine z_if_eq C dX12_wall_11 (tgt := 22) (by decide) (fun c11 => ?_) (fun c11 => ?_)
  · have h := h.1 c11
    refine z_iconst C dX12_wall_22 (v := 1) (by decide) ?_
    refine z_goto C dX12_wall_23 (tgt := 27) (by decide) ?_
    exact t_drop [true, true, true] rfl (j_X12_wall_27 hfl C hr hn9  s2 a1 a2 (1) h)
  · have h := h.2 c11
    refine z_aload_n C dX12_wall_14 (i := 0) rfl rfl ?_
    refine z_iload_n C dX12_wall_15 (i := 2) rfl rfl ?_
    refine t_callV C (rest := [.ref 100]) (c2 := 0) (s2 := 0) (kd := 100) (i := 0) [.int (a2)] dX12_wall_16 lk_X12_212 li_X12_isOwner le_X12_isOwner (c_X12_isOwner hfl h) rfl rfl (by decide) rfl ⟨_, rfl⟩ rfl ⟨Nat.le_of_ble_eq_true rfl, Nat.le_of_ble_eq_true rfl⟩ (Nat.le_of_ble_eq_true rfl) ⟨Nat.le_of_ble_eq_true rfl, Nat.le_of_ble_eq_true rfl, Nat.le_of_ble_eq_true rfl, Nat.le_of_ble_eq_true rfl⟩ (k_Ri fun r16 h => ?_)
    refine z_if_ne C dX12_wall_19 (tgt := 26) (by decide) (fun c19 => ?_) (fun c19 => ?_)
    · have h := h.2 c19
      refine z_iconst C dX12_wall_26 (v := 0) (by decide) ?_
      exact t_drop [true, true, true] rfl (j_X12_wall_27 hfl C hr hn9  s2 a1 a2 (0) h)
    · have h := h.1 c19
      refine z_iconst C dX12_wall_22 (v := 1) (by decide) ?_
      refine z_goto C dX12_wall_23 (tgt := 27) (by decide) ?_
      exact t_drop [true, true, true] rfl (j_X12_wall_27 hfl C hr hn9  s2 a1 a2 (1) h)
def w_X12_sell_47 (P : Int32 → zTs → Prop)  (st : zTs) (a1 : Int32) (a2 : Int32) (a3 : Int32) (b0 : Int32) : Prop := w_X12_bad st b0 2 (fun (r48 : Int32) (s48 : zTs) => ((r48 = 0 → vp_in ((2 * a1) + a2) 12 ∧ (∀ x66 : Int32, x66 = zgA s48 101 0 ((2 * a1) + a2 : Int32).toNatClampNeg → (vp_in ((2 * a1) + a2) 12 ∧ (∀ s78 : zTs, s78 = zuA s48 101 0 ((2 * a1) + a2 : Int32).toNatClampNeg a3 → (P x66 s78))))) ∧ (¬ r48 = 0 → P 0 s48)))
set_option maxHeartbeats 4000000 in
set_option maxRecDepth 100000 in
theorem j_X12_sell_47 {P : Int32 → zTs → Prop}  (hfl : l.stackTraces = false) (C : zC Z p s m args meth c cX12_sell 5 RX12) (hr : meth.sig.returnType = (some .int)) (hn9 : True)  (st : zTs) (a1 : Int32) (a2 : Int32) (a3 : Int32) (b0 : Int32) (h : w_X12_sell_47 P st a1 a2 a3 b0) : zG Z ad0 h0 p l e ({ frames := 2, cells := 0, slots := 0, locals := 34 } : Room) s m args below meth c (MQ below (zQ Z ad0 h0 (zWi Z P)) args s 0 0 (zA Z)) 0 0 (zh Z zm1 st) 5 47 [some (.ref 100), some (.int (a1)), some (.int (a2)), some (.int (a3)), none] [.int (b0), .ref 100] := by
  unfold w_X12_sell_47 at h
  refine z_iconst C dX12_sell_47 (v := 2) (by decide) ?_
  refine t_callV C (rest := []) (c2 := 0) (s2 := 0) (kd := 100) (i := 0) [.int (b0), .int (2)] dX12_sell_48 lk_X12_205 li_X12_bad le_X12_bad (c_X12_bad hfl h) rfl rfl (by decide) rfl ⟨_, rfl⟩ rfl ⟨Nat.le_of_ble_eq_true rfl, Nat.le_of_ble_eq_true rfl⟩ (Nat.le_of_ble_eq_true rfl) ⟨Nat.le_of_ble_eq_true rfl, Nat.le_of_ble_eq_true rfl, Nat.le_of_ble_eq_true rfl, Nat.le_of_ble_eq_true rfl⟩ (k_Wi fun r48 s48 h => ?_)
  refine z_if_eq C dX12_sell_51 (tgt := 56) (by decide) (fun c51 => ?_) (fun c51 => ?_)
  · have h := h.1 c51
    refine z_aload_n C dX12_sell_56 (i := 0) rfl rfl ?_
    refine t_get C dX12_sell_57 fl_X12_9 (k := 100) (i := 0) (by decide) rfl (fg_100_4 _ _ _) ?_
    refine z_iconst C dX12_sell_60 (v := 2) (by decide) ?_
    refine z_iload_n C dX12_sell_61 (i := 1) rfl rfl ?_
    refine z_imul C dX12_sell_62 ?_
    refine z_iload_n C dX12_sell_63 (i := 2) rfl rfl ?_
    refine z_iadd C dX12_sell_64 ?_
    obtain ⟨g65, h⟩ := h
    refine t_iald C dX12_sell_65 (k := 101) (i := 0) (by decide) rfl (sh_101 _ _ _ _) g65 ?_
    refine t_topi (fun x66 ex66 => ?_)
    have h := h x66 ex66
    refine z_istore C dX12_sell_66 (lc' := [some (.ref 100), some (.int (a1)), some (.int (a2)), some (.int (a3)), some (.int (x66))]) (by decide) rfl ?_
    refine z_aload_n C dX12_sell_68 (i := 0) rfl rfl ?_
    refine t_get C dX12_sell_69 fl_X12_9 (k := 100) (i := 0) (by decide) rfl (fg_100_4 _ _ _) ?_
    refine z_iconst C dX12_sell_72 (v := 2) (by decide) ?_
    refine z_iload_n C dX12_sell_73 (i := 1) rfl rfl ?_
    refine z_imul C dX12_sell_74 ?_
    refine z_iload_n C dX12_sell_75 (i := 2) rfl rfl ?_
    refine z_iadd C dX12_sell_76 ?_
    refine z_iload_n C dX12_sell_77 (i := 3) rfl rfl ?_
    obtain ⟨g78, h⟩ := h
    refine t_iast C dX12_sell_78 (k := 101) (i := 0) (by decide) rfl (fun s9 => sh_101 _ _ s9 _) g78 ?_
    refine t_tops (fun s78 es78 => ?_)
    have h := h s78 es78
    refine z_iload C dX12_sell_79 rfl ?_
    exact z_iret C dX12_sell_81 hr rfl ⟨_, _, rfl, rfl, h⟩ (Nat.le_of_ble_eq_true rfl) (Nat.le_of_ble_eq_true rfl)
  · have h := h.2 c51
    refine z_iconst C dX12_sell_54 (v := 0) (by decide) ?_
    exact z_iret C dX12_sell_55 hr rfl ⟨_, _, rfl, rfl, h⟩ (Nat.le_of_ble_eq_true rfl) (Nat.le_of_ble_eq_true rfl)
def w_X12_sell_27 (P : Int32 → zTs → Prop)  (st : zTs) (a1 : Int32) (a2 : Int32) (a3 : Int32) (b0 : Int32) : Prop := w_X12_bad st b0 1 (fun (r28 : Int32) (s28 : zTs) => ((r28 = 0 → w_X12_isSide s28 a2 (fun (r36 : Int32) => ((r36 = 0 → w_X12_sell_47 P s28 a1 a2 a3 (1)) ∧ (¬ r36 = 0 → w_X12_sell_47 P s28 a1 a2 a3 (0))))) ∧ (¬ r28 = 0 → P 0 s28)))
set_option maxHeartbeats 4000000 in
set_option maxRecDepth 100000 in
theorem j_X12_sell_27 {P : Int32 → zTs → Prop}  (hfl : l.stackTraces = false) (C : zC Z p s m args meth c cX12_sell 5 RX12) (hr : meth.sig.returnType = (some .int)) (hn9 : True)  (st : zTs) (a1 : Int32) (a2 : Int32) (a3 : Int32) (b0 : Int32) (h : w_X12_sell_27 P st a1 a2 a3 b0) : zG Z ad0 h0 p l e ({ frames := 2, cells := 0, slots := 0, locals := 34 } : Room) s m args below meth c (MQ below (zQ Z ad0 h0 (zWi Z P)) args s 0 0 (zA Z)) 0 0 (zh Z zm1 st) 5 27 [some (.ref 100), some (.int (a1)), some (.int (a2)), some (.int (a3)), none] [.int (b0), .ref 100] := by
  unfold w_X12_sell_27 at h
  refine z_iconst C dX12_sell_27 (v := 1) (by decide) ?_
  refine t_callV C (rest := []) (c2 := 0) (s2 := 0) (kd := 100) (i := 0) [.int (b0), .int (1)] dX12_sell_28 lk_X12_205 li_X12_bad le_X12_bad (c_X12_bad hfl h) rfl rfl (by decide) rfl ⟨_, rfl⟩ rfl ⟨Nat.le_of_ble_eq_true rfl, Nat.le_of_ble_eq_true rfl⟩ (Nat.le_of_ble_eq_true rfl) ⟨Nat.le_of_ble_eq_true rfl, Nat.le_of_ble_eq_true rfl, Nat.le_of_ble_eq_true rfl, Nat.le_of_ble_eq_true rfl⟩ (k_Wi fun r28 s28 h => ?_)
  refine z_if_ne C dX12_sell_31 (tgt := 54) (by decide) (fun c31 => ?_) (fun c31 => ?_)
  · have h := h.2 c31
    refine z_iconst C dX12_sell_54 (v := 0) (by decide) ?_
    exact z_iret C dX12_sell_55 hr rfl ⟨_, _, rfl, rfl, h⟩ (Nat.le_of_ble_eq_true rfl) (Nat.le_of_ble_eq_true rfl)
  · have h := h.1 c31
    refine z_aload_n C dX12_sell_34 (i := 0) rfl rfl ?_
    refine z_iload_n C dX12_sell_35 (i := 2) rfl rfl ?_
    refine t_callS C (rest := [.ref 100]) (c2 := 0) (s2 := 0) [.int (a2)] dX12_sell_36 lk_X12_219 ls_X12_isSide (c_X12_isSide hfl h) rfl rfl ⟨Nat.le_of_ble_eq_true rfl, Nat.le_of_ble_eq_true rfl⟩ (Nat.le_of_ble_eq_true rfl) ⟨Nat.le_of_ble_eq_true rfl, Nat.le_of_ble_eq_true rfl, Nat.le_of_ble_eq_true rfl, Nat.le_of_ble_eq_true rfl⟩ (k_Ri fun r36 h => ?_)
    refine z_if_ne C dX12_sell_39 (tgt := 46) (by decide) (fun c39 => ?_) (fun c39 => ?_)
    · have h := h.2 c39
      refine z_iconst C dX12_sell_46 (v := 0) (by decide) ?_
      exact t_drop [true, true, true, true, false] rfl (j_X12_sell_47 hfl C hr hn9  s28 a1 a2 a3 (0) h)
    · have h := h.1 c39
      refine z_iconst C dX12_sell_42 (v := 1) (by decide) ?_
      refine z_goto C dX12_sell_43 (tgt := 47) (by decide) ?_
      exact t_drop [true, true, true, true, false] rfl (j_X12_sell_47 hfl C hr hn9  s28 a1 a2 a3 (1) h)
def w_X12_sell (st : zTs) (a1 : Int32) (a2 : Int32) (a3 : Int32) (P : Int32 → zTs → Prop) : Prop := ∀ s2 : zTs, s2 = zuF st 100 0 0 0 → (w_X12_isWall s2 a1 (fun (r8 : Int32) => ((r8 = 0 → w_X12_sell_27 P s2 a1 a2 a3 (1)) ∧ (¬ r8 = 0 → w_X12_isOwner s2 a3 (fun (r16 : Int32) => ((r16 = 0 → w_X12_sell_27 P s2 a1 a2 a3 (1)) ∧ (¬ r16 = 0 → w_X12_sell_27 P s2 a1 a2 a3 (0))))))))
set_option maxHeartbeats 4000000 in
set_option maxRecDepth 100000 in
theorem c_X12_sell {Z : zZ} {l : Launch} (hfl : l.stackTraces = false) {st : zTs} {a1 : Int32} {a2 : Int32} {a3 : Int32} {P : Int32 → zTs → Prop} (h : w_X12_sell st a1 a2 a3 P) : zN Z l yX12_sell cX12_sell 5 (some .int) ({ frames := 2, cells := 0, slots := 0, locals := 34 } : Room) (zh Z zm1 st) [.ref 100, .int (a1), .int (a2), .int (a3)] (zWi Z P) := by
  unfold w_X12_sell at h
  refine z_enterN (by decide) (Nat.le_of_ble_eq_true rfl) (lc0 := [some (.ref 100), some (.int (a1)), some (.int (a2)), some (.int (a3)), none]) rfl ?_
  intro p e s m args below meth c ad0 C hr _
  have hn9 : True := trivial
  replace C : zC Z p s m args meth c cX12_sell 5 RX12 := C
  refine z_aload_n C dX12_sell_0 (i := 0) rfl rfl ?_
  refine z_iconst C dX12_sell_1 (v := 0) (by decide) ?_
  refine t_put C dX12_sell_2 fq_X12_199 (Or.inl rfl) (k := 100) (i := 0) (by decide) rfl ⟨rfl, rfl⟩ (fp_100_0 _ _ _ _ _) ?_
  refine t_tops (fun s2 es2 => ?_)
  have h := h s2 es2
  refine z_aload_n C dX12_sell_5 (i := 0) rfl rfl ?_
  refine z_aload_n C dX12_sell_6 (i := 0) rfl rfl ?_
  refine z_iload_n C dX12_sell_7 (i := 1) rfl rfl ?_
  refine t_callV C (rest := [.ref 100]) (c2 := 0) (s2 := 0) (kd := 100) (i := 0) [.int (a1)] dX12_sell_8 lk_X12_216 li_X12_isWall le_X12_isWall (c_X12_isWall hfl h) rfl rfl (by decide) rfl ⟨_, rfl⟩ rfl ⟨Nat.le_of_ble_eq_true rfl, Nat.le_of_ble_eq_true rfl⟩ (Nat.le_of_ble_eq_true rfl) ⟨Nat.le_of_ble_eq_true rfl, Nat.le_of_ble_eq_true rfl, Nat.le_of_ble_eq_true rfl, Nat.le_of_ble_eq_true rfl⟩ (k_Ri fun r8 h => ?_)
  refine z_if_eq C dX12_sell_11 (tgt := 22) (by decide) (fun c11 => ?_) (fun c11 => ?_)
  · have h := h.1 c11
    refine z_iconst C dX12_sell_22 (v := 1) (by decide) ?_
    refine z_goto C dX12_sell_23 (tgt := 27) (by decide) ?_
    exact t_drop [true, true, true, true, false] rfl (j_X12_sell_27 hfl C hr hn9  s2 a1 a2 a3 (1) h)
  · have h := h.2 c11
    refine z_aload_n C dX12_sell_14 (i := 0) rfl rfl ?_
    refine z_iload_n C dX12_sell_15 (i := 3) rfl rfl ?_
    refine t_callV C (rest := [.ref 100]) (c2 := 0) (s2 := 0) (kd := 100) (i := 0) [.int (a3)] dX12_sell_16 lk_X12_212 li_X12_isOwner le_X12_isOwner (c_X12_isOwner hfl h) rfl rfl (by decide) rfl ⟨_, rfl⟩ rfl ⟨Nat.le_of_ble_eq_true rfl, Nat.le_of_ble_eq_true rfl⟩ (Nat.le_of_ble_eq_true rfl) ⟨Nat.le_of_ble_eq_true rfl, Nat.le_of_ble_eq_true rfl, Nat.le_of_ble_eq_true rfl, Nat.le_of_ble_eq_true rfl⟩ (k_Ri fun r16 h => ?_)
    refine z_if_ne C dX12_sell_19 (tgt := 26) (by decide) (fun c19 => ?_) (fun c19 => ?_)
    · have h := h.2 c19
      refine z_iconst C dX12_sell_26 (v := 0) (by decide) ?_
      exact t_drop [true, true, true, true, false] rfl (j_X12_sell_27 hfl C hr hn9  s2 a1 a2 a3 (0) h)
    · have h := h.1 c19
      refine z_iconst C dX12_sell_22 (v := 1) (by decide) ?_
      refine z_goto C dX12_sell_23 (tgt := 27) (by decide) ?_
      exact t_drop [true, true, true, true, false] rfl (j_X12_sell_27 hfl C hr hn9  s2 a1 a2 a3 (1) h)
def w_X12_wait_46 (P : Int32 → zTs → Prop)  (st : zTs) (a1 : Int32) (b0 : Int32) : Prop := w_X12_bad st b0 2 (fun (r47 : Int32) (s47 : zTs) => ((r47 = 0 → ∀ s62 : zTs, s62 = zuF s47 100 0 3 ((zgF s47 100 0 3) + a1) → (P (zgF s62 100 0 3) s62)) ∧ (¬ r47 = 0 → P 0 s47)))
set_option maxHeartbeats 4000000 in
set_option maxRecDepth 100000 in
theorem j_X12_wait_46 {P : Int32 → zTs → Prop}  (hfl : l.stackTraces = false) (C : zC Z p s m args meth c cX12_wait 2 RX12) (hr : meth.sig.returnType = (some .int)) (hn9 : True)  (st : zTs) (a1 : Int32) (b0 : Int32) (h : w_X12_wait_46 P st a1 b0) : zG Z ad0 h0 p l e ({ frames := 2, cells := 0, slots := 0, locals := 34 } : Room) s m args below meth c (MQ below (zQ Z ad0 h0 (zWi Z P)) args s 0 0 (zA Z)) 0 0 (zh Z zm1 st) 2 46 [some (.ref 100), some (.int (a1))] [.int (b0), .ref 100] := by
  unfold w_X12_wait_46 at h
  refine z_iconst C dX12_wait_46 (v := 2) (by decide) ?_
  refine t_callV C (rest := []) (c2 := 0) (s2 := 0) (kd := 100) (i := 0) [.int (b0), .int (2)] dX12_wait_47 lk_X12_205 li_X12_bad le_X12_bad (c_X12_bad hfl h) rfl rfl (by decide) rfl ⟨_, rfl⟩ rfl ⟨Nat.le_of_ble_eq_true rfl, Nat.le_of_ble_eq_true rfl⟩ (Nat.le_of_ble_eq_true rfl) ⟨Nat.le_of_ble_eq_true rfl, Nat.le_of_ble_eq_true rfl, Nat.le_of_ble_eq_true rfl, Nat.le_of_ble_eq_true rfl⟩ (k_Wi fun r47 s47 h => ?_)
  refine z_if_eq C dX12_wait_50 (tgt := 55) (by decide) (fun c50 => ?_) (fun c50 => ?_)
  · have h := h.1 c50
    refine z_aload_n C dX12_wait_55 (i := 0) rfl rfl ?_
    refine z_dup C dX12_wait_56 rfl ?_
    refine t_get C dX12_wait_57 fl_X12_222 (k := 100) (i := 0) (by decide) rfl (fg_100_3 _ _ _) ?_
    refine z_iload_n C dX12_wait_60 (i := 1) rfl rfl ?_
    refine z_iadd C dX12_wait_61 ?_
    refine t_put C dX12_wait_62 fq_X12_222 (Or.inl rfl) (k := 100) (i := 0) (by decide) rfl ⟨rfl, rfl⟩ (fp_100_3 _ _ _ _ _) ?_
    refine t_tops (fun s62 es62 => ?_)
    have h := h s62 es62
    refine z_aload_n C dX12_wait_65 (i := 0) rfl rfl ?_
    refine t_get C dX12_wait_66 fl_X12_222 (k := 100) (i := 0) (by decide) rfl (fg_100_3 _ _ _) ?_
    exact z_iret C dX12_wait_69 hr rfl ⟨_, _, rfl, rfl, h⟩ (Nat.le_of_ble_eq_true rfl) (Nat.le_of_ble_eq_true rfl)
  · have h := h.2 c50
    refine z_iconst C dX12_wait_53 (v := 0) (by decide) ?_
    exact z_iret C dX12_wait_54 hr rfl ⟨_, _, rfl, rfl, h⟩ (Nat.le_of_ble_eq_true rfl) (Nat.le_of_ble_eq_true rfl)
def w_X12_wait_22 (P : Int32 → zTs → Prop)  (st : zTs) (a1 : Int32) (b0 : Int32) : Prop := w_X12_bad st b0 1 (fun (r23 : Int32) (s23 : zTs) => ((r23 = 0 → (((zgF s23 100 0 3) + a1) ≤ 1000000 → w_X12_wait_46 P s23 a1 (0)) ∧ (¬ ((zgF s23 100 0 3) + a1) ≤ 1000000 → w_X12_wait_46 P s23 a1 (1))) ∧ (¬ r23 = 0 → P 0 s23)))
set_option maxHeartbeats 4000000 in
set_option maxRecDepth 100000 in
theorem j_X12_wait_22 {P : Int32 → zTs → Prop}  (hfl : l.stackTraces = false) (C : zC Z p s m args meth c cX12_wait 2 RX12) (hr : meth.sig.returnType = (some .int)) (hn9 : True)  (st : zTs) (a1 : Int32) (b0 : Int32) (h : w_X12_wait_22 P st a1 b0) : zG Z ad0 h0 p l e ({ frames := 2, cells := 0, slots := 0, locals := 34 } : Room) s m args below meth c (MQ below (zQ Z ad0 h0 (zWi Z P)) args s 0 0 (zA Z)) 0 0 (zh Z zm1 st) 2 22 [some (.ref 100), some (.int (a1))] [.int (b0), .ref 100] := by
  unfold w_X12_wait_22 at h
  refine z_iconst C dX12_wait_22 (v := 1) (by decide) ?_
  refine t_callV C (rest := []) (c2 := 0) (s2 := 0) (kd := 100) (i := 0) [.int (b0), .int (1)] dX12_wait_23 lk_X12_205 li_X12_bad le_X12_bad (c_X12_bad hfl h) rfl rfl (by decide) rfl ⟨_, rfl⟩ rfl ⟨Nat.le_of_ble_eq_true rfl, Nat.le_of_ble_eq_true rfl⟩ (Nat.le_of_ble_eq_true rfl) ⟨Nat.le_of_ble_eq_true rfl, Nat.le_of_ble_eq_true rfl, Nat.le_of_ble_eq_true rfl, Nat.le_of_ble_eq_true rfl⟩ (k_Wi fun r23 s23 h => ?_)
  refine z_if_ne C dX12_wait_26 (tgt := 53) (by decide) (fun c26 => ?_) (fun c26 => ?_)
  · have h := h.2 c26
    refine z_iconst C dX12_wait_53 (v := 0) (by decide) ?_
    exact z_iret C dX12_wait_54 hr rfl ⟨_, _, rfl, rfl, h⟩ (Nat.le_of_ble_eq_true rfl) (Nat.le_of_ble_eq_true rfl)
  · have h := h.1 c26
    refine z_aload_n C dX12_wait_29 (i := 0) rfl rfl ?_
    refine z_aload_n C dX12_wait_30 (i := 0) rfl rfl ?_
    refine t_get C dX12_wait_31 fl_X12_222 (k := 100) (i := 0) (by decide) rfl (fg_100_3 _ _ _) ?_
    refine z_iload_n C dX12_wait_34 (i := 1) rfl rfl ?_
    refine z_iadd C dX12_wait_35 ?_
    refine z_ldc C dX12_wait_36 kc_X12_225 ?_
    refine z_icmp_le C dX12_wait_38 (tgt := 45) (by decide) (fun c38 => ?_) (fun c38 => ?_)
    · have h := h.1 c38
      refine z_iconst C dX12_wait_45 (v := 0) (by decide) ?_
      exact t_drop [true, true] rfl (j_X12_wait_46 hfl C hr hn9  s23 a1 (0) h)
    · have h := h.2 c38
      refine z_iconst C dX12_wait_41 (v := 1) (by decide) ?_
      refine z_goto C dX12_wait_42 (tgt := 46) (by decide) ?_
      exact t_drop [true, true] rfl (j_X12_wait_46 hfl C hr hn9  s23 a1 (1) h)
def w_X12_wait (st : zTs) (a1 : Int32) (P : Int32 → zTs → Prop) : Prop := ∀ s2 : zTs, s2 = zuF st 100 0 0 0 → ((a1 < 0 → w_X12_wait_22 P s2 a1 (1)) ∧ (¬ a1 < 0 → (a1 ≤ 10000 → w_X12_wait_22 P s2 a1 (0)) ∧ (¬ a1 ≤ 10000 → w_X12_wait_22 P s2 a1 (1))))
set_option maxHeartbeats 4000000 in
set_option maxRecDepth 100000 in
theorem c_X12_wait {Z : zZ} {l : Launch} (hfl : l.stackTraces = false) {st : zTs} {a1 : Int32} {P : Int32 → zTs → Prop} (h : w_X12_wait st a1 P) : zN Z l yX12_wait cX12_wait 2 (some .int) ({ frames := 2, cells := 0, slots := 0, locals := 34 } : Room) (zh Z zm1 st) [.ref 100, .int (a1)] (zWi Z P) := by
  unfold w_X12_wait at h
  refine z_enterN (by decide) (Nat.le_of_ble_eq_true rfl) (lc0 := [some (.ref 100), some (.int (a1))]) rfl ?_
  intro p e s m args below meth c ad0 C hr _
  have hn9 : True := trivial
  replace C : zC Z p s m args meth c cX12_wait 2 RX12 := C
  refine z_aload_n C dX12_wait_0 (i := 0) rfl rfl ?_
  refine z_iconst C dX12_wait_1 (v := 0) (by decide) ?_
  refine t_put C dX12_wait_2 fq_X12_199 (Or.inl rfl) (k := 100) (i := 0) (by decide) rfl ⟨rfl, rfl⟩ (fp_100_0 _ _ _ _ _) ?_
  refine t_tops (fun s2 es2 => ?_)
  have h := h s2 es2
  refine z_aload_n C dX12_wait_5 (i := 0) rfl rfl ?_
  refine z_iload_n C dX12_wait_6 (i := 1) rfl rfl ?_
  refine z_if_lt C dX12_wait_7 (tgt := 17) (by decide) (fun c7 => ?_) (fun c7 => ?_)
  · have h := h.1 c7
    refine z_iconst C dX12_wait_17 (v := 1) (by decide) ?_
    refine z_goto C dX12_wait_18 (tgt := 22) (by decide) ?_
    exact t_drop [true, true] rfl (j_X12_wait_22 hfl C hr hn9  s2 a1 (1) h)
  · have h := h.2 c7
    refine z_iload_n C dX12_wait_10 (i := 1) rfl rfl ?_
    refine z_sipush C dX12_wait_11 (v := 10000) (by decide) ?_
    refine z_icmp_le C dX12_wait_14 (tgt := 21) (by decide) (fun c14 => ?_) (fun c14 => ?_)
    · have h := h.1 c14
      refine z_iconst C dX12_wait_21 (v := 0) (by decide) ?_
      exact t_drop [true, true] rfl (j_X12_wait_22 hfl C hr hn9  s2 a1 (0) h)
    · have h := h.2 c14
      refine z_iconst C dX12_wait_17 (v := 1) (by decide) ?_
      refine z_goto C dX12_wait_18 (tgt := 22) (by decide) ?_
      exact t_drop [true, true] rfl (j_X12_wait_22 hfl C hr hn9  s2 a1 (1) h)
def w_X12_countedFrom_31 (P : Int32 → Prop) (st : zTs) (K5 : Int32 → Int32 → Int32 → Prop) (a2 : Int32) (a3 : Int32) (b0 : Int32) (b1 : Int32) : Prop := ∀ x32 : Int32, x32 = b1 - b0 → (K5 a2 a3 x32)
set_option maxHeartbeats 4000000 in
set_option maxRecDepth 100000 in
theorem j_X12_countedFrom_31 {P : Int32 → Prop} {st : zTs} {K5 : Int32 → Int32 → Int32 → Prop} (hfl : l.stackTraces = false) (C : zC Z p s m args meth c cX12_countedFrom 5 RX12) (hr : meth.sig.returnType = (some .int)) (hn9 : True) (hK5 : ∀ (a2 : Int32) (a3 : Int32) (a4 : Int32), K5 a2 a3 a4 → zG Z ad0 h0 p l e ({ frames := 1, cells := 0, slots := 0, locals := 12 } : Room) s m args below meth c (MQ below (zQ Z ad0 h0 (zRi Z st P)) args s 0 0 (zA Z)) 0 0 (zh Z zm1 st) 5 5 [none, none, some (.int (a2)), some (.int (a3)), some (.int (a4))] []) (a2 : Int32) (a3 : Int32) (b0 : Int32) (b1 : Int32) (h : w_X12_countedFrom_31 P st K5 a2 a3 b0 b1) : zG Z ad0 h0 p l e ({ frames := 1, cells := 0, slots := 0, locals := 12 } : Room) s m args below meth c (MQ below (zQ Z ad0 h0 (zRi Z st P)) args s 0 0 (zA Z)) 0 0 (zh Z zm1 st) 5 31 [none, none, some (.int (a2)), some (.int (a3)), none] [.int (b0), .int (b1)] := by
  unfold w_X12_countedFrom_31 at h
  refine z_isub C dX12_countedFrom_31 ?_
  refine t_topi (fun x32 ex32 => ?_)
  have h := h x32 ex32
  refine z_istore C dX12_countedFrom_32 (lc' := [none, none, some (.int (a2)), some (.int (a3)), some (.int (x32))]) (by decide) rfl ?_
  refine z_goto C dX12_countedFrom_34 (tgt := 5) (by decide) ?_
  exact t_drop [false, false, true, true, true] rfl (hK5 a2 a3 x32 h)
def w_X12_countedFrom_5 (P : Int32 → Prop) (st : zTs)  : Nat → Int32 → Int32 → Int32 → Prop
  | 0, _, _, _ => False
  | n9 + 1, a2, a3, a4 => (a4 ≤ 0 → P a3) ∧ (¬ a4 ≤ 0 → ∀ x10 : Int32, x10 = a3 + 1 → ((((a2 >>> ((x10 - x10 / 7 * 7) &&& 31)) &&& 1) = 0 → w_X12_countedFrom_31 P st (w_X12_countedFrom_5 P st n9) a2 x10 (1) a4) ∧ (¬ ((a2 >>> ((x10 - x10 / 7 * 7) &&& 31)) &&& 1) = 0 → w_X12_countedFrom_31 P st (w_X12_countedFrom_5 P st n9) a2 x10 (0) a4)))
set_option maxHeartbeats 4000000 in
set_option maxRecDepth 100000 in
theorem j_X12_countedFrom_5 {P : Int32 → Prop} {st : zTs}  (hfl : l.stackTraces = false) (C : zC Z p s m args meth c cX12_countedFrom 5 RX12) (hr : meth.sig.returnType = (some .int)) (hn9 : True)  : ∀ (n9 : Nat) (a2 : Int32) (a3 : Int32) (a4 : Int32), w_X12_countedFrom_5 P st n9 a2 a3 a4 → zG Z ad0 h0 p l e ({ frames := 1, cells := 0, slots := 0, locals := 12 } : Room) s m args below meth c (MQ below (zQ Z ad0 h0 (zRi Z st P)) args s 0 0 (zA Z)) 0 0 (zh Z zm1 st) 5 5 [none, none, some (.int (a2)), some (.int (a3)), some (.int (a4))] [] := by
  intro n9
  induction n9 with
  | zero => intro a2 a3 a4 h; exact h.elim
  | succ n9 hK5 =>
    intro a2 a3 a4 h
    rw [w_X12_countedFrom_5] at h
    refine z_iload C dX12_countedFrom_5 rfl ?_
    refine z_if_le C dX12_countedFrom_7 (tgt := 37) (by decide) (fun c7 => ?_) (fun c7 => ?_)
    · have h := h.1 c7
      refine z_iload_n C dX12_countedFrom_37 (i := 3) rfl rfl ?_
      exact z_iret C dX12_countedFrom_38 hr rfl ⟨rfl, _, rfl, h⟩ (Nat.le_of_ble_eq_true rfl) (Nat.le_of_ble_eq_true rfl)
    · have h := h.2 c7
      obtain ⟨x10, ex10⟩ : ∃ z : Int32, z = a3 + 1 := ⟨_, rfl⟩
      have h := h x10 ex10
      refine z_iinc C dX12_countedFrom_10 (v := x10) (lc' := [none, none, some (.int (a2)), some (.int (x10)), some (.int (a4))]) rfl (by decide) (by rw [ex10]; rfl) rfl ?_
      refine z_iload C dX12_countedFrom_13 rfl ?_
      refine z_iload_n C dX12_countedFrom_15 (i := 2) rfl rfl ?_
      refine z_iload_n C dX12_countedFrom_16 (i := 3) rfl rfl ?_
      refine z_bipush C dX12_countedFrom_17 (v := 7) (by decide) ?_
      refine z_irem C dX12_countedFrom_19 (by decide) ?_
      refine z_ishr C dX12_countedFrom_20 ?_
      refine z_iconst C dX12_countedFrom_21 (v := 1) (by decide) ?_
      refine z_iand C dX12_countedFrom_22 ?_
      refine z_if_ne C dX12_countedFrom_23 (tgt := 30) (by decide) (fun c23 => ?_) (fun c23 => ?_)
      · have h := h.2 c23
        refine z_iconst C dX12_countedFrom_30 (v := 0) (by decide) ?_
        exact t_drop [false, false, true, true, false] rfl (j_X12_countedFrom_31 hfl C hr hn9 hK5 a2 x10 (0) a4 h)
      · have h := h.1 c23
        refine z_iconst C dX12_countedFrom_26 (v := 1) (by decide) ?_
        refine z_goto C dX12_countedFrom_27 (tgt := 31) (by decide) ?_
        exact t_drop [false, false, true, true, false] rfl (j_X12_countedFrom_31 hfl C hr hn9 hK5 a2 x10 (1) a4 h)
def w_X12_countedFrom (st : zTs) (a0 : Int32) (a1 : Int32) (a2 : Int32) (P : Int32 → Prop) : Prop := w_X12_countedFrom_5 P st zfu a2 a0 a1
set_option maxHeartbeats 4000000 in
set_option maxRecDepth 100000 in
theorem c_X12_countedFrom {Z : zZ} {l : Launch} (hfl : l.stackTraces = false) {st : zTs} {a0 : Int32} {a1 : Int32} {a2 : Int32} {P : Int32 → Prop} (h : w_X12_countedFrom st a0 a1 a2 P) : zN Z l yX12_countedFrom cX12_countedFrom 5 (some .int) ({ frames := 1, cells := 0, slots := 0, locals := 12 } : Room) (zh Z zm1 st) [.int (a0), .int (a1), .int (a2)] (zRi Z st P) := by
  unfold w_X12_countedFrom at h
  refine z_enterN (by decide) (Nat.le_of_ble_eq_true rfl) (lc0 := [some (.int (a0)), some (.int (a1)), some (.int (a2)), none, none]) rfl ?_
  intro p e s m args below meth c ad0 C hr _
  have hn9 : True := trivial
  replace C : zC Z p s m args meth c cX12_countedFrom 5 RX12 := C
  refine z_iload_n C dX12_countedFrom_0 (i := 0) rfl rfl ?_
  refine z_istore_n C dX12_countedFrom_1 (i := 3) (lc' := [some (.int (a0)), some (.int (a1)), some (.int (a2)), some (.int (a0)), none]) rfl (by decide) rfl ?_
  refine z_iload_n C dX12_countedFrom_2 (i := 1) rfl rfl ?_
  refine z_istore C dX12_countedFrom_3 (lc' := [some (.int (a0)), some (.int (a1)), some (.int (a2)), some (.int (a0)), some (.int (a1))]) (by decide) rfl ?_
  exact t_drop [false, false, true, true, true] rfl (j_X12_countedFrom_5 hfl C hr hn9  zfu a2 a0 a1 h)
end
