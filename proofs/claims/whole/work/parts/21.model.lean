section
variable {Z : zZ} {p : Program} {l : Launch} {e : Env} {s : State} {m : MethodId} {args : Array Value} {below : List Frame} {meth : Method} {c : Code} {ad0 : Nat → Nat} {h0 : zH}
def w_X12_thrown (st : zTs)  (P : Int32 → Prop) : Prop := P (zgF st 100 0 0)
set_option maxHeartbeats 4000000 in
set_option maxRecDepth 100000 in
theorem c_X12_thrown {Z : zZ} {l : Launch} (hfl : l.stackTraces = false) {st : zTs}  {P : Int32 → Prop} (h : w_X12_thrown st  P) : zN Z l yX12_thrown cX12_thrown 1 (some .int) ({ frames := 1, cells := 0, slots := 0, locals := 12 } : Room) (zh Z zm1 st) [.ref 100] (zRi Z st P) := by
  unfold w_X12_thrown at h
  refine z_enterN (by decide) (Nat.le_of_ble_eq_true rfl) (lc0 := [some (.ref 100)]) rfl ?_
  intro p e s m args below meth c ad0 C hr _
  have hn9 : True := trivial
  replace C : zC Z p s m args meth c cX12_thrown 1 RX12 := C
  refine z_aload_n C dX12_thrown_0 (i := 0) rfl rfl ?_
  refine t_get C dX12_thrown_1 fl_X12_199 (k := 100) (i := 0) (by decide) rfl (fg_100_0 _ _ _) ?_
  exact z_iret C dX12_thrown_4 hr rfl ⟨rfl, _, rfl, h⟩ (Nat.le_of_ble_eq_true rfl) (Nat.le_of_ble_eq_true rfl)
def w_X12_bad (st : zTs) (a1 : Int32) (a2 : Int32) (P : Int32 → zTs → Prop) : Prop := (a1 = 0 → (a1 = 0 ∨ a1 = 1) ∧ (P a1 st)) ∧ (¬ a1 = 0 → ∀ s6 : zTs, s6 = zuF st 100 0 0 a2 → ((a1 = 0 ∨ a1 = 1) ∧ (P a1 s6)))
set_option maxHeartbeats 4000000 in
set_option maxRecDepth 100000 in
theorem c_X12_bad {Z : zZ} {l : Launch} (hfl : l.stackTraces = false) {st : zTs} {a1 : Int32} {a2 : Int32} {P : Int32 → zTs → Prop} (h : w_X12_bad st a1 a2 P) : zN Z l yX12_bad cX12_bad 3 (some .boolean) ({ frames := 1, cells := 0, slots := 0, locals := 12 } : Room) (zh Z zm1 st) [.ref 100, .int (a1), .int (a2)] (zWi Z P) := by
  unfold w_X12_bad at h
  refine z_enterN (by decide) (Nat.le_of_ble_eq_true rfl) (lc0 := [some (.ref 100), some (.int (a1)), some (.int (a2))]) rfl ?_
  intro p e s m args below meth c ad0 C hr _
  have hn9 : True := trivial
  replace C : zC Z p s m args meth c cX12_bad 3 RX12 := C
  refine z_iload_n C dX12_bad_0 (i := 1) rfl rfl ?_
  refine z_if_eq C dX12_bad_1 (tgt := 9) (by decide) (fun c1 => ?_) (fun c1 => ?_)
  · have h := h.1 c1
    refine z_iload_n C dX12_bad_9 (i := 1) rfl rfl ?_
    obtain ⟨g10, h⟩ := h
    exact z_iret C dX12_bad_10 hr (zn_bool g10) ⟨_, _, rfl, rfl, h⟩ (Nat.le_of_ble_eq_true rfl) (Nat.le_of_ble_eq_true rfl)
  · have h := h.2 c1
    refine z_aload_n C dX12_bad_4 (i := 0) rfl rfl ?_
    refine z_iload_n C dX12_bad_5 (i := 2) rfl rfl ?_
    refine t_put C dX12_bad_6 fq_X12_199 (Or.inl rfl) (k := 100) (i := 0) (by decide) rfl ⟨rfl, rfl⟩ (fp_100_0 _ _ _ _ _) ?_
    refine t_tops (fun s6 es6 => ?_)
    have h := h s6 es6
    refine z_iload_n C dX12_bad_9 (i := 1) rfl rfl ?_
    obtain ⟨g10, h⟩ := h
    exact z_iret C dX12_bad_10 hr (zn_bool g10) ⟨_, _, rfl, rfl, h⟩ (Nat.le_of_ble_eq_true rfl) (Nat.le_of_ble_eq_true rfl)
def w_X12_owner_20 (P : Int32 → zTs → Prop)  (st : zTs) (b0 : Int32) : Prop := w_X12_bad st b0 1 (fun (r21 : Int32) (s21 : zTs) => ((r21 = 0 → ∀ s36 : zTs, s36 = zuF s21 100 0 1 ((zgF s21 100 0 1) + 1) → (P ((zgF s36 100 0 1) - 1) s36)) ∧ (¬ r21 = 0 → P 0 s21)))
set_option maxHeartbeats 4000000 in
set_option maxRecDepth 100000 in
theorem j_X12_owner_20 {P : Int32 → zTs → Prop}  (hfl : l.stackTraces = false) (C : zC Z p s m args meth c cX12_owner 1 RX12) (hr : meth.sig.returnType = (some .int)) (hn9 : True)  (st : zTs) (b0 : Int32) (h : w_X12_owner_20 P st b0) : zG Z ad0 h0 p l e ({ frames := 2, cells := 0, slots := 0, locals := 34 } : Room) s m args below meth c (MQ below (zQ Z ad0 h0 (zWi Z P)) args s 0 0 (zA Z)) 0 0 (zh Z zm1 st) 1 20 [some (.ref 100)] [.int (b0), .ref 100] := by
  unfold w_X12_owner_20 at h
  refine z_iconst C dX12_owner_20 (v := 1) (by decide) ?_
  refine t_callV C (rest := []) (c2 := 0) (s2 := 0) (kd := 100) (i := 0) [.int (b0), .int (1)] dX12_owner_21 lk_X12_205 li_X12_bad le_X12_bad (c_X12_bad hfl h) rfl rfl (by decide) rfl ⟨_, rfl⟩ rfl ⟨Nat.le_of_ble_eq_true rfl, Nat.le_of_ble_eq_true rfl⟩ (Nat.le_of_ble_eq_true rfl) ⟨Nat.le_of_ble_eq_true rfl, Nat.le_of_ble_eq_true rfl, Nat.le_of_ble_eq_true rfl, Nat.le_of_ble_eq_true rfl⟩ (k_Wi fun r21 s21 h => ?_)
  refine z_if_eq C dX12_owner_24 (tgt := 29) (by decide) (fun c24 => ?_) (fun c24 => ?_)
  · have h := h.1 c24
    refine z_aload_n C dX12_owner_29 (i := 0) rfl rfl ?_
    refine z_dup C dX12_owner_30 rfl ?_
    refine t_get C dX12_owner_31 fl_X12_202 (k := 100) (i := 0) (by decide) rfl (fg_100_1 _ _ _) ?_
    refine z_iconst C dX12_owner_34 (v := 1) (by decide) ?_
    refine z_iadd C dX12_owner_35 ?_
    refine t_put C dX12_owner_36 fq_X12_202 (Or.inl rfl) (k := 100) (i := 0) (by decide) rfl ⟨rfl, rfl⟩ (fp_100_1 _ _ _ _ _) ?_
    refine t_tops (fun s36 es36 => ?_)
    have h := h s36 es36
    refine z_aload_n C dX12_owner_39 (i := 0) rfl rfl ?_
    refine t_get C dX12_owner_40 fl_X12_202 (k := 100) (i := 0) (by decide) rfl (fg_100_1 _ _ _) ?_
    refine z_iconst C dX12_owner_43 (v := 1) (by decide) ?_
    refine z_isub C dX12_owner_44 ?_
    exact z_iret C dX12_owner_45 hr rfl ⟨_, _, rfl, rfl, h⟩ (Nat.le_of_ble_eq_true rfl) (Nat.le_of_ble_eq_true rfl)
  · have h := h.2 c24
    refine z_iconst C dX12_owner_27 (v := 0) (by decide) ?_
    exact z_iret C dX12_owner_28 hr rfl ⟨_, _, rfl, rfl, h⟩ (Nat.le_of_ble_eq_true rfl) (Nat.le_of_ble_eq_true rfl)
def w_X12_owner (st : zTs)  (P : Int32 → zTs → Prop) : Prop := ∀ s2 : zTs, s2 = zuF st 100 0 0 0 → (((zgF s2 100 0 1) = 20 → w_X12_owner_20 P s2 (1)) ∧ (¬ (zgF s2 100 0 1) = 20 → w_X12_owner_20 P s2 (0)))
set_option maxHeartbeats 4000000 in
set_option maxRecDepth 100000 in
theorem c_X12_owner {Z : zZ} {l : Launch} (hfl : l.stackTraces = false) {st : zTs}  {P : Int32 → zTs → Prop} (h : w_X12_owner st  P) : zN Z l yX12_owner cX12_owner 1 (some .int) ({ frames := 2, cells := 0, slots := 0, locals := 34 } : Room) (zh Z zm1 st) [.ref 100] (zWi Z P) := by
  unfold w_X12_owner at h
  refine z_enterN (by decide) (Nat.le_of_ble_eq_true rfl) (lc0 := [some (.ref 100)]) rfl ?_
  intro p e s m args below meth c ad0 C hr _
  have hn9 : True := trivial
  replace C : zC Z p s m args meth c cX12_owner 1 RX12 := C
  refine z_aload_n C dX12_owner_0 (i := 0) rfl rfl ?_
  refine z_iconst C dX12_owner_1 (v := 0) (by decide) ?_
  refine t_put C dX12_owner_2 fq_X12_199 (Or.inl rfl) (k := 100) (i := 0) (by decide) rfl ⟨rfl, rfl⟩ (fp_100_0 _ _ _ _ _) ?_
  refine t_tops (fun s2 es2 => ?_)
  have h := h s2 es2
  refine z_aload_n C dX12_owner_5 (i := 0) rfl rfl ?_
  refine z_aload_n C dX12_owner_6 (i := 0) rfl rfl ?_
  refine t_get C dX12_owner_7 fl_X12_202 (k := 100) (i := 0) (by decide) rfl (fg_100_1 _ _ _) ?_
  refine z_bipush C dX12_owner_10 (v := 20) (by decide) ?_
  refine z_icmp_ne C dX12_owner_12 (tgt := 19) (by decide) (fun c12 => ?_) (fun c12 => ?_)
  · have h := h.2 c12
    refine z_iconst C dX12_owner_19 (v := 0) (by decide) ?_
    exact t_drop [true] rfl (j_X12_owner_20 hfl C hr hn9  s2 (0) h)
  · have h := h.1 c12
    refine z_iconst C dX12_owner_15 (v := 1) (by decide) ?_
    refine z_goto C dX12_owner_16 (tgt := 20) (by decide) ?_
    exact t_drop [true] rfl (j_X12_owner_20 hfl C hr hn9  s2 (1) h)
def w_X12_isOwner (st : zTs) (a1 : Int32) (P : Int32 → Prop) : Prop := (a1 < 0 → P 0) ∧ (¬ a1 < 0 → ((zgF st 100 0 1) ≤ a1 → P 0) ∧ (¬ (zgF st 100 0 1) ≤ a1 → P 1))
set_option maxHeartbeats 4000000 in
set_option maxRecDepth 100000 in
theorem c_X12_isOwner {Z : zZ} {l : Launch} (hfl : l.stackTraces = false) {st : zTs} {a1 : Int32} {P : Int32 → Prop} (h : w_X12_isOwner st a1 P) : zN Z l yX12_isOwner cX12_isOwner 2 (some .boolean) ({ frames := 1, cells := 0, slots := 0, locals := 12 } : Room) (zh Z zm1 st) [.ref 100, .int (a1)] (zRi Z st P) := by
  unfold w_X12_isOwner at h
  refine z_enterN (by decide) (Nat.le_of_ble_eq_true rfl) (lc0 := [some (.ref 100), some (.int (a1))]) rfl ?_
  intro p e s m args below meth c ad0 C hr _
  have hn9 : True := trivial
  replace C : zC Z p s m args meth c cX12_isOwner 2 RX12 := C
  refine z_iload_n C dX12_isOwner_0 (i := 1) rfl rfl ?_
  refine z_if_lt C dX12_isOwner_1 (tgt := 16) (by decide) (fun c1 => ?_) (fun c1 => ?_)
  · have h := h.1 c1
    refine z_iconst C dX12_isOwner_16 (v := 0) (by decide) ?_
    exact z_iret C dX12_isOwner_17 hr rfl ⟨rfl, _, rfl, h⟩ (Nat.le_of_ble_eq_true rfl) (Nat.le_of_ble_eq_true rfl)
  · have h := h.2 c1
    refine z_iload_n C dX12_isOwner_4 (i := 1) rfl rfl ?_
    refine z_aload_n C dX12_isOwner_5 (i := 0) rfl rfl ?_
    refine t_get C dX12_isOwner_6 fl_X12_202 (k := 100) (i := 0) (by decide) rfl (fg_100_1 _ _ _) ?_
    refine z_icmp_ge C dX12_isOwner_9 (tgt := 16) (by decide) (fun c9 => ?_) (fun c9 => ?_)
    · have h := h.1 c9
      refine z_iconst C dX12_isOwner_16 (v := 0) (by decide) ?_
      exact z_iret C dX12_isOwner_17 hr rfl ⟨rfl, _, rfl, h⟩ (Nat.le_of_ble_eq_true rfl) (Nat.le_of_ble_eq_true rfl)
    · have h := h.2 c9
      refine z_iconst C dX12_isOwner_12 (v := 1) (by decide) ?_
      refine z_goto C dX12_isOwner_13 (tgt := 17) (by decide) ?_
      exact z_iret C dX12_isOwner_17 hr rfl ⟨rfl, _, rfl, h⟩ (Nat.le_of_ble_eq_true rfl) (Nat.le_of_ble_eq_true rfl)
def w_X12_isWall (st : zTs) (a1 : Int32) (P : Int32 → Prop) : Prop := (a1 < 0 → P 0) ∧ (¬ a1 < 0 → ((zgF st 100 0 2) ≤ a1 → P 0) ∧ (¬ (zgF st 100 0 2) ≤ a1 → P 1))
set_option maxHeartbeats 4000000 in
set_option maxRecDepth 100000 in
theorem c_X12_isWall {Z : zZ} {l : Launch} (hfl : l.stackTraces = false) {st : zTs} {a1 : Int32} {P : Int32 → Prop} (h : w_X12_isWall st a1 P) : zN Z l yX12_isWall cX12_isWall 2 (some .boolean) ({ frames := 1, cells := 0, slots := 0, locals := 12 } : Room) (zh Z zm1 st) [.ref 100, .int (a1)] (zRi Z st P) := by
  unfold w_X12_isWall at h
  refine z_enterN (by decide) (Nat.le_of_ble_eq_true rfl) (lc0 := [some (.ref 100), some (.int (a1))]) rfl ?_
  intro p e s m args below meth c ad0 C hr _
  have hn9 : True := trivial
  replace C : zC Z p s m args meth c cX12_isWall 2 RX12 := C
  refine z_iload_n C dX12_isWall_0 (i := 1) rfl rfl ?_
  refine z_if_lt C dX12_isWall_1 (tgt := 16) (by decide) (fun c1 => ?_) (fun c1 => ?_)
  · have h := h.1 c1
    refine z_iconst C dX12_isWall_16 (v := 0) (by decide) ?_
    exact z_iret C dX12_isWall_17 hr rfl ⟨rfl, _, rfl, h⟩ (Nat.le_of_ble_eq_true rfl) (Nat.le_of_ble_eq_true rfl)
  · have h := h.2 c1
    refine z_iload_n C dX12_isWall_4 (i := 1) rfl rfl ?_
    refine z_aload_n C dX12_isWall_5 (i := 0) rfl rfl ?_
    refine t_get C dX12_isWall_6 fl_X12_209 (k := 100) (i := 0) (by decide) rfl (fg_100_2 _ _ _) ?_
    refine z_icmp_ge C dX12_isWall_9 (tgt := 16) (by decide) (fun c9 => ?_) (fun c9 => ?_)
    · have h := h.1 c9
      refine z_iconst C dX12_isWall_16 (v := 0) (by decide) ?_
      exact z_iret C dX12_isWall_17 hr rfl ⟨rfl, _, rfl, h⟩ (Nat.le_of_ble_eq_true rfl) (Nat.le_of_ble_eq_true rfl)
    · have h := h.2 c9
      refine z_iconst C dX12_isWall_12 (v := 1) (by decide) ?_
      refine z_goto C dX12_isWall_13 (tgt := 17) (by decide) ?_
      exact z_iret C dX12_isWall_17 hr rfl ⟨rfl, _, rfl, h⟩ (Nat.le_of_ble_eq_true rfl) (Nat.le_of_ble_eq_true rfl)
def w_X12_isSide (st : zTs) (a0 : Int32) (P : Int32 → Prop) : Prop := (a0 = 0 → P 1) ∧ (¬ a0 = 0 → (a0 = 1 → P 1) ∧ (¬ a0 = 1 → P 0))
set_option maxHeartbeats 4000000 in
set_option maxRecDepth 100000 in
theorem c_X12_isSide {Z : zZ} {l : Launch} (hfl : l.stackTraces = false) {st : zTs} {a0 : Int32} {P : Int32 → Prop} (h : w_X12_isSide st a0 P) : zN Z l yX12_isSide cX12_isSide 1 (some .boolean) ({ frames := 1, cells := 0, slots := 0, locals := 12 } : Room) (zh Z zm1 st) [.int (a0)] (zRi Z st P) := by
  unfold w_X12_isSide at h
  refine z_enterN (by decide) (Nat.le_of_ble_eq_true rfl) (lc0 := [some (.int (a0))]) rfl ?_
  intro p e s m args below meth c ad0 C hr _
  have hn9 : True := trivial
  replace C : zC Z p s m args meth c cX12_isSide 1 RX12 := C
  refine z_iload_n C dX12_isSide_0 (i := 0) rfl rfl ?_
  refine z_if_eq C dX12_isSide_1 (tgt := 9) (by decide) (fun c1 => ?_) (fun c1 => ?_)
  · have h := h.1 c1
    refine z_iconst C dX12_isSide_9 (v := 1) (by decide) ?_
    refine z_goto C dX12_isSide_10 (tgt := 14) (by decide) ?_
    exact z_iret C dX12_isSide_14 hr rfl ⟨rfl, _, rfl, h⟩ (Nat.le_of_ble_eq_true rfl) (Nat.le_of_ble_eq_true rfl)
  · have h := h.2 c1
    refine z_iload_n C dX12_isSide_4 (i := 0) rfl rfl ?_
    refine z_iconst C dX12_isSide_5 (v := 1) (by decide) ?_
    refine z_icmp_ne C dX12_isSide_6 (tgt := 13) (by decide) (fun c6 => ?_) (fun c6 => ?_)
    · have h := h.2 c6
      refine z_iconst C dX12_isSide_13 (v := 0) (by decide) ?_
      exact z_iret C dX12_isSide_14 hr rfl ⟨rfl, _, rfl, h⟩ (Nat.le_of_ble_eq_true rfl) (Nat.le_of_ble_eq_true rfl)
    · have h := h.1 c6
      refine z_iconst C dX12_isSide_9 (v := 1) (by decide) ?_
      refine z_goto C dX12_isSide_10 (tgt := 14) (by decide) ?_
      exact z_iret C dX12_isSide_14 hr rfl ⟨rfl, _, rfl, h⟩ (Nat.le_of_ble_eq_true rfl) (Nat.le_of_ble_eq_true rfl)
def w_X12_wall_49 (P : Int32 → zTs → Prop)  (st : zTs) (a1 : Int32) (a2 : Int32) (b0 : Int32) : Prop := w_X12_bad st b0 2 (fun (r50 : Int32) (s50 : zTs) => ((r50 = 0 → vp_in (2 * (zgF s50 100 0 2)) 12 ∧ (∀ s69 : zTs, s69 = zuA s50 101 0 (2 * (zgF s50 100 0 2) : Int32).toNatClampNeg a1 → (vp_in ((2 * (zgF s69 100 0 2)) + 1) 12 ∧ (∀ s83 : zTs, s83 = zuA s69 101 0 ((2 * (zgF s69 100 0 2)) + 1 : Int32).toNatClampNeg a2 → (∀ s91 : zTs, s91 = zuF s83 100 0 2 ((zgF s83 100 0 2) + 1) → (P ((zgF s91 100 0 2) - 1) s91)))))) ∧ (¬ r50 = 0 → P 0 s50)))
set_option maxHeartbeats 4000000 in
set_option maxRecDepth 100000 in
theorem j_X12_wall_49 {P : Int32 → zTs → Prop}  (hfl : l.stackTraces = false) (C : zC Z p s m args meth c cX12_wall 3 RX12) (hr : meth.sig.returnType = (some .int)) (hn9 : True)  (st : zTs) (a1 : Int32) (a2 : Int32) (b0 : Int32) (h : w_X12_wall_49 P st a1 a2 b0) : zG Z ad0 h0 p l e ({ frames := 2, cells := 0, slots := 0, locals := 34 } : Room) s m args below meth c (MQ below (zQ Z ad0 h0 (zWi Z P)) args s 0 0 (zA Z)) 0 0 (zh Z zm1 st) 3 49 [some (.ref 100), some (.int (a1)), some (.int (a2))] [.int (b0), .ref 100] := by
  unfold w_X12_wall_49 at h
  refine z_iconst C dX12_wall_49 (v := 2) (by decide) ?_
  refine t_callV C (rest := []) (c2 := 0) (s2 := 0) (kd := 100) (i := 0) [.int (b0), .int (2)] dX12_wall_50 lk_X12_205 li_X12_bad le_X12_bad (c_X12_bad hfl h) rfl rfl (by decide) rfl ⟨_, rfl⟩ rfl ⟨Nat.le_of_ble_eq_true rfl, Nat.le_of_ble_eq_true rfl⟩ (Nat.le_of_ble_eq_true rfl) ⟨Nat.le_of_ble_eq_true rfl, Nat.le_of_ble_eq_true rfl, Nat.le_of_ble_eq_true rfl, Nat.le_of_ble_eq_true rfl⟩ (k_Wi fun r50 s50 h => ?_)
  refine z_if_eq C dX12_wall_53 (tgt := 58) (by decide) (fun c53 => ?_) (fun c53 => ?_)
  · have h := h.1 c53
    refine z_aload_n C dX12_wall_58 (i := 0) rfl rfl ?_
    refine t_get C dX12_wall_59 fl_X12_9 (k := 100) (i := 0) (by decide) rfl (fg_100_4 _ _ _) ?_
    refine z_iconst C dX12_wall_62 (v := 2) (by decide) ?_
    refine z_aload_n C dX12_wall_63 (i := 0) rfl rfl ?_
    refine t_get C dX12_wall_64 fl_X12_209 (k := 100) (i := 0) (by decide) rfl (fg_100_2 _ _ _) ?_
    refine z_imul C dX12_wall_67 ?_
    refine z_iload_n C dX12_wall_68 (i := 1) rfl rfl ?_
    obtain ⟨g69, h⟩ := h
    refine t_iast C dX12_wall_69 (k := 101) (i := 0) (by decide) rfl (fun s9 => sh_101 _ _ s9 _) g69 ?_
    refine t_tops (fun s69 es69 => ?_)
    have h := h s69 es69
    refine z_aload_n C dX12_wall_70 (i := 0) rfl rfl ?_
    refine t_get C dX12_wall_71 fl_X12_9 (k := 100) (i := 0) (by decide) rfl (fg_100_4 _ _ _) ?_
    refine z_iconst C dX12_wall_74 (v := 2) (by decide) ?_
    refine z_aload_n C dX12_wall_75 (i := 0) rfl rfl ?_
    refine t_get C dX12_wall_76 fl_X12_209 (k := 100) (i := 0) (by decide) rfl (fg_100_2 _ _ _) ?_
    refine z_imul C dX12_wall_79 ?_
    refine z_iconst C dX12_wall_80 (v := 1) (by decide) ?_
    refine z_iadd C dX12_wall_81 ?_
    refine z_iload_n C dX12_wall_82 (i := 2) rfl rfl ?_
    obtain ⟨g83, h⟩ := h
    refine t_iast C dX12_wall_83 (k := 101) (i := 0) (by decide) rfl (fun s9 => sh_101 _ _ s9 _) g83 ?_
    refine t_tops (fun s83 es83 => ?_)
    have h := h s83 es83
    refine z_aload_n C dX12_wall_84 (i := 0) rfl rfl ?_
    refine z_dup C dX12_wall_85 rfl ?_
    refine t_get C dX12_wall_86 fl_X12_209 (k := 100) (i := 0) (by decide) rfl (fg_100_2 _ _ _) ?_
    refine z_iconst C dX12_wall_89 (v := 1) (by decide) ?_
    refine z_iadd C dX12_wall_90 ?_
    refine t_put C dX12_wall_91 fq_X12_209 (Or.inl rfl) (k := 100) (i := 0) (by decide) rfl ⟨rfl, rfl⟩ (fp_100_2 _ _ _ _ _) ?_
    refine t_tops (fun s91 es91 => ?_)
    have h := h s91 es91
    refine z_aload_n C dX12_wall_94 (i := 0) rfl rfl ?_
    refine t_get C dX12_wall_95 fl_X12_209 (k := 100) (i := 0) (by decide) rfl (fg_100_2 _ _ _) ?_
    refine z_iconst C dX12_wall_98 (v := 1) (by decide) ?_
    refine z_isub C dX12_wall_99 ?_
    exact z_iret C dX12_wall_100 hr rfl ⟨_, _, rfl, rfl, h⟩ (Nat.le_of_ble_eq_true rfl) (Nat.le_of_ble_eq_true rfl)
  · have h := h.2 c53
    refine z_iconst C dX12_wall_56 (v := 0) (by decide) ?_
    exact z_iret C dX12_wall_57 hr rfl ⟨_, _, rfl, rfl, h⟩ (Nat.le_of_ble_eq_true rfl) (Nat.le_of_ble_eq_true rfl)
def w_X12_wall_27 (P : Int32 → zTs → Prop)  (st : zTs) (a1 : Int32) (a2 : Int32) (b0 : Int32) : Prop := w_X12_bad st b0 1 (fun (r28 : Int32) (s28 : zTs) => ((r28 = 0 → ((zgF s28 100 0 2) = 6 → w_X12_wall_49 P s28 a1 a2 (1)) ∧ (¬ (zgF s28 100 0 2) = 6 → w_X12_wall_49 P s28 a1 a2 (0))) ∧ (¬ r28 = 0 → P 0 s28)))
set_option maxHeartbeats 4000000 in
set_option maxRecDepth 100000 in
theorem j_X12_wall_27 {P : Int32 → zTs → Prop}  (hfl : l.stackTraces = false) (C : zC Z p s m args meth c cX12_wall 3 RX12) (hr : meth.sig.returnType = (some .int)) (hn9 : True)  (st : zTs) (a1 : Int32) (a2 : Int32) (b0 : Int32) (h : w_X12_wall_27 P st a1 a2 b0) : zG Z ad0 h0 p l e ({ frames := 2, cells := 0, slots := 0, locals := 34 } : Room) s m args below meth c (MQ below (zQ Z ad0 h0 (zWi Z P)) args s 0 0 (zA Z)) 0 0 (zh Z zm1 st) 3 27 [some (.ref 100), some (.int (a1)), some (.int (a2))] [.int (b0), .ref 100] := by
  unfold w_X12_wall_27 at h
  refine z_iconst C dX12_wall_27 (v := 1) (by decide) ?_
  refine t_callV C (rest := []) (c2 := 0) (s2 := 0) (kd := 100) (i := 0) [.int (b0), .int (1)] dX12_wall_28 lk_X12_205 li_X12_bad le_X12_bad (c_X12_bad hfl h) rfl rfl (by decide) rfl ⟨_, rfl⟩ rfl ⟨Nat.le_of_ble_eq_true rfl, Nat.le_of_ble_eq_true rfl⟩ (Nat.le_of_ble_eq_true rfl) ⟨Nat.le_of_ble_eq_true rfl, Nat.le_of_ble_eq_true rfl, Nat.le_of_ble_eq_true rfl, Nat.le_of_ble_eq_true rfl⟩ (k_Wi fun r28 s28 h => ?_)
  refine z_if_ne C dX12_wall_31 (tgt := 56) (by decide) (fun c31 => ?_) (fun c31 => ?_)
  · have h := h.2 c31
    refine z_iconst C dX12_wall_56 (v := 0) (by decide) ?_
    exact z_iret C dX12_wall_57 hr rfl ⟨_, _, rfl, rfl, h⟩ (Nat.le_of_ble_eq_true rfl) (Nat.le_of_ble_eq_true rfl)
  · have h := h.1 c31
    refine z_aload_n C dX12_wall_34 (i := 0) rfl rfl ?_
    refine z_aload_n C dX12_wall_35 (i := 0) rfl rfl ?_
    refine t_get C dX12_wall_36 fl_X12_209 (k := 100) (i := 0) (by decide) rfl (fg_100_2 _ _ _) ?_
    refine z_bipush C dX12_wall_39 (v := 6) (by decide) ?_
    refine z_icmp_ne C dX12_wall_41 (tgt := 48) (by decide) (fun c41 => ?_) (fun c41 => ?_)
    · have h := h.2 c41
      refine z_iconst C dX12_wall_48 (v := 0) (by decide) ?_
      exact t_drop [true, true, true] rfl (j_X12_wall_49 hfl C hr hn9  s28 a1 a2 (0) h)
    · have h := h.1 c41
      refine z_iconst C dX12_wall_44 (v := 1) (by decide) ?_
      refine z_goto C dX12_wall_45 (tgt := 49) (by decide) ?_
      exact t_drop [true, true, true] rfl (j_X12_wall_49 hfl C hr hn9  s28 a1 a2 (1) h)
def w_X12_wall (st : zTs) (a1 : Int32) (a2 : Int32) (P : Int32 → zTs → Prop) : Prop := ∀ s2 : zTs, s2 = zuF st 100 0 0 0 → (w_X12_isOwner s2 a1 (fun (r8 : Int32) => ((r8 = 0 → w_X12_wall_27 P s2 a1 a2 (1)) ∧ (¬ r8 = 0 → w_X12_isOwner s2 a2 (fun (r16 : Int32) => ((r16 = 0 → w_X12_wall_27 P s2 a1 a2 (1)) ∧ (¬ r16 = 0 → w_X12_wall_27 P s2 a1 a2 (0))))))))
set_option maxHeartbeats 4000000 in
set_option maxRecDepth 100000 in
theorem c_X12_wall {Z : zZ} {l : Launch} (hfl : l.stackTraces = false) {st : zTs} {a1 : Int32} {a2 : Int32} {P : Int32 → zTs → Prop} (h : w_X12_wall st a1 a2 P) : zN Z l yX12_wall cX12_wall 3 (some .int) ({ frames := 2, cells := 0, slots := 0, locals := 34 } : Room) (zh Z zm1 st) [.ref 100, .int (a1), .int (a2)] (zWi Z P) := by
  unfold w_X12_wall at h
  refine z_enterN (by decide) (Nat.le_of_ble_eq_true rfl) (lc0 := [some (.ref 100), some (.int (a1)), some (.int (a2))]) rfl ?_
  intro p e s m args below meth c ad0 C hr _
  have hn9 : True := trivial
  replace C : zC Z p s m args meth c cX12_wall 3 RX12 := C
  refine z_aload_n C dX12_wall_0 (i := 0) rfl rfl ?_
  refine z_iconst C dX12_wall_1 (v := 0) (by decide) ?_
  refine t_put C dX12_wall_2 fq_X12_199 (Or.inl rfl) (k := 100) (i := 0) (by decide) rfl ⟨rfl, rfl⟩ (fp_100_0 _ _ _ _ _) ?_
  refine t_tops (fun s2 es2 => ?_)
  have h := h s2 es2
  refine z_aload_n C dX12_wall_5 (i := 0) rfl rfl ?_
  refine z_aload_n C dX12_wall_6 (i := 0) rfl rfl ?_
  refine z_iload_n C dX12_wall_7 (i := 1) rfl rfl ?_
  refine t_callV C (rest := [.ref 100]) (c2 := 0) (s2 := 0) (kd := 100) (i := 0) [.int (a1)] dX12_wall_8 lk_X12_212 li_X12_isOwner le_X12_isOwner (c_X12_isOwner hfl h) rfl rfl (by decide) rfl ⟨_, rfl⟩ rfl ⟨Nat.le_of_ble_eq_true rfl, Nat.le_of_ble_eq_true rfl⟩ (Nat.le_of_ble_eq_true rfl) ⟨Nat.le_of_ble_eq_true rfl, Nat.le_of_ble_eq_true rfl, Nat.le_of_ble_eq_true rfl, Nat.le_of_ble_eq_true rfl⟩ (k_Ri fun r8 h => ?_)
  refine z_if_eq C dX12_wall_11 (tgt := 22) (by decide) (fun c11 => ?_) (fun c11 => ?_)
  · have h := h.1 c11
    refine z_iconst C dX12_wall_22 (v := 1) (by decide) ?_
    refine z_goto C dX12_wall_23 (tgt := 27) (by decide) ?_
    exact t_drop [true, true, true] rfl (j_X12_wall_27 hfl C hr hn9  s2 a1 a2 (1) h)
  · have h := h.2 c11
    refine z_aload_n C dX12_wall_14 (i := 0) rfl rfl ?_
    refine z_iload_n C dX12_wall_15 (i := 2) rfl rfl ?_
    refine t_callV C (rest := [.ref 100]) (c2 := 0) (s2 := 0) (kd := 100) (i := 0) [.int (a2)] dX12_wall_16 lk_X12_212 li_X12_isOwner le_X12_isOwner (c_X12_isOwner hfl h) rfl rfl (by decide) rfl ⟨_, rfl⟩ rfl ⟨Nat.le_of_ble_eq_true rfl, Nat.le_of_ble_eq_true rfl⟩ (Nat.le_of_ble_eq_true rfl) ⟨Nat.le_of_ble_eq_true rfl, Nat.le_of_ble_eq_true rfl, Nat.le_of_ble_eq_true rfl, Nat.le_of_ble_eq_true rfl⟩ (k_Ri fun r16 h => ?_)
    refine z_if_ne C dX12_wall_19 (tgt := 26) (by decide) (fun c19 => ?_) (fun c19 => ?_)
    · have h := h.2 c19
      refine z_iconst C dX12_wall_26 (v := 0) (by decide) ?_
      exact t_drop [true, true, true] rfl (j_X12_wall_27 hfl C hr hn9  s2 a1 a2 (0) h)
    · have h := h.1 c19
      refine z_iconst C dX12_wall_22 (v := 1) (by decide) ?_
      refine z_goto C dX12_wall_23 (tgt := 27) (by decide) ?_
      exact t_drop [true, true, true] rfl (j_X12_wall_27 hfl C hr hn9  s2 a1 a2 (1) h)
def w_X12_sell_47 (P : Int32 → zTs → Prop)  (st : zTs) (a1 : Int32) (a2 : Int32) (a3 : Int32) (b0 : Int32) : Prop := w_X12_bad st b0 2 (fun (r48 : Int32) (s48 : zTs) => ((r48 = 0 → vp_in ((2 * a1) + a2) 12 ∧ (∀ x66 : Int32, x66 = zgA s48 101 0 ((2 * a1) + a2 : Int32).toNatClampNeg → (vp_in ((2 * a1) + a2) 12 ∧ (∀ s78 : zTs, s78 = zuA s48 101 0 ((2 * a1) + a2 : Int32).toNatClampNeg a3 → (P x66 s78))))) ∧ (¬ r48 = 0 → P 0 s48)))
set_option maxHeartbeats 4000000 in
set_option maxRecDepth 100000 in
theorem j_X12_sell_47 {P : Int32 → zTs → Prop}  (hfl : l.stackTraces = false) (C : zC Z p s m args meth c cX12_sell 5 RX12) (hr : meth.sig.returnType = (some .int)) (hn9 : True)  (st : zTs) (a1 : Int32) (a2 : Int32) (a3 : Int32) (b0 : Int32) (h : w_X12_sell_47 P st a1 a2 a3 b0) : zG Z ad0 h0 p l e ({ frames := 2, cells := 0, slots := 0, locals := 34 } : Room) s m args below meth c (MQ below (zQ Z ad0 h0 (zWi Z P)) args s 0 0 (zA Z)) 0 0 (zh Z zm1 st) 5 47 [some (.ref 100), some (.int (a1)), some (.int (a2)), some (.int (a3)), none] [.int (b0), .ref 100] := by
  unfold w_X12_sell_47 at h
  refine z_iconst C dX12_sell_47 (v := 2) (by decide) ?_
  refine t_callV C (rest := []) (c2 := 0) (s2 := 0) (kd := 100) (i := 0) [.int (b0), .int (2)] dX12_sell_48 lk_X12_205 li_X12_bad le_X12_bad (c_X12_bad hfl h) rfl rfl (by decide) rfl ⟨_, rfl⟩ rfl ⟨Nat.le_of_ble_eq_true rfl, Nat.le_of_ble_eq_true rfl⟩ (Nat.le_of_ble_eq_true rfl) ⟨Nat.le_of_ble_eq_true rfl, Nat.le_of_ble_eq_true rfl, Nat.le_of_ble_eq_true rfl, Nat.le_of_ble_eq_true rfl⟩ (k_Wi fun r48 s48 h => ?_)
  refine z_if_eq C dX12_sell_51 (tgt := 56) (by decide) (fun c51 => ?_) (fun c51 => ?_)
  · have h := h.1 c51
    refine z_aload_n C dX12_sell_56 (i := 0) rfl rfl ?_
    refine t_get C dX12_sell_57 fl_X12_9 (k := 100) (i := 0) (by decide) rfl (fg_100_4 _ _ _) ?_
    refine z_iconst C dX12_sell_60 (v := 2) (by decide) ?_
    refine z_iload_n C dX12_sell_61 (i := 1) rfl rfl ?_
    refine z_imul C dX12_sell_62 ?_
    refine z_iload_n C dX12_sell_63 (i := 2) rfl rfl ?_
    refine z_iadd C dX12_sell_64 ?_
    obtain ⟨g65, h⟩ := h
    refine t_iald C dX12_sell_65 (k := 101) (i := 0) (by decide) rfl (sh_101 _ _ _ _) g65 ?_
    refine t_topi (fun x66 ex66 => ?_)
    have h := h x66 ex66
    refine z_istore C dX12_sell_66 (lc' := [some (.ref 100), some (.int (a1)), some (.int (a2)), some (.int (a3)), some (.int (x66))]) (by decide) rfl ?_
    refine z_aload_n C dX12_sell_68 (i := 0) rfl rfl ?_
    refine t_get C dX12_sell_69 fl_X12_9 (k := 100) (i := 0) (by decide) rfl (fg_100_4 _ _ _) ?_
    refine z_iconst C dX12_sell_72 (v := 2) (by decide) ?_
    refine z_iload_n C dX12_sell_73 (i := 1) rfl rfl ?_
    refine z_imul C dX12_sell_74 ?_
    refine z_iload_n C dX12_sell_75 (i := 2) rfl rfl ?_
    refine z_iadd C dX12_sell_76 ?_
    refine z_iload_n C dX12_sell_77 (i := 3) rfl rfl ?_
    obtain ⟨g78, h⟩ := h
    refine t_iast C dX12_sell_78 (k := 101) (i := 0) (by decide) rfl (fun s9 => sh_101 _ _ s9 _) g78 ?_
    refine t_tops (fun s78 es78 => ?_)
    have h := h s78 es78
    refine z_iload C dX12_sell_79 rfl ?_
    exact z_iret C dX12_sell_81 hr rfl ⟨_, _, rfl, rfl, h⟩ (Nat.le_of_ble_eq_true rfl) (Nat.le_of_ble_eq_true rfl)
  · have h := h.2 c51
    refine z_iconst C dX12_sell_54 (v := 0) (by decide) ?_
    exact z_iret C dX12_sell_55 hr rfl ⟨_, _, rfl, rfl, h⟩ (Nat.le_of_ble_eq_true rfl) (Nat.le_of_ble_eq_true rfl)
def w_X12_sell_27 (P : Int32 → zTs → Prop)  (st : zTs) (a1 : Int32) (a2 : Int32) (a3 : Int32) (b0 : Int32) : Prop := w_X12_bad st b0 1 (fun (r28 : Int32) (s28 : zTs) => ((r28 = 0 → w_X12_isSide s28 a2 (fun (r36 : Int32) => ((r36 = 0 → w_X12_sell_47 P s28 a1 a2 a3 (1)) ∧ (¬ r36 = 0 → w_X12_sell_47 P s28 a1 a2 a3 (0))))) ∧ (¬ r28 = 0 → P 0 s28)))
set_option maxHeartbeats 4000000 in
set_option maxRecDepth 100000 in
theorem j_X12_sell_27 {P : Int32 → zTs → Prop}  (hfl : l.stackTraces = false) (C : zC Z p s m args meth c cX12_sell 5 RX12) (hr : meth.sig.returnType = (some .int)) (hn9 : True)  (st : zTs) (a1 : Int32) (a2 : Int32) (a3 : Int32) (b0 : Int32) (h : w_X12_sell_27 P st a1 a2 a3 b0) : zG Z ad0 h0 p l e ({ frames := 2, cells := 0, slots := 0, locals := 34 } : Room) s m args below meth c (MQ below (zQ Z ad0 h0 (zWi Z P)) args s 0 0 (zA Z)) 0 0 (zh Z zm1 st) 5 27 [some (.ref 100), some (.int (a1)), some (.int (a2)), some (.int (a3)), none] [.int (b0), .ref 100] := by
  unfold w_X12_sell_27 at h
  refine z_iconst C dX12_sell_27 (v := 1) (by decide) ?_
  refine t_callV C (rest := []) (c2 := 0) (s2 := 0) (kd := 100) (i := 0) [.int (b0), .int (1)] dX12_sell_28 lk_X12_205 li_X12_bad le_X12_bad (c_X12_bad hfl h) rfl rfl (by decide) rfl ⟨_, rfl⟩ rfl ⟨Nat.le_of_ble_eq_true rfl, Nat.le_of_ble_eq_true rfl⟩ (Nat.le_of_ble_eq_true rfl) ⟨Nat.le_of_ble_eq_true rfl, Nat.le_of_ble_eq_true rfl, Nat.le_of_ble_eq_true rfl, Nat.le_of_ble_eq_true rfl⟩ (k_Wi fun r28 s28 h => ?_)
  refine z_if_ne C dX12_sell_31 (tgt := 54) (by decide) (fun c31 => ?_) (fun c31 => ?_)
  · have h := h.2 c31
    refine z_iconst C dX12_sell_54 (v := 0) (by decide) ?_
    exact z_iret C dX12_sell_55 hr rfl ⟨_, _, rfl, rfl, h⟩ (Nat.le_of_ble_eq_true rfl) (Nat.le_of_ble_eq_true rfl)
  · have h := h.1 c31
    refine z_aload_n C dX12_sell_34 (i := 0) rfl rfl ?_
    refine z_iload_n C dX12_sell_35 (i := 2) rfl rfl ?_
    refine t_callS C (rest := [.ref 100]) (c2 := 0) (s2 := 0) [.int (a2)] dX12_sell_36 lk_X12_219 ls_X12_isSide (c_X12_isSide hfl h) rfl rfl ⟨Nat.le_of_ble_eq_true rfl, Nat.le_of_ble_eq_true rfl⟩ (Nat.le_of_ble_eq_true rfl) ⟨Nat.le_of_ble_eq_true rfl, Nat.le_of_ble_eq_true rfl, Nat.le_of_ble_eq_true rfl, Nat.le_of_ble_eq_true rfl⟩ (k_Ri fun r36 h => ?_)
    refine z_if_ne C dX12_sell_39 (tgt := 46) (by decide) (fun c39 => ?_) (fun c39 => ?_)
    · have h := h.2 c39
      refine z_iconst C dX12_sell_46 (v := 0) (by decide) ?_
      exact t_drop [true, true, true, true, false] rfl (j_X12_sell_47 hfl C hr hn9  s28 a1 a2 a3 (0) h)
    · have h := h.1 c39
      refine z_iconst C dX12_sell_42 (v := 1) (by decide) ?_
      refine z_goto C dX12_sell_43 (tgt := 47) (by decide) ?_
      exact t_drop [true, true, true, true, false] rfl (j_X12_sell_47 hfl C hr hn9  s28 a1 a2 a3 (1) h)
def w_X12_sell (st : zTs) (a1 : Int32) (a2 : Int32) (a3 : Int32) (P : Int32 → zTs → Prop) : Prop := ∀ s2 : zTs, s2 = zuF st 100 0 0 0 → (w_X12_isWall s2 a1 (fun (r8 : Int32) => ((r8 = 0 → w_X12_sell_27 P s2 a1 a2 a3 (1)) ∧ (¬ r8 = 0 → w_X12_isOwner s2 a3 (fun (r16 : Int32) => ((r16 = 0 → w_X12_sell_27 P s2 a1 a2 a3 (1)) ∧ (¬ r16 = 0 → w_X12_sell_27 P s2 a1 a2 a3 (0))))))))
set_option maxHeartbeats 4000000 in
set_option maxRecDepth 100000 in
theorem c_X12_sell {Z : zZ} {l : Launch} (hfl : l.stackTraces = false) {st : zTs} {a1 : Int32} {a2 : Int32} {a3 : Int32} {P : Int32 → zTs → Prop} (h : w_X12_sell st a1 a2 a3 P) : zN Z l yX12_sell cX12_sell 5 (some .int) ({ frames := 2, cells := 0, slots := 0, locals := 34 } : Room) (zh Z zm1 st) [.ref 100, .int (a1), .int (a2), .int (a3)] (zWi Z P) := by
  unfold w_X12_sell at h
  refine z_enterN (by decide) (Nat.le_of_ble_eq_true rfl) (lc0 := [some (.ref 100), some (.int (a1)), some (.int (a2)), some (.int (a3)), none]) rfl ?_
  intro p e s m args below meth c ad0 C hr _
  have hn9 : True := trivial
  replace C : zC Z p s m args meth c cX12_sell 5 RX12 := C
  refine z_aload_n C dX12_sell_0 (i := 0) rfl rfl ?_
  refine z_iconst C dX12_sell_1 (v := 0) (by decide) ?_
  refine t_put C dX12_sell_2 fq_X12_199 (Or.inl rfl) (k := 100) (i := 0) (by decide) rfl ⟨rfl, rfl⟩ (fp_100_0 _ _ _ _ _) ?_
  refine t_tops (fun s2 es2 => ?_)
  have h := h s2 es2
  refine z_aload_n C dX12_sell_5 (i := 0) rfl rfl ?_
  refine z_aload_n C dX12_sell_6 (i := 0) rfl rfl ?_
  refine z_iload_n C dX12_sell_7 (i := 1) rfl rfl ?_
  refine t_callV C (rest := [.ref 100]) (c2 := 0) (s2 := 0) (kd := 100) (i := 0) [.int (a1)] dX12_sell_8 lk_X12_216 li_X12_isWall le_X12_isWall (c_X12_isWall hfl h) rfl rfl (by decide) rfl ⟨_, rfl⟩ rfl ⟨Nat.le_of_ble_eq_true rfl, Nat.le_of_ble_eq_true rfl⟩ (Nat.le_of_ble_eq_true rfl) ⟨Nat.le_of_ble_eq_true rfl, Nat.le_of_ble_eq_true rfl, Nat.le_of_ble_eq_true rfl, Nat.le_of_ble_eq_true rfl⟩ (k_Ri fun r8 h => ?_)
  refine z_if_eq C dX12_sell_11 (tgt := 22) (by decide) (fun c11 => ?_) (fun c11 => ?_)
  · have h := h.1 c11
    refine z_iconst C dX12_sell_22 (v := 1) (by decide) ?_
    refine z_goto C dX12_sell_23 (tgt := 27) (by decide) ?_
    exact t_drop [true, true, true, true, false] rfl (j_X12_sell_27 hfl C hr hn9  s2 a1 a2 a3 (1) h)
  · have h := h.2 c11
    refine z_aload_n C dX12_sell_14 (i := 0) rfl rfl ?_
    refine z_iload_n C dX12_sell_15 (i := 3) rfl rfl ?_
    refine t_callV C (rest := [.ref 100]) (c2 := 0) (s2 := 0) (kd := 100) (i := 0) [.int (a3)] dX12_sell_16 lk_X12_212 li_X12_isOwner le_X12_isOwner (c_X12_isOwner hfl h) rfl rfl (by decide) rfl ⟨_, rfl⟩ rfl ⟨Nat.le_of_ble_eq_true rfl, Nat.le_of_ble_eq_true rfl⟩ (Nat.le_of_ble_eq_true rfl) ⟨Nat.le_of_ble_eq_true rfl, Nat.le_of_ble_eq_true rfl, Nat.le_of_ble_eq_true rfl, Nat.le_of_ble_eq_true rfl⟩ (k_Ri fun r16 h => ?_)
    refine z_if_ne C dX12_sell_19 (tgt := 26) (by decide) (fun c19 => ?_) (fun c19 => ?_)
    · have h := h.2 c19
      refine z_iconst C dX12_sell_26 (v := 0) (by decide) ?_
      exact t_drop [true, true, true, true, false] rfl (j_X12_sell_27 hfl C hr hn9  s2 a1 a2 a3 (0) h)
    · have h := h.1 c19
      refine z_iconst C dX12_sell_22 (v := 1) (by decide) ?_
      refine z_goto C dX12_sell_23 (tgt := 27) (by decide) ?_
      exact t_drop [true, true, true, true, false] rfl (j_X12_sell_27 hfl C hr hn9  s2 a1 a2 a3 (1) h)
def w_X12_wait_46 (P : Int32 → zTs → Prop)  (st : zTs) (a1 : Int32) (b0 : Int32) : Prop := w_X12_bad st b0 2 (fun (r47 : Int32) (s47 : zTs) => ((r47 = 0 → ∀ s62 : zTs, s62 = zuF s47 100 0 3 ((zgF s47 100 0 3) + a1) → (P (zgF s62 100 0 3) s62)) ∧ (¬ r47 = 0 → P 0 s47)))
set_option maxHeartbeats 4000000 in
set_option maxRecDepth 100000 in
theorem j_X12_wait_46 {P : Int32 → zTs → Prop}  (hfl : l.stackTraces = false) (C : zC Z p s m args meth c cX12_wait 2 RX12) (hr : meth.sig.returnType = (some .int)) (hn9 : True)  (st : zTs) (a1 : Int32) (b0 : Int32) (h : w_X12_wait_46 P st a1 b0) : zG Z ad0 h0 p l e ({ frames := 2, cells := 0, slots := 0, locals := 34 } : Room) s m args below meth c (MQ below (zQ Z ad0 h0 (zWi Z P)) args s 0 0 (zA Z)) 0 0 (zh Z zm1 st) 2 46 [some (.ref 100), some (.int (a1))] [.int (b0), .ref 100] := by
  unfold w_X12_wait_46 at h
  refine z_iconst C dX12_wait_46 (v := 2) (by decide) ?_
  refine t_callV C (rest := []) (c2 := 0) (s2 := 0) (kd := 100) (i := 0) [.int (b0), .int (2)] dX12_wait_47 lk_X12_205 li_X12_bad le_X12_bad (c_X12_bad hfl h) rfl rfl (by decide) rfl ⟨_, rfl⟩ rfl ⟨Nat.le_of_ble_eq_true rfl, Nat.le_of_ble_eq_true rfl⟩ (Nat.le_of_ble_eq_true rfl) ⟨Nat.le_of_ble_eq_true rfl, Nat.le_of_ble_eq_true rfl, Nat.le_of_ble_eq_true rfl, Nat.le_of_ble_eq_true rfl⟩ (k_Wi fun r47 s47 h => ?_)
  refine z_if_eq C dX12_wait_50 (tgt := 55) (by decide) (fun c50 => ?_) (fun c50 => ?_)
  · have h := h.1 c50
    refine z_aload_n C dX12_wait_55 (i := 0) rfl rfl ?_
    refine z_dup C dX12_wait_56 rfl ?_
    refine t_get C dX12_wait_57 fl_X12_222 (k := 100) (i := 0) (by decide) rfl (fg_100_3 _ _ _) ?_
    refine z_iload_n C dX12_wait_60 (i := 1) rfl rfl ?_
    refine z_iadd C dX12_wait_61 ?_
    refine t_put C dX12_wait_62 fq_X12_222 (Or.inl rfl) (k := 100) (i := 0) (by decide) rfl ⟨rfl, rfl⟩ (fp_100_3 _ _ _ _ _) ?_
    refine t_tops (fun s62 es62 => ?_)
    have h := h s62 es62
    refine z_aload_n C dX12_wait_65 (i := 0) rfl rfl ?_
    refine t_get C dX12_wait_66 fl_X12_222 (k := 100) (i := 0) (by decide) rfl (fg_100_3 _ _ _) ?_
    exact z_iret C dX12_wait_69 hr rfl ⟨_, _, rfl, rfl, h⟩ (Nat.le_of_ble_eq_true rfl) (Nat.le_of_ble_eq_true rfl)
  · have h := h.2 c50
    refine z_iconst C dX12_wait_53 (v := 0) (by decide) ?_
    exact z_iret C dX12_wait_54 hr rfl ⟨_, _, rfl, rfl, h⟩ (Nat.le_of_ble_eq_true rfl) (Nat.le_of_ble_eq_true rfl)
def w_X12_wait_22 (P : Int32 → zTs → Prop)  (st : zTs) (a1 : Int32) (b0 : Int32) : Prop := w_X12_bad st b0 1 (fun (r23 : Int32) (s23 : zTs) => ((r23 = 0 → (((zgF s23 100 0 3) + a1) ≤ 1000000 → w_X12_wait_46 P s23 a1 (0)) ∧ (¬ ((zgF s23 100 0 3) + a1) ≤ 1000000 → w_X12_wait_46 P s23 a1 (1))) ∧ (¬ r23 = 0 → P 0 s23)))
set_option maxHeartbeats 4000000 in
set_option maxRecDepth 100000 in
theorem j_X12_wait_22 {P : Int32 → zTs → Prop}  (hfl : l.stackTraces = false) (C : zC Z p s m args meth c cX12_wait 2 RX12) (hr : meth.sig.returnType = (some .int)) (hn9 : True)  (st : zTs) (a1 : Int32) (b0 : Int32) (h : w_X12_wait_22 P st a1 b0) : zG Z ad0 h0 p l e ({ frames := 2, cells := 0, slots := 0, locals := 34 } : Room) s m args below meth c (MQ below (zQ Z ad0 h0 (zWi Z P)) args s 0 0 (zA Z)) 0 0 (zh Z zm1 st) 2 22 [some (.ref 100), some (.int (a1))] [.int (b0), .ref 100] := by
  unfold w_X12_wait_22 at h
  refine z_iconst C dX12_wait_22 (v := 1) (by decide) ?_
  refine t_callV C (rest := []) (c2 := 0) (s2 := 0) (kd := 100) (i := 0) [.int (b0), .int (1)] dX12_wait_23 lk_X12_205 li_X12_bad le_X12_bad (c_X12_bad hfl h) rfl rfl (by decide) rfl ⟨_, rfl⟩ rfl ⟨Nat.le_of_ble_eq_true rfl, Nat.le_of_ble_eq_true rfl⟩ (Nat.le_of_ble_eq_true rfl) ⟨Nat.le_of_ble_eq_true rfl, Nat.le_of_ble_eq_true rfl, Nat.le_of_ble_eq_true rfl, Nat.le_of_ble_eq_true rfl⟩ (k_Wi fun r23 s23 h => ?_)
  refine z_if_ne C dX12_wait_26 (tgt := 53) (by decide) (fun c26 => ?_) (fun c26 => ?_)
  · have h := h.2 c26
    refine z_iconst C dX12_wait_53 (v := 0) (by decide) ?_
    exact z_iret C dX12_wait_54 hr rfl ⟨_, _, rfl, rfl, h⟩ (Nat.le_of_ble_eq_true rfl) (Nat.le_of_ble_eq_true rfl)
  · have h := h.1 c26
    refine z_aload_n C dX12_wait_29 (i := 0) rfl rfl ?_
    refine z_aload_n C dX12_wait_30 (i := 0) rfl rfl ?_
    refine t_get C dX12_wait_31 fl_X12_222 (k := 100) (i := 0) (by decide) rfl (fg_100_3 _ _ _) ?_
    refine z_iload_n C dX12_wait_34 (i := 1) rfl rfl ?_
    refine z_iadd C dX12_wait_35 ?_
    refine z_ldc C dX12_wait_36 kc_X12_225 ?_
    refine z_icmp_le C dX12_wait_38 (tgt := 45) (by decide) (fun c38 => ?_) (fun c38 => ?_)
    · have h := h.1 c38
      refine z_iconst C dX12_wait_45 (v := 0) (by decide) ?_
      exact t_drop [true, true] rfl (j_X12_wait_46 hfl C hr hn9  s23 a1 (0) h)
    · have h := h.2 c38
      refine z_iconst C dX12_wait_41 (v := 1) (by decide) ?_
      refine z_goto C dX12_wait_42 (tgt := 46) (by decide) ?_
      exact t_drop [true, true] rfl (j_X12_wait_46 hfl C hr hn9  s23 a1 (1) h)
def w_X12_wait (st : zTs) (a1 : Int32) (P : Int32 → zTs → Prop) : Prop := ∀ s2 : zTs, s2 = zuF st 100 0 0 0 → ((a1 < 0 → w_X12_wait_22 P s2 a1 (1)) ∧ (¬ a1 < 0 → (a1 ≤ 10000 → w_X12_wait_22 P s2 a1 (0)) ∧ (¬ a1 ≤ 10000 → w_X12_wait_22 P s2 a1 (1))))
set_option maxHeartbeats 4000000 in
set_option maxRecDepth 100000 in
theorem c_X12_wait {Z : zZ} {l : Launch} (hfl : l.stackTraces = false) {st : zTs} {a1 : Int32} {P : Int32 → zTs → Prop} (h : w_X12_wait st a1 P) : zN Z l yX12_wait cX12_wait 2 (some .int) ({ frames := 2, cells := 0, slots := 0, locals := 34 } : Room) (zh Z zm1 st) [.ref 100, .int (a1)] (zWi Z P) := by
  unfold w_X12_wait at h
  refine z_enterN (by decide) (Nat.le_of_ble_eq_true rfl) (lc0 := [some (.ref 100), some (.int (a1))]) rfl ?_
  intro p e s m args below meth c ad0 C hr _
  have hn9 : True := trivial
  replace C : zC Z p s m args meth c cX12_wait 2 RX12 := C
  refine z_aload_n C dX12_wait_0 (i := 0) rfl rfl ?_
  refine z_iconst C dX12_wait_1 (v := 0) (by decide) ?_
  refine t_put C dX12_wait_2 fq_X12_199 (Or.inl rfl) (k := 100) (i := 0) (by decide) rfl ⟨rfl, rfl⟩ (fp_100_0 _ _ _ _ _) ?_
  refine t_tops (fun s2 es2 => ?_)
  have h := h s2 es2
  refine z_aload_n C dX12_wait_5 (i := 0) rfl rfl ?_
  refine z_iload_n C dX12_wait_6 (i := 1) rfl rfl ?_
  refine z_if_lt C dX12_wait_7 (tgt := 17) (by decide) (fun c7 => ?_) (fun c7 => ?_)
  · have h := h.1 c7
    refine z_iconst C dX12_wait_17 (v := 1) (by decide) ?_
    refine z_goto C dX12_wait_18 (tgt := 22) (by decide) ?_
    exact t_drop [true, true] rfl (j_X12_wait_22 hfl C hr hn9  s2 a1 (1) h)
  · have h := h.2 c7
    refine z_iload_n C dX12_wait_10 (i := 1) rfl rfl ?_
    refine z_sipush C dX12_wait_11 (v := 10000) (by decide) ?_
    refine z_icmp_le C dX12_wait_14 (tgt := 21) (by decide) (fun c14 => ?_) (fun c14 => ?_)
    · have h := h.1 c14
      refine z_iconst C dX12_wait_21 (v := 0) (by decide) ?_
      exact t_drop [true, true] rfl (j_X12_wait_22 hfl C hr hn9  s2 a1 (0) h)
    · have h := h.2 c14
      refine z_iconst C dX12_wait_17 (v := 1) (by decide) ?_
      refine z_goto C dX12_wait_18 (tgt := 22) (by decide) ?_
      exact t_drop [true, true] rfl (j_X12_wait_22 hfl C hr hn9  s2 a1 (1) h)
def w_X12_countedFrom_31 (P : Int32 → Prop) (st : zTs) (K5 : Int32 → Int32 → Int32 → Prop) (a2 : Int32) (a3 : Int32) (b0 : Int32) (b1 : Int32) : Prop := ∀ x32 : Int32, x32 = b1 - b0 → (K5 a2 a3 x32)
set_option maxHeartbeats 4000000 in
set_option maxRecDepth 100000 in
theorem j_X12_countedFrom_31 {P : Int32 → Prop} {st : zTs} {K5 : Int32 → Int32 → Int32 → Prop} (hfl : l.stackTraces = false) (C : zC Z p s m args meth c cX12_countedFrom 5 RX12) (hr : meth.sig.returnType = (some .int)) (hn9 : True) (hK5 : ∀ (a2 : Int32) (a3 : Int32) (a4 : Int32), K5 a2 a3 a4 → zG Z ad0 h0 p l e ({ frames := 1, cells := 0, slots := 0, locals := 12 } : Room) s m args below meth c (MQ below (zQ Z ad0 h0 (zRi Z st P)) args s 0 0 (zA Z)) 0 0 (zh Z zm1 st) 5 5 [none, none, some (.int (a2)), some (.int (a3)), some (.int (a4))] []) (a2 : Int32) (a3 : Int32) (b0 : Int32) (b1 : Int32) (h : w_X12_countedFrom_31 P st K5 a2 a3 b0 b1) : zG Z ad0 h0 p l e ({ frames := 1, cells := 0, slots := 0, locals := 12 } : Room) s m args below meth c (MQ below (zQ Z ad0 h0 (zRi Z st P)) args s 0 0 (zA Z)) 0 0 (zh Z zm1 st) 5 31 [none, none, some (.int (a2)), some (.int (a3)), none] [.int (b0), .int (b1)] := by
  unfold w_X12_countedFrom_31 at h
  refine z_isub C dX12_countedFrom_31 ?_
  refine t_topi (fun x32 ex32 => ?_)
  have h := h x32 ex32
  refine z_istore C dX12_countedFrom_32 (lc' := [none, none, some (.int (a2)), some (.int (a3)), some (.int (x32))]) (by decide) rfl ?_
  refine z_goto C dX12_countedFrom_34 (tgt := 5) (by decide) ?_
  exact t_drop [false, false, true, true, true] rfl (hK5 a2 a3 x32 h)
def w_X12_countedFrom_5 (P : Int32 → Prop) (st : zTs)  : Nat → Int32 → Int32 → Int32 → Prop
  | 0, _, _, _ => False
  | n9 + 1, a2, a3, a4 => (a4 ≤ 0 → P a3) ∧ (¬ a4 ≤ 0 → ∀ x10 : Int32, x10 = a3 + 1 → ((((a2 >>> ((x10 - x10 / 7 * 7) &&& 31)) &&& 1) = 0 → w_X12_countedFrom_31 P st (w_X12_countedFrom_5 P st n9) a2 x10 (1) a4) ∧ (¬ ((a2 >>> ((x10 - x10 / 7 * 7) &&& 31)) &&& 1) = 0 → w_X12_countedFrom_31 P st (w_X12_countedFrom_5 P st n9) a2 x10 (0) a4)))
set_option maxHeartbeats 4000000 in
set_option maxRecDepth 100000 in
theorem j_X12_countedFrom_5 {P : Int32 → Prop} {st : zTs}  (hfl : l.stackTraces = false) (C : zC Z p s m args meth c cX12_countedFrom 5 RX12) (hr : meth.sig.returnType = (some .int)) (hn9 : True)  : ∀ (n9 : Nat) (a2 : Int32) (a3 : Int32) (a4 : Int32), w_X12_countedFrom_5 P st n9 a2 a3 a4 → zG Z ad0 h0 p l e ({ frames := 1, cells := 0, slots := 0, locals := 12 } : Room) s m args below meth c (MQ below (zQ Z ad0 h0 (zRi Z st P)) args s 0 0 (zA Z)) 0 0 (zh Z zm1 st) 5 5 [none, none, some (.int (a2)), some (.int (a3)), some (.int (a4))] [] := by
  intro n9
  induction n9 with
  | zero => intro a2 a3 a4 h; exact h.elim
  | succ n9 hK5 =>
    intro a2 a3 a4 h
    rw [w_X12_countedFrom_5] at h
    refine z_iload C dX12_countedFrom_5 rfl ?_
    refine z_if_le C dX12_countedFrom_7 (tgt := 37) (by decide) (fun c7 => ?_) (fun c7 => ?_)
    · have h := h.1 c7
      refine z_iload_n C dX12_countedFrom_37 (i := 3) rfl rfl ?_
      exact z_iret C dX12_countedFrom_38 hr rfl ⟨rfl, _, rfl, h⟩ (Nat.le_of_ble_eq_true rfl) (Nat.le_of_ble_eq_true rfl)
    · have h := h.2 c7
      obtain ⟨x10, ex10⟩ : ∃ z : Int32, z = a3 + 1 := ⟨_, rfl⟩
      have h := h x10 ex10
      refine z_iinc C dX12_countedFrom_10 (v := x10) (lc' := [none, none, some (.int (a2)), some (.int (x10)), some (.int (a4))]) rfl (by decide) (by rw [ex10]; rfl) rfl ?_
      refine z_iload C dX12_countedFrom_13 rfl ?_
      refine z_iload_n C dX12_countedFrom_15 (i := 2) rfl rfl ?_
      refine z_iload_n C dX12_countedFrom_16 (i := 3) rfl rfl ?_
      refine z_bipush C dX12_countedFrom_17 (v := 7) (by decide) ?_
      refine z_irem C dX12_countedFrom_19 (by decide) ?_
      refine z_ishr C dX12_countedFrom_20 ?_
      refine z_iconst C dX12_countedFrom_21 (v := 1) (by decide) ?_
      refine z_iand C dX12_countedFrom_22 ?_
      refine z_if_ne C dX12_countedFrom_23 (tgt := 30) (by decide) (fun c23 => ?_) (fun c23 => ?_)
      · have h := h.2 c23
        refine z_iconst C dX12_countedFrom_30 (v := 0) (by decide) ?_
        exact t_drop [false, false, true, true, false] rfl (j_X12_countedFrom_31 hfl C hr hn9 hK5 a2 x10 (0) a4 h)
      · have h := h.1 c23
        refine z_iconst C dX12_countedFrom_26 (v := 1) (by decide) ?_
        refine z_goto C dX12_countedFrom_27 (tgt := 31) (by decide) ?_
        exact t_drop [false, false, true, true, false] rfl (j_X12_countedFrom_31 hfl C hr hn9 hK5 a2 x10 (1) a4 h)
def w_X12_countedFrom (st : zTs) (a0 : Int32) (a1 : Int32) (a2 : Int32) (P : Int32 → Prop) : Prop := w_X12_countedFrom_5 P st zfu a2 a0 a1
set_option maxHeartbeats 4000000 in
set_option maxRecDepth 100000 in
theorem c_X12_countedFrom {Z : zZ} {l : Launch} (hfl : l.stackTraces = false) {st : zTs} {a0 : Int32} {a1 : Int32} {a2 : Int32} {P : Int32 → Prop} (h : w_X12_countedFrom st a0 a1 a2 P) : zN Z l yX12_countedFrom cX12_countedFrom 5 (some .int) ({ frames := 1, cells := 0, slots := 0, locals := 12 } : Room) (zh Z zm1 st) [.int (a0), .int (a1), .int (a2)] (zRi Z st P) := by
  unfold w_X12_countedFrom at h
  refine z_enterN (by decide) (Nat.le_of_ble_eq_true rfl) (lc0 := [some (.int (a0)), some (.int (a1)), some (.int (a2)), none, none]) rfl ?_
  intro p e s m args below meth c ad0 C hr _
  have hn9 : True := trivial
  replace C : zC Z p s m args meth c cX12_countedFrom 5 RX12 := C
  refine z_iload_n C dX12_countedFrom_0 (i := 0) rfl rfl ?_
  refine z_istore_n C dX12_countedFrom_1 (i := 3) (lc' := [some (.int (a0)), some (.int (a1)), some (.int (a2)), some (.int (a0)), none]) rfl (by decide) rfl ?_
  refine z_iload_n C dX12_countedFrom_2 (i := 1) rfl rfl ?_
  refine z_istore C dX12_countedFrom_3 (lc' := [some (.int (a0)), some (.int (a1)), some (.int (a2)), some (.int (a0)), some (.int (a1))]) (by decide) rfl ?_
  exact t_drop [false, false, true, true, true] rfl (j_X12_countedFrom_5 hfl C hr hn9  zfu a2 a0 a1 h)
def w_X12_feed_77 (P : Int32 → zTs → Prop) (K23 : zTs → Int32 → Int32 → Int32 → Int32 → Int32 → Int32 → Prop) : Nat → zTs → Int32 → Int32 → Int32 → Int32 → Int32 → Int32 → Int32 → Int32 → Prop
  | 0, _, _, _, _, _, _, _, _, _ => False
  | n9 + 1, st, a1, a2, a3, a4, a5, a6, a7, a8 => (a8 < 0 → ∀ x113 : Int32, x113 = a6 + 1 → (K23 st a1 a2 a3 a4 a5 x113)) ∧ (¬ a8 < 0 → vp_in (zgF st 100 0 6) 400 ∧ (∀ s96 : zTs, s96 = zuA st 102 0 (zgF st 100 0 6 : Int32).toNatClampNeg (vp_nar .byte ((a7 >>> (a8 &&& 31) : Int32).toInt8.toInt32)) → (∀ s104 : zTs, s104 = zuF s96 100 0 6 ((zgF s96 100 0 6) + 1) → (∀ x107 : Int32, x107 = a8 + (-8) → ((w_X12_feed_77 P K23 n9) s104 a1 a2 a3 a4 a5 a6 a7 x107)))))
set_option maxHeartbeats 4000000 in
set_option maxRecDepth 100000 in
theorem j_X12_feed_77 {P : Int32 → zTs → Prop} {K23 : zTs → Int32 → Int32 → Int32 → Int32 → Int32 → Int32 → Prop} (hfl : l.stackTraces = false) (C : zC Z p s m args meth c cX12_feed 9 RX12) (hr : meth.sig.returnType = (some .int)) (hn9 : True) (hK23 : ∀ (st : zTs) (a1 : Int32) (a2 : Int32) (a3 : Int32) (a4 : Int32) (a5 : Int32) (a6 : Int32), K23 st a1 a2 a3 a4 a5 a6 → zG Z ad0 h0 p l e ({ frames := 1, cells := 0, slots := 0, locals := 12 } : Room) s m args below meth c (MQ below (zQ Z ad0 h0 (zWi Z P)) args s 0 0 (zA Z)) 0 0 (zh Z zm1 st) 9 23 [some (.ref 100), some (.int (a1)), some (.int (a2)), some (.int (a3)), some (.int (a4)), some (.int (a5)), some (.int (a6)), none, none] []) : ∀ (n9 : Nat) (st : zTs) (a1 : Int32) (a2 : Int32) (a3 : Int32) (a4 : Int32) (a5 : Int32) (a6 : Int32) (a7 : Int32) (a8 : Int32), w_X12_feed_77 P K23 n9 st a1 a2 a3 a4 a5 a6 a7 a8 → zG Z ad0 h0 p l e ({ frames := 1, cells := 0, slots := 0, locals := 12 } : Room) s m args below meth c (MQ below (zQ Z ad0 h0 (zWi Z P)) args s 0 0 (zA Z)) 0 0 (zh Z zm1 st) 9 77 [some (.ref 100), some (.int (a1)), some (.int (a2)), some (.int (a3)), some (.int (a4)), some (.int (a5)), some (.int (a6)), some (.int (a7)), some (.int (a8))] [] := by
  intro n9
  induction n9 with
  | zero => intro st a1 a2 a3 a4 a5 a6 a7 a8 h; exact h.elim
  | succ n9 hK77 =>
    intro st a1 a2 a3 a4 a5 a6 a7 a8 h
    rw [w_X12_feed_77] at h
    refine z_iload C dX12_feed_77 rfl ?_
    refine z_if_lt C dX12_feed_79 (tgt := 113) (by decide) (fun c79 => ?_) (fun c79 => ?_)
    · have h := h.1 c79
      obtain ⟨x113, ex113⟩ : ∃ z : Int32, z = a6 + 1 := ⟨_, rfl⟩
      have h := h x113 ex113
      refine z_iinc C dX12_feed_113 (v := x113) (lc' := [some (.ref 100), some (.int (a1)), some (.int (a2)), some (.int (a3)), some (.int (a4)), some (.int (a5)), some (.int (x113)), some (.int (a7)), some (.int (a8))]) rfl (by decide) (by rw [ex113]; rfl) rfl ?_
      refine z_goto C dX12_feed_116 (tgt := 23) (by decide) ?_
      exact t_drop [true, true, true, true, true, true, true, false, false] rfl (hK23 st a1 a2 a3 a4 a5 x113 h)
    · have h := h.2 c79
      refine z_aload_n C dX12_feed_82 (i := 0) rfl rfl ?_
      refine t_get C dX12_feed_83 fl_X12_13 (k := 100) (i := 0) (by decide) rfl (fg_100_5 _ _ _) ?_
      refine z_aload_n C dX12_feed_86 (i := 0) rfl rfl ?_
      refine t_get C dX12_feed_87 fl_X12_226 (k := 100) (i := 0) (by decide) rfl (fg_100_6 _ _ _) ?_
      refine z_iload C dX12_feed_90 rfl ?_
      refine z_iload C dX12_feed_92 rfl ?_
      refine z_ishr C dX12_feed_94 ?_
      refine z_i2b C dX12_feed_95 ?_
      obtain ⟨g96, h⟩ := h
      refine t_bast C dX12_feed_96 (k := 102) (i := 0) (by decide) rfl (fun s9 => sh_102 _ _ s9 _) g96 ?_
      refine t_tops (fun s96 es96 => ?_)
      have h := h s96 es96
      refine z_aload_n C dX12_feed_97 (i := 0) rfl rfl ?_
      refine z_dup C dX12_feed_98 rfl ?_
      refine t_get C dX12_feed_99 fl_X12_226 (k := 100) (i := 0) (by decide) rfl (fg_100_6 _ _ _) ?_
      refine z_iconst C dX12_feed_102 (v := 1) (by decide) ?_
      refine z_iadd C dX12_feed_103 ?_
      refine t_put C dX12_feed_104 fq_X12_226 (Or.inl rfl) (k := 100) (i := 0) (by decide) rfl ⟨rfl, rfl⟩ (fp_100_6 _ _ _ _ _) ?_
      refine t_tops (fun s104 es104 => ?_)
      have h := h s104 es104
      obtain ⟨x107, ex107⟩ : ∃ z : Int32, z = a8 + (-8) := ⟨_, rfl⟩
      have h := h x107 ex107
      refine z_iinc C dX12_feed_107 (v := x107) (lc' := [some (.ref 100), some (.int (a1)), some (.int (a2)), some (.int (a3)), some (.int (a4)), some (.int (a5)), some (.int (a6)), some (.int (a7)), some (.int (x107))]) rfl (by decide) (by rw [ex107]; rfl) rfl ?_
      refine z_goto C dX12_feed_110 (tgt := 77) (by decide) ?_
      exact t_drop [true, true, true, true, true, true, true, true, true] rfl (hK77 s104 a1 a2 a3 a4 a5 a6 a7 x107 h)
def w_X12_feed_71 (P : Int32 → zTs → Prop) (K23 : zTs → Int32 → Int32 → Int32 → Int32 → Int32 → Int32 → Prop) (st : zTs) (a1 : Int32) (a2 : Int32) (a3 : Int32) (a4 : Int32) (a5 : Int32) (a6 : Int32) (b0 : Int32) : Prop := w_X12_feed_77 P K23 zfu st a1 a2 a3 a4 a5 a6 b0 (24)
set_option maxHeartbeats 4000000 in
set_option maxRecDepth 100000 in
theorem j_X12_feed_71 {P : Int32 → zTs → Prop} {K23 : zTs → Int32 → Int32 → Int32 → Int32 → Int32 → Int32 → Prop} (hfl : l.stackTraces = false) (C : zC Z p s m args meth c cX12_feed 9 RX12) (hr : meth.sig.returnType = (some .int)) (hn9 : True) (hK23 : ∀ (st : zTs) (a1 : Int32) (a2 : Int32) (a3 : Int32) (a4 : Int32) (a5 : Int32) (a6 : Int32), K23 st a1 a2 a3 a4 a5 a6 → zG Z ad0 h0 p l e ({ frames := 1, cells := 0, slots := 0, locals := 12 } : Room) s m args below meth c (MQ below (zQ Z ad0 h0 (zWi Z P)) args s 0 0 (zA Z)) 0 0 (zh Z zm1 st) 9 23 [some (.ref 100), some (.int (a1)), some (.int (a2)), some (.int (a3)), some (.int (a4)), some (.int (a5)), some (.int (a6)), none, none] []) (st : zTs) (a1 : Int32) (a2 : Int32) (a3 : Int32) (a4 : Int32) (a5 : Int32) (a6 : Int32) (b0 : Int32) (h : w_X12_feed_71 P K23 st a1 a2 a3 a4 a5 a6 b0) : zG Z ad0 h0 p l e ({ frames := 1, cells := 0, slots := 0, locals := 12 } : Room) s m args below meth c (MQ below (zQ Z ad0 h0 (zWi Z P)) args s 0 0 (zA Z)) 0 0 (zh Z zm1 st) 9 71 [some (.ref 100), some (.int (a1)), some (.int (a2)), some (.int (a3)), some (.int (a4)), some (.int (a5)), some (.int (a6)), none, none] [.int (b0)] := by
  unfold w_X12_feed_71 at h
  refine z_istore C dX12_feed_71 (lc' := [some (.ref 100), some (.int (a1)), some (.int (a2)), some (.int (a3)), some (.int (a4)), some (.int (a5)), some (.int (a6)), some (.int (b0)), none]) (by decide) rfl ?_
  refine z_bipush C dX12_feed_73 (v := 24) (by decide) ?_
  refine z_istore C dX12_feed_75 (lc' := [some (.ref 100), some (.int (a1)), some (.int (a2)), some (.int (a3)), some (.int (a4)), some (.int (a5)), some (.int (a6)), some (.int (b0)), some (.int (24))]) (by decide) rfl ?_
  exact t_drop [true, true, true, true, true, true, true, true, true] rfl (j_X12_feed_77 hfl C hr hn9 hK23 zfu st a1 a2 a3 a4 a5 a6 b0 (24) h)
def w_X12_feed_23 (P : Int32 → zTs → Prop)  : Nat → zTs → Int32 → Int32 → Int32 → Int32 → Int32 → Int32 → Prop
  | 0, _, _, _, _, _, _, _ => False
  | n9 + 1, st, a1, a2, a3, a4, a5, a6 => (5 ≤ a6 → P (zgF st 100 0 6) st) ∧ (¬ 5 ≤ a6 → (a6 = 0 → w_X12_feed_71 P (w_X12_feed_23 P n9) st a1 a2 a3 a4 a5 a6 a1) ∧ (¬ a6 = 0 → (a6 = 1 → w_X12_feed_71 P (w_X12_feed_23 P n9) st a1 a2 a3 a4 a5 a6 a2) ∧ (¬ a6 = 1 → (a6 = 2 → w_X12_feed_71 P (w_X12_feed_23 P n9) st a1 a2 a3 a4 a5 a6 a3) ∧ (¬ a6 = 2 → (a6 = 3 → w_X12_feed_71 P (w_X12_feed_23 P n9) st a1 a2 a3 a4 a5 a6 a4) ∧ (¬ a6 = 3 → w_X12_feed_71 P (w_X12_feed_23 P n9) st a1 a2 a3 a4 a5 a6 a5)))))
set_option maxHeartbeats 4000000 in
set_option maxRecDepth 100000 in
theorem j_X12_feed_23 {P : Int32 → zTs → Prop}  (hfl : l.stackTraces = false) (C : zC Z p s m args meth c cX12_feed 9 RX12) (hr : meth.sig.returnType = (some .int)) (hn9 : True)  : ∀ (n9 : Nat) (st : zTs) (a1 : Int32) (a2 : Int32) (a3 : Int32) (a4 : Int32) (a5 : Int32) (a6 : Int32), w_X12_feed_23 P n9 st a1 a2 a3 a4 a5 a6 → zG Z ad0 h0 p l e ({ frames := 1, cells := 0, slots := 0, locals := 12 } : Room) s m args below meth c (MQ below (zQ Z ad0 h0 (zWi Z P)) args s 0 0 (zA Z)) 0 0 (zh Z zm1 st) 9 23 [some (.ref 100), some (.int (a1)), some (.int (a2)), some (.int (a3)), some (.int (a4)), some (.int (a5)), some (.int (a6)), none, none] [] := by
  intro n9
  induction n9 with
  | zero => intro st a1 a2 a3 a4 a5 a6 h; exact h.elim
  | succ n9 hK23 =>
    intro st a1 a2 a3 a4 a5 a6 h
    rw [w_X12_feed_23] at h
    refine z_iload C dX12_feed_23 rfl ?_
    refine z_iconst C dX12_feed_25 (v := 5) (by decide) ?_
    refine z_icmp_ge C dX12_feed_26 (tgt := 119) (by decide) (fun c26 => ?_) (fun c26 => ?_)
    · have h := h.1 c26
      refine z_aload_n C dX12_feed_119 (i := 0) rfl rfl ?_
      refine t_get C dX12_feed_120 fl_X12_226 (k := 100) (i := 0) (by decide) rfl (fg_100_6 _ _ _) ?_
      exact z_iret C dX12_feed_123 hr rfl ⟨_, _, rfl, rfl, h⟩ (Nat.le_of_ble_eq_true rfl) (Nat.le_of_ble_eq_true rfl)
    · have h := h.2 c26
      refine z_iload C dX12_feed_29 rfl ?_
      refine z_if_ne C dX12_feed_31 (tgt := 38) (by decide) (fun c31 => ?_) (fun c31 => ?_)
      · have h := h.2 c31
        refine z_iload C dX12_feed_38 rfl ?_
        refine z_iconst C dX12_feed_40 (v := 1) (by decide) ?_
        refine z_icmp_ne C dX12_feed_41 (tgt := 48) (by decide) (fun c41 => ?_) (fun c41 => ?_)
        · have h := h.2 c41
          refine z_iload C dX12_feed_48 rfl ?_
          refine z_iconst C dX12_feed_50 (v := 2) (by decide) ?_
          refine z_icmp_ne C dX12_feed_51 (tgt := 58) (by decide) (fun c51 => ?_) (fun c51 => ?_)
          · have h := h.2 c51
            refine z_iload C dX12_feed_58 rfl ?_
            refine z_iconst C dX12_feed_60 (v := 3) (by decide) ?_
            refine z_icmp_ne C dX12_feed_61 (tgt := 69) (by decide) (fun c61 => ?_) (fun c61 => ?_)
            · have h := h.2 c61
              refine z_iload C dX12_feed_69 rfl ?_
              exact t_drop [true, true, true, true, true, true, true, false, false] rfl (j_X12_feed_71 hfl C hr hn9 hK23 st a1 a2 a3 a4 a5 a6 a5 h)
            · have h := h.1 c61
              refine z_iload C dX12_feed_64 rfl ?_
              refine z_goto C dX12_feed_66 (tgt := 71) (by decide) ?_
              exact t_drop [true, true, true, true, true, true, true, false, false] rfl (j_X12_feed_71 hfl C hr hn9 hK23 st a1 a2 a3 a4 a5 a6 a4 h)
          · have h := h.1 c51
            refine z_iload_n C dX12_feed_54 (i := 3) rfl rfl ?_
            refine z_goto C dX12_feed_55 (tgt := 71) (by decide) ?_
            exact t_drop [true, true, true, true, true, true, true, false, false] rfl (j_X12_feed_71 hfl C hr hn9 hK23 st a1 a2 a3 a4 a5 a6 a3 h)
        · have h := h.1 c41
          refine z_iload_n C dX12_feed_44 (i := 2) rfl rfl ?_
          refine z_goto C dX12_feed_45 (tgt := 71) (by decide) ?_
          exact t_drop [true, true, true, true, true, true, true, false, false] rfl (j_X12_feed_71 hfl C hr hn9 hK23 st a1 a2 a3 a4 a5 a6 a2 h)
      · have h := h.1 c31
        refine z_iload_n C dX12_feed_34 (i := 1) rfl rfl ?_
        refine z_goto C dX12_feed_35 (tgt := 71) (by decide) ?_
        exact t_drop [true, true, true, true, true, true, true, false, false] rfl (j_X12_feed_71 hfl C hr hn9 hK23 st a1 a2 a3 a4 a5 a6 a1 h)
def w_X12_feed (st : zTs) (a1 : Int32) (a2 : Int32) (a3 : Int32) (a4 : Int32) (a5 : Int32) (P : Int32 → zTs → Prop) : Prop := ∀ s2 : zTs, s2 = zuF st 100 0 0 0 → ((((zgF s2 100 0 6) + 20) ≤ 400 → w_X12_feed_23 P zfu s2 a1 a2 a3 a4 a5 (0)) ∧ (¬ ((zgF s2 100 0 6) + 20) ≤ 400 → P (-1) s2))
set_option maxHeartbeats 4000000 in
set_option maxRecDepth 100000 in
theorem c_X12_feed {Z : zZ} {l : Launch} (hfl : l.stackTraces = false) {st : zTs} {a1 : Int32} {a2 : Int32} {a3 : Int32} {a4 : Int32} {a5 : Int32} {P : Int32 → zTs → Prop} (h : w_X12_feed st a1 a2 a3 a4 a5 P) : zN Z l yX12_feed cX12_feed 9 (some .int) ({ frames := 1, cells := 0, slots := 0, locals := 12 } : Room) (zh Z zm1 st) [.ref 100, .int (a1), .int (a2), .int (a3), .int (a4), .int (a5)] (zWi Z P) := by
  unfold w_X12_feed at h
  refine z_enterN (by decide) (Nat.le_of_ble_eq_true rfl) (lc0 := [some (.ref 100), some (.int (a1)), some (.int (a2)), some (.int (a3)), some (.int (a4)), some (.int (a5)), none, none, none]) rfl ?_
  intro p e s m args below meth c ad0 C hr _
  have hn9 : True := trivial
  replace C : zC Z p s m args meth c cX12_feed 9 RX12 := C
  refine z_aload_n C dX12_feed_0 (i := 0) rfl rfl ?_
  refine z_iconst C dX12_feed_1 (v := 0) (by decide) ?_
  refine t_put C dX12_feed_2 fq_X12_199 (Or.inl rfl) (k := 100) (i := 0) (by decide) rfl ⟨rfl, rfl⟩ (fp_100_0 _ _ _ _ _) ?_
  refine t_tops (fun s2 es2 => ?_)
  have h := h s2 es2
  refine z_aload_n C dX12_feed_5 (i := 0) rfl rfl ?_
  refine t_get C dX12_feed_6 fl_X12_226 (k := 100) (i := 0) (by decide) rfl (fg_100_6 _ _ _) ?_
  refine z_bipush C dX12_feed_9 (v := 20) (by decide) ?_
  refine z_iadd C dX12_feed_11 ?_
  refine z_sipush C dX12_feed_12 (v := 400) (by decide) ?_
  refine z_icmp_le C dX12_feed_15 (tgt := 20) (by decide) (fun c15 => ?_) (fun c15 => ?_)
  · have h := h.1 c15
    refine z_iconst C dX12_feed_20 (v := 0) (by decide) ?_
    refine z_istore C dX12_feed_21 (lc' := [some (.ref 100), some (.int (a1)), some (.int (a2)), some (.int (a3)), some (.int (a4)), some (.int (a5)), some (.int (0)), none, none]) (by decide) rfl ?_
    exact t_drop [true, true, true, true, true, true, true, false, false] rfl (j_X12_feed_23 hfl C hr hn9  zfu s2 a1 a2 a3 a4 a5 (0) h)
  · have h := h.2 c15
    refine z_iconst C dX12_feed_18 (v := (-1)) (by decide) ?_
    exact z_iret C dX12_feed_19 hr rfl ⟨_, _, rfl, rfl, h⟩ (Nat.le_of_ble_eq_true rfl) (Nat.le_of_ble_eq_true rfl)
def w_X12_byteAt (st : zTs) (a1 : Int32) (P : Int32 → Prop) : Prop := ((zgF st 100 0 7) ≤ a1 → P 0) ∧ (¬ (zgF st 100 0 7) ≤ a1 → vp_in a1 400 ∧ (P ((zgA st 102 0 (a1 : Int32).toNatClampNeg) &&& 255)))
set_option maxHeartbeats 4000000 in
set_option maxRecDepth 100000 in
theorem c_X12_byteAt {Z : zZ} {l : Launch} (hfl : l.stackTraces = false) {st : zTs} {a1 : Int32} {P : Int32 → Prop} (h : w_X12_byteAt st a1 P) : zN Z l yX12_byteAt cX12_byteAt 2 (some .int) ({ frames := 1, cells := 0, slots := 0, locals := 12 } : Room) (zh Z zm1 st) [.ref 100, .int (a1)] (zRi Z st P) := by
  unfold w_X12_byteAt at h
  refine z_enterN (by decide) (Nat.le_of_ble_eq_true rfl) (lc0 := [some (.ref 100), some (.int (a1))]) rfl ?_
  intro p e s m args below meth c ad0 C hr _
  have hn9 : True := trivial
  replace C : zC Z p s m args meth c cX12_byteAt 2 RX12 := C
  refine z_iload_n C dX12_byteAt_0 (i := 1) rfl rfl ?_
  refine z_aload_n C dX12_byteAt_1 (i := 0) rfl rfl ?_
  refine t_get C dX12_byteAt_2 fl_X12_229 (k := 100) (i := 0) (by decide) rfl (fg_100_7 _ _ _) ?_
  refine z_icmp_ge C dX12_byteAt_5 (tgt := 21) (by decide) (fun c5 => ?_) (fun c5 => ?_)
  · have h := h.1 c5
    refine z_iconst C dX12_byteAt_21 (v := 0) (by decide) ?_
    exact z_iret C dX12_byteAt_22 hr rfl ⟨rfl, _, rfl, h⟩ (Nat.le_of_ble_eq_true rfl) (Nat.le_of_ble_eq_true rfl)
  · have h := h.2 c5
    refine z_aload_n C dX12_byteAt_8 (i := 0) rfl rfl ?_
    refine t_get C dX12_byteAt_9 fl_X12_13 (k := 100) (i := 0) (by decide) rfl (fg_100_5 _ _ _) ?_
    refine z_iload_n C dX12_byteAt_12 (i := 1) rfl rfl ?_
    obtain ⟨g13, h⟩ := h
    refine t_bald C dX12_byteAt_13 (k := 102) (i := 0) (by decide) rfl (sh_102 _ _ _ _) g13 ?_
    refine z_sipush C dX12_byteAt_14 (v := 255) (by decide) ?_
    refine z_iand C dX12_byteAt_17 ?_
    refine z_goto C dX12_byteAt_18 (tgt := 22) (by decide) ?_
    exact z_iret C dX12_byteAt_22 hr rfl ⟨rfl, _, rfl, h⟩ (Nat.le_of_ble_eq_true rfl) (Nat.le_of_ble_eq_true rfl)
def w_X12_blanks_0 (P : zTs → Prop)  : Nat → zTs → Prop
  | 0, _ => False
  | n9 + 1, st => ((zgF st 100 0 7) ≤ (zgF st 100 0 8) → P st) ∧ (¬ (zgF st 100 0 7) ≤ (zgF st 100 0 8) → w_X12_byteAt st (zgF st 100 0 8) (fun (r16 : Int32) => ((r16 = 32 → ∀ s31 : zTs, s31 = zuF st 100 0 8 ((zgF st 100 0 8) + 1) → ((w_X12_blanks_0 P n9) s31)) ∧ (¬ r16 = 32 → P st))))
set_option maxHeartbeats 4000000 in
set_option maxRecDepth 100000 in
theorem j_X12_blanks_0 {P : zTs → Prop}  (hfl : l.stackTraces = false) (C : zC Z p s m args meth c cX12_blanks 1 RX12) (hr : meth.sig.returnType = none) (hn9 : True)  : ∀ (n9 : Nat) (st : zTs), w_X12_blanks_0 P n9 st → zG Z ad0 h0 p l e ({ frames := 2, cells := 0, slots := 0, locals := 33 } : Room) s m args below meth c (MQ below (zQ Z ad0 h0 (zWv Z zm1 P)) args s 0 0 (zA Z)) 0 0 (zh Z zm1 st) 1 0 [some (.ref 100)] [] := by
  intro n9
  induction n9 with
  | zero => intro st h; exact h.elim
  | succ n9 hK0 =>
    intro st h
    rw [w_X12_blanks_0] at h
    refine z_aload_n C dX12_blanks_0 (i := 0) rfl rfl ?_
    refine t_get C dX12_blanks_1 fl_X12_232 (k := 100) (i := 0) (by decide) rfl (fg_100_8 _ _ _) ?_
    refine z_aload_n C dX12_blanks_4 (i := 0) rfl rfl ?_
    refine t_get C dX12_blanks_5 fl_X12_229 (k := 100) (i := 0) (by decide) rfl (fg_100_7 _ _ _) ?_
    refine z_icmp_ge C dX12_blanks_8 (tgt := 37) (by decide) (fun c8 => ?_) (fun c8 => ?_)
    · have h := h.1 c8
      exact z_vret C dX12_blanks_37 hr ⟨_, rfl, rfl, h⟩ (Nat.le_of_ble_eq_true rfl) (Nat.le_of_ble_eq_true rfl)
    · have h := h.2 c8
      refine z_aload_n C dX12_blanks_11 (i := 0) rfl rfl ?_
      refine z_aload_n C dX12_blanks_12 (i := 0) rfl rfl ?_
      refine t_get C dX12_blanks_13 fl_X12_232 (k := 100) (i := 0) (by decide) rfl (fg_100_8 _ _ _) ?_
      refine t_callV C (rest := []) (c2 := 0) (s2 := 0) (kd := 100) (i := 0) [.int (zgF st 100 0 8)] dX12_blanks_16 lk_X12_235 li_X12_byteAt le_X12_byteAt (c_X12_byteAt hfl h) rfl rfl (by decide) rfl ⟨_, rfl⟩ rfl ⟨Nat.le_of_ble_eq_true rfl, Nat.le_of_ble_eq_true rfl⟩ (Nat.le_of_ble_eq_true rfl) ⟨Nat.le_of_ble_eq_true rfl, Nat.le_of_ble_eq_true rfl, Nat.le_of_ble_eq_true rfl, Nat.le_of_ble_eq_true rfl⟩ (k_Ri fun r16 h => ?_)
      refine z_bipush C dX12_blanks_19 (v := 32) (by decide) ?_
      refine z_icmp_ne C dX12_blanks_21 (tgt := 37) (by decide) (fun c21 => ?_) (fun c21 => ?_)
      · have h := h.2 c21
        exact z_vret C dX12_blanks_37 hr ⟨_, rfl, rfl, h⟩ (Nat.le_of_ble_eq_true rfl) (Nat.le_of_ble_eq_true rfl)
      · have h := h.1 c21
        refine z_aload_n C dX12_blanks_24 (i := 0) rfl rfl ?_
        refine z_dup C dX12_blanks_25 rfl ?_
        refine t_get C dX12_blanks_26 fl_X12_232 (k := 100) (i := 0) (by decide) rfl (fg_100_8 _ _ _) ?_
        refine z_iconst C dX12_blanks_29 (v := 1) (by decide) ?_
        refine z_iadd C dX12_blanks_30 ?_
        refine t_put C dX12_blanks_31 fq_X12_232 (Or.inl rfl) (k := 100) (i := 0) (by decide) rfl ⟨rfl, rfl⟩ (fp_100_8 _ _ _ _ _) ?_
        refine t_tops (fun s31 es31 => ?_)
        have h := h s31 es31
        refine z_goto C dX12_blanks_34 (tgt := 0) (by decide) ?_
        exact t_drop [true] rfl (hK0 s31 h)
def w_X12_blanks (st : zTs)  (P : zTs → Prop) : Prop := w_X12_blanks_0 P zfu st
set_option maxHeartbeats 4000000 in
set_option maxRecDepth 100000 in
theorem c_X12_blanks {Z : zZ} {l : Launch} (hfl : l.stackTraces = false) {st : zTs}  {P : zTs → Prop} (h : w_X12_blanks st  P) : zN Z l yX12_blanks cX12_blanks 1 none ({ frames := 2, cells := 0, slots := 0, locals := 33 } : Room) (zh Z zm1 st) [.ref 100] (zWv Z zm1 P) := by
  unfold w_X12_blanks at h
  refine z_enterN (by decide) (Nat.le_of_ble_eq_true rfl) (lc0 := [some (.ref 100)]) rfl ?_
  intro p e s m args below meth c ad0 C hr _
  have hn9 : True := trivial
  replace C : zC Z p s m args meth c cX12_blanks 1 RX12 := C
  exact t_drop [true] rfl (j_X12_blanks_0 hfl C hr hn9  zfu st h)
def w_X12_isDigit (st : zTs) (a0 : Int32) (P : Int32 → Prop) : Prop := (a0 < 48 → P 0) ∧ (¬ a0 < 48 → (57 < a0 → P 0) ∧ (¬ 57 < a0 → P 1))
set_option maxHeartbeats 4000000 in
set_option maxRecDepth 100000 in
theorem c_X12_isDigit {Z : zZ} {l : Launch} (hfl : l.stackTraces = false) {st : zTs} {a0 : Int32} {P : Int32 → Prop} (h : w_X12_isDigit st a0 P) : zN Z l yX12_isDigit cX12_isDigit 1 (some .boolean) ({ frames := 1, cells := 0, slots := 0, locals := 12 } : Room) (zh Z zm1 st) [.int (a0)] (zRi Z st P) := by
  unfold w_X12_isDigit at h
  refine z_enterN (by decide) (Nat.le_of_ble_eq_true rfl) (lc0 := [some (.int (a0))]) rfl ?_
  intro p e s m args below meth c ad0 C hr _
  have hn9 : True := trivial
  replace C : zC Z p s m args meth c cX12_isDigit 1 RX12 := C
  refine z_iload_n C dX12_isDigit_0 (i := 0) rfl rfl ?_
  refine z_bipush C dX12_isDigit_1 (v := 48) (by decide) ?_
  refine z_icmp_lt C dX12_isDigit_3 (tgt := 16) (by decide) (fun c3 => ?_) (fun c3 => ?_)
  · have h := h.1 c3
    refine z_iconst C dX12_isDigit_16 (v := 0) (by decide) ?_
    exact z_iret C dX12_isDigit_17 hr rfl ⟨rfl, _, rfl, h⟩ (Nat.le_of_ble_eq_true rfl) (Nat.le_of_ble_eq_true rfl)
  · have h := h.2 c3
    refine z_iload_n C dX12_isDigit_6 (i := 0) rfl rfl ?_
    refine z_bipush C dX12_isDigit_7 (v := 57) (by decide) ?_
    refine z_icmp_gt C dX12_isDigit_9 (tgt := 16) (by decide) (fun c9 => ?_) (fun c9 => ?_)
    · have h := h.1 c9
      refine z_iconst C dX12_isDigit_16 (v := 0) (by decide) ?_
      exact z_iret C dX12_isDigit_17 hr rfl ⟨rfl, _, rfl, h⟩ (Nat.le_of_ble_eq_true rfl) (Nat.le_of_ble_eq_true rfl)
    · have h := h.2 c9
      refine z_iconst C dX12_isDigit_12 (v := 1) (by decide) ?_
      refine z_goto C dX12_isDigit_13 (tgt := 17) (by decide) ?_
      exact z_iret C dX12_isDigit_17 hr rfl ⟨rfl, _, rfl, h⟩ (Nat.le_of_ble_eq_true rfl) (Nat.le_of_ble_eq_true rfl)
def w_X12_wrong (st : zTs) (a1 : Int32) (a2 : Int32) (P : zTs → Prop) : Prop := ((zgF st 100 0 9) ≤ 0 → ∀ s10 : zTs, s10 = zuF st 100 0 9 a1 → (∀ s15 : zTs, s15 = zuF s10 100 0 10 a2 → (P s15))) ∧ (¬ (zgF st 100 0 9) ≤ 0 → P st)
set_option maxHeartbeats 4000000 in
set_option maxRecDepth 100000 in
theorem c_X12_wrong {Z : zZ} {l : Launch} (hfl : l.stackTraces = false) {st : zTs} {a1 : Int32} {a2 : Int32} {P : zTs → Prop} (h : w_X12_wrong st a1 a2 P) : zN Z l yX12_wrong cX12_wrong 3 none ({ frames := 1, cells := 0, slots := 0, locals := 12 } : Room) (zh Z zm1 st) [.ref 100, .int (a1), .int (a2)] (zWv Z zm1 P) := by
  unfold w_X12_wrong at h
  refine z_enterN (by decide) (Nat.le_of_ble_eq_true rfl) (lc0 := [some (.ref 100), some (.int (a1)), some (.int (a2))]) rfl ?_
  intro p e s m args below meth c ad0 C hr _
  have hn9 : True := trivial
  replace C : zC Z p s m args meth c cX12_wrong 3 RX12 := C
  refine z_aload_n C dX12_wrong_0 (i := 0) rfl rfl ?_
  refine t_get C dX12_wrong_1 fl_X12_239 (k := 100) (i := 0) (by decide) rfl (fg_100_9 _ _ _) ?_
  refine z_if_le C dX12_wrong_4 (tgt := 8) (by decide) (fun c4 => ?_) (fun c4 => ?_)
  · have h := h.1 c4
    refine z_aload_n C dX12_wrong_8 (i := 0) rfl rfl ?_
    refine z_iload_n C dX12_wrong_9 (i := 1) rfl rfl ?_
    refine t_put C dX12_wrong_10 fq_X12_239 (Or.inl rfl) (k := 100) (i := 0) (by decide) rfl ⟨rfl, rfl⟩ (fp_100_9 _ _ _ _ _) ?_
    refine t_tops (fun s10 es10 => ?_)
    have h := h s10 es10
    refine z_aload_n C dX12_wrong_13 (i := 0) rfl rfl ?_
    refine z_iload_n C dX12_wrong_14 (i := 2) rfl rfl ?_
    refine t_put C dX12_wrong_15 fq_X12_17 (Or.inl rfl) (k := 100) (i := 0) (by decide) rfl ⟨rfl, rfl⟩ (fp_100_10 _ _ _ _ _) ?_
    refine t_tops (fun s15 es15 => ?_)
    have h := h s15 es15
    exact z_vret C dX12_wrong_18 hr ⟨_, rfl, rfl, h⟩ (Nat.le_of_ble_eq_true rfl) (Nat.le_of_ble_eq_true rfl)
  · have h := h.2 c4
    exact z_vret C dX12_wrong_7 hr ⟨_, rfl, rfl, h⟩ (Nat.le_of_ble_eq_true rfl) (Nat.le_of_ble_eq_true rfl)
def w_X12_number_117 (P : Int32 → zTs → Prop)  (st : zTs) (a3 : Int32) (a4 : Int32) : Prop := w_X12_wrong st 2 a3 (fun (s120 : zTs) => (P a4 s120))
set_option maxHeartbeats 4000000 in
set_option maxRecDepth 100000 in
theorem j_X12_number_117 {P : Int32 → zTs → Prop}  (hfl : l.stackTraces = false) (C : zC Z p s m args meth c cX12_number 5 RX12) (hr : meth.sig.returnType = (some .int)) (hn9 : True)  (st : zTs) (a3 : Int32) (a4 : Int32) (h : w_X12_number_117 P st a3 a4) : zG Z ad0 h0 p l e ({ frames := 3, cells := 0, slots := 0, locals := 53 } : Room) s m args below meth c (MQ below (zQ Z ad0 h0 (zWi Z P)) args s 0 0 (zA Z)) 0 0 (zh Z zm1 st) 5 117 [some (.ref 100), none, none, some (.int (a3)), some (.int (a4))] [] := by
  unfold w_X12_number_117 at h
  refine z_aload_n C dX12_number_117 (i := 0) rfl rfl ?_
  refine z_iconst C dX12_number_118 (v := 2) (by decide) ?_
  refine z_iload_n C dX12_number_119 (i := 3) rfl rfl ?_
  refine t_callV C (rest := []) (c2 := 0) (s2 := 0) (kd := 100) (i := 0) [.int (2), .int (a3)] dX12_number_120 lk_X12_300 li_X12_wrong le_X12_wrong (c_X12_wrong hfl h) rfl rfl (by decide) rfl ⟨_, rfl⟩ rfl ⟨Nat.le_of_ble_eq_true rfl, Nat.le_of_ble_eq_true rfl⟩ (Nat.le_of_ble_eq_true rfl) ⟨Nat.le_of_ble_eq_true rfl, Nat.le_of_ble_eq_true rfl, Nat.le_of_ble_eq_true rfl, Nat.le_of_ble_eq_true rfl⟩ (k_Wv fun s120 h => ?_)
  refine z_iload C dX12_number_123 rfl ?_
  exact z_iret C dX12_number_125 hr rfl ⟨_, _, rfl, rfl, h⟩ (Nat.le_of_ble_eq_true rfl) (Nat.le_of_ble_eq_true rfl)
def w_X12_number_90 (P : Int32 → zTs → Prop) (K46 : zTs → Int32 → Int32 → Int32 → Int32 → Prop) (st : zTs) (a1 : Int32) (a2 : Int32) (a3 : Int32) (b0 : Int32) : Prop := ∀ s99 : zTs, s99 = zuF st 100 0 8 ((zgF st 100 0 8) + 1) → (K46 s99 a1 a2 a3 b0)
set_option maxHeartbeats 4000000 in
set_option maxRecDepth 100000 in
theorem j_X12_number_90 {P : Int32 → zTs → Prop} {K46 : zTs → Int32 → Int32 → Int32 → Int32 → Prop} (hfl : l.stackTraces = false) (C : zC Z p s m args meth c cX12_number 5 RX12) (hr : meth.sig.returnType = (some .int)) (hn9 : True) (hK46 : ∀ (st : zTs) (a1 : Int32) (a2 : Int32) (a3 : Int32) (a4 : Int32), K46 st a1 a2 a3 a4 → zG Z ad0 h0 p l e ({ frames := 3, cells := 0, slots := 0, locals := 53 } : Room) s m args below meth c (MQ below (zQ Z ad0 h0 (zWi Z P)) args s 0 0 (zA Z)) 0 0 (zh Z zm1 st) 5 46 [some (.ref 100), some (.int (a1)), some (.int (a2)), some (.int (a3)), some (.int (a4))] []) (st : zTs) (a1 : Int32) (a2 : Int32) (a3 : Int32) (b0 : Int32) (h : w_X12_number_90 P K46 st a1 a2 a3 b0) : zG Z ad0 h0 p l e ({ frames := 3, cells := 0, slots := 0, locals := 53 } : Room) s m args below meth c (MQ below (zQ Z ad0 h0 (zWi Z P)) args s 0 0 (zA Z)) 0 0 (zh Z zm1 st) 5 90 [some (.ref 100), some (.int (a1)), some (.int (a2)), some (.int (a3)), none] [.int (b0)] := by
  unfold w_X12_number_90 at h
  refine z_istore C dX12_number_90 (lc' := [some (.ref 100), some (.int (a1)), some (.int (a2)), some (.int (a3)), some (.int (b0))]) (by decide) rfl ?_
  refine z_aload_n C dX12_number_92 (i := 0) rfl rfl ?_
  refine z_dup C dX12_number_93 rfl ?_
  refine t_get C dX12_number_94 fl_X12_232 (k := 100) (i := 0) (by decide) rfl (fg_100_8 _ _ _) ?_
  refine z_iconst C dX12_number_97 (v := 1) (by decide) ?_
  refine z_iadd C dX12_number_98 ?_
  refine t_put C dX12_number_99 fq_X12_232 (Or.inl rfl) (k := 100) (i := 0) (by decide) rfl ⟨rfl, rfl⟩ (fp_100_8 _ _ _ _ _) ?_
  refine t_tops (fun s99 es99 => ?_)
  have h := h s99 es99
  refine z_goto C dX12_number_102 (tgt := 46) (by decide) ?_
  exact t_drop [true, true, true, true, true] rfl (hK46 s99 a1 a2 a3 b0 h)
def w_X12_number_46 (P : Int32 → zTs → Prop)  : Nat → zTs → Int32 → Int32 → Int32 → Int32 → Prop
  | 0, _, _, _, _, _ => False
  | n9 + 1, st, a1, a2, a3, a4 => w_X12_byteAt st (zgF st 100 0 8) (fun (r51 : Int32) => (w_X12_isDigit st r51 (fun (r54 : Int32) => ((r54 = 0 → (a4 < a1 → w_X12_number_117 P st a3 a4) ∧ (¬ a4 < a1 → (a4 ≤ a2 → P a4 st) ∧ (¬ a4 ≤ a2 → w_X12_number_117 P st a3 a4))) ∧ (¬ r54 = 0 → (a4 ≤ 100000 → w_X12_byteAt st (zgF st 100 0 8) (fun (r83 : Int32) => (w_X12_number_90 P (w_X12_number_46 P n9) st a1 a2 a3 (((10 * a4) + r83) - 48)))) ∧ (¬ a4 ≤ 100000 → w_X12_number_90 P (w_X12_number_46 P n9) st a1 a2 a3 a4))))))
set_option maxHeartbeats 4000000 in
set_option maxRecDepth 100000 in
theorem j_X12_number_46 {P : Int32 → zTs → Prop}  (hfl : l.stackTraces = false) (C : zC Z p s m args meth c cX12_number 5 RX12) (hr : meth.sig.returnType = (some .int)) (hn9 : True)  : ∀ (n9 : Nat) (st : zTs) (a1 : Int32) (a2 : Int32) (a3 : Int32) (a4 : Int32), w_X12_number_46 P n9 st a1 a2 a3 a4 → zG Z ad0 h0 p l e ({ frames := 3, cells := 0, slots := 0, locals := 53 } : Room) s m args below meth c (MQ below (zQ Z ad0 h0 (zWi Z P)) args s 0 0 (zA Z)) 0 0 (zh Z zm1 st) 5 46 [some (.ref 100), some (.int (a1)), some (.int (a2)), some (.int (a3)), some (.int (a4))] [] := by
  intro n9
  induction n9 with
  | zero => intro st a1 a2 a3 a4 h; exact h.elim
  | succ n9 hK46 =>
    intro st a1 a2 a3 a4 h
    rw [w_X12_number_46] at h
    refine z_aload_n C dX12_number_46 (i := 0) rfl rfl ?_
    refine z_aload_n C dX12_number_47 (i := 0) rfl rfl ?_
    refine t_get C dX12_number_48 fl_X12_232 (k := 100) (i := 0) (by decide) rfl (fg_100_8 _ _ _) ?_
    refine t_callV C (rest := []) (c2 := 0) (s2 := 0) (kd := 100) (i := 0) [.int (zgF st 100 0 8)] dX12_number_51 lk_X12_235 li_X12_byteAt le_X12_byteAt (c_X12_byteAt hfl h) rfl rfl (by decide) rfl ⟨_, rfl⟩ rfl ⟨Nat.le_of_ble_eq_true rfl, Nat.le_of_ble_eq_true rfl⟩ (Nat.le_of_ble_eq_true rfl) ⟨Nat.le_of_ble_eq_true rfl, Nat.le_of_ble_eq_true rfl, Nat.le_of_ble_eq_true rfl, Nat.le_of_ble_eq_true rfl⟩ (k_Ri fun r51 h => ?_)
    refine t_callS C (rest := []) (c2 := 0) (s2 := 0) [.int (r51)] dX12_number_54 lk_X12_297 ls_X12_isDigit (c_X12_isDigit hfl h) rfl rfl ⟨Nat.le_of_ble_eq_true rfl, Nat.le_of_ble_eq_true rfl⟩ (Nat.le_of_ble_eq_true rfl) ⟨Nat.le_of_ble_eq_true rfl, Nat.le_of_ble_eq_true rfl, Nat.le_of_ble_eq_true rfl, Nat.le_of_ble_eq_true rfl⟩ (k_Ri fun r54 h => ?_)
    refine z_if_eq C dX12_number_57 (tgt := 105) (by decide) (fun c57 => ?_) (fun c57 => ?_)
    · have h := h.1 c57
      refine z_iload C dX12_number_105 rfl ?_
      refine z_iload_n C dX12_number_107 (i := 1) rfl rfl ?_
      refine z_icmp_lt C dX12_number_108 (tgt := 117) (by decide) (fun c108 => ?_) (fun c108 => ?_)
      · have h := h.1 c108
        exact t_drop [true, false, false, true, true] rfl (j_X12_number_117 hfl C hr hn9  st a3 a4 h)
      · have h := h.2 c108
        refine z_iload C dX12_number_111 rfl ?_
        refine z_iload_n C dX12_number_113 (i := 2) rfl rfl ?_
        refine z_icmp_le C dX12_number_114 (tgt := 123) (by decide) (fun c114 => ?_) (fun c114 => ?_)
        · have h := h.1 c114
          refine z_iload C dX12_number_123 rfl ?_
          exact z_iret C dX12_number_125 hr rfl ⟨_, _, rfl, rfl, h⟩ (Nat.le_of_ble_eq_true rfl) (Nat.le_of_ble_eq_true rfl)
        · have h := h.2 c114
          exact t_drop [true, false, false, true, true] rfl (j_X12_number_117 hfl C hr hn9  st a3 a4 h)
    · have h := h.2 c57
      refine z_iload C dX12_number_60 rfl ?_
      refine z_ldc_w C dX12_number_62 kc_X12_304 ?_
      refine z_icmp_le C dX12_number_65 (tgt := 73) (by decide) (fun c65 => ?_) (fun c65 => ?_)
      · have h := h.1 c65
        refine z_bipush C dX12_number_73 (v := 10) (by decide) ?_
        refine z_iload C dX12_number_75 rfl ?_
        refine z_imul C dX12_number_77 ?_
        refine z_aload_n C dX12_number_78 (i := 0) rfl rfl ?_
        refine z_aload_n C dX12_number_79 (i := 0) rfl rfl ?_
        refine t_get C dX12_number_80 fl_X12_232 (k := 100) (i := 0) (by decide) rfl (fg_100_8 _ _ _) ?_
        refine t_callV C (rest := [.int (10 * a4)]) (c2 := 0) (s2 := 0) (kd := 100) (i := 0) [.int (zgF st 100 0 8)] dX12_number_83 lk_X12_235 li_X12_byteAt le_X12_byteAt (c_X12_byteAt hfl h) rfl rfl (by decide) rfl ⟨_, rfl⟩ rfl ⟨Nat.le_of_ble_eq_true rfl, Nat.le_of_ble_eq_true rfl⟩ (Nat.le_of_ble_eq_true rfl) ⟨Nat.le_of_ble_eq_true rfl, Nat.le_of_ble_eq_true rfl, Nat.le_of_ble_eq_true rfl, Nat.le_of_ble_eq_true rfl⟩ (k_Ri fun r83 h => ?_)
        refine z_iadd C dX12_number_86 ?_
        refine z_bipush C dX12_number_87 (v := 48) (by decide) ?_
        refine z_isub C dX12_number_89 ?_
        exact t_drop [true, true, true, true, false] rfl (j_X12_number_90 hfl C hr hn9 hK46 st a1 a2 a3 (((10 * a4) + r83) - 48) h)
      · have h := h.2 c65
        refine z_iload C dX12_number_68 rfl ?_
        refine z_goto C dX12_number_70 (tgt := 90) (by decide) ?_
        exact t_drop [true, true, true, true, false] rfl (j_X12_number_90 hfl C hr hn9 hK46 st a1 a2 a3 a4 h)
def w_X12_number (st : zTs) (a1 : Int32) (a2 : Int32) (P : Int32 → zTs → Prop) : Prop := ((zgF st 100 0 9) ≤ 0 → w_X12_blanks st (fun (s10 : zTs) => (∀ x17 : Int32, x17 = zgF s10 100 0 8 → (w_X12_byteAt s10 (zgF s10 100 0 8) (fun (r23 : Int32) => (w_X12_isDigit s10 r23 (fun (r26 : Int32) => ((r26 = 0 → w_X12_wrong s10 1 (zgF s10 100 0 8) (fun (s38 : zTs) => (P 0 s38))) ∧ (¬ r26 = 0 → w_X12_number_46 P zfu s10 a1 a2 x17 (0)))))))))) ∧ (¬ (zgF st 100 0 9) ≤ 0 → P 0 st)
set_option maxHeartbeats 4000000 in
set_option maxRecDepth 100000 in
theorem c_X12_number {Z : zZ} {l : Launch} (hfl : l.stackTraces = false) {st : zTs} {a1 : Int32} {a2 : Int32} {P : Int32 → zTs → Prop} (h : w_X12_number st a1 a2 P) : zN Z l yX12_number cX12_number 5 (some .int) ({ frames := 3, cells := 0, slots := 0, locals := 53 } : Room) (zh Z zm1 st) [.ref 100, .int (a1), .int (a2)] (zWi Z P) := by
  unfold w_X12_number at h
  refine z_enterN (by decide) (Nat.le_of_ble_eq_true rfl) (lc0 := [some (.ref 100), some (.int (a1)), some (.int (a2)), none, none]) rfl ?_
  intro p e s m args below meth c ad0 C hr _
  have hn9 : True := trivial
  replace C : zC Z p s m args meth c cX12_number 5 RX12 := C
  refine z_aload_n C dX12_number_0 (i := 0) rfl rfl ?_
  refine t_get C dX12_number_1 fl_X12_239 (k := 100) (i := 0) (by decide) rfl (fg_100_9 _ _ _) ?_
  refine z_if_le C dX12_number_4 (tgt := 9) (by decide) (fun c4 => ?_) (fun c4 => ?_)
  · have h := h.1 c4
    refine z_aload_n C dX12_number_9 (i := 0) rfl rfl ?_
    refine t_callV C (rest := []) (c2 := 0) (s2 := 0) (kd := 100) (i := 0) [] dX12_number_10 lk_X12_242 li_X12_blanks le_X12_blanks (c_X12_blanks hfl h) rfl rfl (by decide) rfl ⟨_, rfl⟩ rfl ⟨Nat.le_of_ble_eq_true rfl, Nat.le_of_ble_eq_true rfl⟩ (Nat.le_of_ble_eq_true rfl) ⟨Nat.le_of_ble_eq_true rfl, Nat.le_of_ble_eq_true rfl, Nat.le_of_ble_eq_true rfl, Nat.le_of_ble_eq_true rfl⟩ (k_Wv fun s10 h => ?_)
    refine z_aload_n C dX12_number_13 (i := 0) rfl rfl ?_
    refine t_get C dX12_number_14 fl_X12_232 (k := 100) (i := 0) (by decide) rfl (fg_100_8 _ _ _) ?_
    refine t_topi (fun x17 ex17 => ?_)
    have h := h x17 ex17
    refine z_istore_n C dX12_number_17 (i := 3) (lc' := [some (.ref 100), some (.int (a1)), some (.int (a2)), some (.int (x17)), none]) rfl (by decide) rfl ?_
    refine z_aload_n C dX12_number_18 (i := 0) rfl rfl ?_
    refine z_aload_n C dX12_number_19 (i := 0) rfl rfl ?_
    refine t_get C dX12_number_20 fl_X12_232 (k := 100) (i := 0) (by decide) rfl (fg_100_8 _ _ _) ?_
    refine t_callV C (rest := []) (c2 := 0) (s2 := 0) (kd := 100) (i := 0) [.int (zgF s10 100 0 8)] dX12_number_23 lk_X12_235 li_X12_byteAt le_X12_byteAt (c_X12_byteAt hfl h) rfl rfl (by decide) rfl ⟨_, rfl⟩ rfl ⟨Nat.le_of_ble_eq_true rfl, Nat.le_of_ble_eq_true rfl⟩ (Nat.le_of_ble_eq_true rfl) ⟨Nat.le_of_ble_eq_true rfl, Nat.le_of_ble_eq_true rfl, Nat.le_of_ble_eq_true rfl, Nat.le_of_ble_eq_true rfl⟩ (k_Ri fun r23 h => ?_)
    refine t_callS C (rest := []) (c2 := 0) (s2 := 0) [.int (r23)] dX12_number_26 lk_X12_297 ls_X12_isDigit (c_X12_isDigit hfl h) rfl rfl ⟨Nat.le_of_ble_eq_true rfl, Nat.le_of_ble_eq_true rfl⟩ (Nat.le_of_ble_eq_true rfl) ⟨Nat.le_of_ble_eq_true rfl, Nat.le_of_ble_eq_true rfl, Nat.le_of_ble_eq_true rfl, Nat.le_of_ble_eq_true rfl⟩ (k_Ri fun r26 h => ?_)
    refine z_if_ne C dX12_number_29 (tgt := 43) (by decide) (fun c29 => ?_) (fun c29 => ?_)
    · have h := h.2 c29
      refine z_iconst C dX12_number_43 (v := 0) (by decide) ?_
      refine z_istore C dX12_number_44 (lc' := [some (.ref 100), some (.int (a1)), some (.int (a2)), some (.int (x17)), some (.int (0))]) (by decide) rfl ?_
      exact t_drop [true, true, true, true, true] rfl (j_X12_number_46 hfl C hr hn9  zfu s10 a1 a2 x17 (0) h)
    · have h := h.1 c29
      refine z_aload_n C dX12_number_32 (i := 0) rfl rfl ?_
      refine z_iconst C dX12_number_33 (v := 1) (by decide) ?_
      refine z_aload_n C dX12_number_34 (i := 0) rfl rfl ?_
      refine t_get C dX12_number_35 fl_X12_232 (k := 100) (i := 0) (by decide) rfl (fg_100_8 _ _ _) ?_
      refine t_callV C (rest := []) (c2 := 0) (s2 := 0) (kd := 100) (i := 0) [.int (1), .int (zgF s10 100 0 8)] dX12_number_38 lk_X12_300 li_X12_wrong le_X12_wrong (c_X12_wrong hfl h) rfl rfl (by decide) rfl ⟨_, rfl⟩ rfl ⟨Nat.le_of_ble_eq_true rfl, Nat.le_of_ble_eq_true rfl⟩ (Nat.le_of_ble_eq_true rfl) ⟨Nat.le_of_ble_eq_true rfl, Nat.le_of_ble_eq_true rfl, Nat.le_of_ble_eq_true rfl, Nat.le_of_ble_eq_true rfl⟩ (k_Wv fun s38 h => ?_)
      refine z_iconst C dX12_number_41 (v := 0) (by decide) ?_
      exact z_iret C dX12_number_42 hr rfl ⟨_, _, rfl, rfl, h⟩ (Nat.le_of_ble_eq_true rfl) (Nat.le_of_ble_eq_true rfl)
  · have h := h.2 c4
    refine z_iconst C dX12_number_7 (v := 0) (by decide) ?_
    exact z_iret C dX12_number_8 hr rfl ⟨_, _, rfl, rfl, h⟩ (Nat.le_of_ble_eq_true rfl) (Nat.le_of_ble_eq_true rfl)
def w_X12_sign_48 (P : zTs → Prop)  (st : zTs) : Prop := w_X12_wrong st 1 (zgF st 100 0 8) (fun (s54 : zTs) => (P s54))
set_option maxHeartbeats 4000000 in
set_option maxRecDepth 100000 in
theorem j_X12_sign_48 {P : zTs → Prop}  (hfl : l.stackTraces = false) (C : zC Z p s m args meth c cX12_sign 2 RX12) (hr : meth.sig.returnType = none) (hn9 : True)  (st : zTs) (h : w_X12_sign_48 P st) : zG Z ad0 h0 p l e ({ frames := 3, cells := 0, slots := 0, locals := 53 } : Room) s m args below meth c (MQ below (zQ Z ad0 h0 (zWv Z zm1 P)) args s 0 0 (zA Z)) 0 0 (zh Z zm1 st) 2 48 [some (.ref 100), none] [] := by
  unfold w_X12_sign_48 at h
  refine z_aload_n C dX12_sign_48 (i := 0) rfl rfl ?_
  refine z_iconst C dX12_sign_49 (v := 1) (by decide) ?_
  refine z_aload_n C dX12_sign_50 (i := 0) rfl rfl ?_
  refine t_get C dX12_sign_51 fl_X12_232 (k := 100) (i := 0) (by decide) rfl (fg_100_8 _ _ _) ?_
  refine t_callV C (rest := []) (c2 := 0) (s2 := 0) (kd := 100) (i := 0) [.int (1), .int (zgF st 100 0 8)] dX12_sign_54 lk_X12_300 li_X12_wrong le_X12_wrong (c_X12_wrong hfl h) rfl rfl (by decide) rfl ⟨_, rfl⟩ rfl ⟨Nat.le_of_ble_eq_true rfl, Nat.le_of_ble_eq_true rfl⟩ (Nat.le_of_ble_eq_true rfl) ⟨Nat.le_of_ble_eq_true rfl, Nat.le_of_ble_eq_true rfl, Nat.le_of_ble_eq_true rfl, Nat.le_of_ble_eq_true rfl⟩ (k_Wv fun s54 h => ?_)
  exact z_vret C dX12_sign_57 hr ⟨_, rfl, rfl, h⟩ (Nat.le_of_ble_eq_true rfl) (Nat.le_of_ble_eq_true rfl)
def w_X12_sign (st : zTs) (a1 : Int32) (P : zTs → Prop) : Prop := ((zgF st 100 0 9) ≤ 0 → w_X12_blanks st (fun (s9 : zTs) => (((zgF s9 100 0 7) ≤ (zgF s9 100 0 8) → w_X12_sign_48 P s9) ∧ (¬ (zgF s9 100 0 7) ≤ (zgF s9 100 0 8) → w_X12_byteAt s9 (zgF s9 100 0 8) (fun (r28 : Int32) => ((r28 = a1 → ∀ s42 : zTs, s42 = zuF s9 100 0 8 ((zgF s9 100 0 8) + 1) → (P s42)) ∧ (¬ r28 = a1 → w_X12_sign_48 P s9))))))) ∧ (¬ (zgF st 100 0 9) ≤ 0 → P st)
set_option maxHeartbeats 4000000 in
set_option maxRecDepth 100000 in
theorem c_X12_sign {Z : zZ} {l : Launch} (hfl : l.stackTraces = false) {st : zTs} {a1 : Int32} {P : zTs → Prop} (h : w_X12_sign st a1 P) : zN Z l yX12_sign cX12_sign 2 none ({ frames := 3, cells := 0, slots := 0, locals := 53 } : Room) (zh Z zm1 st) [.ref 100, .int (a1)] (zWv Z zm1 P) := by
  unfold w_X12_sign at h
  refine z_enterN (by decide) (Nat.le_of_ble_eq_true rfl) (lc0 := [some (.ref 100), some (.int (a1))]) rfl ?_
  intro p e s m args below meth c ad0 C hr _
  have hn9 : True := trivial
  replace C : zC Z p s m args meth c cX12_sign 2 RX12 := C
  refine z_aload_n C dX12_sign_0 (i := 0) rfl rfl ?_
  refine t_get C dX12_sign_1 fl_X12_239 (k := 100) (i := 0) (by decide) rfl (fg_100_9 _ _ _) ?_
  refine z_if_le C dX12_sign_4 (tgt := 8) (by decide) (fun c4 => ?_) (fun c4 => ?_)
  · have h := h.1 c4
    refine z_aload_n C dX12_sign_8 (i := 0) rfl rfl ?_
    refine t_callV C (rest := []) (c2 := 0) (s2 := 0) (kd := 100) (i := 0) [] dX12_sign_9 lk_X12_242 li_X12_blanks le_X12_blanks (c_X12_blanks hfl h) rfl rfl (by decide) rfl ⟨_, rfl⟩ rfl ⟨Nat.le_of_ble_eq_true rfl, Nat.le_of_ble_eq_true rfl⟩ (Nat.le_of_ble_eq_true rfl) ⟨Nat.le_of_ble_eq_true rfl, Nat.le_of_ble_eq_true rfl, Nat.le_of_ble_eq_true rfl, Nat.le_of_ble_eq_true rfl⟩ (k_Wv fun s9 h => ?_)
    refine z_aload_n C dX12_sign_12 (i := 0) rfl rfl ?_
    refine t_get C dX12_sign_13 fl_X12_232 (k := 100) (i := 0) (by decide) rfl (fg_100_8 _ _ _) ?_
    refine z_aload_n C dX12_sign_16 (i := 0) rfl rfl ?_
    refine t_get C dX12_sign_17 fl_X12_229 (k := 100) (i := 0) (by decide) rfl (fg_100_7 _ _ _) ?_
    refine z_icmp_ge C dX12_sign_20 (tgt := 48) (by decide) (fun c20 => ?_) (fun c20 => ?_)
    · have h := h.1 c20
      exact t_drop [true, false] rfl (j_X12_sign_48 hfl C hr hn9  s9 h)
    · have h := h.2 c20
      refine z_aload_n C dX12_sign_23 (i := 0) rfl rfl ?_
      refine z_aload_n C dX12_sign_24 (i := 0) rfl rfl ?_
      refine t_get C dX12_sign_25 fl_X12_232 (k := 100) (i := 0) (by decide) rfl (fg_100_8 _ _ _) ?_
      refine t_callV C (rest := []) (c2 := 0) (s2 := 0) (kd := 100) (i := 0) [.int (zgF s9 100 0 8)] dX12_sign_28 lk_X12_235 li_X12_byteAt le_X12_byteAt (c_X12_byteAt hfl h) rfl rfl (by decide) rfl ⟨_, rfl⟩ rfl ⟨Nat.le_of_ble_eq_true rfl, Nat.le_of_ble_eq_true rfl⟩ (Nat.le_of_ble_eq_true rfl) ⟨Nat.le_of_ble_eq_true rfl, Nat.le_of_ble_eq_true rfl, Nat.le_of_ble_eq_true rfl, Nat.le_of_ble_eq_true rfl⟩ (k_Ri fun r28 h => ?_)
      refine z_iload_n C dX12_sign_31 (i := 1) rfl rfl ?_
      refine z_icmp_ne C dX12_sign_32 (tgt := 48) (by decide) (fun c32 => ?_) (fun c32 => ?_)
      · have h := h.2 c32
        exact t_drop [true, false] rfl (j_X12_sign_48 hfl C hr hn9  s9 h)
      · have h := h.1 c32
        refine z_aload_n C dX12_sign_35 (i := 0) rfl rfl ?_
        refine z_dup C dX12_sign_36 rfl ?_
        refine t_get C dX12_sign_37 fl_X12_232 (k := 100) (i := 0) (by decide) rfl (fg_100_8 _ _ _) ?_
        refine z_iconst C dX12_sign_40 (v := 1) (by decide) ?_
        refine z_iadd C dX12_sign_41 ?_
        refine t_put C dX12_sign_42 fq_X12_232 (Or.inl rfl) (k := 100) (i := 0) (by decide) rfl ⟨rfl, rfl⟩ (fp_100_8 _ _ _ _ _) ?_
        refine t_tops (fun s42 es42 => ?_)
        have h := h s42 es42
        refine z_goto C dX12_sign_45 (tgt := 57) (by decide) ?_
        exact z_vret C dX12_sign_57 hr ⟨_, rfl, rfl, h⟩ (Nat.le_of_ble_eq_true rfl) (Nat.le_of_ble_eq_true rfl)
  · have h := h.2 c4
    exact z_vret C dX12_sign_7 hr ⟨_, rfl, rfl, h⟩ (Nat.le_of_ble_eq_true rfl) (Nat.le_of_ble_eq_true rfl)
def w_X12_emits (st : zTs) (a1 : Int32) (a2 : Int32) (P : zTs → Prop) : Prop := ((zgF st 100 0 9) ≤ 0 → vp_in (zgF st 100 0 21) 800 ∧ (∀ s17 : zTs, s17 = zuA st 109 0 (zgF st 100 0 21 : Int32).toNatClampNeg a1 → (vp_in (zgF s17 100 0 21) 800 ∧ (∀ s27 : zTs, s27 = zuA s17 110 0 (zgF s17 100 0 21 : Int32).toNatClampNeg a2 → (∀ s35 : zTs, s35 = zuF s27 100 0 21 ((zgF s27 100 0 21) + 1) → (P s35)))))) ∧ (¬ (zgF st 100 0 9) ≤ 0 → P st)
set_option maxHeartbeats 4000000 in
set_option maxRecDepth 100000 in
theorem c_X12_emits {Z : zZ} {l : Launch} (hfl : l.stackTraces = false) {st : zTs} {a1 : Int32} {a2 : Int32} {P : zTs → Prop} (h : w_X12_emits st a1 a2 P) : zN Z l yX12_emits cX12_emits 3 none ({ frames := 1, cells := 0, slots := 0, locals := 12 } : Room) (zh Z zm1 st) [.ref 100, .int (a1), .int (a2)] (zWv Z zm1 P) := by
  unfold w_X12_emits at h
  refine z_enterN (by decide) (Nat.le_of_ble_eq_true rfl) (lc0 := [some (.ref 100), some (.int (a1)), some (.int (a2))]) rfl ?_
  intro p e s m args below meth c ad0 C hr _
  have hn9 : True := trivial
  replace C : zC Z p s m args meth c cX12_emits 3 RX12 := C
  refine z_aload_n C dX12_emits_0 (i := 0) rfl rfl ?_
  refine t_get C dX12_emits_1 fl_X12_239 (k := 100) (i := 0) (by decide) rfl (fg_100_9 _ _ _) ?_
  refine z_if_le C dX12_emits_4 (tgt := 8) (by decide) (fun c4 => ?_) (fun c4 => ?_)
  · have h := h.1 c4
    refine z_aload_n C dX12_emits_8 (i := 0) rfl rfl ?_
    refine t_get C dX12_emits_9 fl_X12_39 (k := 100) (i := 0) (by decide) rfl (fg_100_19 _ _ _) ?_
    refine z_aload_n C dX12_emits_12 (i := 0) rfl rfl ?_
    refine t_get C dX12_emits_13 fl_X12_305 (k := 100) (i := 0) (by decide) rfl (fg_100_21 _ _ _) ?_
    refine z_iload_n C dX12_emits_16 (i := 1) rfl rfl ?_
    obtain ⟨g17, h⟩ := h
    refine t_iast C dX12_emits_17 (k := 109) (i := 0) (by decide) rfl (fun s9 => sh_109 _ _ s9 _) g17 ?_
    refine t_tops (fun s17 es17 => ?_)
    have h := h s17 es17
    refine z_aload_n C dX12_emits_18 (i := 0) rfl rfl ?_
    refine t_get C dX12_emits_19 fl_X12_42 (k := 100) (i := 0) (by decide) rfl (fg_100_20 _ _ _) ?_
    refine z_aload_n C dX12_emits_22 (i := 0) rfl rfl ?_
    refine t_get C dX12_emits_23 fl_X12_305 (k := 100) (i := 0) (by decide) rfl (fg_100_21 _ _ _) ?_
    refine z_iload_n C dX12_emits_26 (i := 2) rfl rfl ?_
    obtain ⟨g27, h⟩ := h
    refine t_iast C dX12_emits_27 (k := 110) (i := 0) (by decide) rfl (fun s9 => sh_110 _ _ s9 _) g27 ?_
    refine t_tops (fun s27 es27 => ?_)
    have h := h s27 es27
    refine z_aload_n C dX12_emits_28 (i := 0) rfl rfl ?_
    refine z_dup C dX12_emits_29 rfl ?_
    refine t_get C dX12_emits_30 fl_X12_305 (k := 100) (i := 0) (by decide) rfl (fg_100_21 _ _ _) ?_
    refine z_iconst C dX12_emits_33 (v := 1) (by decide) ?_
    refine z_iadd C dX12_emits_34 ?_
    refine t_put C dX12_emits_35 fq_X12_305 (Or.inl rfl) (k := 100) (i := 0) (by decide) rfl ⟨rfl, rfl⟩ (fp_100_21 _ _ _ _ _) ?_
    refine t_tops (fun s35 es35 => ?_)
    have h := h s35 es35
    exact z_vret C dX12_emits_38 hr ⟨_, rfl, rfl, h⟩ (Nat.le_of_ble_eq_true rfl) (Nat.le_of_ble_eq_true rfl)
  · have h := h.2 c4
    exact z_vret C dX12_emits_7 hr ⟨_, rfl, rfl, h⟩ (Nat.le_of_ble_eq_true rfl) (Nat.le_of_ble_eq_true rfl)
def w_X12_opens_18 (P : zTs → Prop)  (st : zTs) (a1 : Int32) : Prop := ∀ s25 : zTs, s25 = zuF st 100 0 8 ((zgF st 100 0 8) + a1) → (∀ s35 : zTs, s35 = zuF s25 100 0 12 ((zgF s25 100 0 12) + 1) → (P s35))
set_option maxHeartbeats 4000000 in
set_option maxRecDepth 100000 in
theorem j_X12_opens_18 {P : zTs → Prop}  (hfl : l.stackTraces = false) (C : zC Z p s m args meth c cX12_opens 2 RX12) (hr : meth.sig.returnType = none) (hn9 : True)  (st : zTs) (a1 : Int32) (h : w_X12_opens_18 P st a1) : zG Z ad0 h0 p l e ({ frames := 2, cells := 0, slots := 0, locals := 34 } : Room) s m args below meth c (MQ below (zQ Z ad0 h0 (zWv Z zm1 P)) args s 0 0 (zA Z)) 0 0 (zh Z zm1 st) 2 18 [some (.ref 100), some (.int (a1))] [] := by
  unfold w_X12_opens_18 at h
  refine z_aload_n C dX12_opens_18 (i := 0) rfl rfl ?_
  refine z_dup C dX12_opens_19 rfl ?_
  refine t_get C dX12_opens_20 fl_X12_232 (k := 100) (i := 0) (by decide) rfl (fg_100_8 _ _ _) ?_
  refine z_iload_n C dX12_opens_23 (i := 1) rfl rfl ?_
  refine z_iadd C dX12_opens_24 ?_
  refine t_put C dX12_opens_25 fq_X12_232 (Or.inl rfl) (k := 100) (i := 0) (by decide) rfl ⟨rfl, rfl⟩ (fp_100_8 _ _ _ _ _) ?_
  refine t_tops (fun s25 es25 => ?_)
  have h := h s25 es25
  refine z_aload_n C dX12_opens_28 (i := 0) rfl rfl ?_
  refine z_dup C dX12_opens_29 rfl ?_
  refine t_get C dX12_opens_30 fl_X12_324 (k := 100) (i := 0) (by decide) rfl (fg_100_12 _ _ _) ?_
  refine z_iconst C dX12_opens_33 (v := 1) (by decide) ?_
  refine z_iadd C dX12_opens_34 ?_
  refine t_put C dX12_opens_35 fq_X12_324 (Or.inl rfl) (k := 100) (i := 0) (by decide) rfl ⟨rfl, rfl⟩ (fp_100_12 _ _ _ _ _) ?_
  refine t_tops (fun s35 es35 => ?_)
  have h := h s35 es35
  exact z_vret C dX12_opens_38 hr ⟨_, rfl, rfl, h⟩ (Nat.le_of_ble_eq_true rfl) (Nat.le_of_ble_eq_true rfl)
def w_X12_opens (st : zTs) (a1 : Int32) (P : zTs → Prop) : Prop := ((zgF st 100 0 12) = 8 → w_X12_wrong st 3 (zgF st 100 0 8) (fun (s15 : zTs) => (w_X12_opens_18 P s15 a1))) ∧ (¬ (zgF st 100 0 12) = 8 → w_X12_opens_18 P st a1)
set_option maxHeartbeats 4000000 in
set_option maxRecDepth 100000 in
theorem c_X12_opens {Z : zZ} {l : Launch} (hfl : l.stackTraces = false) {st : zTs} {a1 : Int32} {P : zTs → Prop} (h : w_X12_opens st a1 P) : zN Z l yX12_opens cX12_opens 2 none ({ frames := 2, cells := 0, slots := 0, locals := 34 } : Room) (zh Z zm1 st) [.ref 100, .int (a1)] (zWv Z zm1 P) := by
  unfold w_X12_opens at h
  refine z_enterN (by decide) (Nat.le_of_ble_eq_true rfl) (lc0 := [some (.ref 100), some (.int (a1))]) rfl ?_
  intro p e s m args below meth c ad0 C hr _
  have hn9 : True := trivial
  replace C : zC Z p s m args meth c cX12_opens 2 RX12 := C
  refine z_aload_n C dX12_opens_0 (i := 0) rfl rfl ?_
  refine t_get C dX12_opens_1 fl_X12_324 (k := 100) (i := 0) (by decide) rfl (fg_100_12 _ _ _) ?_
  refine z_bipush C dX12_opens_4 (v := 8) (by decide) ?_
  refine z_icmp_ne C dX12_opens_6 (tgt := 18) (by decide) (fun c6 => ?_) (fun c6 => ?_)
  · have h := h.2 c6
    exact t_drop [true, true] rfl (j_X12_opens_18 hfl C hr hn9  st a1 h)
  · have h := h.1 c6
    refine z_aload_n C dX12_opens_9 (i := 0) rfl rfl ?_
    refine z_iconst C dX12_opens_10 (v := 3) (by decide) ?_
    refine z_aload_n C dX12_opens_11 (i := 0) rfl rfl ?_
    refine t_get C dX12_opens_12 fl_X12_232 (k := 100) (i := 0) (by decide) rfl (fg_100_8 _ _ _) ?_
    refine t_callV C (rest := []) (c2 := 0) (s2 := 0) (kd := 100) (i := 0) [.int (3), .int (zgF st 100 0 8)] dX12_opens_15 lk_X12_300 li_X12_wrong le_X12_wrong (c_X12_wrong hfl h) rfl rfl (by decide) rfl ⟨_, rfl⟩ rfl ⟨Nat.le_of_ble_eq_true rfl, Nat.le_of_ble_eq_true rfl⟩ (Nat.le_of_ble_eq_true rfl) ⟨Nat.le_of_ble_eq_true rfl, Nat.le_of_ble_eq_true rfl, Nat.le_of_ble_eq_true rfl, Nat.le_of_ble_eq_true rfl⟩ (k_Wv fun s15 h => ?_)
    exact t_drop [true, true] rfl (j_X12_opens_18 hfl C hr hn9  s15 a1 h)
def w_X12_starts_104 (P : zTs → Prop)  : Nat → zTs → Int32 → Prop
  | 0, _, _ => False
  | n9 + 1, st, a1 => (4 ≤ a1 → ∀ s124 : zTs, s124 = zuF st 100 0 21 0 → (∀ s129 : zTs, s129 = zuF s124 100 0 12 0 → (P s129))) ∧ (¬ 4 ≤ a1 → vp_in a1 4 ∧ (∀ s115 : zTs, s115 = zuA st 106 0 (a1 : Int32).toNatClampNeg (-1) → (∀ x116 : Int32, x116 = a1 + 1 → ((w_X12_starts_104 P n9) s115 x116))))
set_option maxHeartbeats 4000000 in
set_option maxRecDepth 100000 in
theorem j_X12_starts_104 {P : zTs → Prop}  (hfl : l.stackTraces = false) (C : zC Z p s m args meth c cX12_starts 2 RX12) (hr : meth.sig.returnType = none) (hn9 : True)  : ∀ (n9 : Nat) (st : zTs) (a1 : Int32), w_X12_starts_104 P n9 st a1 → zG Z ad0 h0 p l e ({ frames := 1, cells := 0, slots := 0, locals := 12 } : Room) s m args below meth c (MQ below (zQ Z ad0 h0 (zWv Z zm1 P)) args s 0 0 (zA Z)) 0 0 (zh Z zm1 st) 2 104 [some (.ref 100), some (.int (a1))] [] := by
  intro n9
  induction n9 with
  | zero => intro st a1 h; exact h.elim
  | succ n9 hK104 =>
    intro st a1 h
    rw [w_X12_starts_104] at h
    refine z_iload_n C dX12_starts_104 (i := 1) rfl rfl ?_
    refine z_iconst C dX12_starts_105 (v := 4) (by decide) ?_
    refine z_icmp_ge C dX12_starts_106 (tgt := 122) (by decide) (fun c106 => ?_) (fun c106 => ?_)
    · have h := h.1 c106
      refine z_aload_n C dX12_starts_122 (i := 0) rfl rfl ?_
      refine z_iconst C dX12_starts_123 (v := 0) (by decide) ?_
      refine t_put C dX12_starts_124 fq_X12_305 (Or.inl rfl) (k := 100) (i := 0) (by decide) rfl ⟨rfl, rfl⟩ (fp_100_21 _ _ _ _ _) ?_
      refine t_tops (fun s124 es124 => ?_)
      have h := h s124 es124
      refine z_aload_n C dX12_starts_127 (i := 0) rfl rfl ?_
      refine z_iconst C dX12_starts_128 (v := 0) (by decide) ?_
      refine t_put C dX12_starts_129 fq_X12_324 (Or.inl rfl) (k := 100) (i := 0) (by decide) rfl ⟨rfl, rfl⟩ (fp_100_12 _ _ _ _ _) ?_
      refine t_tops (fun s129 es129 => ?_)
      have h := h s129 es129
      exact z_vret C dX12_starts_132 hr ⟨_, rfl, rfl, h⟩ (Nat.le_of_ble_eq_true rfl) (Nat.le_of_ble_eq_true rfl)
    · have h := h.2 c106
      refine z_aload_n C dX12_starts_109 (i := 0) rfl rfl ?_
      refine t_get C dX12_starts_110 fl_X12_30 (k := 100) (i := 0) (by decide) rfl (fg_100_16 _ _ _) ?_
      refine z_iload_n C dX12_starts_113 (i := 1) rfl rfl ?_
      refine z_iconst C dX12_starts_114 (v := (-1)) (by decide) ?_
      obtain ⟨g115, h⟩ := h
      refine t_iast C dX12_starts_115 (k := 106) (i := 0) (by decide) rfl (fun s9 => sh_106 _ _ s9 _) g115 ?_
      refine t_tops (fun s115 es115 => ?_)
      have h := h s115 es115
      obtain ⟨x116, ex116⟩ : ∃ z : Int32, z = a1 + 1 := ⟨_, rfl⟩
      have h := h x116 ex116
      refine z_iinc C dX12_starts_116 (v := x116) (lc' := [some (.ref 100), some (.int (x116))]) rfl (by decide) (by rw [ex116]; rfl) rfl ?_
      refine z_goto C dX12_starts_119 (tgt := 104) (by decide) ?_
      exact t_drop [true, true] rfl (hK104 s115 x116 h)
def w_X12_starts_24 (P : zTs → Prop) (K2 : zTs → Int32 → Prop) (st : zTs) (a1 : Int32) (b0 : Int32) (b1 : Int32) : Prop := vp_in b1 15 ∧ (∀ s24 : zTs, s24 = zuA st 104 0 (b1 : Int32).toNatClampNeg b0 → (∀ x25 : Int32, x25 = a1 + 1 → (K2 s24 x25)))
set_option maxHeartbeats 4000000 in
set_option maxRecDepth 100000 in
theorem j_X12_starts_24 {P : zTs → Prop} {K2 : zTs → Int32 → Prop} (hfl : l.stackTraces = false) (C : zC Z p s m args meth c cX12_starts 2 RX12) (hr : meth.sig.returnType = none) (hn9 : True) (hK2 : ∀ (st : zTs) (a1 : Int32), K2 st a1 → zG Z ad0 h0 p l e ({ frames := 1, cells := 0, slots := 0, locals := 12 } : Room) s m args below meth c (MQ below (zQ Z ad0 h0 (zWv Z zm1 P)) args s 0 0 (zA Z)) 0 0 (zh Z zm1 st) 2 2 [some (.ref 100), some (.int (a1))] []) (st : zTs) (a1 : Int32) (b0 : Int32) (b1 : Int32) (h : w_X12_starts_24 P K2 st a1 b0 b1) : zG Z ad0 h0 p l e ({ frames := 1, cells := 0, slots := 0, locals := 12 } : Room) s m args below meth c (MQ below (zQ Z ad0 h0 (zWv Z zm1 P)) args s 0 0 (zA Z)) 0 0 (zh Z zm1 st) 2 24 [some (.ref 100), some (.int (a1))] [.int (b0), .int (b1), .ref 104] := by
  unfold w_X12_starts_24 at h
  obtain ⟨g24, h⟩ := h
  refine t_iast C dX12_starts_24 (k := 104) (i := 0) (by decide) rfl (fun s9 => sh_104 _ _ s9 _) g24 ?_
  refine t_tops (fun s24 es24 => ?_)
  have h := h s24 es24
  obtain ⟨x25, ex25⟩ : ∃ z : Int32, z = a1 + 1 := ⟨_, rfl⟩
  have h := h x25 ex25
  refine z_iinc C dX12_starts_25 (v := x25) (lc' := [some (.ref 100), some (.int (x25))]) rfl (by decide) (by rw [ex25]; rfl) rfl ?_
  refine z_goto C dX12_starts_28 (tgt := 2) (by decide) ?_
  exact t_drop [true, true] rfl (hK2 s24 x25 h)
def w_X12_starts_2 (P : zTs → Prop)  : Nat → zTs → Int32 → Prop
  | 0, _, _ => False
  | n9 + 1, st, a1 => (15 ≤ a1 → vp_in 6 15 ∧ (∀ s39 : zTs, s39 = zuA st 104 0 (6 : Int32).toNatClampNeg 14 → (vp_in 7 15 ∧ (∀ s47 : zTs, s47 = zuA s39 104 0 (7 : Int32).toNatClampNeg 1 → (vp_in 8 15 ∧ (∀ s56 : zTs, s56 = zuA s47 104 0 (8 : Int32).toNatClampNeg 10 → (vp_in 9 15 ∧ (∀ s65 : zTs, s65 = zuA s56 104 0 (9 : Int32).toNatClampNeg 14 → (vp_in 11 15 ∧ (∀ s74 : zTs, s74 = zuA s65 104 0 (11 : Int32).toNatClampNeg 10 → (vp_in 12 15 ∧ (∀ s83 : zTs, s83 = zuA s74 104 0 (12 : Int32).toNatClampNeg 50 → (vp_in 13 15 ∧ (∀ s92 : zTs, s92 = zuA s83 104 0 (13 : Int32).toNatClampNeg 8 → (vp_in 14 15 ∧ (∀ s101 : zTs, s101 = zuA s92 104 0 (14 : Int32).toNatClampNeg 17 → (w_X12_starts_104 P zfu s101 (0)))))))))))))))))) ∧ (¬ 15 ≤ a1 → (4 ≤ a1 → w_X12_starts_24 P (w_X12_starts_2 P n9) st a1 (0) a1) ∧ (¬ 4 ≤ a1 → w_X12_starts_24 P (w_X12_starts_2 P n9) st a1 (30) a1))
set_option maxHeartbeats 4000000 in
set_option maxRecDepth 100000 in
theorem j_X12_starts_2 {P : zTs → Prop}  (hfl : l.stackTraces = false) (C : zC Z p s m args meth c cX12_starts 2 RX12) (hr : meth.sig.returnType = none) (hn9 : True)  : ∀ (n9 : Nat) (st : zTs) (a1 : Int32), w_X12_starts_2 P n9 st a1 → zG Z ad0 h0 p l e ({ frames := 1, cells := 0, slots := 0, locals := 12 } : Room) s m args below meth c (MQ below (zQ Z ad0 h0 (zWv Z zm1 P)) args s 0 0 (zA Z)) 0 0 (zh Z zm1 st) 2 2 [some (.ref 100), some (.int (a1))] [] := by
  intro n9
  induction n9 with
  | zero => intro st a1 h; exact h.elim
  | succ n9 hK2 =>
    intro st a1 h
    rw [w_X12_starts_2] at h
    refine z_iload_n C dX12_starts_2 (i := 1) rfl rfl ?_
    refine z_bipush C dX12_starts_3 (v := 15) (by decide) ?_
    refine z_icmp_ge C dX12_starts_5 (tgt := 31) (by decide) (fun c5 => ?_) (fun c5 => ?_)
    · have h := h.1 c5
      refine z_aload_n C dX12_starts_31 (i := 0) rfl rfl ?_
      refine t_get C dX12_starts_32 fl_X12_24 (k := 100) (i := 0) (by decide) rfl (fg_100_14 _ _ _) ?_
      refine z_bipush C dX12_starts_35 (v := 6) (by decide) ?_
      refine z_bipush C dX12_starts_37 (v := 14) (by decide) ?_
      obtain ⟨g39, h⟩ := h
      refine t_iast C dX12_starts_39 (k := 104) (i := 0) (by decide) rfl (fun s9 => sh_104 _ _ s9 _) g39 ?_
      refine t_tops (fun s39 es39 => ?_)
      have h := h s39 es39
      refine z_aload_n C dX12_starts_40 (i := 0) rfl rfl ?_
      refine t_get C dX12_starts_41 fl_X12_24 (k := 100) (i := 0) (by decide) rfl (fg_100_14 _ _ _) ?_
      refine z_bipush C dX12_starts_44 (v := 7) (by decide) ?_
      refine z_iconst C dX12_starts_46 (v := 1) (by decide) ?_
      obtain ⟨g47, h⟩ := h
      refine t_iast C dX12_starts_47 (k := 104) (i := 0) (by decide) rfl (fun s9 => sh_104 _ _ s9 _) g47 ?_
      refine t_tops (fun s47 es47 => ?_)
      have h := h s47 es47
      refine z_aload_n C dX12_starts_48 (i := 0) rfl rfl ?_
      refine t_get C dX12_starts_49 fl_X12_24 (k := 100) (i := 0) (by decide) rfl (fg_100_14 _ _ _) ?_
      refine z_bipush C dX12_starts_52 (v := 8) (by decide) ?_
      refine z_bipush C dX12_starts_54 (v := 10) (by decide) ?_
      obtain ⟨g56, h⟩ := h
      refine t_iast C dX12_starts_56 (k := 104) (i := 0) (by decide) rfl (fun s9 => sh_104 _ _ s9 _) g56 ?_
      refine t_tops (fun s56 es56 => ?_)
      have h := h s56 es56
      refine z_aload_n C dX12_starts_57 (i := 0) rfl rfl ?_
      refine t_get C dX12_starts_58 fl_X12_24 (k := 100) (i := 0) (by decide) rfl (fg_100_14 _ _ _) ?_
      refine z_bipush C dX12_starts_61 (v := 9) (by decide) ?_
      refine z_bipush C dX12_starts_63 (v := 14) (by decide) ?_
      obtain ⟨g65, h⟩ := h
      refine t_iast C dX12_starts_65 (k := 104) (i := 0) (by decide) rfl (fun s9 => sh_104 _ _ s9 _) g65 ?_
      refine t_tops (fun s65 es65 => ?_)
      have h := h s65 es65
      refine z_aload_n C dX12_starts_66 (i := 0) rfl rfl ?_
      refine t_get C dX12_starts_67 fl_X12_24 (k := 100) (i := 0) (by decide) rfl (fg_100_14 _ _ _) ?_
      refine z_bipush C dX12_starts_70 (v := 11) (by decide) ?_
      refine z_bipush C dX12_starts_72 (v := 10) (by decide) ?_
      obtain ⟨g74, h⟩ := h
      refine t_iast C dX12_starts_74 (k := 104) (i := 0) (by decide) rfl (fun s9 => sh_104 _ _ s9 _) g74 ?_
      refine t_tops (fun s74 es74 => ?_)
      have h := h s74 es74
      refine z_aload_n C dX12_starts_75 (i := 0) rfl rfl ?_
      refine t_get C dX12_starts_76 fl_X12_24 (k := 100) (i := 0) (by decide) rfl (fg_100_14 _ _ _) ?_
      refine z_bipush C dX12_starts_79 (v := 12) (by decide) ?_
      refine z_bipush C dX12_starts_81 (v := 50) (by decide) ?_
      obtain ⟨g83, h⟩ := h
      refine t_iast C dX12_starts_83 (k := 104) (i := 0) (by decide) rfl (fun s9 => sh_104 _ _ s9 _) g83 ?_
      refine t_tops (fun s83 es83 => ?_)
      have h := h s83 es83
      refine z_aload_n C dX12_starts_84 (i := 0) rfl rfl ?_
      refine t_get C dX12_starts_85 fl_X12_24 (k := 100) (i := 0) (by decide) rfl (fg_100_14 _ _ _) ?_
      refine z_bipush C dX12_starts_88 (v := 13) (by decide) ?_
      refine z_bipush C dX12_starts_90 (v := 8) (by decide) ?_
      obtain ⟨g92, h⟩ := h
      refine t_iast C dX12_starts_92 (k := 104) (i := 0) (by decide) rfl (fun s9 => sh_104 _ _ s9 _) g92 ?_
      refine t_tops (fun s92 es92 => ?_)
      have h := h s92 es92
      refine z_aload_n C dX12_starts_93 (i := 0) rfl rfl ?_
      refine t_get C dX12_starts_94 fl_X12_24 (k := 100) (i := 0) (by decide) rfl (fg_100_14 _ _ _) ?_
      refine z_bipush C dX12_starts_97 (v := 14) (by decide) ?_
      refine z_bipush C dX12_starts_99 (v := 17) (by decide) ?_
      obtain ⟨g101, h⟩ := h
      refine t_iast C dX12_starts_101 (k := 104) (i := 0) (by decide) rfl (fun s9 => sh_104 _ _ s9 _) g101 ?_
      refine t_tops (fun s101 es101 => ?_)
      have h := h s101 es101
      refine z_iconst C dX12_starts_102 (v := 0) (by decide) ?_
      refine z_istore_n C dX12_starts_103 (i := 1) (lc' := [some (.ref 100), some (.int (0))]) rfl (by decide) rfl ?_
      exact t_drop [true, true] rfl (j_X12_starts_104 hfl C hr hn9  zfu s101 (0) h)
    · have h := h.2 c5
      refine z_aload_n C dX12_starts_8 (i := 0) rfl rfl ?_
      refine t_get C dX12_starts_9 fl_X12_24 (k := 100) (i := 0) (by decide) rfl (fg_100_14 _ _ _) ?_
      refine z_iload_n C dX12_starts_12 (i := 1) rfl rfl ?_
      refine z_iload_n C dX12_starts_13 (i := 1) rfl rfl ?_
      refine z_iconst C dX12_starts_14 (v := 4) (by decide) ?_
      refine z_icmp_ge C dX12_starts_15 (tgt := 23) (by decide) (fun c15 => ?_) (fun c15 => ?_)
      · have h := h.1 c15
        refine z_iconst C dX12_starts_23 (v := 0) (by decide) ?_
        exact t_drop [true, true] rfl (j_X12_starts_24 hfl C hr hn9 hK2 st a1 (0) a1 h)
      · have h := h.2 c15
        refine z_bipush C dX12_starts_18 (v := 30) (by decide) ?_
        refine z_goto C dX12_starts_20 (tgt := 24) (by decide) ?_
        exact t_drop [true, true] rfl (j_X12_starts_24 hfl C hr hn9 hK2 st a1 (30) a1 h)
def w_X12_starts (st : zTs)  (P : zTs → Prop) : Prop := w_X12_starts_2 P zfu st (0)
set_option maxHeartbeats 4000000 in
set_option maxRecDepth 100000 in
theorem c_X12_starts {Z : zZ} {l : Launch} (hfl : l.stackTraces = false) {st : zTs}  {P : zTs → Prop} (h : w_X12_starts st  P) : zN Z l yX12_starts cX12_starts 2 none ({ frames := 1, cells := 0, slots := 0, locals := 12 } : Room) (zh Z zm1 st) [.ref 100] (zWv Z zm1 P) := by
  unfold w_X12_starts at h
  refine z_enterN (by decide) (Nat.le_of_ble_eq_true rfl) (lc0 := [some (.ref 100), none]) rfl ?_
  intro p e s m args below meth c ad0 C hr _
  have hn9 : True := trivial
  replace C : zC Z p s m args meth c cX12_starts 2 RX12 := C
  refine z_iconst C dX12_starts_0 (v := 0) (by decide) ?_
  refine z_istore_n C dX12_starts_1 (i := 1) (lc' := [some (.ref 100), some (.int (0))]) rfl (by decide) rfl ?_
  exact t_drop [true, true] rfl (j_X12_starts_2 hfl C hr hn9  zfu st (0) h)
def w_X12_fault (st : zTs)  (P : Int32 → zTs → Prop) : Prop := ∀ s2 : zTs, s2 = zuF st 100 0 0 0 → (P (zgF s2 100 0 10) s2)
set_option maxHeartbeats 4000000 in
set_option maxRecDepth 100000 in
theorem c_X12_fault {Z : zZ} {l : Launch} (hfl : l.stackTraces = false) {st : zTs}  {P : Int32 → zTs → Prop} (h : w_X12_fault st  P) : zN Z l yX12_fault cX12_fault 1 (some .int) ({ frames := 1, cells := 0, slots := 0, locals := 12 } : Room) (zh Z zm1 st) [.ref 100] (zWi Z P) := by
  unfold w_X12_fault at h
  refine z_enterN (by decide) (Nat.le_of_ble_eq_true rfl) (lc0 := [some (.ref 100)]) rfl ?_
  intro p e s m args below meth c ad0 C hr _
  have hn9 : True := trivial
  replace C : zC Z p s m args meth c cX12_fault 1 RX12 := C
  refine z_aload_n C dX12_fault_0 (i := 0) rfl rfl ?_
  refine z_iconst C dX12_fault_1 (v := 0) (by decide) ?_
  refine t_put C dX12_fault_2 fq_X12_199 (Or.inl rfl) (k := 100) (i := 0) (by decide) rfl ⟨rfl, rfl⟩ (fp_100_0 _ _ _ _ _) ?_
  refine t_tops (fun s2 es2 => ?_)
  have h := h s2 es2
  refine z_aload_n C dX12_fault_5 (i := 0) rfl rfl ?_
  refine t_get C dX12_fault_6 fl_X12_17 (k := 100) (i := 0) (by decide) rfl (fg_100_10 _ _ _) ?_
  exact z_iret C dX12_fault_9 hr rfl ⟨_, _, rfl, rfl, h⟩ (Nat.le_of_ble_eq_true rfl) (Nat.le_of_ble_eq_true rfl)
def w_X12_holds_254 (P : Int32 → zTs → Prop) (K22 : zTs → Int32 → Int32 → Int32 → Int32 → Int32 → Prop) (st : zTs) (a2 : Int32) (a3 : Int32) (a4 : Int32) (a5 : Int32) (a6 : Int32) : Prop := ∀ x254 : Int32, x254 = a6 + 1 → (K22 st a2 a3 a4 a5 x254)
set_option maxHeartbeats 4000000 in
set_option maxRecDepth 100000 in
theorem j_X12_holds_254 {P : Int32 → zTs → Prop} {K22 : zTs → Int32 → Int32 → Int32 → Int32 → Int32 → Prop} (hfl : l.stackTraces = false) (C : zC Z p s m args meth c cX12_holds 11 RX12) (hr : meth.sig.returnType = (some .boolean)) (hn9 : True) (hK22 : ∀ (st : zTs) (a2 : Int32) (a3 : Int32) (a4 : Int32) (a5 : Int32) (a6 : Int32), K22 st a2 a3 a4 a5 a6 → zG Z ad0 h0 p l e ({ frames := 1, cells := 0, slots := 0, locals := 12 } : Room) s m args below meth c (MQ below (zQ Z ad0 h0 (zWi Z P)) args s 0 0 (zA Z)) 0 0 (zh Z zm1 st) 11 22 [some (.ref 100), none, some (.int (a2)), some (.int (a3)), some (.int (a4)), some (.int (a5)), some (.int (a6)), none, none, none, none] []) (st : zTs) (a2 : Int32) (a3 : Int32) (a4 : Int32) (a5 : Int32) (a6 : Int32) (h : w_X12_holds_254 P K22 st a2 a3 a4 a5 a6) : zG Z ad0 h0 p l e ({ frames := 1, cells := 0, slots := 0, locals := 12 } : Room) s m args below meth c (MQ below (zQ Z ad0 h0 (zWi Z P)) args s 0 0 (zA Z)) 0 0 (zh Z zm1 st) 11 254 [some (.ref 100), none, some (.int (a2)), some (.int (a3)), some (.int (a4)), some (.int (a5)), some (.int (a6)), none, none, none, none] [] := by
  unfold w_X12_holds_254 at h
  obtain ⟨x254, ex254⟩ : ∃ z : Int32, z = a6 + 1 := ⟨_, rfl⟩
  have h := h x254 ex254
  refine z_iinc C dX12_holds_254 (v := x254) (lc' := [some (.ref 100), none, some (.int (a2)), some (.int (a3)), some (.int (a4)), some (.int (a5)), some (.int (x254)), none, none, none, none]) rfl (by decide) (by rw [ex254]; rfl) rfl ?_
  refine z_goto C dX12_holds_257 (tgt := 22) (by decide) ?_
  exact t_drop [true, false, true, true, true, true, true, false, false, false, false] rfl (hK22 st a2 a3 a4 a5 x254 h)
def w_X12_holds_250 (P : Int32 → zTs → Prop) (K22 : zTs → Int32 → Int32 → Int32 → Int32 → Int32 → Prop) (st : zTs) (a2 : Int32) (a3 : Int32) (a4 : Int32) (a5 : Int32) (a6 : Int32) (b0 : Int32) (b1 : Int32) : Prop := vp_in b1 800 ∧ (∀ s250 : zTs, s250 = zuA st 111 0 (b1 : Int32).toNatClampNeg (vp_nar .boolean b0) → (∀ x251 : Int32, x251 = a5 + 1 → (w_X12_holds_254 P K22 s250 a2 a3 a4 x251 a6)))
set_option maxHeartbeats 4000000 in
set_option maxRecDepth 100000 in
theorem j_X12_holds_250 {P : Int32 → zTs → Prop} {K22 : zTs → Int32 → Int32 → Int32 → Int32 → Int32 → Prop} (hfl : l.stackTraces = false) (C : zC Z p s m args meth c cX12_holds 11 RX12) (hr : meth.sig.returnType = (some .boolean)) (hn9 : True) (hK22 : ∀ (st : zTs) (a2 : Int32) (a3 : Int32) (a4 : Int32) (a5 : Int32) (a6 : Int32), K22 st a2 a3 a4 a5 a6 → zG Z ad0 h0 p l e ({ frames := 1, cells := 0, slots := 0, locals := 12 } : Room) s m args below meth c (MQ below (zQ Z ad0 h0 (zWi Z P)) args s 0 0 (zA Z)) 0 0 (zh Z zm1 st) 11 22 [some (.ref 100), none, some (.int (a2)), some (.int (a3)), some (.int (a4)), some (.int (a5)), some (.int (a6)), none, none, none, none] []) (st : zTs) (a2 : Int32) (a3 : Int32) (a4 : Int32) (a5 : Int32) (a6 : Int32) (b0 : Int32) (b1 : Int32) (h : w_X12_holds_250 P K22 st a2 a3 a4 a5 a6 b0 b1) : zG Z ad0 h0 p l e ({ frames := 1, cells := 0, slots := 0, locals := 12 } : Room) s m args below meth c (MQ below (zQ Z ad0 h0 (zWi Z P)) args s 0 0 (zA Z)) 0 0 (zh Z zm1 st) 11 250 [some (.ref 100), none, some (.int (a2)), some (.int (a3)), some (.int (a4)), some (.int (a5)), some (.int (a6)), none, none, none, none] [.int (b0), .int (b1), .ref 111] := by
  unfold w_X12_holds_250 at h
  obtain ⟨g250, h⟩ := h
  refine t_zast C dX12_holds_250 (k := 111) (i := 0) (by decide) rfl (fun s9 => sh_111 _ _ s9 _) g250 ?_
  refine t_tops (fun s250 es250 => ?_)
  have h := h s250 es250
  obtain ⟨x251, ex251⟩ : ∃ z : Int32, z = a5 + 1 := ⟨_, rfl⟩
  have h := h x251 ex251
  refine z_iinc C dX12_holds_251 (v := x251) (lc' := [some (.ref 100), none, some (.int (a2)), some (.int (a3)), some (.int (a4)), some (.int (x251)), some (.int (a6)), none, none, none, none]) rfl (by decide) (by rw [ex251]; rfl) rfl ?_
  exact t_drop [true, false, true, true, true, true, true, false, false, false, false] rfl (j_X12_holds_254 hfl C hr hn9 hK22 s250 a2 a3 a4 x251 a6 h)
def w_X12_holds_209 (P : Int32 → zTs → Prop) (K22 : zTs → Int32 → Int32 → Int32 → Int32 → Int32 → Prop) (st : zTs) (a2 : Int32) (a3 : Int32) (a4 : Int32) (a5 : Int32) (a6 : Int32) (a7 : Int32) (a9 : Int32) (b0 : Int32) : Prop := (a7 = 4 → (a9 ≤ b0 → w_X12_holds_250 P K22 st a2 a3 a4 a5 a6 (0) a5) ∧ (¬ a9 ≤ b0 → w_X12_holds_250 P K22 st a2 a3 a4 a5 a6 (1) a5)) ∧ (¬ a7 = 4 → (b0 ≤ a9 → w_X12_holds_250 P K22 st a2 a3 a4 a5 a6 (0) a5) ∧ (¬ b0 ≤ a9 → w_X12_holds_250 P K22 st a2 a3 a4 a5 a6 (1) a5))
set_option maxHeartbeats 4000000 in
set_option maxRecDepth 100000 in
theorem j_X12_holds_209 {P : Int32 → zTs → Prop} {K22 : zTs → Int32 → Int32 → Int32 → Int32 → Int32 → Prop} (hfl : l.stackTraces = false) (C : zC Z p s m args meth c cX12_holds 11 RX12) (hr : meth.sig.returnType = (some .boolean)) (hn9 : True) (hK22 : ∀ (st : zTs) (a2 : Int32) (a3 : Int32) (a4 : Int32) (a5 : Int32) (a6 : Int32), K22 st a2 a3 a4 a5 a6 → zG Z ad0 h0 p l e ({ frames := 1, cells := 0, slots := 0, locals := 12 } : Room) s m args below meth c (MQ below (zQ Z ad0 h0 (zWi Z P)) args s 0 0 (zA Z)) 0 0 (zh Z zm1 st) 11 22 [some (.ref 100), none, some (.int (a2)), some (.int (a3)), some (.int (a4)), some (.int (a5)), some (.int (a6)), none, none, none, none] []) (st : zTs) (a2 : Int32) (a3 : Int32) (a4 : Int32) (a5 : Int32) (a6 : Int32) (a7 : Int32) (a9 : Int32) (b0 : Int32) (h : w_X12_holds_209 P K22 st a2 a3 a4 a5 a6 a7 a9 b0) : zG Z ad0 h0 p l e ({ frames := 1, cells := 0, slots := 0, locals := 12 } : Room) s m args below meth c (MQ below (zQ Z ad0 h0 (zWi Z P)) args s 0 0 (zA Z)) 0 0 (zh Z zm1 st) 11 209 [some (.ref 100), none, some (.int (a2)), some (.int (a3)), some (.int (a4)), some (.int (a5)), some (.int (a6)), some (.int (a7)), none, some (.int (a9)), none] [.int (b0)] := by
  unfold w_X12_holds_209 at h
  refine z_istore C dX12_holds_209 (lc' := [some (.ref 100), none, some (.int (a2)), some (.int (a3)), some (.int (a4)), some (.int (a5)), some (.int (a6)), some (.int (a7)), none, some (.int (a9)), some (.int (b0))]) (by decide) rfl ?_
  refine z_aload_n C dX12_holds_211 (i := 0) rfl rfl ?_
  refine t_get C dX12_holds_212 fl_X12_45 (k := 100) (i := 0) (by decide) rfl (fg_100_22 _ _ _) ?_
  refine z_iload C dX12_holds_215 rfl ?_
  refine z_iload C dX12_holds_217 rfl ?_
  refine z_iconst C dX12_holds_219 (v := 4) (by decide) ?_
  refine z_icmp_ne C dX12_holds_220 (tgt := 238) (by decide) (fun c220 => ?_) (fun c220 => ?_)
  · have h := h.2 c220
    refine z_iload C dX12_holds_238 rfl ?_
    refine z_iload C dX12_holds_240 rfl ?_
    refine z_icmp_le C dX12_holds_242 (tgt := 249) (by decide) (fun c242 => ?_) (fun c242 => ?_)
    · have h := h.1 c242
      refine z_iconst C dX12_holds_249 (v := 0) (by decide) ?_
      exact t_drop [true, false, true, true, true, true, true, false, false, false, false] rfl (j_X12_holds_250 hfl C hr hn9 hK22 st a2 a3 a4 a5 a6 (0) a5 h)
    · have h := h.2 c242
      refine z_iconst C dX12_holds_245 (v := 1) (by decide) ?_
      refine z_goto C dX12_holds_246 (tgt := 250) (by decide) ?_
      exact t_drop [true, false, true, true, true, true, true, false, false, false, false] rfl (j_X12_holds_250 hfl C hr hn9 hK22 st a2 a3 a4 a5 a6 (1) a5 h)
  · have h := h.1 c220
    refine z_iload C dX12_holds_223 rfl ?_
    refine z_iload C dX12_holds_225 rfl ?_
    refine z_icmp_ge C dX12_holds_227 (tgt := 234) (by decide) (fun c227 => ?_) (fun c227 => ?_)
    · have h := h.1 c227
      refine z_iconst C dX12_holds_234 (v := 0) (by decide) ?_
      refine z_goto C dX12_holds_235 (tgt := 250) (by decide) ?_
      exact t_drop [true, false, true, true, true, true, true, false, false, false, false] rfl (j_X12_holds_250 hfl C hr hn9 hK22 st a2 a3 a4 a5 a6 (0) a5 h)
    · have h := h.2 c227
      refine z_iconst C dX12_holds_230 (v := 1) (by decide) ?_
      refine z_goto C dX12_holds_231 (tgt := 250) (by decide) ?_
      exact t_drop [true, false, true, true, true, true, true, false, false, false, false] rfl (j_X12_holds_250 hfl C hr hn9 hK22 st a2 a3 a4 a5 a6 (1) a5 h)
def w_X12_holds_162 (P : Int32 → zTs → Prop) (K22 : zTs → Int32 → Int32 → Int32 → Int32 → Int32 → Prop) (st : zTs) (a2 : Int32) (a3 : Int32) (a4 : Int32) (a5 : Int32) (a6 : Int32) (b0 : Int32) (b1 : Int32) : Prop := vp_in b1 800 ∧ (∀ s162 : zTs, s162 = zuA st 111 0 (b1 : Int32).toNatClampNeg (vp_nar .boolean b0) → (w_X12_holds_254 P K22 s162 a2 a3 a4 a5 a6))
set_option maxHeartbeats 4000000 in
set_option maxRecDepth 100000 in
theorem j_X12_holds_162 {P : Int32 → zTs → Prop} {K22 : zTs → Int32 → Int32 → Int32 → Int32 → Int32 → Prop} (hfl : l.stackTraces = false) (C : zC Z p s m args meth c cX12_holds 11 RX12) (hr : meth.sig.returnType = (some .boolean)) (hn9 : True) (hK22 : ∀ (st : zTs) (a2 : Int32) (a3 : Int32) (a4 : Int32) (a5 : Int32) (a6 : Int32), K22 st a2 a3 a4 a5 a6 → zG Z ad0 h0 p l e ({ frames := 1, cells := 0, slots := 0, locals := 12 } : Room) s m args below meth c (MQ below (zQ Z ad0 h0 (zWi Z P)) args s 0 0 (zA Z)) 0 0 (zh Z zm1 st) 11 22 [some (.ref 100), none, some (.int (a2)), some (.int (a3)), some (.int (a4)), some (.int (a5)), some (.int (a6)), none, none, none, none] []) (st : zTs) (a2 : Int32) (a3 : Int32) (a4 : Int32) (a5 : Int32) (a6 : Int32) (b0 : Int32) (b1 : Int32) (h : w_X12_holds_162 P K22 st a2 a3 a4 a5 a6 b0 b1) : zG Z ad0 h0 p l e ({ frames := 1, cells := 0, slots := 0, locals := 12 } : Room) s m args below meth c (MQ below (zQ Z ad0 h0 (zWi Z P)) args s 0 0 (zA Z)) 0 0 (zh Z zm1 st) 11 162 [some (.ref 100), none, some (.int (a2)), some (.int (a3)), some (.int (a4)), some (.int (a5)), some (.int (a6)), none, none, none, none] [.int (b0), .int (b1), .ref 111] := by
  unfold w_X12_holds_162 at h
  obtain ⟨g162, h⟩ := h
  refine t_zast C dX12_holds_162 (k := 111) (i := 0) (by decide) rfl (fun s9 => sh_111 _ _ s9 _) g162 ?_
  refine t_tops (fun s162 es162 => ?_)
  have h := h s162 es162
  refine z_goto C dX12_holds_163 (tgt := 254) (by decide) ?_
  exact t_drop [true, false, true, true, true, true, true, false, false, false, false] rfl (j_X12_holds_254 hfl C hr hn9 hK22 s162 a2 a3 a4 a5 a6 h)
def w_X12_holds_88 (P : Int32 → zTs → Prop) (K22 : zTs → Int32 → Int32 → Int32 → Int32 → Int32 → Prop) (st : zTs) (a2 : Int32) (a3 : Int32) (a4 : Int32) (a5 : Int32) (a6 : Int32) (a7 : Int32) : Prop := ∀ x88 : Int32, x88 = a5 + (-1) → ((a7 = 2 → vp_in (x88 - 1) 800 ∧ (((zgA st 111 0 (x88 - 1 : Int32).toNatClampNeg) = 0 → w_X12_holds_162 P K22 st a2 a3 a4 x88 a6 (0) (x88 - 1)) ∧ (¬ (zgA st 111 0 (x88 - 1 : Int32).toNatClampNeg) = 0 → vp_in x88 800 ∧ (((zgA st 111 0 (x88 : Int32).toNatClampNeg) = 0 → w_X12_holds_162 P K22 st a2 a3 a4 x88 a6 (0) (x88 - 1)) ∧ (¬ (zgA st 111 0 (x88 : Int32).toNatClampNeg) = 0 → w_X12_holds_162 P K22 st a2 a3 a4 x88 a6 (1) (x88 - 1)))))) ∧ (¬ a7 = 2 → vp_in (x88 - 1) 800 ∧ (((zgA st 111 0 (x88 - 1 : Int32).toNatClampNeg) = 0 → vp_in x88 800 ∧ (((zgA st 111 0 (x88 : Int32).toNatClampNeg) = 0 → w_X12_holds_162 P K22 st a2 a3 a4 x88 a6 (0) (x88 - 1)) ∧ (¬ (zgA st 111 0 (x88 : Int32).toNatClampNeg) = 0 → w_X12_holds_162 P K22 st a2 a3 a4 x88 a6 (1) (x88 - 1)))) ∧ (¬ (zgA st 111 0 (x88 - 1 : Int32).toNatClampNeg) = 0 → w_X12_holds_162 P K22 st a2 a3 a4 x88 a6 (1) (x88 - 1)))))
set_option maxHeartbeats 4000000 in
set_option maxRecDepth 100000 in
theorem j_X12_holds_88 {P : Int32 → zTs → Prop} {K22 : zTs → Int32 → Int32 → Int32 → Int32 → Int32 → Prop} (hfl : l.stackTraces = false) (C : zC Z p s m args meth c cX12_holds 11 RX12) (hr : meth.sig.returnType = (some .boolean)) (hn9 : True) (hK22 : ∀ (st : zTs) (a2 : Int32) (a3 : Int32) (a4 : Int32) (a5 : Int32) (a6 : Int32), K22 st a2 a3 a4 a5 a6 → zG Z ad0 h0 p l e ({ frames := 1, cells := 0, slots := 0, locals := 12 } : Room) s m args below meth c (MQ below (zQ Z ad0 h0 (zWi Z P)) args s 0 0 (zA Z)) 0 0 (zh Z zm1 st) 11 22 [some (.ref 100), none, some (.int (a2)), some (.int (a3)), some (.int (a4)), some (.int (a5)), some (.int (a6)), none, none, none, none] []) (st : zTs) (a2 : Int32) (a3 : Int32) (a4 : Int32) (a5 : Int32) (a6 : Int32) (a7 : Int32) (h : w_X12_holds_88 P K22 st a2 a3 a4 a5 a6 a7) : zG Z ad0 h0 p l e ({ frames := 1, cells := 0, slots := 0, locals := 12 } : Room) s m args below meth c (MQ below (zQ Z ad0 h0 (zWi Z P)) args s 0 0 (zA Z)) 0 0 (zh Z zm1 st) 11 88 [some (.ref 100), none, some (.int (a2)), some (.int (a3)), some (.int (a4)), some (.int (a5)), some (.int (a6)), some (.int (a7)), none, none, none] [] := by
  unfold w_X12_holds_88 at h
  obtain ⟨x88, ex88⟩ : ∃ z : Int32, z = a5 + (-1) := ⟨_, rfl⟩
  have h := h x88 ex88
  refine z_iinc C dX12_holds_88 (v := x88) (lc' := [some (.ref 100), none, some (.int (a2)), some (.int (a3)), some (.int (a4)), some (.int (x88)), some (.int (a6)), some (.int (a7)), none, none, none]) rfl (by decide) (by rw [ex88]; rfl) rfl ?_
  refine z_aload_n C dX12_holds_91 (i := 0) rfl rfl ?_
  refine t_get C dX12_holds_92 fl_X12_45 (k := 100) (i := 0) (by decide) rfl (fg_100_22 _ _ _) ?_
  refine z_iload C dX12_holds_95 rfl ?_
  refine z_iconst C dX12_holds_97 (v := 1) (by decide) ?_
  refine z_isub C dX12_holds_98 ?_
  refine z_iload C dX12_holds_99 rfl ?_
  refine z_iconst C dX12_holds_101 (v := 2) (by decide) ?_
  refine z_icmp_ne C dX12_holds_102 (tgt := 135) (by decide) (fun c102 => ?_) (fun c102 => ?_)
  · have h := h.2 c102
    refine z_aload_n C dX12_holds_135 (i := 0) rfl rfl ?_
    refine t_get C dX12_holds_136 fl_X12_45 (k := 100) (i := 0) (by decide) rfl (fg_100_22 _ _ _) ?_
    refine z_iload C dX12_holds_139 rfl ?_
    refine z_iconst C dX12_holds_141 (v := 1) (by decide) ?_
    refine z_isub C dX12_holds_142 ?_
    obtain ⟨g143, h⟩ := h
    refine t_zald C dX12_holds_143 (k := 111) (i := 0) (by decide) rfl (sh_111 _ _ _ _) g143 ?_
    refine z_if_ne C dX12_holds_144 (tgt := 157) (by decide) (fun c144 => ?_) (fun c144 => ?_)
    · have h := h.2 c144
      refine z_iconst C dX12_holds_157 (v := 1) (by decide) ?_
      refine z_goto C dX12_holds_158 (tgt := 162) (by decide) ?_
      exact t_drop [true, false, true, true, true, true, true, false, false, false, false] rfl (j_X12_holds_162 hfl C hr hn9 hK22 st a2 a3 a4 x88 a6 (1) (x88 - 1) h)
    · have h := h.1 c144
      refine z_aload_n C dX12_holds_147 (i := 0) rfl rfl ?_
      refine t_get C dX12_holds_148 fl_X12_45 (k := 100) (i := 0) (by decide) rfl (fg_100_22 _ _ _) ?_
      refine z_iload C dX12_holds_151 rfl ?_
      obtain ⟨g153, h⟩ := h
      refine t_zald C dX12_holds_153 (k := 111) (i := 0) (by decide) rfl (sh_111 _ _ _ _) g153 ?_
      refine z_if_eq C dX12_holds_154 (tgt := 161) (by decide) (fun c154 => ?_) (fun c154 => ?_)
      · have h := h.1 c154
        refine z_iconst C dX12_holds_161 (v := 0) (by decide) ?_
        exact t_drop [true, false, true, true, true, true, true, false, false, false, false] rfl (j_X12_holds_162 hfl C hr hn9 hK22 st a2 a3 a4 x88 a6 (0) (x88 - 1) h)
      · have h := h.2 c154
        refine z_iconst C dX12_holds_157 (v := 1) (by decide) ?_
        refine z_goto C dX12_holds_158 (tgt := 162) (by decide) ?_
        exact t_drop [true, false, true, true, true, true, true, false, false, false, false] rfl (j_X12_holds_162 hfl C hr hn9 hK22 st a2 a3 a4 x88 a6 (1) (x88 - 1) h)
  · have h := h.1 c102
    refine z_aload_n C dX12_holds_105 (i := 0) rfl rfl ?_
    refine t_get C dX12_holds_106 fl_X12_45 (k := 100) (i := 0) (by decide) rfl (fg_100_22 _ _ _) ?_
    refine z_iload C dX12_holds_109 rfl ?_
    refine z_iconst C dX12_holds_111 (v := 1) (by decide) ?_
    refine z_isub C dX12_holds_112 ?_
    obtain ⟨g113, h⟩ := h
    refine t_zald C dX12_holds_113 (k := 111) (i := 0) (by decide) rfl (sh_111 _ _ _ _) g113 ?_
    refine z_if_eq C dX12_holds_114 (tgt := 131) (by decide) (fun c114 => ?_) (fun c114 => ?_)
    · have h := h.1 c114
      refine z_iconst C dX12_holds_131 (v := 0) (by decide) ?_
      refine z_goto C dX12_holds_132 (tgt := 162) (by decide) ?_
      exact t_drop [true, false, true, true, true, true, true, false, false, false, false] rfl (j_X12_holds_162 hfl C hr hn9 hK22 st a2 a3 a4 x88 a6 (0) (x88 - 1) h)
    · have h := h.2 c114
      refine z_aload_n C dX12_holds_117 (i := 0) rfl rfl ?_
      refine t_get C dX12_holds_118 fl_X12_45 (k := 100) (i := 0) (by decide) rfl (fg_100_22 _ _ _) ?_
      refine z_iload C dX12_holds_121 rfl ?_
      obtain ⟨g123, h⟩ := h
      refine t_zald C dX12_holds_123 (k := 111) (i := 0) (by decide) rfl (sh_111 _ _ _ _) g123 ?_
      refine z_if_eq C dX12_holds_124 (tgt := 131) (by decide) (fun c124 => ?_) (fun c124 => ?_)
      · have h := h.1 c124
        refine z_iconst C dX12_holds_131 (v := 0) (by decide) ?_
        refine z_goto C dX12_holds_132 (tgt := 162) (by decide) ?_
        exact t_drop [true, false, true, true, true, true, true, false, false, false, false] rfl (j_X12_holds_162 hfl C hr hn9 hK22 st a2 a3 a4 x88 a6 (0) (x88 - 1) h)
      · have h := h.2 c124
        refine z_iconst C dX12_holds_127 (v := 1) (by decide) ?_
        refine z_goto C dX12_holds_128 (tgt := 162) (by decide) ?_
        exact t_drop [true, false, true, true, true, true, true, false, false, false, false] rfl (j_X12_holds_162 hfl C hr hn9 hK22 st a2 a3 a4 x88 a6 (1) (x88 - 1) h)
def w_X12_holds_72 (P : Int32 → zTs → Prop) (K22 : zTs → Int32 → Int32 → Int32 → Int32 → Int32 → Prop) (st : zTs) (a2 : Int32) (a3 : Int32) (a4 : Int32) (a5 : Int32) (a6 : Int32) (b0 : Int32) (b1 : Int32) : Prop := vp_in b1 800 ∧ (∀ s72 : zTs, s72 = zuA st 111 0 (b1 : Int32).toNatClampNeg (vp_nar .boolean b0) → (w_X12_holds_254 P K22 s72 a2 a3 a4 a5 a6))
set_option maxHeartbeats 4000000 in
set_option maxRecDepth 100000 in
theorem j_X12_holds_72 {P : Int32 → zTs → Prop} {K22 : zTs → Int32 → Int32 → Int32 → Int32 → Int32 → Prop} (hfl : l.stackTraces = false) (C : zC Z p s m args meth c cX12_holds 11 RX12) (hr : meth.sig.returnType = (some .boolean)) (hn9 : True) (hK22 : ∀ (st : zTs) (a2 : Int32) (a3 : Int32) (a4 : Int32) (a5 : Int32) (a6 : Int32), K22 st a2 a3 a4 a5 a6 → zG Z ad0 h0 p l e ({ frames := 1, cells := 0, slots := 0, locals := 12 } : Room) s m args below meth c (MQ below (zQ Z ad0 h0 (zWi Z P)) args s 0 0 (zA Z)) 0 0 (zh Z zm1 st) 11 22 [some (.ref 100), none, some (.int (a2)), some (.int (a3)), some (.int (a4)), some (.int (a5)), some (.int (a6)), none, none, none, none] []) (st : zTs) (a2 : Int32) (a3 : Int32) (a4 : Int32) (a5 : Int32) (a6 : Int32) (b0 : Int32) (b1 : Int32) (h : w_X12_holds_72 P K22 st a2 a3 a4 a5 a6 b0 b1) : zG Z ad0 h0 p l e ({ frames := 1, cells := 0, slots := 0, locals := 12 } : Room) s m args below meth c (MQ below (zQ Z ad0 h0 (zWi Z P)) args s 0 0 (zA Z)) 0 0 (zh Z zm1 st) 11 72 [some (.ref 100), none, some (.int (a2)), some (.int (a3)), some (.int (a4)), some (.int (a5)), some (.int (a6)), none, none, none, none] [.int (b0), .int (b1), .ref 111] := by
  unfold w_X12_holds_72 at h
  obtain ⟨g72, h⟩ := h
  refine t_zast C dX12_holds_72 (k := 111) (i := 0) (by decide) rfl (fun s9 => sh_111 _ _ s9 _) g72 ?_
  refine t_tops (fun s72 es72 => ?_)
  have h := h s72 es72
  refine z_goto C dX12_holds_73 (tgt := 254) (by decide) ?_
  exact t_drop [true, false, true, true, true, true, true, false, false, false, false] rfl (j_X12_holds_254 hfl C hr hn9 hK22 s72 a2 a3 a4 a5 a6 h)
def w_X12_holds_22 (P : Int32 → zTs → Prop)  : Nat → zTs → Int32 → Int32 → Int32 → Int32 → Int32 → Prop
  | 0, _, _, _, _, _, _ => False
  | n9 + 1, st, a2, a3, a4, a5, a6 => vp_in a6 800 ∧ (((zgA st 107 0 (a6 : Int32).toNatClampNeg) = 0 → vp_in 0 800 ∧ (((zgA st 111 0 (0 : Int32).toNatClampNeg) = 0 ∨ (zgA st 111 0 (0 : Int32).toNatClampNeg) = 1) ∧ (P (zgA st 111 0 (0 : Int32).toNatClampNeg) st))) ∧ (¬ (zgA st 107 0 (a6 : Int32).toNatClampNeg) = 0 → vp_in a6 800 ∧ (∀ x39 : Int32, x39 = zgA st 107 0 (a6 : Int32).toNatClampNeg → ((x39 = 1 → vp_in (a5 - 1) 800 ∧ (((zgA st 111 0 (a5 - 1 : Int32).toNatClampNeg) = 0 → w_X12_holds_72 P (w_X12_holds_22 P n9) st a2 a3 a4 a5 a6 (1) (a5 - 1)) ∧ (¬ (zgA st 111 0 (a5 - 1 : Int32).toNatClampNeg) = 0 → w_X12_holds_72 P (w_X12_holds_22 P n9) st a2 a3 a4 a5 a6 (0) (a5 - 1)))) ∧ (¬ x39 = 1 → (x39 = 2 → w_X12_holds_88 P (w_X12_holds_22 P n9) st a2 a3 a4 a5 a6 x39) ∧ (¬ x39 = 2 → (x39 = 3 → w_X12_holds_88 P (w_X12_holds_22 P n9) st a2 a3 a4 a5 a6 x39) ∧ (¬ x39 = 3 → vp_in a6 800 ∧ (∀ x175 : Int32, x175 = (zgA st 108 0 (a6 : Int32).toNatClampNeg) - (zgA st 108 0 (a6 : Int32).toNatClampNeg) / 3 * 3 → (vp_in a6 800 ∧ (∀ x186 : Int32, x186 = (zgA st 108 0 (a6 : Int32).toNatClampNeg) / 3 → ((x175 = 0 → w_X12_holds_209 P (w_X12_holds_22 P n9) st a2 a3 a4 a5 a6 x39 x186 a2) ∧ (¬ x175 = 0 → (x175 = 1 → w_X12_holds_209 P (w_X12_holds_22 P n9) st a2 a3 a4 a5 a6 x39 x186 a3) ∧ (¬ x175 = 1 → w_X12_holds_209 P (w_X12_holds_22 P n9) st a2 a3 a4 a5 a6 x39 x186 a4)))))))))))))
set_option maxHeartbeats 4000000 in
set_option maxRecDepth 100000 in
theorem j_X12_holds_22 {P : Int32 → zTs → Prop}  (hfl : l.stackTraces = false) (C : zC Z p s m args meth c cX12_holds 11 RX12) (hr : meth.sig.returnType = (some .boolean)) (hn9 : True)  : ∀ (n9 : Nat) (st : zTs) (a2 : Int32) (a3 : Int32) (a4 : Int32) (a5 : Int32) (a6 : Int32), w_X12_holds_22 P n9 st a2 a3 a4 a5 a6 → zG Z ad0 h0 p l e ({ frames := 1, cells := 0, slots := 0, locals := 12 } : Room) s m args below meth c (MQ below (zQ Z ad0 h0 (zWi Z P)) args s 0 0 (zA Z)) 0 0 (zh Z zm1 st) 11 22 [some (.ref 100), none, some (.int (a2)), some (.int (a3)), some (.int (a4)), some (.int (a5)), some (.int (a6)), none, none, none, none] [] := by
  intro n9
  induction n9 with
  | zero => intro st a2 a3 a4 a5 a6 h; exact h.elim
  | succ n9 hK22 =>
    intro st a2 a3 a4 a5 a6 h
    rw [w_X12_holds_22] at h
    refine z_aload_n C dX12_holds_22 (i := 0) rfl rfl ?_
    refine t_get C dX12_holds_23 fl_X12_33 (k := 100) (i := 0) (by decide) rfl (fg_100_17 _ _ _) ?_
    refine z_iload C dX12_holds_26 rfl ?_
    obtain ⟨g28, h⟩ := h
    refine t_iald C dX12_holds_28 (k := 107) (i := 0) (by decide) rfl (sh_107 _ _ _ _) g28 ?_
    refine z_if_eq C dX12_holds_29 (tgt := 260) (by decide) (fun c29 => ?_) (fun c29 => ?_)
    · have h := h.1 c29
      refine z_aload_n C dX12_holds_260 (i := 0) rfl rfl ?_
      refine t_get C dX12_holds_261 fl_X12_45 (k := 100) (i := 0) (by decide) rfl (fg_100_22 _ _ _) ?_
      refine z_iconst C dX12_holds_264 (v := 0) (by decide) ?_
      obtain ⟨g265, h⟩ := h
      refine t_zald C dX12_holds_265 (k := 111) (i := 0) (by decide) rfl (sh_111 _ _ _ _) g265 ?_
      obtain ⟨g266, h⟩ := h
      exact z_iret C dX12_holds_266 hr (zn_bool g266) ⟨_, _, rfl, rfl, h⟩ (Nat.le_of_ble_eq_true rfl) (Nat.le_of_ble_eq_true rfl)
    · have h := h.2 c29
      refine z_aload_n C dX12_holds_32 (i := 0) rfl rfl ?_
      refine t_get C dX12_holds_33 fl_X12_33 (k := 100) (i := 0) (by decide) rfl (fg_100_17 _ _ _) ?_
      refine z_iload C dX12_holds_36 rfl ?_
      obtain ⟨g38, h⟩ := h
      refine t_iald C dX12_holds_38 (k := 107) (i := 0) (by decide) rfl (sh_107 _ _ _ _) g38 ?_
      refine t_topi (fun x39 ex39 => ?_)
      have h := h x39 ex39
      refine z_istore C dX12_holds_39 (lc' := [some (.ref 100), none, some (.int (a2)), some (.int (a3)), some (.int (a4)), some (.int (a5)), some (.int (a6)), some (.int (x39)), none, none, none]) (by decide) rfl ?_
      refine z_iload C dX12_holds_41 rfl ?_
      refine z_iconst C dX12_holds_43 (v := 1) (by decide) ?_
      refine z_icmp_ne C dX12_holds_44 (tgt := 76) (by decide) (fun c44 => ?_) (fun c44 => ?_)
      · have h := h.2 c44
        refine z_iload C dX12_holds_76 rfl ?_
        refine z_iconst C dX12_holds_78 (v := 2) (by decide) ?_
        refine z_icmp_eq C dX12_holds_79 (tgt := 88) (by decide) (fun c79 => ?_) (fun c79 => ?_)
        · have h := h.1 c79
          exact t_drop [true, false, true, true, true, true, true, true, false, false, false] rfl (j_X12_holds_88 hfl C hr hn9 hK22 st a2 a3 a4 a5 a6 x39 h)
        · have h := h.2 c79
          refine z_iload C dX12_holds_82 rfl ?_
          refine z_iconst C dX12_holds_84 (v := 3) (by decide) ?_
          refine z_icmp_ne C dX12_holds_85 (tgt := 166) (by decide) (fun c85 => ?_) (fun c85 => ?_)
          · have h := h.2 c85
            refine z_aload_n C dX12_holds_166 (i := 0) rfl rfl ?_
            refine t_get C dX12_holds_167 fl_X12_36 (k := 100) (i := 0) (by decide) rfl (fg_100_18 _ _ _) ?_
            refine z_iload C dX12_holds_170 rfl ?_
            obtain ⟨g172, h⟩ := h
            refine t_iald C dX12_holds_172 (k := 108) (i := 0) (by decide) rfl (sh_108 _ _ _ _) g172 ?_
            refine z_iconst C dX12_holds_173 (v := 3) (by decide) ?_
            refine z_irem C dX12_holds_174 (by decide) ?_
            refine t_topi (fun x175 ex175 => ?_)
            have h := h x175 ex175
            refine z_istore C dX12_holds_175 (lc' := [some (.ref 100), none, some (.int (a2)), some (.int (a3)), some (.int (a4)), some (.int (a5)), some (.int (a6)), some (.int (x39)), some (.int (x175)), none, none]) (by decide) rfl ?_
            refine z_aload_n C dX12_holds_177 (i := 0) rfl rfl ?_
            refine t_get C dX12_holds_178 fl_X12_36 (k := 100) (i := 0) (by decide) rfl (fg_100_18 _ _ _) ?_
            refine z_iload C dX12_holds_181 rfl ?_
            obtain ⟨g183, h⟩ := h
            refine t_iald C dX12_holds_183 (k := 108) (i := 0) (by decide) rfl (sh_108 _ _ _ _) g183 ?_
            refine z_iconst C dX12_holds_184 (v := 3) (by decide) ?_
            refine z_idiv C dX12_holds_185 (by decide) ?_
            refine t_topi (fun x186 ex186 => ?_)
            have h := h x186 ex186
            refine z_istore C dX12_holds_186 (lc' := [some (.ref 100), none, some (.int (a2)), some (.int (a3)), some (.int (a4)), some (.int (a5)), some (.int (a6)), some (.int (x39)), some (.int (x175)), some (.int (x186)), none]) (by decide) rfl ?_
            refine z_iload C dX12_holds_188 rfl ?_
            refine z_if_ne C dX12_holds_190 (tgt := 197) (by decide) (fun c190 => ?_) (fun c190 => ?_)
            · have h := h.2 c190
              refine z_iload C dX12_holds_197 rfl ?_
              refine z_iconst C dX12_holds_199 (v := 1) (by decide) ?_
              refine z_icmp_ne C dX12_holds_200 (tgt := 207) (by decide) (fun c200 => ?_) (fun c200 => ?_)
              · have h := h.2 c200
                refine z_iload C dX12_holds_207 rfl ?_
                exact t_drop [true, false, true, true, true, true, true, true, false, true, false] rfl (j_X12_holds_209 hfl C hr hn9 hK22 st a2 a3 a4 a5 a6 x39 x186 a4 h)
              · have h := h.1 c200
                refine z_iload_n C dX12_holds_203 (i := 3) rfl rfl ?_
                refine z_goto C dX12_holds_204 (tgt := 209) (by decide) ?_
                exact t_drop [true, false, true, true, true, true, true, true, false, true, false] rfl (j_X12_holds_209 hfl C hr hn9 hK22 st a2 a3 a4 a5 a6 x39 x186 a3 h)
            · have h := h.1 c190
              refine z_iload_n C dX12_holds_193 (i := 2) rfl rfl ?_
              refine z_goto C dX12_holds_194 (tgt := 209) (by decide) ?_
              exact t_drop [true, false, true, true, true, true, true, true, false, true, false] rfl (j_X12_holds_209 hfl C hr hn9 hK22 st a2 a3 a4 a5 a6 x39 x186 a2 h)
          · have h := h.1 c85
            exact t_drop [true, false, true, true, true, true, true, true, false, false, false] rfl (j_X12_holds_88 hfl C hr hn9 hK22 st a2 a3 a4 a5 a6 x39 h)
      · have h := h.1 c44
        refine z_aload_n C dX12_holds_47 (i := 0) rfl rfl ?_
        refine t_get C dX12_holds_48 fl_X12_45 (k := 100) (i := 0) (by decide) rfl (fg_100_22 _ _ _) ?_
        refine z_iload C dX12_holds_51 rfl ?_
        refine z_iconst C dX12_holds_53 (v := 1) (by decide) ?_
        refine z_isub C dX12_holds_54 ?_
        refine z_aload_n C dX12_holds_55 (i := 0) rfl rfl ?_
        refine t_get C dX12_holds_56 fl_X12_45 (k := 100) (i := 0) (by decide) rfl (fg_100_22 _ _ _) ?_
        refine z_iload C dX12_holds_59 rfl ?_
        refine z_iconst C dX12_holds_61 (v := 1) (by decide) ?_
        refine z_isub C dX12_holds_62 ?_
        obtain ⟨g63, h⟩ := h
        refine t_zald C dX12_holds_63 (k := 111) (i := 0) (by decide) rfl (sh_111 _ _ _ _) g63 ?_
        refine z_if_ne C dX12_holds_64 (tgt := 71) (by decide) (fun c64 => ?_) (fun c64 => ?_)
        · have h := h.2 c64
          refine z_iconst C dX12_holds_71 (v := 0) (by decide) ?_
          exact t_drop [true, false, true, true, true, true, true, false, false, false, false] rfl (j_X12_holds_72 hfl C hr hn9 hK22 st a2 a3 a4 a5 a6 (0) (a5 - 1) h)
        · have h := h.1 c64
          refine z_iconst C dX12_holds_67 (v := 1) (by decide) ?_
          refine z_goto C dX12_holds_68 (tgt := 72) (by decide) ?_
          exact t_drop [true, false, true, true, true, true, true, false, false, false, false] rfl (j_X12_holds_72 hfl C hr hn9 hK22 st a2 a3 a4 a5 a6 (1) (a5 - 1) h)
def w_X12_holds (st : zTs) (a1 : Int32) (a2 : Int32) (a3 : Int32) (a4 : Int32) (P : Int32 → zTs → Prop) : Prop := vp_in a1 4 ∧ ((0 ≤ (zgA st 105 0 (a1 : Int32).toNatClampNeg) → vp_in a1 4 ∧ (∀ x20 : Int32, x20 = zgA st 105 0 (a1 : Int32).toNatClampNeg → (w_X12_holds_22 P zfu st a2 a3 a4 (0) x20))) ∧ (¬ 0 ≤ (zgA st 105 0 (a1 : Int32).toNatClampNeg) → P 1 st))
set_option maxHeartbeats 4000000 in
set_option maxRecDepth 100000 in
theorem c_X12_holds {Z : zZ} {l : Launch} (hfl : l.stackTraces = false) {st : zTs} {a1 : Int32} {a2 : Int32} {a3 : Int32} {a4 : Int32} {P : Int32 → zTs → Prop} (h : w_X12_holds st a1 a2 a3 a4 P) : zN Z l yX12_holds cX12_holds 11 (some .boolean) ({ frames := 1, cells := 0, slots := 0, locals := 12 } : Room) (zh Z zm1 st) [.ref 100, .int (a1), .int (a2), .int (a3), .int (a4)] (zWi Z P) := by
  unfold w_X12_holds at h
  refine z_enterN (by decide) (Nat.le_of_ble_eq_true rfl) (lc0 := [some (.ref 100), some (.int (a1)), some (.int (a2)), some (.int (a3)), some (.int (a4)), none, none, none, none, none, none]) rfl ?_
  intro p e s m args below meth c ad0 C hr _
  have hn9 : True := trivial
  replace C : zC Z p s m args meth c cX12_holds 11 RX12 := C
  refine z_aload_n C dX12_holds_0 (i := 0) rfl rfl ?_
  refine t_get C dX12_holds_1 fl_X12_27 (k := 100) (i := 0) (by decide) rfl (fg_100_15 _ _ _) ?_
  refine z_iload_n C dX12_holds_4 (i := 1) rfl rfl ?_
  obtain ⟨g5, h⟩ := h
  refine t_iald C dX12_holds_5 (k := 105) (i := 0) (by decide) rfl (sh_105 _ _ _ _) g5 ?_
  refine z_if_ge C dX12_holds_6 (tgt := 11) (by decide) (fun c6 => ?_) (fun c6 => ?_)
  · have h := h.1 c6
    refine z_iconst C dX12_holds_11 (v := 0) (by decide) ?_
    refine z_istore C dX12_holds_12 (lc' := [some (.ref 100), some (.int (a1)), some (.int (a2)), some (.int (a3)), some (.int (a4)), some (.int (0)), none, none, none, none, none]) (by decide) rfl ?_
    refine z_aload_n C dX12_holds_14 (i := 0) rfl rfl ?_
    refine t_get C dX12_holds_15 fl_X12_27 (k := 100) (i := 0) (by decide) rfl (fg_100_15 _ _ _) ?_
    refine z_iload_n C dX12_holds_18 (i := 1) rfl rfl ?_
    obtain ⟨g19, h⟩ := h
    refine t_iald C dX12_holds_19 (k := 105) (i := 0) (by decide) rfl (sh_105 _ _ _ _) g19 ?_
    refine t_topi (fun x20 ex20 => ?_)
    have h := h x20 ex20
    refine z_istore C dX12_holds_20 (lc' := [some (.ref 100), some (.int (a1)), some (.int (a2)), some (.int (a3)), some (.int (a4)), some (.int (0)), some (.int (x20)), none, none, none, none]) (by decide) rfl ?_
    exact t_drop [true, false, true, true, true, true, true, false, false, false, false] rfl (j_X12_holds_22 hfl C hr hn9  zfu st a2 a3 a4 (0) x20 h)
  · have h := h.2 c6
    refine z_iconst C dX12_holds_9 (v := 1) (by decide) ?_
    exact z_iret C dX12_holds_10 hr rfl ⟨_, _, rfl, rfl, h⟩ (Nat.le_of_ble_eq_true rfl) (Nat.le_of_ble_eq_true rfl)
def w_X12_counted_60 (P : Int32 → zTs → Prop)  (st : zTs) (a1 : Int32) (a2 : Int32) (b0 : Int32) : Prop := w_X12_bad st b0 2 (fun (r61 : Int32) (s61 : zTs) => ((r61 = 0 → vp_in 5 15 ∧ (w_X12_countedFrom s61 a1 a2 (zgA s61 103 0 (5 : Int32).toNatClampNeg) (fun (r77 : Int32) => (P r77 s61)))) ∧ (¬ r61 = 0 → P 0 s61)))
set_option maxHeartbeats 4000000 in
set_option maxRecDepth 100000 in
theorem j_X12_counted_60 {P : Int32 → zTs → Prop}  (hfl : l.stackTraces = false) (C : zC Z p s m args meth c cX12_counted 3 RX12) (hr : meth.sig.returnType = (some .int)) (hn9 : True)  (st : zTs) (a1 : Int32) (a2 : Int32) (b0 : Int32) (h : w_X12_counted_60 P st a1 a2 b0) : zG Z ad0 h0 p l e ({ frames := 2, cells := 0, slots := 0, locals := 36 } : Room) s m args below meth c (MQ below (zQ Z ad0 h0 (zWi Z P)) args s 0 0 (zA Z)) 0 0 (zh Z zm1 st) 3 60 [some (.ref 100), some (.int (a1)), some (.int (a2))] [.int (b0), .ref 100] := by
  unfold w_X12_counted_60 at h
  refine z_iconst C dX12_counted_60 (v := 2) (by decide) ?_
  refine t_callV C (rest := []) (c2 := 0) (s2 := 0) (kd := 100) (i := 0) [.int (b0), .int (2)] dX12_counted_61 lk_X12_205 li_X12_bad le_X12_bad (c_X12_bad hfl h) rfl rfl (by decide) rfl ⟨_, rfl⟩ rfl ⟨Nat.le_of_ble_eq_true rfl, Nat.le_of_ble_eq_true rfl⟩ (Nat.le_of_ble_eq_true rfl) ⟨Nat.le_of_ble_eq_true rfl, Nat.le_of_ble_eq_true rfl, Nat.le_of_ble_eq_true rfl, Nat.le_of_ble_eq_true rfl⟩ (k_Wi fun r61 s61 h => ?_)
  refine z_if_eq C dX12_counted_64 (tgt := 69) (by decide) (fun c64 => ?_) (fun c64 => ?_)
  · have h := h.1 c64
    refine z_iload_n C dX12_counted_69 (i := 1) rfl rfl ?_
    refine z_iload_n C dX12_counted_70 (i := 2) rfl rfl ?_
    refine z_aload_n C dX12_counted_71 (i := 0) rfl rfl ?_
    refine t_get C dX12_counted_72 fl_X12_21 (k := 100) (i := 0) (by decide) rfl (fg_100_13 _ _ _) ?_
    refine z_iconst C dX12_counted_75 (v := 5) (by decide) ?_
    obtain ⟨g76, h⟩ := h
    refine t_iald C dX12_counted_76 (k := 103) (i := 0) (by decide) rfl (sh_103 _ _ _ _) g76 ?_
    refine t_callS C (rest := []) (c2 := 0) (s2 := 0) [.int (a1), .int (a2), .int (zgA s61 103 0 (5 : Int32).toNatClampNeg)] dX12_counted_77 lk_X12_364 ls_X12_countedFrom (c_X12_countedFrom hfl h) rfl rfl ⟨Nat.le_of_ble_eq_true rfl, Nat.le_of_ble_eq_true rfl⟩ (Nat.le_of_ble_eq_true rfl) ⟨Nat.le_of_ble_eq_true rfl, Nat.le_of_ble_eq_true rfl, Nat.le_of_ble_eq_true rfl, Nat.le_of_ble_eq_true rfl⟩ (k_Ri fun r77 h => ?_)
    exact z_iret C dX12_counted_80 hr rfl ⟨_, _, rfl, rfl, h⟩ (Nat.le_of_ble_eq_true rfl) (Nat.le_of_ble_eq_true rfl)
  · have h := h.2 c64
    refine z_iconst C dX12_counted_67 (v := 0) (by decide) ?_
    exact z_iret C dX12_counted_68 hr rfl ⟨_, _, rfl, rfl, h⟩ (Nat.le_of_ble_eq_true rfl) (Nat.le_of_ble_eq_true rfl)
def w_X12_counted_59 (P : Int32 → zTs → Prop)  (st : zTs) (a1 : Int32) (a2 : Int32) : Prop := w_X12_counted_60 P st a1 a2 (0)
set_option maxHeartbeats 4000000 in
set_option maxRecDepth 100000 in
theorem j_X12_counted_59 {P : Int32 → zTs → Prop}  (hfl : l.stackTraces = false) (C : zC Z p s m args meth c cX12_counted 3 RX12) (hr : meth.sig.returnType = (some .int)) (hn9 : True)  (st : zTs) (a1 : Int32) (a2 : Int32) (h : w_X12_counted_59 P st a1 a2) : zG Z ad0 h0 p l e ({ frames := 2, cells := 0, slots := 0, locals := 36 } : Room) s m args below meth c (MQ below (zQ Z ad0 h0 (zWi Z P)) args s 0 0 (zA Z)) 0 0 (zh Z zm1 st) 3 59 [some (.ref 100), some (.int (a1)), some (.int (a2))] [.ref 100] := by
  unfold w_X12_counted_59 at h
  refine z_iconst C dX12_counted_59 (v := 0) (by decide) ?_
  exact t_drop [true, true, true] rfl (j_X12_counted_60 hfl C hr hn9  st a1 a2 (0) h)
def w_X12_counted_32 (P : Int32 → zTs → Prop)  (st : zTs) (a1 : Int32) (a2 : Int32) (b0 : Int32) : Prop := w_X12_bad st b0 1 (fun (r33 : Int32) (s33 : zTs) => ((r33 = 0 → vp_in 5 15 ∧ (((zgA s33 103 0 (5 : Int32).toNatClampNeg) = 127 → (a2 ≤ 0 → w_X12_counted_59 P s33 a1 a2) ∧ (¬ a2 ≤ 0 → w_X12_counted_60 P s33 a1 a2 (1))) ∧ (¬ (zgA s33 103 0 (5 : Int32).toNatClampNeg) = 127 → w_X12_counted_59 P s33 a1 a2))) ∧ (¬ r33 = 0 → P 0 s33)))
set_option maxHeartbeats 4000000 in
set_option maxRecDepth 100000 in
theorem j_X12_counted_32 {P : Int32 → zTs → Prop}  (hfl : l.stackTraces = false) (C : zC Z p s m args meth c cX12_counted 3 RX12) (hr : meth.sig.returnType = (some .int)) (hn9 : True)  (st : zTs) (a1 : Int32) (a2 : Int32) (b0 : Int32) (h : w_X12_counted_32 P st a1 a2 b0) : zG Z ad0 h0 p l e ({ frames := 2, cells := 0, slots := 0, locals := 36 } : Room) s m args below meth c (MQ below (zQ Z ad0 h0 (zWi Z P)) args s 0 0 (zA Z)) 0 0 (zh Z zm1 st) 3 32 [some (.ref 100), some (.int (a1)), some (.int (a2))] [.int (b0), .ref 100] := by
  unfold w_X12_counted_32 at h
  refine z_iconst C dX12_counted_32 (v := 1) (by decide) ?_
  refine t_callV C (rest := []) (c2 := 0) (s2 := 0) (kd := 100) (i := 0) [.int (b0), .int (1)] dX12_counted_33 lk_X12_205 li_X12_bad le_X12_bad (c_X12_bad hfl h) rfl rfl (by decide) rfl ⟨_, rfl⟩ rfl ⟨Nat.le_of_ble_eq_true rfl, Nat.le_of_ble_eq_true rfl⟩ (Nat.le_of_ble_eq_true rfl) ⟨Nat.le_of_ble_eq_true rfl, Nat.le_of_ble_eq_true rfl, Nat.le_of_ble_eq_true rfl, Nat.le_of_ble_eq_true rfl⟩ (k_Wi fun r33 s33 h => ?_)
  refine z_if_ne C dX12_counted_36 (tgt := 67) (by decide) (fun c36 => ?_) (fun c36 => ?_)
  · have h := h.2 c36
    refine z_iconst C dX12_counted_67 (v := 0) (by decide) ?_
    exact z_iret C dX12_counted_68 hr rfl ⟨_, _, rfl, rfl, h⟩ (Nat.le_of_ble_eq_true rfl) (Nat.le_of_ble_eq_true rfl)
  · have h := h.1 c36
    refine z_aload_n C dX12_counted_39 (i := 0) rfl rfl ?_
    refine z_aload_n C dX12_counted_40 (i := 0) rfl rfl ?_
    refine t_get C dX12_counted_41 fl_X12_21 (k := 100) (i := 0) (by decide) rfl (fg_100_13 _ _ _) ?_
    refine z_iconst C dX12_counted_44 (v := 5) (by decide) ?_
    obtain ⟨g45, h⟩ := h
    refine t_iald C dX12_counted_45 (k := 103) (i := 0) (by decide) rfl (sh_103 _ _ _ _) g45 ?_
    refine z_bipush C dX12_counted_46 (v := 127) (by decide) ?_
    refine z_icmp_ne C dX12_counted_48 (tgt := 59) (by decide) (fun c48 => ?_) (fun c48 => ?_)
    · have h := h.2 c48
      exact t_drop [true, true, true] rfl (j_X12_counted_59 hfl C hr hn9  s33 a1 a2 h)
    · have h := h.1 c48
      refine z_iload_n C dX12_counted_51 (i := 2) rfl rfl ?_
      refine z_if_le C dX12_counted_52 (tgt := 59) (by decide) (fun c52 => ?_) (fun c52 => ?_)
      · have h := h.1 c52
        exact t_drop [true, true, true] rfl (j_X12_counted_59 hfl C hr hn9  s33 a1 a2 h)
      · have h := h.2 c52
        refine z_iconst C dX12_counted_55 (v := 1) (by decide) ?_
        refine z_goto C dX12_counted_56 (tgt := 60) (by decide) ?_
        exact t_drop [true, true, true] rfl (j_X12_counted_60 hfl C hr hn9  s33 a1 a2 (1) h)
def w_X12_counted (st : zTs) (a1 : Int32) (a2 : Int32) (P : Int32 → zTs → Prop) : Prop := ∀ s2 : zTs, s2 = zuF st 100 0 0 0 → ((a1 < 0 → w_X12_counted_32 P s2 a1 a2 (1)) ∧ (¬ a1 < 0 → (1000000 < a1 → w_X12_counted_32 P s2 a1 a2 (1)) ∧ (¬ 1000000 < a1 → (a2 < 0 → w_X12_counted_32 P s2 a1 a2 (1)) ∧ (¬ a2 < 0 → (a2 ≤ 400 → w_X12_counted_32 P s2 a1 a2 (0)) ∧ (¬ a2 ≤ 400 → w_X12_counted_32 P s2 a1 a2 (1))))))
set_option maxHeartbeats 4000000 in
set_option maxRecDepth 100000 in
theorem c_X12_counted {Z : zZ} {l : Launch} (hfl : l.stackTraces = false) {st : zTs} {a1 : Int32} {a2 : Int32} {P : Int32 → zTs → Prop} (h : w_X12_counted st a1 a2 P) : zN Z l yX12_counted cX12_counted 3 (some .int) ({ frames := 2, cells := 0, slots := 0, locals := 36 } : Room) (zh Z zm1 st) [.ref 100, .int (a1), .int (a2)] (zWi Z P) := by
  unfold w_X12_counted at h
  refine z_enterN (by decide) (Nat.le_of_ble_eq_true rfl) (lc0 := [some (.ref 100), some (.int (a1)), some (.int (a2))]) rfl ?_
  intro p e s m args below meth c ad0 C hr _
  have hn9 : True := trivial
  replace C : zC Z p s m args meth c cX12_counted 3 RX12 := C
  refine z_aload_n C dX12_counted_0 (i := 0) rfl rfl ?_
  refine z_iconst C dX12_counted_1 (v := 0) (by decide) ?_
  refine t_put C dX12_counted_2 fq_X12_199 (Or.inl rfl) (k := 100) (i := 0) (by decide) rfl ⟨rfl, rfl⟩ (fp_100_0 _ _ _ _ _) ?_
  refine t_tops (fun s2 es2 => ?_)
  have h := h s2 es2
  refine z_aload_n C dX12_counted_5 (i := 0) rfl rfl ?_
  refine z_iload_n C dX12_counted_6 (i := 1) rfl rfl ?_
  refine z_if_lt C dX12_counted_7 (tgt := 27) (by decide) (fun c7 => ?_) (fun c7 => ?_)
  · have h := h.1 c7
    refine z_iconst C dX12_counted_27 (v := 1) (by decide) ?_
    refine z_goto C dX12_counted_28 (tgt := 32) (by decide) ?_
    exact t_drop [true, true, true] rfl (j_X12_counted_32 hfl C hr hn9  s2 a1 a2 (1) h)
  · have h := h.2 c7
    refine z_iload_n C dX12_counted_10 (i := 1) rfl rfl ?_
    refine z_ldc C dX12_counted_11 kc_X12_225 ?_
    refine z_icmp_gt C dX12_counted_13 (tgt := 27) (by decide) (fun c13 => ?_) (fun c13 => ?_)
    · have h := h.1 c13
      refine z_iconst C dX12_counted_27 (v := 1) (by decide) ?_
      refine z_goto C dX12_counted_28 (tgt := 32) (by decide) ?_
      exact t_drop [true, true, true] rfl (j_X12_counted_32 hfl C hr hn9  s2 a1 a2 (1) h)
    · have h := h.2 c13
      refine z_iload_n C dX12_counted_16 (i := 2) rfl rfl ?_
      refine z_if_lt C dX12_counted_17 (tgt := 27) (by decide) (fun c17 => ?_) (fun c17 => ?_)
      · have h := h.1 c17
        refine z_iconst C dX12_counted_27 (v := 1) (by decide) ?_
        refine z_goto C dX12_counted_28 (tgt := 32) (by decide) ?_
        exact t_drop [true, true, true] rfl (j_X12_counted_32 hfl C hr hn9  s2 a1 a2 (1) h)
      · have h := h.2 c17
        refine z_iload_n C dX12_counted_20 (i := 2) rfl rfl ?_
        refine z_sipush C dX12_counted_21 (v := 400) (by decide) ?_
        refine z_icmp_le C dX12_counted_24 (tgt := 31) (by decide) (fun c24 => ?_) (fun c24 => ?_)
        · have h := h.1 c24
          refine z_iconst C dX12_counted_31 (v := 0) (by decide) ?_
          exact t_drop [true, true, true] rfl (j_X12_counted_32 hfl C hr hn9  s2 a1 a2 (0) h)
        · have h := h.2 c24
          refine z_iconst C dX12_counted_27 (v := 1) (by decide) ?_
          refine z_goto C dX12_counted_28 (tgt := 32) (by decide) ?_
          exact t_drop [true, true, true] rfl (j_X12_counted_32 hfl C hr hn9  s2 a1 a2 (1) h)
def w_X12_work_252 (P : Int32 → zTs → Prop)  : Nat → zTs → Int32 → Int32 → Prop
  | 0, _, _, _ => False
  | n9 + 1, st, a8, a9 => (3 ≤ a9 → ∀ s297 : zTs, s297 = zuF st 100 0 23 ((zgF st 100 0 23) + 1) → (P a8 s297)) ∧ (¬ 3 ≤ a9 → vp_in ((3 * a8) + a9) 90 ∧ (∀ s270 : zTs, s270 = zuA st 131 0 ((3 * a8) + a9 : Int32).toNatClampNeg (-1) → (vp_in ((3 * a8) + a9) 90 ∧ (∀ s283 : zTs, s283 = zuA s270 132 0 ((3 * a8) + a9 : Int32).toNatClampNeg (-1) → (∀ x284 : Int32, x284 = a9 + 1 → ((w_X12_work_252 P n9) s283 a8 x284))))))
set_option maxHeartbeats 4000000 in
set_option maxRecDepth 100000 in
theorem j_X12_work_252 {P : Int32 → zTs → Prop}  (hfl : l.stackTraces = false) (C : zC Z p s m args meth c cX12_work 10 RX12) (hr : meth.sig.returnType = (some .int)) (hn9 : True)  : ∀ (n9 : Nat) (st : zTs) (a8 : Int32) (a9 : Int32), w_X12_work_252 P n9 st a8 a9 → zG Z ad0 h0 p l e ({ frames := 2, cells := 0, slots := 0, locals := 42 } : Room) s m args below meth c (MQ below (zQ Z ad0 h0 (zWi Z P)) args s 0 0 (zA Z)) 0 0 (zh Z zm1 st) 10 252 [some (.ref 100), none, none, none, none, none, none, none, some (.int (a8)), some (.int (a9))] [] := by
  intro n9
  induction n9 with
  | zero => intro st a8 a9 h; exact h.elim
  | succ n9 hK252 =>
    intro st a8 a9 h
    rw [w_X12_work_252] at h
    refine z_iload C dX12_work_252 rfl ?_
    refine z_iconst C dX12_work_254 (v := 3) (by decide) ?_
    refine z_icmp_ge C dX12_work_255 (tgt := 290) (by decide) (fun c255 => ?_) (fun c255 => ?_)
    · have h := h.1 c255
      refine z_aload_n C dX12_work_290 (i := 0) rfl rfl ?_
      refine z_dup C dX12_work_291 rfl ?_
      refine t_get C dX12_work_292 fl_X12_368 (k := 100) (i := 0) (by decide) rfl (fg_100_23 _ _ _) ?_
      refine z_iconst C dX12_work_295 (v := 1) (by decide) ?_
      refine z_iadd C dX12_work_296 ?_
      refine t_put C dX12_work_297 fq_X12_368 (Or.inl rfl) (k := 100) (i := 0) (by decide) rfl ⟨rfl, rfl⟩ (fp_100_23 _ _ _ _ _) ?_
      refine t_tops (fun s297 es297 => ?_)
      have h := h s297 es297
      refine z_iload C dX12_work_300 rfl ?_
      exact z_iret C dX12_work_302 hr rfl ⟨_, _, rfl, rfl, h⟩ (Nat.le_of_ble_eq_true rfl) (Nat.le_of_ble_eq_true rfl)
    · have h := h.2 c255
      refine z_aload_n C dX12_work_258 (i := 0) rfl rfl ?_
      refine t_get C dX12_work_259 fl_X12_106 (k := 100) (i := 0) (by decide) rfl (fg_100_44 _ _ _) ?_
      refine z_iconst C dX12_work_262 (v := 3) (by decide) ?_
      refine z_iload C dX12_work_263 rfl ?_
      refine z_imul C dX12_work_265 ?_
      refine z_iload C dX12_work_266 rfl ?_
      refine z_iadd C dX12_work_268 ?_
      refine z_iconst C dX12_work_269 (v := (-1)) (by decide) ?_
      obtain ⟨g270, h⟩ := h
      refine t_iast C dX12_work_270 (k := 131) (i := 0) (by decide) rfl (fun s9 => sh_131 _ _ s9 _) g270 ?_
      refine t_tops (fun s270 es270 => ?_)
      have h := h s270 es270
      refine z_aload_n C dX12_work_271 (i := 0) rfl rfl ?_
      refine t_get C dX12_work_272 fl_X12_109 (k := 100) (i := 0) (by decide) rfl (fg_100_45 _ _ _) ?_
      refine z_iconst C dX12_work_275 (v := 3) (by decide) ?_
      refine z_iload C dX12_work_276 rfl ?_
      refine z_imul C dX12_work_278 ?_
      refine z_iload C dX12_work_279 rfl ?_
      refine z_iadd C dX12_work_281 ?_
      refine z_iconst C dX12_work_282 (v := (-1)) (by decide) ?_
      obtain ⟨g283, h⟩ := h
      refine t_iast C dX12_work_283 (k := 132) (i := 0) (by decide) rfl (fun s9 => sh_132 _ _ s9 _) g283 ?_
      refine t_tops (fun s283 es283 => ?_)
      have h := h s283 es283
      obtain ⟨x284, ex284⟩ : ∃ z : Int32, z = a9 + 1 := ⟨_, rfl⟩
      have h := h x284 ex284
      refine z_iinc C dX12_work_284 (v := x284) (lc' := [some (.ref 100), none, none, none, none, none, none, none, some (.int (a8)), some (.int (x284))]) rfl (by decide) (by rw [ex284]; rfl) rfl ?_
      refine z_goto C dX12_work_287 (tgt := 252) (by decide) ?_
      exact t_drop [true, false, false, false, false, false, false, false, true, true] rfl (hK252 s283 a8 x284 h)
def w_X12_work_184 (P : Int32 → zTs → Prop)  : Nat → zTs → Int32 → Int32 → Prop
  | 0, _, _, _ => False
  | n9 + 1, st, a8, a9 => (15 ≤ a9 → vp_in a8 30 ∧ (∀ s224 : zTs, s224 = zuA st 117 0 (a8 : Int32).toNatClampNeg (-1) → (vp_in a8 30 ∧ (∀ s232 : zTs, s232 = zuA s224 125 0 (a8 : Int32).toNatClampNeg (-1) → (vp_in a8 30 ∧ (∀ s240 : zTs, s240 = zuA s232 127 0 (a8 : Int32).toNatClampNeg (-1) → (vp_in a8 30 ∧ (∀ s248 : zTs, s248 = zuA s240 128 0 (a8 : Int32).toNatClampNeg (-1) → (w_X12_work_252 P zfu s248 a8 (0)))))))))) ∧ (¬ 15 ≤ a9 → vp_in a9 15 ∧ (vp_in ((15 * a8) + a9) 450 ∧ (∀ s210 : zTs, s210 = zuA st 116 0 ((15 * a8) + a9 : Int32).toNatClampNeg (zgA st 103 0 (a9 : Int32).toNatClampNeg) → (∀ x211 : Int32, x211 = a9 + 1 → ((w_X12_work_184 P n9) s210 a8 x211)))))
set_option maxHeartbeats 4000000 in
set_option maxRecDepth 100000 in
theorem j_X12_work_184 {P : Int32 → zTs → Prop}  (hfl : l.stackTraces = false) (C : zC Z p s m args meth c cX12_work 10 RX12) (hr : meth.sig.returnType = (some .int)) (hn9 : True)  : ∀ (n9 : Nat) (st : zTs) (a8 : Int32) (a9 : Int32), w_X12_work_184 P n9 st a8 a9 → zG Z ad0 h0 p l e ({ frames := 2, cells := 0, slots := 0, locals := 42 } : Room) s m args below meth c (MQ below (zQ Z ad0 h0 (zWi Z P)) args s 0 0 (zA Z)) 0 0 (zh Z zm1 st) 10 184 [some (.ref 100), none, none, none, none, none, none, none, some (.int (a8)), some (.int (a9))] [] := by
  intro n9
  induction n9 with
  | zero => intro st a8 a9 h; exact h.elim
  | succ n9 hK184 =>
    intro st a8 a9 h
    rw [w_X12_work_184] at h
    refine z_iload C dX12_work_184 rfl ?_
    refine z_bipush C dX12_work_186 (v := 15) (by decide) ?_
    refine z_icmp_ge C dX12_work_188 (tgt := 217) (by decide) (fun c188 => ?_) (fun c188 => ?_)
    · have h := h.1 c188
      refine z_aload_n C dX12_work_217 (i := 0) rfl rfl ?_
      refine t_get C dX12_work_218 fl_X12_64 (k := 100) (i := 0) (by decide) rfl (fg_100_29 _ _ _) ?_
      refine z_iload C dX12_work_221 rfl ?_
      refine z_iconst C dX12_work_223 (v := (-1)) (by decide) ?_
      obtain ⟨g224, h⟩ := h
      refine t_iast C dX12_work_224 (k := 117) (i := 0) (by decide) rfl (fun s9 => sh_117 _ _ s9 _) g224 ?_
      refine t_tops (fun s224 es224 => ?_)
      have h := h s224 es224
      refine z_aload_n C dX12_work_225 (i := 0) rfl rfl ?_
      refine t_get C dX12_work_226 fl_X12_88 (k := 100) (i := 0) (by decide) rfl (fg_100_37 _ _ _) ?_
      refine z_iload C dX12_work_229 rfl ?_
      refine z_iconst C dX12_work_231 (v := (-1)) (by decide) ?_
      obtain ⟨g232, h⟩ := h
      refine t_iast C dX12_work_232 (k := 125) (i := 0) (by decide) rfl (fun s9 => sh_125 _ _ s9 _) g232 ?_
      refine t_tops (fun s232 es232 => ?_)
      have h := h s232 es232
      refine z_aload_n C dX12_work_233 (i := 0) rfl rfl ?_
      refine t_get C dX12_work_234 fl_X12_94 (k := 100) (i := 0) (by decide) rfl (fg_100_39 _ _ _) ?_
      refine z_iload C dX12_work_237 rfl ?_
      refine z_iconst C dX12_work_239 (v := (-1)) (by decide) ?_
      obtain ⟨g240, h⟩ := h
      refine t_iast C dX12_work_240 (k := 127) (i := 0) (by decide) rfl (fun s9 => sh_127 _ _ s9 _) g240 ?_
      refine t_tops (fun s240 es240 => ?_)
      have h := h s240 es240
      refine z_aload_n C dX12_work_241 (i := 0) rfl rfl ?_
      refine t_get C dX12_work_242 fl_X12_97 (k := 100) (i := 0) (by decide) rfl (fg_100_40 _ _ _) ?_
      refine z_iload C dX12_work_245 rfl ?_
      refine z_iconst C dX12_work_247 (v := (-1)) (by decide) ?_
      obtain ⟨g248, h⟩ := h
      refine t_iast C dX12_work_248 (k := 128) (i := 0) (by decide) rfl (fun s9 => sh_128 _ _ s9 _) g248 ?_
      refine t_tops (fun s248 es248 => ?_)
      have h := h s248 es248
      refine z_iconst C dX12_work_249 (v := 0) (by decide) ?_
      refine z_istore C dX12_work_250 (lc' := [some (.ref 100), none, none, none, none, none, none, none, some (.int (a8)), some (.int (0))]) (by decide) rfl ?_
      exact t_drop [true, false, false, false, false, false, false, false, true, true] rfl (j_X12_work_252 hfl C hr hn9  zfu s248 a8 (0) h)
    · have h := h.2 c188
      refine z_aload_n C dX12_work_191 (i := 0) rfl rfl ?_
      refine t_get C dX12_work_192 fl_X12_61 (k := 100) (i := 0) (by decide) rfl (fg_100_28 _ _ _) ?_
      refine z_bipush C dX12_work_195 (v := 15) (by decide) ?_
      refine z_iload C dX12_work_197 rfl ?_
      refine z_imul C dX12_work_199 ?_
      refine z_iload C dX12_work_200 rfl ?_
      refine z_iadd C dX12_work_202 ?_
      refine z_aload_n C dX12_work_203 (i := 0) rfl rfl ?_
      refine t_get C dX12_work_204 fl_X12_21 (k := 100) (i := 0) (by decide) rfl (fg_100_13 _ _ _) ?_
      refine z_iload C dX12_work_207 rfl ?_
      obtain ⟨g209, h⟩ := h
      refine t_iald C dX12_work_209 (k := 103) (i := 0) (by decide) rfl (sh_103 _ _ _ _) g209 ?_
      obtain ⟨g210, h⟩ := h
      refine t_iast C dX12_work_210 (k := 116) (i := 0) (by decide) rfl (fun s9 => sh_116 _ _ s9 _) g210 ?_
      refine t_tops (fun s210 es210 => ?_)
      have h := h s210 es210
      obtain ⟨x211, ex211⟩ : ∃ z : Int32, z = a9 + 1 := ⟨_, rfl⟩
      have h := h x211 ex211
      refine z_iinc C dX12_work_211 (v := x211) (lc' := [some (.ref 100), none, none, none, none, none, none, none, some (.int (a8)), some (.int (x211))]) rfl (by decide) (by rw [ex211]; rfl) rfl ?_
      refine z_goto C dX12_work_214 (tgt := 184) (by decide) ?_
      exact t_drop [true, false, false, false, false, false, false, false, true, true] rfl (hK184 s210 a8 x211 h)
def w_X12_work_124 (P : Int32 → zTs → Prop)  (st : zTs) (a1 : Int32) (a2 : Int32) (a3 : Int32) (a4 : Int32) (a5 : Int32) (a6 : Int32) (b0 : Int32) : Prop := w_X12_bad st b0 3 (fun (r125 : Int32) (s125 : zTs) => ((r125 = 0 → ∀ x137 : Int32, x137 = zgF s125 100 0 23 → (vp_in x137 30 ∧ (∀ s146 : zTs, s146 = zuA s125 112 0 (x137 : Int32).toNatClampNeg a1 → (vp_in x137 30 ∧ (∀ s154 : zTs, s154 = zuA s146 113 0 (x137 : Int32).toNatClampNeg a2 → (vp_in x137 30 ∧ (∀ s162 : zTs, s162 = zuA s154 114 0 (x137 : Int32).toNatClampNeg a3 → (w_X12_holds s162 a3 a4 a5 a6 (fun (r177 : Int32) (s177 : zTs) => (vp_in x137 30 ∧ (∀ s180 : zTs, s180 = zuA s177 115 0 (x137 : Int32).toNatClampNeg (vp_nar .boolean r177) → (w_X12_work_184 P zfu s180 x137 (0))))))))))))) ∧ (¬ r125 = 0 → P 0 s125)))
set_option maxHeartbeats 4000000 in
set_option maxRecDepth 100000 in
theorem j_X12_work_124 {P : Int32 → zTs → Prop}  (hfl : l.stackTraces = false) (C : zC Z p s m args meth c cX12_work 10 RX12) (hr : meth.sig.returnType = (some .int)) (hn9 : True)  (st : zTs) (a1 : Int32) (a2 : Int32) (a3 : Int32) (a4 : Int32) (a5 : Int32) (a6 : Int32) (b0 : Int32) (h : w_X12_work_124 P st a1 a2 a3 a4 a5 a6 b0) : zG Z ad0 h0 p l e ({ frames := 2, cells := 0, slots := 0, locals := 42 } : Room) s m args below meth c (MQ below (zQ Z ad0 h0 (zWi Z P)) args s 0 0 (zA Z)) 0 0 (zh Z zm1 st) 10 124 [some (.ref 100), some (.int (a1)), some (.int (a2)), some (.int (a3)), some (.int (a4)), some (.int (a5)), some (.int (a6)), none, none, none] [.int (b0), .ref 100] := by
  unfold w_X12_work_124 at h
  refine z_iconst C dX12_work_124 (v := 3) (by decide) ?_
  refine t_callV C (rest := []) (c2 := 0) (s2 := 0) (kd := 100) (i := 0) [.int (b0), .int (3)] dX12_work_125 lk_X12_205 li_X12_bad le_X12_bad (c_X12_bad hfl h) rfl rfl (by decide) rfl ⟨_, rfl⟩ rfl ⟨Nat.le_of_ble_eq_true rfl, Nat.le_of_ble_eq_true rfl⟩ (Nat.le_of_ble_eq_true rfl) ⟨Nat.le_of_ble_eq_true rfl, Nat.le_of_ble_eq_true rfl, Nat.le_of_ble_eq_true rfl, Nat.le_of_ble_eq_true rfl⟩ (k_Wi fun r125 s125 h => ?_)
  refine z_if_eq C dX12_work_128 (tgt := 133) (by decide) (fun c128 => ?_) (fun c128 => ?_)
  · have h := h.1 c128
    refine z_aload_n C dX12_work_133 (i := 0) rfl rfl ?_
    refine t_get C dX12_work_134 fl_X12_368 (k := 100) (i := 0) (by decide) rfl (fg_100_23 _ _ _) ?_
    refine t_topi (fun x137 ex137 => ?_)
    have h := h x137 ex137
    refine z_istore C dX12_work_137 (lc' := [some (.ref 100), some (.int (a1)), some (.int (a2)), some (.int (a3)), some (.int (a4)), some (.int (a5)), some (.int (a6)), none, some (.int (x137)), none]) (by decide) rfl ?_
    refine z_aload_n C dX12_work_139 (i := 0) rfl rfl ?_
    refine t_get C dX12_work_140 fl_X12_49 (k := 100) (i := 0) (by decide) rfl (fg_100_24 _ _ _) ?_
    refine z_iload C dX12_work_143 rfl ?_
    refine z_iload_n C dX12_work_145 (i := 1) rfl rfl ?_
    obtain ⟨g146, h⟩ := h
    refine t_iast C dX12_work_146 (k := 112) (i := 0) (by decide) rfl (fun s9 => sh_112 _ _ s9 _) g146 ?_
    refine t_tops (fun s146 es146 => ?_)
    have h := h s146 es146
    refine z_aload_n C dX12_work_147 (i := 0) rfl rfl ?_
    refine t_get C dX12_work_148 fl_X12_52 (k := 100) (i := 0) (by decide) rfl (fg_100_25 _ _ _) ?_
    refine z_iload C dX12_work_151 rfl ?_
    refine z_iload_n C dX12_work_153 (i := 2) rfl rfl ?_
    obtain ⟨g154, h⟩ := h
    refine t_iast C dX12_work_154 (k := 113) (i := 0) (by decide) rfl (fun s9 => sh_113 _ _ s9 _) g154 ?_
    refine t_tops (fun s154 es154 => ?_)
    have h := h s154 es154
    refine z_aload_n C dX12_work_155 (i := 0) rfl rfl ?_
    refine t_get C dX12_work_156 fl_X12_55 (k := 100) (i := 0) (by decide) rfl (fg_100_26 _ _ _) ?_
    refine z_iload C dX12_work_159 rfl ?_
    refine z_iload_n C dX12_work_161 (i := 3) rfl rfl ?_
    obtain ⟨g162, h⟩ := h
    refine t_iast C dX12_work_162 (k := 114) (i := 0) (by decide) rfl (fun s9 => sh_114 _ _ s9 _) g162 ?_
    refine t_tops (fun s162 es162 => ?_)
    have h := h s162 es162
    refine z_aload_n C dX12_work_163 (i := 0) rfl rfl ?_
    refine t_get C dX12_work_164 fl_X12_58 (k := 100) (i := 0) (by decide) rfl (fg_100_27 _ _ _) ?_
    refine z_iload C dX12_work_167 rfl ?_
    refine z_aload_n C dX12_work_169 (i := 0) rfl rfl ?_
    refine z_iload_n C dX12_work_170 (i := 3) rfl rfl ?_
    refine z_iload C dX12_work_171 rfl ?_
    refine z_iload C dX12_work_173 rfl ?_
    refine z_iload C dX12_work_175 rfl ?_
    refine t_callV C (rest := [.int (x137), .ref 115]) (c2 := 0) (s2 := 0) (kd := 100) (i := 0) [.int (a3), .int (a4), .int (a5), .int (a6)] dX12_work_177 lk_X12_371 li_X12_holds le_X12_holds (c_X12_holds hfl h) rfl rfl (by decide) rfl ⟨_, rfl⟩ rfl ⟨Nat.le_of_ble_eq_true rfl, Nat.le_of_ble_eq_true rfl⟩ (Nat.le_of_ble_eq_true rfl) ⟨Nat.le_of_ble_eq_true rfl, Nat.le_of_ble_eq_true rfl, Nat.le_of_ble_eq_true rfl, Nat.le_of_ble_eq_true rfl⟩ (k_Wi fun r177 s177 h => ?_)
    obtain ⟨g180, h⟩ := h
    refine t_zast C dX12_work_180 (k := 115) (i := 0) (by decide) rfl (fun s9 => sh_115 _ _ s9 _) g180 ?_
    refine t_tops (fun s180 es180 => ?_)
    have h := h s180 es180
    refine z_iconst C dX12_work_181 (v := 0) (by decide) ?_
    refine z_istore C dX12_work_182 (lc' := [some (.ref 100), some (.int (a1)), some (.int (a2)), some (.int (a3)), some (.int (a4)), some (.int (a5)), some (.int (a6)), none, some (.int (x137)), some (.int (0))]) (by decide) rfl ?_
    exact t_drop [true, false, false, false, false, false, false, false, true, true] rfl (j_X12_work_184 hfl C hr hn9  zfu s180 x137 (0) h)
  · have h := h.2 c128
    refine z_iconst C dX12_work_131 (v := 0) (by decide) ?_
    exact z_iret C dX12_work_132 hr rfl ⟨_, _, rfl, rfl, h⟩ (Nat.le_of_ble_eq_true rfl) (Nat.le_of_ble_eq_true rfl)
def w_X12_work_81 (P : Int32 → zTs → Prop)  (st : zTs) (a1 : Int32) (a2 : Int32) (a3 : Int32) (a4 : Int32) (a5 : Int32) (a6 : Int32) (a7 : Int32) (b0 : Int32) : Prop := w_X12_bad st b0 1 (fun (r82 : Int32) (s82 : zTs) => ((r82 = 0 → w_X12_bad s82 a7 2 (fun (r92 : Int32) (s92 : zTs) => ((r92 = 0 → ((zgF s92 100 0 23) = 30 → w_X12_work_124 P s92 a1 a2 a3 a4 a5 a6 (1)) ∧ (¬ (zgF s92 100 0 23) = 30 → vp_in 5 15 ∧ (((zgA s92 103 0 (5 : Int32).toNatClampNeg) = 127 → w_X12_work_124 P s92 a1 a2 a3 a4 a5 a6 (1)) ∧ (¬ (zgA s92 103 0 (5 : Int32).toNatClampNeg) = 127 → w_X12_work_124 P s92 a1 a2 a3 a4 a5 a6 (0))))) ∧ (¬ r92 = 0 → P 0 s92)))) ∧ (¬ r82 = 0 → P 0 s82)))
set_option maxHeartbeats 4000000 in
set_option maxRecDepth 100000 in
theorem j_X12_work_81 {P : Int32 → zTs → Prop}  (hfl : l.stackTraces = false) (C : zC Z p s m args meth c cX12_work 10 RX12) (hr : meth.sig.returnType = (some .int)) (hn9 : True)  (st : zTs) (a1 : Int32) (a2 : Int32) (a3 : Int32) (a4 : Int32) (a5 : Int32) (a6 : Int32) (a7 : Int32) (b0 : Int32) (h : w_X12_work_81 P st a1 a2 a3 a4 a5 a6 a7 b0) : zG Z ad0 h0 p l e ({ frames := 2, cells := 0, slots := 0, locals := 42 } : Room) s m args below meth c (MQ below (zQ Z ad0 h0 (zWi Z P)) args s 0 0 (zA Z)) 0 0 (zh Z zm1 st) 10 81 [some (.ref 100), some (.int (a1)), some (.int (a2)), some (.int (a3)), some (.int (a4)), some (.int (a5)), some (.int (a6)), some (.int (a7)), none, none] [.int (b0), .ref 100] := by
  unfold w_X12_work_81 at h
  refine z_iconst C dX12_work_81 (v := 1) (by decide) ?_
  refine t_callV C (rest := []) (c2 := 0) (s2 := 0) (kd := 100) (i := 0) [.int (b0), .int (1)] dX12_work_82 lk_X12_205 li_X12_bad le_X12_bad (c_X12_bad hfl h) rfl rfl (by decide) rfl ⟨_, rfl⟩ rfl ⟨Nat.le_of_ble_eq_true rfl, Nat.le_of_ble_eq_true rfl⟩ (Nat.le_of_ble_eq_true rfl) ⟨Nat.le_of_ble_eq_true rfl, Nat.le_of_ble_eq_true rfl, Nat.le_of_ble_eq_true rfl, Nat.le_of_ble_eq_true rfl⟩ (k_Wi fun r82 s82 h => ?_)
  refine z_if_ne C dX12_work_85 (tgt := 131) (by decide) (fun c85 => ?_) (fun c85 => ?_)
  · have h := h.2 c85
    refine z_iconst C dX12_work_131 (v := 0) (by decide) ?_
    exact z_iret C dX12_work_132 hr rfl ⟨_, _, rfl, rfl, h⟩ (Nat.le_of_ble_eq_true rfl) (Nat.le_of_ble_eq_true rfl)
  · have h := h.1 c85
    refine z_aload_n C dX12_work_88 (i := 0) rfl rfl ?_
    refine z_iload C dX12_work_89 rfl ?_
    refine z_iconst C dX12_work_91 (v := 2) (by decide) ?_
    refine t_callV C (rest := []) (c2 := 0) (s2 := 0) (kd := 100) (i := 0) [.int (a7), .int (2)] dX12_work_92 lk_X12_205 li_X12_bad le_X12_bad (c_X12_bad hfl h) rfl rfl (by decide) rfl ⟨_, rfl⟩ rfl ⟨Nat.le_of_ble_eq_true rfl, Nat.le_of_ble_eq_true rfl⟩ (Nat.le_of_ble_eq_true rfl) ⟨Nat.le_of_ble_eq_true rfl, Nat.le_of_ble_eq_true rfl, Nat.le_of_ble_eq_true rfl, Nat.le_of_ble_eq_true rfl⟩ (k_Wi fun r92 s92 h => ?_)
    refine z_if_ne C dX12_work_95 (tgt := 131) (by decide) (fun c95 => ?_) (fun c95 => ?_)
    · have h := h.2 c95
      refine z_iconst C dX12_work_131 (v := 0) (by decide) ?_
      exact z_iret C dX12_work_132 hr rfl ⟨_, _, rfl, rfl, h⟩ (Nat.le_of_ble_eq_true rfl) (Nat.le_of_ble_eq_true rfl)
    · have h := h.1 c95
      refine z_aload_n C dX12_work_98 (i := 0) rfl rfl ?_
      refine z_aload_n C dX12_work_99 (i := 0) rfl rfl ?_
      refine t_get C dX12_work_100 fl_X12_368 (k := 100) (i := 0) (by decide) rfl (fg_100_23 _ _ _) ?_
      refine z_bipush C dX12_work_103 (v := 30) (by decide) ?_
      refine z_icmp_eq C dX12_work_105 (tgt := 119) (by decide) (fun c105 => ?_) (fun c105 => ?_)
      · have h := h.1 c105
        refine z_iconst C dX12_work_119 (v := 1) (by decide) ?_
        refine z_goto C dX12_work_120 (tgt := 124) (by decide) ?_
        exact t_drop [true, true, true, true, true, true, true, false, false, false] rfl (j_X12_work_124 hfl C hr hn9  s92 a1 a2 a3 a4 a5 a6 (1) h)
      · have h := h.2 c105
        refine z_aload_n C dX12_work_108 (i := 0) rfl rfl ?_
        refine t_get C dX12_work_109 fl_X12_21 (k := 100) (i := 0) (by decide) rfl (fg_100_13 _ _ _) ?_
        refine z_iconst C dX12_work_112 (v := 5) (by decide) ?_
        obtain ⟨g113, h⟩ := h
        refine t_iald C dX12_work_113 (k := 103) (i := 0) (by decide) rfl (sh_103 _ _ _ _) g113 ?_
        refine z_bipush C dX12_work_114 (v := 127) (by decide) ?_
        refine z_icmp_ne C dX12_work_116 (tgt := 123) (by decide) (fun c116 => ?_) (fun c116 => ?_)
        · have h := h.2 c116
          refine z_iconst C dX12_work_123 (v := 0) (by decide) ?_
          exact t_drop [true, true, true, true, true, true, true, false, false, false] rfl (j_X12_work_124 hfl C hr hn9  s92 a1 a2 a3 a4 a5 a6 (0) h)
        · have h := h.1 c116
          refine z_iconst C dX12_work_119 (v := 1) (by decide) ?_
          refine z_goto C dX12_work_120 (tgt := 124) (by decide) ?_
          exact t_drop [true, true, true, true, true, true, true, false, false, false] rfl (j_X12_work_124 hfl C hr hn9  s92 a1 a2 a3 a4 a5 a6 (1) h)
def w_X12_work_65 (P : Int32 → zTs → Prop)  (st : zTs) (a1 : Int32) (a2 : Int32) (a3 : Int32) (a4 : Int32) (a5 : Int32) (a6 : Int32) (b0 : Int32) : Prop := w_X12_isWall st a1 (fun (r70 : Int32) => ((r70 = 0 → w_X12_work_81 P st a1 a2 a3 a4 a5 a6 b0 (1)) ∧ (¬ r70 = 0 → w_X12_work_81 P st a1 a2 a3 a4 a5 a6 b0 (0))))
set_option maxHeartbeats 4000000 in
set_option maxRecDepth 100000 in
theorem j_X12_work_65 {P : Int32 → zTs → Prop}  (hfl : l.stackTraces = false) (C : zC Z p s m args meth c cX12_work 10 RX12) (hr : meth.sig.returnType = (some .int)) (hn9 : True)  (st : zTs) (a1 : Int32) (a2 : Int32) (a3 : Int32) (a4 : Int32) (a5 : Int32) (a6 : Int32) (b0 : Int32) (h : w_X12_work_65 P st a1 a2 a3 a4 a5 a6 b0) : zG Z ad0 h0 p l e ({ frames := 2, cells := 0, slots := 0, locals := 42 } : Room) s m args below meth c (MQ below (zQ Z ad0 h0 (zWi Z P)) args s 0 0 (zA Z)) 0 0 (zh Z zm1 st) 10 65 [some (.ref 100), some (.int (a1)), some (.int (a2)), some (.int (a3)), some (.int (a4)), some (.int (a5)), some (.int (a6)), none, none, none] [.int (b0)] := by
  unfold w_X12_work_65 at h
  refine z_istore C dX12_work_65 (lc' := [some (.ref 100), some (.int (a1)), some (.int (a2)), some (.int (a3)), some (.int (a4)), some (.int (a5)), some (.int (a6)), some (.int (b0)), none, none]) (by decide) rfl ?_
  refine z_aload_n C dX12_work_67 (i := 0) rfl rfl ?_
  refine z_aload_n C dX12_work_68 (i := 0) rfl rfl ?_
  refine z_iload_n C dX12_work_69 (i := 1) rfl rfl ?_
  refine t_callV C (rest := [.ref 100]) (c2 := 0) (s2 := 0) (kd := 100) (i := 0) [.int (a1)] dX12_work_70 lk_X12_216 li_X12_isWall le_X12_isWall (c_X12_isWall hfl h) rfl rfl (by decide) rfl ⟨_, rfl⟩ rfl ⟨Nat.le_of_ble_eq_true rfl, Nat.le_of_ble_eq_true rfl⟩ (Nat.le_of_ble_eq_true rfl) ⟨Nat.le_of_ble_eq_true rfl, Nat.le_of_ble_eq_true rfl, Nat.le_of_ble_eq_true rfl, Nat.le_of_ble_eq_true rfl⟩ (k_Ri fun r70 h => ?_)
  refine z_if_ne C dX12_work_73 (tgt := 80) (by decide) (fun c73 => ?_) (fun c73 => ?_)
  · have h := h.2 c73
    refine z_iconst C dX12_work_80 (v := 0) (by decide) ?_
    exact t_drop [true, true, true, true, true, true, true, true, false, false] rfl (j_X12_work_81 hfl C hr hn9  st a1 a2 a3 a4 a5 a6 b0 (0) h)
  · have h := h.1 c73
    refine z_iconst C dX12_work_76 (v := 1) (by decide) ?_
    refine z_goto C dX12_work_77 (tgt := 81) (by decide) ?_
    exact t_drop [true, true, true, true, true, true, true, true, false, false] rfl (j_X12_work_81 hfl C hr hn9  st a1 a2 a3 a4 a5 a6 b0 (1) h)
def w_X12_work (st : zTs) (a1 : Int32) (a2 : Int32) (a3 : Int32) (a4 : Int32) (a5 : Int32) (a6 : Int32) (P : Int32 → zTs → Prop) : Prop := ∀ s2 : zTs, s2 = zuF st 100 0 0 0 → (w_X12_isSide s2 a2 (fun (r6 : Int32) => ((r6 = 0 → w_X12_work_65 P s2 a1 a2 a3 a4 a5 a6 (1)) ∧ (¬ r6 = 0 → (a3 < 0 → w_X12_work_65 P s2 a1 a2 a3 a4 a5 a6 (1)) ∧ (¬ a3 < 0 → (4 ≤ a3 → w_X12_work_65 P s2 a1 a2 a3 a4 a5 a6 (1)) ∧ (¬ 4 ≤ a3 → (a4 < 0 → w_X12_work_65 P s2 a1 a2 a3 a4 a5 a6 (1)) ∧ (¬ a4 < 0 → (9999 < a4 → w_X12_work_65 P s2 a1 a2 a3 a4 a5 a6 (1)) ∧ (¬ 9999 < a4 → (a5 < 0 → w_X12_work_65 P s2 a1 a2 a3 a4 a5 a6 (1)) ∧ (¬ a5 < 0 → (9999 < a5 → w_X12_work_65 P s2 a1 a2 a3 a4 a5 a6 (1)) ∧ (¬ 9999 < a5 → (a6 < 0 → w_X12_work_65 P s2 a1 a2 a3 a4 a5 a6 (1)) ∧ (¬ a6 < 0 → (a6 ≤ 9999 → w_X12_work_65 P s2 a1 a2 a3 a4 a5 a6 (0)) ∧ (¬ a6 ≤ 9999 → w_X12_work_65 P s2 a1 a2 a3 a4 a5 a6 (1)))))))))))))
set_option maxHeartbeats 4000000 in
set_option maxRecDepth 100000 in
theorem c_X12_work {Z : zZ} {l : Launch} (hfl : l.stackTraces = false) {st : zTs} {a1 : Int32} {a2 : Int32} {a3 : Int32} {a4 : Int32} {a5 : Int32} {a6 : Int32} {P : Int32 → zTs → Prop} (h : w_X12_work st a1 a2 a3 a4 a5 a6 P) : zN Z l yX12_work cX12_work 10 (some .int) ({ frames := 2, cells := 0, slots := 0, locals := 42 } : Room) (zh Z zm1 st) [.ref 100, .int (a1), .int (a2), .int (a3), .int (a4), .int (a5), .int (a6)] (zWi Z P) := by
  unfold w_X12_work at h
  refine z_enterN (by decide) (Nat.le_of_ble_eq_true rfl) (lc0 := [some (.ref 100), some (.int (a1)), some (.int (a2)), some (.int (a3)), some (.int (a4)), some (.int (a5)), some (.int (a6)), none, none, none]) rfl ?_
  intro p e s m args below meth c ad0 C hr _
  have hn9 : True := trivial
  replace C : zC Z p s m args meth c cX12_work 10 RX12 := C
  refine z_aload_n C dX12_work_0 (i := 0) rfl rfl ?_
  refine z_iconst C dX12_work_1 (v := 0) (by decide) ?_
  refine t_put C dX12_work_2 fq_X12_199 (Or.inl rfl) (k := 100) (i := 0) (by decide) rfl ⟨rfl, rfl⟩ (fp_100_0 _ _ _ _ _) ?_
  refine t_tops (fun s2 es2 => ?_)
  have h := h s2 es2
  refine z_iload_n C dX12_work_5 (i := 2) rfl rfl ?_
  refine t_callS C (rest := []) (c2 := 0) (s2 := 0) [.int (a2)] dX12_work_6 lk_X12_219 ls_X12_isSide (c_X12_isSide hfl h) rfl rfl ⟨Nat.le_of_ble_eq_true rfl, Nat.le_of_ble_eq_true rfl⟩ (Nat.le_of_ble_eq_true rfl) ⟨Nat.le_of_ble_eq_true rfl, Nat.le_of_ble_eq_true rfl, Nat.le_of_ble_eq_true rfl, Nat.le_of_ble_eq_true rfl⟩ (k_Ri fun r6 h => ?_)
  refine z_if_eq C dX12_work_9 (tgt := 60) (by decide) (fun c9 => ?_) (fun c9 => ?_)
  · have h := h.1 c9
    refine z_iconst C dX12_work_60 (v := 1) (by decide) ?_
    refine z_goto C dX12_work_61 (tgt := 65) (by decide) ?_
    exact t_drop [true, true, true, true, true, true, true, false, false, false] rfl (j_X12_work_65 hfl C hr hn9  s2 a1 a2 a3 a4 a5 a6 (1) h)
  · have h := h.2 c9
    refine z_iload_n C dX12_work_12 (i := 3) rfl rfl ?_
    refine z_if_lt C dX12_work_13 (tgt := 60) (by decide) (fun c13 => ?_) (fun c13 => ?_)
    · have h := h.1 c13
      refine z_iconst C dX12_work_60 (v := 1) (by decide) ?_
      refine z_goto C dX12_work_61 (tgt := 65) (by decide) ?_
      exact t_drop [true, true, true, true, true, true, true, false, false, false] rfl (j_X12_work_65 hfl C hr hn9  s2 a1 a2 a3 a4 a5 a6 (1) h)
    · have h := h.2 c13
      refine z_iload_n C dX12_work_16 (i := 3) rfl rfl ?_
      refine z_iconst C dX12_work_17 (v := 4) (by decide) ?_
      refine z_icmp_ge C dX12_work_18 (tgt := 60) (by decide) (fun c18 => ?_) (fun c18 => ?_)
      · have h := h.1 c18
        refine z_iconst C dX12_work_60 (v := 1) (by decide) ?_
        refine z_goto C dX12_work_61 (tgt := 65) (by decide) ?_
        exact t_drop [true, true, true, true, true, true, true, false, false, false] rfl (j_X12_work_65 hfl C hr hn9  s2 a1 a2 a3 a4 a5 a6 (1) h)
      · have h := h.2 c18
        refine z_iload C dX12_work_21 rfl ?_
        refine z_if_lt C dX12_work_23 (tgt := 60) (by decide) (fun c23 => ?_) (fun c23 => ?_)
        · have h := h.1 c23
          refine z_iconst C dX12_work_60 (v := 1) (by decide) ?_
          refine z_goto C dX12_work_61 (tgt := 65) (by decide) ?_
          exact t_drop [true, true, true, true, true, true, true, false, false, false] rfl (j_X12_work_65 hfl C hr hn9  s2 a1 a2 a3 a4 a5 a6 (1) h)
        · have h := h.2 c23
          refine z_iload C dX12_work_26 rfl ?_
          refine z_sipush C dX12_work_28 (v := 9999) (by decide) ?_
          refine z_icmp_gt C dX12_work_31 (tgt := 60) (by decide) (fun c31 => ?_) (fun c31 => ?_)
          · have h := h.1 c31
            refine z_iconst C dX12_work_60 (v := 1) (by decide) ?_
            refine z_goto C dX12_work_61 (tgt := 65) (by decide) ?_
            exact t_drop [true, true, true, true, true, true, true, false, false, false] rfl (j_X12_work_65 hfl C hr hn9  s2 a1 a2 a3 a4 a5 a6 (1) h)
          · have h := h.2 c31
            refine z_iload C dX12_work_34 rfl ?_
            refine z_if_lt C dX12_work_36 (tgt := 60) (by decide) (fun c36 => ?_) (fun c36 => ?_)
            · have h := h.1 c36
              refine z_iconst C dX12_work_60 (v := 1) (by decide) ?_
              refine z_goto C dX12_work_61 (tgt := 65) (by decide) ?_
              exact t_drop [true, true, true, true, true, true, true, false, false, false] rfl (j_X12_work_65 hfl C hr hn9  s2 a1 a2 a3 a4 a5 a6 (1) h)
            · have h := h.2 c36
              refine z_iload C dX12_work_39 rfl ?_
              refine z_sipush C dX12_work_41 (v := 9999) (by decide) ?_
              refine z_icmp_gt C dX12_work_44 (tgt := 60) (by decide) (fun c44 => ?_) (fun c44 => ?_)
              · have h := h.1 c44
                refine z_iconst C dX12_work_60 (v := 1) (by decide) ?_
                refine z_goto C dX12_work_61 (tgt := 65) (by decide) ?_
                exact t_drop [true, true, true, true, true, true, true, false, false, false] rfl (j_X12_work_65 hfl C hr hn9  s2 a1 a2 a3 a4 a5 a6 (1) h)
              · have h := h.2 c44
                refine z_iload C dX12_work_47 rfl ?_
                refine z_if_lt C dX12_work_49 (tgt := 60) (by decide) (fun c49 => ?_) (fun c49 => ?_)
                · have h := h.1 c49
                  refine z_iconst C dX12_work_60 (v := 1) (by decide) ?_
                  refine z_goto C dX12_work_61 (tgt := 65) (by decide) ?_
                  exact t_drop [true, true, true, true, true, true, true, false, false, false] rfl (j_X12_work_65 hfl C hr hn9  s2 a1 a2 a3 a4 a5 a6 (1) h)
                · have h := h.2 c49
                  refine z_iload C dX12_work_52 rfl ?_
                  refine z_sipush C dX12_work_54 (v := 9999) (by decide) ?_
                  refine z_icmp_le C dX12_work_57 (tgt := 64) (by decide) (fun c57 => ?_) (fun c57 => ?_)
                  · have h := h.1 c57
                    refine z_iconst C dX12_work_64 (v := 0) (by decide) ?_
                    exact t_drop [true, true, true, true, true, true, true, false, false, false] rfl (j_X12_work_65 hfl C hr hn9  s2 a1 a2 a3 a4 a5 a6 (0) h)
                  · have h := h.2 c57
                    refine z_iconst C dX12_work_60 (v := 1) (by decide) ?_
                    refine z_goto C dX12_work_61 (tgt := 65) (by decide) ?_
                    exact t_drop [true, true, true, true, true, true, true, false, false, false] rfl (j_X12_work_65 hfl C hr hn9  s2 a1 a2 a3 a4 a5 a6 (1) h)
def w_X12_isWork_18 (P : Int32 → zTs → Prop)  (st : zTs) (b0 : Int32) : Prop := ∀ s18 : zTs, s18 = zuF st 100 0 0 b0 → (((zgF s18 100 0 0) = 0 → P 1 s18) ∧ (¬ (zgF s18 100 0 0) = 0 → P 0 s18))
set_option maxHeartbeats 4000000 in
set_option maxRecDepth 100000 in
theorem j_X12_isWork_18 {P : Int32 → zTs → Prop}  (hfl : l.stackTraces = false) (C : zC Z p s m args meth c cX12_isWork 2 RX12) (hr : meth.sig.returnType = (some .boolean)) (hn9 : True)  (st : zTs) (b0 : Int32) (h : w_X12_isWork_18 P st b0) : zG Z ad0 h0 p l e ({ frames := 1, cells := 0, slots := 0, locals := 12 } : Room) s m args below meth c (MQ below (zQ Z ad0 h0 (zWi Z P)) args s 0 0 (zA Z)) 0 0 (zh Z zm1 st) 2 18 [some (.ref 100), none] [.int (b0), .ref 100] := by
  unfold w_X12_isWork_18 at h
  refine t_put C dX12_isWork_18 fq_X12_199 (Or.inl rfl) (k := 100) (i := 0) (by decide) rfl ⟨rfl, rfl⟩ (fp_100_0 _ _ _ _ _) ?_
  refine t_tops (fun s18 es18 => ?_)
  have h := h s18 es18
  refine z_aload_n C dX12_isWork_21 (i := 0) rfl rfl ?_
  refine t_get C dX12_isWork_22 fl_X12_199 (k := 100) (i := 0) (by decide) rfl (fg_100_0 _ _ _) ?_
  refine z_if_ne C dX12_isWork_25 (tgt := 32) (by decide) (fun c25 => ?_) (fun c25 => ?_)
  · have h := h.2 c25
    refine z_iconst C dX12_isWork_32 (v := 0) (by decide) ?_
    exact z_iret C dX12_isWork_33 hr rfl ⟨_, _, rfl, rfl, h⟩ (Nat.le_of_ble_eq_true rfl) (Nat.le_of_ble_eq_true rfl)
  · have h := h.1 c25
    refine z_iconst C dX12_isWork_28 (v := 1) (by decide) ?_
    refine z_goto C dX12_isWork_29 (tgt := 33) (by decide) ?_
    exact z_iret C dX12_isWork_33 hr rfl ⟨_, _, rfl, rfl, h⟩ (Nat.le_of_ble_eq_true rfl) (Nat.le_of_ble_eq_true rfl)
def w_X12_isWork (st : zTs) (a1 : Int32) (P : Int32 → zTs → Prop) : Prop := (a1 < 0 → w_X12_isWork_18 P st (1)) ∧ (¬ a1 < 0 → (a1 < (zgF st 100 0 23) → w_X12_isWork_18 P st (0)) ∧ (¬ a1 < (zgF st 100 0 23) → w_X12_isWork_18 P st (1)))
set_option maxHeartbeats 4000000 in
set_option maxRecDepth 100000 in
theorem c_X12_isWork {Z : zZ} {l : Launch} (hfl : l.stackTraces = false) {st : zTs} {a1 : Int32} {P : Int32 → zTs → Prop} (h : w_X12_isWork st a1 P) : zN Z l yX12_isWork cX12_isWork 2 (some .boolean) ({ frames := 1, cells := 0, slots := 0, locals := 12 } : Room) (zh Z zm1 st) [.ref 100, .int (a1)] (zWi Z P) := by
  unfold w_X12_isWork at h
  refine z_enterN (by decide) (Nat.le_of_ble_eq_true rfl) (lc0 := [some (.ref 100), some (.int (a1))]) rfl ?_
  intro p e s m args below meth c ad0 C hr _
  have hn9 : True := trivial
  replace C : zC Z p s m args meth c cX12_isWork 2 RX12 := C
  refine z_aload_n C dX12_isWork_0 (i := 0) rfl rfl ?_
  refine z_iload_n C dX12_isWork_1 (i := 1) rfl rfl ?_
  refine z_if_lt C dX12_isWork_2 (tgt := 13) (by decide) (fun c2 => ?_) (fun c2 => ?_)
  · have h := h.1 c2
    refine z_iconst C dX12_isWork_13 (v := 1) (by decide) ?_
    refine z_goto C dX12_isWork_14 (tgt := 18) (by decide) ?_
    exact t_drop [true, false] rfl (j_X12_isWork_18 hfl C hr hn9  st (1) h)
  · have h := h.2 c2
    refine z_iload_n C dX12_isWork_5 (i := 1) rfl rfl ?_
    refine z_aload_n C dX12_isWork_6 (i := 0) rfl rfl ?_
    refine t_get C dX12_isWork_7 fl_X12_368 (k := 100) (i := 0) (by decide) rfl (fg_100_23 _ _ _) ?_
    refine z_icmp_lt C dX12_isWork_10 (tgt := 17) (by decide) (fun c10 => ?_) (fun c10 => ?_)
    · have h := h.1 c10
      refine z_iconst C dX12_isWork_17 (v := 0) (by decide) ?_
      exact t_drop [true, false] rfl (j_X12_isWork_18 hfl C hr hn9  st (0) h)
    · have h := h.2 c10
      refine z_iconst C dX12_isWork_13 (v := 1) (by decide) ?_
      refine z_goto C dX12_isWork_14 (tgt := 18) (by decide) ?_
      exact t_drop [true, false] rfl (j_X12_isWork_18 hfl C hr hn9  st (1) h)
def w_X12_keptOf (st : zTs) (a1 : Int32) (a2 : Int32) (P : Int32 → Prop) : Prop := vp_in ((15 * a1) + a2) 450 ∧ (P (zgA st 116 0 ((15 * a1) + a2 : Int32).toNatClampNeg))
set_option maxHeartbeats 4000000 in
set_option maxRecDepth 100000 in
theorem c_X12_keptOf {Z : zZ} {l : Launch} (hfl : l.stackTraces = false) {st : zTs} {a1 : Int32} {a2 : Int32} {P : Int32 → Prop} (h : w_X12_keptOf st a1 a2 P) : zN Z l yX12_keptOf cX12_keptOf 3 (some .int) ({ frames := 1, cells := 0, slots := 0, locals := 12 } : Room) (zh Z zm1 st) [.ref 100, .int (a1), .int (a2)] (zRi Z st P) := by
  unfold w_X12_keptOf at h
  refine z_enterN (by decide) (Nat.le_of_ble_eq_true rfl) (lc0 := [some (.ref 100), some (.int (a1)), some (.int (a2))]) rfl ?_
  intro p e s m args below meth c ad0 C hr _
  have hn9 : True := trivial
  replace C : zC Z p s m args meth c cX12_keptOf 3 RX12 := C
  refine z_aload_n C dX12_keptOf_0 (i := 0) rfl rfl ?_
  refine t_get C dX12_keptOf_1 fl_X12_61 (k := 100) (i := 0) (by decide) rfl (fg_100_28 _ _ _) ?_
  refine z_bipush C dX12_keptOf_4 (v := 15) (by decide) ?_
  refine z_iload_n C dX12_keptOf_6 (i := 1) rfl rfl ?_
  refine z_imul C dX12_keptOf_7 ?_
  refine z_iload_n C dX12_keptOf_8 (i := 2) rfl rfl ?_
  refine z_iadd C dX12_keptOf_9 ?_
  obtain ⟨g10, h⟩ := h
  refine t_iald C dX12_keptOf_10 (k := 116) (i := 0) (by decide) rfl (sh_116 _ _ _ _) g10 ?_
  exact z_iret C dX12_keptOf_11 hr rfl ⟨rfl, _, rfl, h⟩ (Nat.le_of_ble_eq_true rfl) (Nat.le_of_ble_eq_true rfl)
def w_X12_arrives (st : zTs) (a1 : Int32) (P : Int32 → Prop) : Prop := vp_in a1 30 ∧ (w_X12_keptOf st a1 4 (fun (r9 : Int32) => (P ((zgA st 117 0 (a1 : Int32).toNatClampNeg) + r9))))
set_option maxHeartbeats 4000000 in
set_option maxRecDepth 100000 in
theorem c_X12_arrives {Z : zZ} {l : Launch} (hfl : l.stackTraces = false) {st : zTs} {a1 : Int32} {P : Int32 → Prop} (h : w_X12_arrives st a1 P) : zN Z l yX12_arrives cX12_arrives 2 (some .int) ({ frames := 2, cells := 0, slots := 0, locals := 34 } : Room) (zh Z zm1 st) [.ref 100, .int (a1)] (zRi Z st P) := by
  unfold w_X12_arrives at h
  refine z_enterN (by decide) (Nat.le_of_ble_eq_true rfl) (lc0 := [some (.ref 100), some (.int (a1))]) rfl ?_
  intro p e s m args below meth c ad0 C hr _
  have hn9 : True := trivial
  replace C : zC Z p s m args meth c cX12_arrives 2 RX12 := C
  refine z_aload_n C dX12_arrives_0 (i := 0) rfl rfl ?_
  refine t_get C dX12_arrives_1 fl_X12_64 (k := 100) (i := 0) (by decide) rfl (fg_100_29 _ _ _) ?_
  refine z_iload_n C dX12_arrives_4 (i := 1) rfl rfl ?_
  obtain ⟨g5, h⟩ := h
  refine t_iald C dX12_arrives_5 (k := 117) (i := 0) (by decide) rfl (sh_117 _ _ _ _) g5 ?_
  refine z_aload_n C dX12_arrives_6 (i := 0) rfl rfl ?_
  refine z_iload_n C dX12_arrives_7 (i := 1) rfl rfl ?_
  refine z_iconst C dX12_arrives_8 (v := 4) (by decide) ?_
  refine t_callV C (rest := [.int (zgA st 117 0 (a1 : Int32).toNatClampNeg)]) (c2 := 0) (s2 := 0) (kd := 100) (i := 0) [.int (a1), .int (4)] dX12_arrives_9 lk_X12_375 li_X12_keptOf le_X12_keptOf (c_X12_keptOf hfl h) rfl rfl (by decide) rfl ⟨_, rfl⟩ rfl ⟨Nat.le_of_ble_eq_true rfl, Nat.le_of_ble_eq_true rfl⟩ (Nat.le_of_ble_eq_true rfl) ⟨Nat.le_of_ble_eq_true rfl, Nat.le_of_ble_eq_true rfl, Nat.le_of_ble_eq_true rfl, Nat.le_of_ble_eq_true rfl⟩ (k_Ri fun r9 h => ?_)
  refine z_iadd C dX12_arrives_12 ?_
  exact z_iret C dX12_arrives_13 hr rfl ⟨rfl, _, rfl, h⟩ (Nat.le_of_ble_eq_true rfl) (Nat.le_of_ble_eq_true rfl)
def w_X12_lastAnswer (st : zTs) (a1 : Int32) (P : Int32 → Prop) : Prop := w_X12_arrives st a1 (fun (r2 : Int32) => (w_X12_keptOf st a1 6 (fun (r9 : Int32) => (w_X12_keptOf st a1 5 (fun (r15 : Int32) => (w_X12_countedFrom st r2 r9 r15 (fun (r18 : Int32) => (P r18))))))))
set_option maxHeartbeats 4000000 in
set_option maxRecDepth 100000 in
theorem c_X12_lastAnswer {Z : zZ} {l : Launch} (hfl : l.stackTraces = false) {st : zTs} {a1 : Int32} {P : Int32 → Prop} (h : w_X12_lastAnswer st a1 P) : zN Z l yX12_lastAnswer cX12_lastAnswer 2 (some .int) ({ frames := 3, cells := 0, slots := 0, locals := 55 } : Room) (zh Z zm1 st) [.ref 100, .int (a1)] (zRi Z st P) := by
  unfold w_X12_lastAnswer at h
  refine z_enterN (by decide) (Nat.le_of_ble_eq_true rfl) (lc0 := [some (.ref 100), some (.int (a1))]) rfl ?_
  intro p e s m args below meth c ad0 C hr _
  have hn9 : True := trivial
  replace C : zC Z p s m args meth c cX12_lastAnswer 2 RX12 := C
  refine z_aload_n C dX12_lastAnswer_0 (i := 0) rfl rfl ?_
  refine z_iload_n C dX12_lastAnswer_1 (i := 1) rfl rfl ?_
  refine t_callV C (rest := []) (c2 := 0) (s2 := 0) (kd := 100) (i := 0) [.int (a1)] dX12_lastAnswer_2 lk_X12_378 li_X12_arrives le_X12_arrives (c_X12_arrives hfl h) rfl rfl (by decide) rfl ⟨_, rfl⟩ rfl ⟨Nat.le_of_ble_eq_true rfl, Nat.le_of_ble_eq_true rfl⟩ (Nat.le_of_ble_eq_true rfl) ⟨Nat.le_of_ble_eq_true rfl, Nat.le_of_ble_eq_true rfl, Nat.le_of_ble_eq_true rfl, Nat.le_of_ble_eq_true rfl⟩ (k_Ri fun r2 h => ?_)
  refine z_aload_n C dX12_lastAnswer_5 (i := 0) rfl rfl ?_
  refine z_iload_n C dX12_lastAnswer_6 (i := 1) rfl rfl ?_
  refine z_bipush C dX12_lastAnswer_7 (v := 6) (by decide) ?_
  refine t_callV C (rest := [.int (r2)]) (c2 := 0) (s2 := 0) (kd := 100) (i := 0) [.int (a1), .int (6)] dX12_lastAnswer_9 lk_X12_375 li_X12_keptOf le_X12_keptOf (c_X12_keptOf hfl h) rfl rfl (by decide) rfl ⟨_, rfl⟩ rfl ⟨Nat.le_of_ble_eq_true rfl, Nat.le_of_ble_eq_true rfl⟩ (Nat.le_of_ble_eq_true rfl) ⟨Nat.le_of_ble_eq_true rfl, Nat.le_of_ble_eq_true rfl, Nat.le_of_ble_eq_true rfl, Nat.le_of_ble_eq_true rfl⟩ (k_Ri fun r9 h => ?_)
  refine z_aload_n C dX12_lastAnswer_12 (i := 0) rfl rfl ?_
  refine z_iload_n C dX12_lastAnswer_13 (i := 1) rfl rfl ?_
  refine z_iconst C dX12_lastAnswer_14 (v := 5) (by decide) ?_
  refine t_callV C (rest := [.int (r9), .int (r2)]) (c2 := 0) (s2 := 0) (kd := 100) (i := 0) [.int (a1), .int (5)] dX12_lastAnswer_15 lk_X12_375 li_X12_keptOf le_X12_keptOf (c_X12_keptOf hfl h) rfl rfl (by decide) rfl ⟨_, rfl⟩ rfl ⟨Nat.le_of_ble_eq_true rfl, Nat.le_of_ble_eq_true rfl⟩ (Nat.le_of_ble_eq_true rfl) ⟨Nat.le_of_ble_eq_true rfl, Nat.le_of_ble_eq_true rfl, Nat.le_of_ble_eq_true rfl, Nat.le_of_ble_eq_true rfl⟩ (k_Ri fun r15 h => ?_)
  refine t_callS C (rest := []) (c2 := 0) (s2 := 0) [.int (r2), .int (r9), .int (r15)] dX12_lastAnswer_18 lk_X12_364 ls_X12_countedFrom (c_X12_countedFrom hfl h) rfl rfl ⟨Nat.le_of_ble_eq_true rfl, Nat.le_of_ble_eq_true rfl⟩ (Nat.le_of_ble_eq_true rfl) ⟨Nat.le_of_ble_eq_true rfl, Nat.le_of_ble_eq_true rfl, Nat.le_of_ble_eq_true rfl, Nat.le_of_ble_eq_true rfl⟩ (k_Ri fun r18 h => ?_)
  exact z_iret C dX12_lastAnswer_21 hr rfl ⟨rfl, _, rfl, h⟩ (Nat.le_of_ble_eq_true rfl) (Nat.le_of_ble_eq_true rfl)
def w_X12_ahead (st : zTs) (a1 : Int32) (P : Int32 → Prop) : Prop := vp_in a1 30 ∧ (((zgA st 115 0 (a1 : Int32).toNatClampNeg) = 0 → P 1) ∧ (¬ (zgA st 115 0 (a1 : Int32).toNatClampNeg) = 0 → vp_in a1 30 ∧ ((0 ≤ (zgA st 117 0 (a1 : Int32).toNatClampNeg) → vp_in a1 30 ∧ (((zgA st 120 0 (a1 : Int32).toNatClampNeg) = 0 → vp_in a1 30 ∧ (((zgA st 125 0 (a1 : Int32).toNatClampNeg) < 0 → vp_in a1 30 ∧ (((zgA st 118 0 (a1 : Int32).toNatClampNeg) ≤ 0 → w_X12_lastAnswer st a1 (fun (r75 : Int32) => ((r75 < (zgF st 100 0 3) → w_X12_keptOf st a1 7 (fun (r87 : Int32) => ((r87 = 0 → P 3) ∧ (¬ r87 = 0 → P 4)))) ∧ (¬ r75 < (zgF st 100 0 3) → P 2)))) ∧ (¬ (zgA st 118 0 (a1 : Int32).toNatClampNeg) ≤ 0 → vp_in a1 30 ∧ (((zgA st 118 0 (a1 : Int32).toNatClampNeg) = 1 → P 3) ∧ (¬ (zgA st 118 0 (a1 : Int32).toNatClampNeg) = 1 → P 4))))) ∧ (¬ (zgA st 125 0 (a1 : Int32).toNatClampNeg) < 0 → P 4))) ∧ (¬ (zgA st 120 0 (a1 : Int32).toNatClampNeg) = 0 → P 3))) ∧ (¬ 0 ≤ (zgA st 117 0 (a1 : Int32).toNatClampNeg) → P 0))))
set_option maxHeartbeats 4000000 in
set_option maxRecDepth 100000 in
theorem c_X12_ahead {Z : zZ} {l : Launch} (hfl : l.stackTraces = false) {st : zTs} {a1 : Int32} {P : Int32 → Prop} (h : w_X12_ahead st a1 P) : zN Z l yX12_ahead cX12_ahead 2 (some .int) ({ frames := 4, cells := 0, slots := 0, locals := 76 } : Room) (zh Z zm1 st) [.ref 100, .int (a1)] (zRi Z st P) := by
  unfold w_X12_ahead at h
  refine z_enterN (by decide) (Nat.le_of_ble_eq_true rfl) (lc0 := [some (.ref 100), some (.int (a1))]) rfl ?_
  intro p e s m args below meth c ad0 C hr _
  have hn9 : True := trivial
  replace C : zC Z p s m args meth c cX12_ahead 2 RX12 := C
  refine z_aload_n C dX12_ahead_0 (i := 0) rfl rfl ?_
  refine t_get C dX12_ahead_1 fl_X12_58 (k := 100) (i := 0) (by decide) rfl (fg_100_27 _ _ _) ?_
  refine z_iload_n C dX12_ahead_4 (i := 1) rfl rfl ?_
  obtain ⟨g5, h⟩ := h
  refine t_zald C dX12_ahead_5 (k := 115) (i := 0) (by decide) rfl (sh_115 _ _ _ _) g5 ?_
  refine z_if_ne C dX12_ahead_6 (tgt := 11) (by decide) (fun c6 => ?_) (fun c6 => ?_)
  · have h := h.2 c6
    refine z_aload_n C dX12_ahead_11 (i := 0) rfl rfl ?_
    refine t_get C dX12_ahead_12 fl_X12_64 (k := 100) (i := 0) (by decide) rfl (fg_100_29 _ _ _) ?_
    refine z_iload_n C dX12_ahead_15 (i := 1) rfl rfl ?_
    obtain ⟨g16, h⟩ := h
    refine t_iald C dX12_ahead_16 (k := 117) (i := 0) (by decide) rfl (sh_117 _ _ _ _) g16 ?_
    refine z_if_ge C dX12_ahead_17 (tgt := 22) (by decide) (fun c17 => ?_) (fun c17 => ?_)
    · have h := h.1 c17
      refine z_aload_n C dX12_ahead_22 (i := 0) rfl rfl ?_
      refine t_get C dX12_ahead_23 fl_X12_73 (k := 100) (i := 0) (by decide) rfl (fg_100_32 _ _ _) ?_
      refine z_iload_n C dX12_ahead_26 (i := 1) rfl rfl ?_
      obtain ⟨g27, h⟩ := h
      refine t_zald C dX12_ahead_27 (k := 120) (i := 0) (by decide) rfl (sh_120 _ _ _ _) g27 ?_
      refine z_if_eq C dX12_ahead_28 (tgt := 33) (by decide) (fun c28 => ?_) (fun c28 => ?_)
      · have h := h.1 c28
        refine z_aload_n C dX12_ahead_33 (i := 0) rfl rfl ?_
        refine t_get C dX12_ahead_34 fl_X12_88 (k := 100) (i := 0) (by decide) rfl (fg_100_37 _ _ _) ?_
        refine z_iload_n C dX12_ahead_37 (i := 1) rfl rfl ?_
        obtain ⟨g38, h⟩ := h
        refine t_iald C dX12_ahead_38 (k := 125) (i := 0) (by decide) rfl (sh_125 _ _ _ _) g38 ?_
        refine z_if_lt C dX12_ahead_39 (tgt := 44) (by decide) (fun c39 => ?_) (fun c39 => ?_)
        · have h := h.1 c39
          refine z_aload_n C dX12_ahead_44 (i := 0) rfl rfl ?_
          refine t_get C dX12_ahead_45 fl_X12_67 (k := 100) (i := 0) (by decide) rfl (fg_100_30 _ _ _) ?_
          refine z_iload_n C dX12_ahead_48 (i := 1) rfl rfl ?_
          obtain ⟨g49, h⟩ := h
          refine t_iald C dX12_ahead_49 (k := 118) (i := 0) (by decide) rfl (sh_118 _ _ _ _) g49 ?_
          refine z_if_le C dX12_ahead_50 (tgt := 69) (by decide) (fun c50 => ?_) (fun c50 => ?_)
          · have h := h.1 c50
            refine z_aload_n C dX12_ahead_69 (i := 0) rfl rfl ?_
            refine t_get C dX12_ahead_70 fl_X12_222 (k := 100) (i := 0) (by decide) rfl (fg_100_3 _ _ _) ?_
            refine z_aload_n C dX12_ahead_73 (i := 0) rfl rfl ?_
            refine z_iload_n C dX12_ahead_74 (i := 1) rfl rfl ?_
            refine t_callV C (rest := [.int (zgF st 100 0 3)]) (c2 := 0) (s2 := 0) (kd := 100) (i := 0) [.int (a1)] dX12_ahead_75 lk_X12_381 li_X12_lastAnswer le_X12_lastAnswer (c_X12_lastAnswer hfl h) rfl rfl (by decide) rfl ⟨_, rfl⟩ rfl ⟨Nat.le_of_ble_eq_true rfl, Nat.le_of_ble_eq_true rfl⟩ (Nat.le_of_ble_eq_true rfl) ⟨Nat.le_of_ble_eq_true rfl, Nat.le_of_ble_eq_true rfl, Nat.le_of_ble_eq_true rfl, Nat.le_of_ble_eq_true rfl⟩ (k_Ri fun r75 h => ?_)
            refine z_icmp_gt C dX12_ahead_78 (tgt := 83) (by decide) (fun c78 => ?_) (fun c78 => ?_)
            · have h := h.1 c78
              refine z_aload_n C dX12_ahead_83 (i := 0) rfl rfl ?_
              refine z_iload_n C dX12_ahead_84 (i := 1) rfl rfl ?_
              refine z_bipush C dX12_ahead_85 (v := 7) (by decide) ?_
              refine t_callV C (rest := []) (c2 := 0) (s2 := 0) (kd := 100) (i := 0) [.int (a1), .int (7)] dX12_ahead_87 lk_X12_375 li_X12_keptOf le_X12_keptOf (c_X12_keptOf hfl h) rfl rfl (by decide) rfl ⟨_, rfl⟩ rfl ⟨Nat.le_of_ble_eq_true rfl, Nat.le_of_ble_eq_true rfl⟩ (Nat.le_of_ble_eq_true rfl) ⟨Nat.le_of_ble_eq_true rfl, Nat.le_of_ble_eq_true rfl, Nat.le_of_ble_eq_true rfl, Nat.le_of_ble_eq_true rfl⟩ (k_Ri fun r87 h => ?_)
              refine z_if_ne C dX12_ahead_90 (tgt := 97) (by decide) (fun c90 => ?_) (fun c90 => ?_)
              · have h := h.2 c90
                refine z_iconst C dX12_ahead_97 (v := 4) (by decide) ?_
                exact z_iret C dX12_ahead_98 hr rfl ⟨rfl, _, rfl, h⟩ (Nat.le_of_ble_eq_true rfl) (Nat.le_of_ble_eq_true rfl)
              · have h := h.1 c90
                refine z_iconst C dX12_ahead_93 (v := 3) (by decide) ?_
                refine z_goto C dX12_ahead_94 (tgt := 98) (by decide) ?_
                exact z_iret C dX12_ahead_98 hr rfl ⟨rfl, _, rfl, h⟩ (Nat.le_of_ble_eq_true rfl) (Nat.le_of_ble_eq_true rfl)
            · have h := h.2 c78
              refine z_iconst C dX12_ahead_81 (v := 2) (by decide) ?_
              exact z_iret C dX12_ahead_82 hr rfl ⟨rfl, _, rfl, h⟩ (Nat.le_of_ble_eq_true rfl) (Nat.le_of_ble_eq_true rfl)
          · have h := h.2 c50
            refine z_aload_n C dX12_ahead_53 (i := 0) rfl rfl ?_
            refine t_get C dX12_ahead_54 fl_X12_67 (k := 100) (i := 0) (by decide) rfl (fg_100_30 _ _ _) ?_
            refine z_iload_n C dX12_ahead_57 (i := 1) rfl rfl ?_
            obtain ⟨g58, h⟩ := h
            refine t_iald C dX12_ahead_58 (k := 118) (i := 0) (by decide) rfl (sh_118 _ _ _ _) g58 ?_
            refine z_iconst C dX12_ahead_59 (v := 1) (by decide) ?_
            refine z_icmp_ne C dX12_ahead_60 (tgt := 67) (by decide) (fun c60 => ?_) (fun c60 => ?_)
            · have h := h.2 c60
              refine z_iconst C dX12_ahead_67 (v := 4) (by decide) ?_
              exact z_iret C dX12_ahead_68 hr rfl ⟨rfl, _, rfl, h⟩ (Nat.le_of_ble_eq_true rfl) (Nat.le_of_ble_eq_true rfl)
            · have h := h.1 c60
              refine z_iconst C dX12_ahead_63 (v := 3) (by decide) ?_
              refine z_goto C dX12_ahead_64 (tgt := 68) (by decide) ?_
              exact z_iret C dX12_ahead_68 hr rfl ⟨rfl, _, rfl, h⟩ (Nat.le_of_ble_eq_true rfl) (Nat.le_of_ble_eq_true rfl)
        · have h := h.2 c39
          refine z_iconst C dX12_ahead_42 (v := 4) (by decide) ?_
          exact z_iret C dX12_ahead_43 hr rfl ⟨rfl, _, rfl, h⟩ (Nat.le_of_ble_eq_true rfl) (Nat.le_of_ble_eq_true rfl)
      · have h := h.2 c28
        refine z_iconst C dX12_ahead_31 (v := 3) (by decide) ?_
        exact z_iret C dX12_ahead_32 hr rfl ⟨rfl, _, rfl, h⟩ (Nat.le_of_ble_eq_true rfl) (Nat.le_of_ble_eq_true rfl)
    · have h := h.2 c17
      refine z_iconst C dX12_ahead_20 (v := 0) (by decide) ?_
      exact z_iret C dX12_ahead_21 hr rfl ⟨rfl, _, rfl, h⟩ (Nat.le_of_ble_eq_true rfl) (Nat.le_of_ble_eq_true rfl)
  · have h := h.1 c6
    refine z_iconst C dX12_ahead_9 (v := 1) (by decide) ?_
    exact z_iret C dX12_ahead_10 hr rfl ⟨rfl, _, rfl, h⟩ (Nat.le_of_ble_eq_true rfl) (Nat.le_of_ble_eq_true rfl)
def w_X12_stateOf (st : zTs) (a1 : Int32) (P : Int32 → Prop) : Prop := vp_in a1 30 ∧ (((zgA st 126 0 (a1 : Int32).toNatClampNeg) ≤ 0 → w_X12_ahead st a1 (fun (r20 : Int32) => (P r20))) ∧ (¬ (zgA st 126 0 (a1 : Int32).toNatClampNeg) ≤ 0 → vp_in a1 30 ∧ (P (zgA st 126 0 (a1 : Int32).toNatClampNeg))))
set_option maxHeartbeats 4000000 in
set_option maxRecDepth 100000 in
theorem c_X12_stateOf {Z : zZ} {l : Launch} (hfl : l.stackTraces = false) {st : zTs} {a1 : Int32} {P : Int32 → Prop} (h : w_X12_stateOf st a1 P) : zN Z l yX12_stateOf cX12_stateOf 2 (some .int) ({ frames := 5, cells := 0, slots := 0, locals := 97 } : Room) (zh Z zm1 st) [.ref 100, .int (a1)] (zRi Z st P) := by
  unfold w_X12_stateOf at h
  refine z_enterN (by decide) (Nat.le_of_ble_eq_true rfl) (lc0 := [some (.ref 100), some (.int (a1))]) rfl ?_
  intro p e s m args below meth c ad0 C hr _
  have hn9 : True := trivial
  replace C : zC Z p s m args meth c cX12_stateOf 2 RX12 := C
  refine z_aload_n C dX12_stateOf_0 (i := 0) rfl rfl ?_
  refine t_get C dX12_stateOf_1 fl_X12_91 (k := 100) (i := 0) (by decide) rfl (fg_100_38 _ _ _) ?_
  refine z_iload_n C dX12_stateOf_4 (i := 1) rfl rfl ?_
  obtain ⟨g5, h⟩ := h
  refine t_iald C dX12_stateOf_5 (k := 126) (i := 0) (by decide) rfl (sh_126 _ _ _ _) g5 ?_
  refine z_if_le C dX12_stateOf_6 (tgt := 18) (by decide) (fun c6 => ?_) (fun c6 => ?_)
  · have h := h.1 c6
    refine z_aload_n C dX12_stateOf_18 (i := 0) rfl rfl ?_
    refine z_iload_n C dX12_stateOf_19 (i := 1) rfl rfl ?_
    refine t_callV C (rest := []) (c2 := 0) (s2 := 0) (kd := 100) (i := 0) [.int (a1)] dX12_stateOf_20 lk_X12_384 li_X12_ahead le_X12_ahead (c_X12_ahead hfl h) rfl rfl (by decide) rfl ⟨_, rfl⟩ rfl ⟨Nat.le_of_ble_eq_true rfl, Nat.le_of_ble_eq_true rfl⟩ (Nat.le_of_ble_eq_true rfl) ⟨Nat.le_of_ble_eq_true rfl, Nat.le_of_ble_eq_true rfl, Nat.le_of_ble_eq_true rfl, Nat.le_of_ble_eq_true rfl⟩ (k_Ri fun r20 h => ?_)
    exact z_iret C dX12_stateOf_23 hr rfl ⟨rfl, _, rfl, h⟩ (Nat.le_of_ble_eq_true rfl) (Nat.le_of_ble_eq_true rfl)
  · have h := h.2 c6
    refine z_aload_n C dX12_stateOf_9 (i := 0) rfl rfl ?_
    refine t_get C dX12_stateOf_10 fl_X12_91 (k := 100) (i := 0) (by decide) rfl (fg_100_38 _ _ _) ?_
    refine z_iload_n C dX12_stateOf_13 (i := 1) rfl rfl ?_
    obtain ⟨g14, h⟩ := h
    refine t_iald C dX12_stateOf_14 (k := 126) (i := 0) (by decide) rfl (sh_126 _ _ _ _) g14 ?_
    refine z_goto C dX12_stateOf_15 (tgt := 23) (by decide) ?_
    exact z_iret C dX12_stateOf_23 hr rfl ⟨rfl, _, rfl, h⟩ (Nat.le_of_ble_eq_true rfl) (Nat.le_of_ble_eq_true rfl)
def w_X12_allowedFrom (st : zTs) (a1 : Int32) (P : Int32 → Prop) : Prop := vp_in a1 30 ∧ (((zgA st 120 0 (a1 : Int32).toNatClampNeg) = 0 → w_X12_arrives st a1 (fun (r20 : Int32) => (vp_in a1 30 ∧ (w_X12_keptOf st a1 (zgA st 114 0 (a1 : Int32).toNatClampNeg) (fun (r31 : Int32) => (P (r20 + r31))))))) ∧ (¬ (zgA st 120 0 (a1 : Int32).toNatClampNeg) = 0 → vp_in a1 30 ∧ (P (zgA st 122 0 (a1 : Int32).toNatClampNeg))))
set_option maxHeartbeats 4000000 in
set_option maxRecDepth 100000 in
theorem c_X12_allowedFrom {Z : zZ} {l : Launch} (hfl : l.stackTraces = false) {st : zTs} {a1 : Int32} {P : Int32 → Prop} (h : w_X12_allowedFrom st a1 P) : zN Z l yX12_allowedFrom cX12_allowedFrom 2 (some .int) ({ frames := 3, cells := 0, slots := 0, locals := 55 } : Room) (zh Z zm1 st) [.ref 100, .int (a1)] (zRi Z st P) := by
  unfold w_X12_allowedFrom at h
  refine z_enterN (by decide) (Nat.le_of_ble_eq_true rfl) (lc0 := [some (.ref 100), some (.int (a1))]) rfl ?_
  intro p e s m args below meth c ad0 C hr _
  have hn9 : True := trivial
  replace C : zC Z p s m args meth c cX12_allowedFrom 2 RX12 := C
  refine z_aload_n C dX12_allowedFrom_0 (i := 0) rfl rfl ?_
  refine t_get C dX12_allowedFrom_1 fl_X12_73 (k := 100) (i := 0) (by decide) rfl (fg_100_32 _ _ _) ?_
  refine z_iload_n C dX12_allowedFrom_4 (i := 1) rfl rfl ?_
  obtain ⟨g5, h⟩ := h
  refine t_zald C dX12_allowedFrom_5 (k := 120) (i := 0) (by decide) rfl (sh_120 _ _ _ _) g5 ?_
  refine z_if_eq C dX12_allowedFrom_6 (tgt := 18) (by decide) (fun c6 => ?_) (fun c6 => ?_)
  · have h := h.1 c6
    refine z_aload_n C dX12_allowedFrom_18 (i := 0) rfl rfl ?_
    refine z_iload_n C dX12_allowedFrom_19 (i := 1) rfl rfl ?_
    refine t_callV C (rest := []) (c2 := 0) (s2 := 0) (kd := 100) (i := 0) [.int (a1)] dX12_allowedFrom_20 lk_X12_378 li_X12_arrives le_X12_arrives (c_X12_arrives hfl h) rfl rfl (by decide) rfl ⟨_, rfl⟩ rfl ⟨Nat.le_of_ble_eq_true rfl, Nat.le_of_ble_eq_true rfl⟩ (Nat.le_of_ble_eq_true rfl) ⟨Nat.le_of_ble_eq_true rfl, Nat.le_of_ble_eq_true rfl, Nat.le_of_ble_eq_true rfl, Nat.le_of_ble_eq_true rfl⟩ (k_Ri fun r20 h => ?_)
    refine z_aload_n C dX12_allowedFrom_23 (i := 0) rfl rfl ?_
    refine z_iload_n C dX12_allowedFrom_24 (i := 1) rfl rfl ?_
    refine z_aload_n C dX12_allowedFrom_25 (i := 0) rfl rfl ?_
    refine t_get C dX12_allowedFrom_26 fl_X12_55 (k := 100) (i := 0) (by decide) rfl (fg_100_26 _ _ _) ?_
    refine z_iload_n C dX12_allowedFrom_29 (i := 1) rfl rfl ?_
    obtain ⟨g30, h⟩ := h
    refine t_iald C dX12_allowedFrom_30 (k := 114) (i := 0) (by decide) rfl (sh_114 _ _ _ _) g30 ?_
    refine t_callV C (rest := [.int (r20)]) (c2 := 0) (s2 := 0) (kd := 100) (i := 0) [.int (a1), .int (zgA st 114 0 (a1 : Int32).toNatClampNeg)] dX12_allowedFrom_31 lk_X12_375 li_X12_keptOf le_X12_keptOf (c_X12_keptOf hfl h) rfl rfl (by decide) rfl ⟨_, rfl⟩ rfl ⟨Nat.le_of_ble_eq_true rfl, Nat.le_of_ble_eq_true rfl⟩ (Nat.le_of_ble_eq_true rfl) ⟨Nat.le_of_ble_eq_true rfl, Nat.le_of_ble_eq_true rfl, Nat.le_of_ble_eq_true rfl, Nat.le_of_ble_eq_true rfl⟩ (k_Ri fun r31 h => ?_)
    refine z_iadd C dX12_allowedFrom_34 ?_
    exact z_iret C dX12_allowedFrom_35 hr rfl ⟨rfl, _, rfl, h⟩ (Nat.le_of_ble_eq_true rfl) (Nat.le_of_ble_eq_true rfl)
  · have h := h.2 c6
    refine z_aload_n C dX12_allowedFrom_9 (i := 0) rfl rfl ?_
    refine t_get C dX12_allowedFrom_10 fl_X12_79 (k := 100) (i := 0) (by decide) rfl (fg_100_34 _ _ _) ?_
    refine z_iload_n C dX12_allowedFrom_13 (i := 1) rfl rfl ?_
    obtain ⟨g14, h⟩ := h
    refine t_iald C dX12_allowedFrom_14 (k := 122) (i := 0) (by decide) rfl (sh_122 _ _ _ _) g14 ?_
    refine z_goto C dX12_allowedFrom_15 (tgt := 35) (by decide) ?_
    exact z_iret C dX12_allowedFrom_35 hr rfl ⟨rfl, _, rfl, h⟩ (Nat.le_of_ble_eq_true rfl) (Nat.le_of_ble_eq_true rfl)
def w_X12_disputeFrom (st : zTs) (a1 : Int32) (P : Int32 → Prop) : Prop := vp_in a1 30 ∧ (((zgA st 125 0 (a1 : Int32).toNatClampNeg) < 0 → vp_in a1 30 ∧ (((zgA st 118 0 (a1 : Int32).toNatClampNeg) = 2 → vp_in a1 30 ∧ (P (zgA st 119 0 (a1 : Int32).toNatClampNeg))) ∧ (¬ (zgA st 118 0 (a1 : Int32).toNatClampNeg) = 2 → w_X12_lastAnswer st a1 (fun (r39 : Int32) => (P (r39 + 1)))))) ∧ (¬ (zgA st 125 0 (a1 : Int32).toNatClampNeg) < 0 → vp_in a1 30 ∧ (P (zgA st 125 0 (a1 : Int32).toNatClampNeg))))
set_option maxHeartbeats 4000000 in
set_option maxRecDepth 100000 in
theorem c_X12_disputeFrom {Z : zZ} {l : Launch} (hfl : l.stackTraces = false) {st : zTs} {a1 : Int32} {P : Int32 → Prop} (h : w_X12_disputeFrom st a1 P) : zN Z l yX12_disputeFrom cX12_disputeFrom 2 (some .int) ({ frames := 4, cells := 0, slots := 0, locals := 76 } : Room) (zh Z zm1 st) [.ref 100, .int (a1)] (zRi Z st P) := by
  unfold w_X12_disputeFrom at h
  refine z_enterN (by decide) (Nat.le_of_ble_eq_true rfl) (lc0 := [some (.ref 100), some (.int (a1))]) rfl ?_
  intro p e s m args below meth c ad0 C hr _
  have hn9 : True := trivial
  replace C : zC Z p s m args meth c cX12_disputeFrom 2 RX12 := C
  refine z_aload_n C dX12_disputeFrom_0 (i := 0) rfl rfl ?_
  refine t_get C dX12_disputeFrom_1 fl_X12_88 (k := 100) (i := 0) (by decide) rfl (fg_100_37 _ _ _) ?_
  refine z_iload_n C dX12_disputeFrom_4 (i := 1) rfl rfl ?_
  obtain ⟨g5, h⟩ := h
  refine t_iald C dX12_disputeFrom_5 (k := 125) (i := 0) (by decide) rfl (sh_125 _ _ _ _) g5 ?_
  refine z_if_lt C dX12_disputeFrom_6 (tgt := 18) (by decide) (fun c6 => ?_) (fun c6 => ?_)
  · have h := h.1 c6
    refine z_aload_n C dX12_disputeFrom_18 (i := 0) rfl rfl ?_
    refine t_get C dX12_disputeFrom_19 fl_X12_67 (k := 100) (i := 0) (by decide) rfl (fg_100_30 _ _ _) ?_
    refine z_iload_n C dX12_disputeFrom_22 (i := 1) rfl rfl ?_
    obtain ⟨g23, h⟩ := h
    refine t_iald C dX12_disputeFrom_23 (k := 118) (i := 0) (by decide) rfl (sh_118 _ _ _ _) g23 ?_
    refine z_iconst C dX12_disputeFrom_24 (v := 2) (by decide) ?_
    refine z_icmp_ne C dX12_disputeFrom_25 (tgt := 37) (by decide) (fun c25 => ?_) (fun c25 => ?_)
    · have h := h.2 c25
      refine z_aload_n C dX12_disputeFrom_37 (i := 0) rfl rfl ?_
      refine z_iload_n C dX12_disputeFrom_38 (i := 1) rfl rfl ?_
      refine t_callV C (rest := []) (c2 := 0) (s2 := 0) (kd := 100) (i := 0) [.int (a1)] dX12_disputeFrom_39 lk_X12_381 li_X12_lastAnswer le_X12_lastAnswer (c_X12_lastAnswer hfl h) rfl rfl (by decide) rfl ⟨_, rfl⟩ rfl ⟨Nat.le_of_ble_eq_true rfl, Nat.le_of_ble_eq_true rfl⟩ (Nat.le_of_ble_eq_true rfl) ⟨Nat.le_of_ble_eq_true rfl, Nat.le_of_ble_eq_true rfl, Nat.le_of_ble_eq_true rfl, Nat.le_of_ble_eq_true rfl⟩ (k_Ri fun r39 h => ?_)
      refine z_iconst C dX12_disputeFrom_42 (v := 1) (by decide) ?_
      refine z_iadd C dX12_disputeFrom_43 ?_
      exact z_iret C dX12_disputeFrom_44 hr rfl ⟨rfl, _, rfl, h⟩ (Nat.le_of_ble_eq_true rfl) (Nat.le_of_ble_eq_true rfl)
    · have h := h.1 c25
      refine z_aload_n C dX12_disputeFrom_28 (i := 0) rfl rfl ?_
      refine t_get C dX12_disputeFrom_29 fl_X12_70 (k := 100) (i := 0) (by decide) rfl (fg_100_31 _ _ _) ?_
      refine z_iload_n C dX12_disputeFrom_32 (i := 1) rfl rfl ?_
      obtain ⟨g33, h⟩ := h
      refine t_iald C dX12_disputeFrom_33 (k := 119) (i := 0) (by decide) rfl (sh_119 _ _ _ _) g33 ?_
      refine z_goto C dX12_disputeFrom_34 (tgt := 44) (by decide) ?_
      exact z_iret C dX12_disputeFrom_44 hr rfl ⟨rfl, _, rfl, h⟩ (Nat.le_of_ble_eq_true rfl) (Nat.le_of_ble_eq_true rfl)
  · have h := h.2 c6
    refine z_aload_n C dX12_disputeFrom_9 (i := 0) rfl rfl ?_
    refine t_get C dX12_disputeFrom_10 fl_X12_88 (k := 100) (i := 0) (by decide) rfl (fg_100_37 _ _ _) ?_
    refine z_iload_n C dX12_disputeFrom_13 (i := 1) rfl rfl ?_
    obtain ⟨g14, h⟩ := h
    refine t_iald C dX12_disputeFrom_14 (k := 125) (i := 0) (by decide) rfl (sh_125 _ _ _ _) g14 ?_
    refine z_goto C dX12_disputeFrom_15 (tgt := 44) (by decide) ?_
    exact z_iret C dX12_disputeFrom_44 hr rfl ⟨rfl, _, rfl, h⟩ (Nat.le_of_ble_eq_true rfl) (Nat.le_of_ble_eq_true rfl)
def w_X12_state (st : zTs) (a1 : Int32) (P : Int32 → zTs → Prop) : Prop := w_X12_isWork st a1 (fun (r2 : Int32) (s2 : zTs) => ((r2 = 0 → P 0 s2) ∧ (¬ r2 = 0 → w_X12_stateOf s2 a1 (fun (r10 : Int32) => (P r10 s2)))))
set_option maxHeartbeats 4000000 in
set_option maxRecDepth 100000 in
theorem c_X12_state {Z : zZ} {l : Launch} (hfl : l.stackTraces = false) {st : zTs} {a1 : Int32} {P : Int32 → zTs → Prop} (h : w_X12_state st a1 P) : zN Z l yX12_state cX12_state 2 (some .int) ({ frames := 6, cells := 0, slots := 0, locals := 118 } : Room) (zh Z zm1 st) [.ref 100, .int (a1)] (zWi Z P) := by
  unfold w_X12_state at h
  refine z_enterN (by decide) (Nat.le_of_ble_eq_true rfl) (lc0 := [some (.ref 100), some (.int (a1))]) rfl ?_
  intro p e s m args below meth c ad0 C hr _
  have hn9 : True := trivial
  replace C : zC Z p s m args meth c cX12_state 2 RX12 := C
  refine z_aload_n C dX12_state_0 (i := 0) rfl rfl ?_
  refine z_iload_n C dX12_state_1 (i := 1) rfl rfl ?_
  refine t_callV C (rest := []) (c2 := 0) (s2 := 0) (kd := 100) (i := 0) [.int (a1)] dX12_state_2 lk_X12_387 li_X12_isWork le_X12_isWork (c_X12_isWork hfl h) rfl rfl (by decide) rfl ⟨_, rfl⟩ rfl ⟨Nat.le_of_ble_eq_true rfl, Nat.le_of_ble_eq_true rfl⟩ (Nat.le_of_ble_eq_true rfl) ⟨Nat.le_of_ble_eq_true rfl, Nat.le_of_ble_eq_true rfl, Nat.le_of_ble_eq_true rfl, Nat.le_of_ble_eq_true rfl⟩ (k_Wi fun r2 s2 h => ?_)
  refine z_if_eq C dX12_state_5 (tgt := 16) (by decide) (fun c5 => ?_) (fun c5 => ?_)
  · have h := h.1 c5
    refine z_iconst C dX12_state_16 (v := 0) (by decide) ?_
    exact z_iret C dX12_state_17 hr rfl ⟨_, _, rfl, rfl, h⟩ (Nat.le_of_ble_eq_true rfl) (Nat.le_of_ble_eq_true rfl)
  · have h := h.2 c5
    refine z_aload_n C dX12_state_8 (i := 0) rfl rfl ?_
    refine z_iload_n C dX12_state_9 (i := 1) rfl rfl ?_
    refine t_callV C (rest := []) (c2 := 0) (s2 := 0) (kd := 100) (i := 0) [.int (a1)] dX12_state_10 lk_X12_390 li_X12_stateOf le_X12_stateOf (c_X12_stateOf hfl h) rfl rfl (by decide) rfl ⟨_, rfl⟩ rfl ⟨Nat.le_of_ble_eq_true rfl, Nat.le_of_ble_eq_true rfl⟩ (Nat.le_of_ble_eq_true rfl) ⟨Nat.le_of_ble_eq_true rfl, Nat.le_of_ble_eq_true rfl, Nat.le_of_ble_eq_true rfl, Nat.le_of_ble_eq_true rfl⟩ (k_Ri fun r10 h => ?_)
    refine z_goto C dX12_state_13 (tgt := 17) (by decide) ?_
    exact z_iret C dX12_state_17 hr rfl ⟨_, _, rfl, rfl, h⟩ (Nat.le_of_ble_eq_true rfl) (Nat.le_of_ble_eq_true rfl)
def w_X12_notice (st : zTs) (a1 : Int32) (P : Int32 → zTs → Prop) : Prop := w_X12_isWork st a1 (fun (r2 : Int32) (s2 : zTs) => ((r2 = 0 → P 0 s2) ∧ (¬ r2 = 0 → w_X12_stateOf s2 a1 (fun (r12 : Int32) => ((r12 = 0 → vp_in a1 30 ∧ (∀ s29 : zTs, s29 = zuA s2 117 0 (a1 : Int32).toNatClampNeg (zgF s2 100 0 3) → (w_X12_arrives s29 a1 (fun (r32 : Int32) => (P r32 s29))))) ∧ (¬ r12 = 0 → P (-1) s2))))))
set_option maxHeartbeats 4000000 in
set_option maxRecDepth 100000 in
theorem c_X12_notice {Z : zZ} {l : Launch} (hfl : l.stackTraces = false) {st : zTs} {a1 : Int32} {P : Int32 → zTs → Prop} (h : w_X12_notice st a1 P) : zN Z l yX12_notice cX12_notice 2 (some .int) ({ frames := 6, cells := 0, slots := 0, locals := 118 } : Room) (zh Z zm1 st) [.ref 100, .int (a1)] (zWi Z P) := by
  unfold w_X12_notice at h
  refine z_enterN (by decide) (Nat.le_of_ble_eq_true rfl) (lc0 := [some (.ref 100), some (.int (a1))]) rfl ?_
  intro p e s m args below meth c ad0 C hr _
  have hn9 : True := trivial
  replace C : zC Z p s m args meth c cX12_notice 2 RX12 := C
  refine z_aload_n C dX12_notice_0 (i := 0) rfl rfl ?_
  refine z_iload_n C dX12_notice_1 (i := 1) rfl rfl ?_
  refine t_callV C (rest := []) (c2 := 0) (s2 := 0) (kd := 100) (i := 0) [.int (a1)] dX12_notice_2 lk_X12_387 li_X12_isWork le_X12_isWork (c_X12_isWork hfl h) rfl rfl (by decide) rfl ⟨_, rfl⟩ rfl ⟨Nat.le_of_ble_eq_true rfl, Nat.le_of_ble_eq_true rfl⟩ (Nat.le_of_ble_eq_true rfl) ⟨Nat.le_of_ble_eq_true rfl, Nat.le_of_ble_eq_true rfl, Nat.le_of_ble_eq_true rfl, Nat.le_of_ble_eq_true rfl⟩ (k_Wi fun r2 s2 h => ?_)
  refine z_if_ne C dX12_notice_5 (tgt := 10) (by decide) (fun c5 => ?_) (fun c5 => ?_)
  · have h := h.2 c5
    refine z_aload_n C dX12_notice_10 (i := 0) rfl rfl ?_
    refine z_iload_n C dX12_notice_11 (i := 1) rfl rfl ?_
    refine t_callV C (rest := []) (c2 := 0) (s2 := 0) (kd := 100) (i := 0) [.int (a1)] dX12_notice_12 lk_X12_390 li_X12_stateOf le_X12_stateOf (c_X12_stateOf hfl h) rfl rfl (by decide) rfl ⟨_, rfl⟩ rfl ⟨Nat.le_of_ble_eq_true rfl, Nat.le_of_ble_eq_true rfl⟩ (Nat.le_of_ble_eq_true rfl) ⟨Nat.le_of_ble_eq_true rfl, Nat.le_of_ble_eq_true rfl, Nat.le_of_ble_eq_true rfl, Nat.le_of_ble_eq_true rfl⟩ (k_Ri fun r12 h => ?_)
    refine z_if_eq C dX12_notice_15 (tgt := 20) (by decide) (fun c15 => ?_) (fun c15 => ?_)
    · have h := h.1 c15
      refine z_aload_n C dX12_notice_20 (i := 0) rfl rfl ?_
      refine t_get C dX12_notice_21 fl_X12_64 (k := 100) (i := 0) (by decide) rfl (fg_100_29 _ _ _) ?_
      refine z_iload_n C dX12_notice_24 (i := 1) rfl rfl ?_
      refine z_aload_n C dX12_notice_25 (i := 0) rfl rfl ?_
      refine t_get C dX12_notice_26 fl_X12_222 (k := 100) (i := 0) (by decide) rfl (fg_100_3 _ _ _) ?_
      obtain ⟨g29, h⟩ := h
      refine t_iast C dX12_notice_29 (k := 117) (i := 0) (by decide) rfl (fun s9 => sh_117 _ _ s9 _) g29 ?_
      refine t_tops (fun s29 es29 => ?_)
      have h := h s29 es29
      refine z_aload_n C dX12_notice_30 (i := 0) rfl rfl ?_
      refine z_iload_n C dX12_notice_31 (i := 1) rfl rfl ?_
      refine t_callV C (rest := []) (c2 := 0) (s2 := 0) (kd := 100) (i := 0) [.int (a1)] dX12_notice_32 lk_X12_378 li_X12_arrives le_X12_arrives (c_X12_arrives hfl h) rfl rfl (by decide) rfl ⟨_, rfl⟩ rfl ⟨Nat.le_of_ble_eq_true rfl, Nat.le_of_ble_eq_true rfl⟩ (Nat.le_of_ble_eq_true rfl) ⟨Nat.le_of_ble_eq_true rfl, Nat.le_of_ble_eq_true rfl, Nat.le_of_ble_eq_true rfl, Nat.le_of_ble_eq_true rfl⟩ (k_Ri fun r32 h => ?_)
      exact z_iret C dX12_notice_35 hr rfl ⟨_, _, rfl, rfl, h⟩ (Nat.le_of_ble_eq_true rfl) (Nat.le_of_ble_eq_true rfl)
    · have h := h.2 c15
      refine z_iconst C dX12_notice_18 (v := (-1)) (by decide) ?_
      exact z_iret C dX12_notice_19 hr rfl ⟨_, _, rfl, rfl, h⟩ (Nat.le_of_ble_eq_true rfl) (Nat.le_of_ble_eq_true rfl)
  · have h := h.1 c5
    refine z_iconst C dX12_notice_8 (v := 0) (by decide) ?_
    exact z_iret C dX12_notice_9 hr rfl ⟨_, _, rfl, rfl, h⟩ (Nat.le_of_ble_eq_true rfl) (Nat.le_of_ble_eq_true rfl)
def w_X12_answer_50 (P : Int32 → zTs → Prop)  (st : zTs) (a1 : Int32) (b0 : Int32) (b1 : Int32) : Prop := vp_in b1 30 ∧ (∀ s50 : zTs, s50 = zuA st 118 0 (b1 : Int32).toNatClampNeg b0 → (vp_in a1 30 ∧ (∀ s60 : zTs, s60 = zuA s50 119 0 (a1 : Int32).toNatClampNeg (zgF s50 100 0 3) → (P 1 s60))))
set_option maxHeartbeats 4000000 in
set_option maxRecDepth 100000 in
theorem j_X12_answer_50 {P : Int32 → zTs → Prop}  (hfl : l.stackTraces = false) (C : zC Z p s m args meth c cX12_answer 3 RX12) (hr : meth.sig.returnType = (some .int)) (hn9 : True)  (st : zTs) (a1 : Int32) (b0 : Int32) (b1 : Int32) (h : w_X12_answer_50 P st a1 b0 b1) : zG Z ad0 h0 p l e ({ frames := 6, cells := 0, slots := 0, locals := 118 } : Room) s m args below meth c (MQ below (zQ Z ad0 h0 (zWi Z P)) args s 0 0 (zA Z)) 0 0 (zh Z zm1 st) 3 50 [some (.ref 100), some (.int (a1)), none] [.int (b0), .int (b1), .ref 118] := by
  unfold w_X12_answer_50 at h
  obtain ⟨g50, h⟩ := h
  refine t_iast C dX12_answer_50 (k := 118) (i := 0) (by decide) rfl (fun s9 => sh_118 _ _ s9 _) g50 ?_
  refine t_tops (fun s50 es50 => ?_)
  have h := h s50 es50
  refine z_aload_n C dX12_answer_51 (i := 0) rfl rfl ?_
  refine t_get C dX12_answer_52 fl_X12_70 (k := 100) (i := 0) (by decide) rfl (fg_100_31 _ _ _) ?_
  refine z_iload_n C dX12_answer_55 (i := 1) rfl rfl ?_
  refine z_aload_n C dX12_answer_56 (i := 0) rfl rfl ?_
  refine t_get C dX12_answer_57 fl_X12_222 (k := 100) (i := 0) (by decide) rfl (fg_100_3 _ _ _) ?_
  obtain ⟨g60, h⟩ := h
  refine t_iast C dX12_answer_60 (k := 119) (i := 0) (by decide) rfl (fun s9 => sh_119 _ _ s9 _) g60 ?_
  refine t_tops (fun s60 es60 => ?_)
  have h := h s60 es60
  refine z_iconst C dX12_answer_61 (v := 1) (by decide) ?_
  exact z_iret C dX12_answer_62 hr rfl ⟨_, _, rfl, rfl, h⟩ (Nat.le_of_ble_eq_true rfl) (Nat.le_of_ble_eq_true rfl)
def w_X12_answer (st : zTs) (a1 : Int32) (a2 : Int32) (P : Int32 → zTs → Prop) : Prop := w_X12_isWork st a1 (fun (r2 : Int32) (s2 : zTs) => ((r2 = 0 → P 0 s2) ∧ (¬ r2 = 0 → w_X12_stateOf s2 a1 (fun (r12 : Int32) => ((r12 = 2 → w_X12_arrives s2 a1 (fun (r27 : Int32) => ((r27 ≤ (zgF s2 100 0 3) → (a2 = 0 → w_X12_answer_50 P s2 a1 (2) a1) ∧ (¬ a2 = 0 → w_X12_answer_50 P s2 a1 (1) a1)) ∧ (¬ r27 ≤ (zgF s2 100 0 3) → P (-2) s2)))) ∧ (¬ r12 = 2 → P (-1) s2))))))
set_option maxHeartbeats 4000000 in
set_option maxRecDepth 100000 in
theorem c_X12_answer {Z : zZ} {l : Launch} (hfl : l.stackTraces = false) {st : zTs} {a1 : Int32} {a2 : Int32} {P : Int32 → zTs → Prop} (h : w_X12_answer st a1 a2 P) : zN Z l yX12_answer cX12_answer 3 (some .int) ({ frames := 6, cells := 0, slots := 0, locals := 118 } : Room) (zh Z zm1 st) [.ref 100, .int (a1), .int (a2)] (zWi Z P) := by
  unfold w_X12_answer at h
  refine z_enterN (by decide) (Nat.le_of_ble_eq_true rfl) (lc0 := [some (.ref 100), some (.int (a1)), some (.int (a2))]) rfl ?_
  intro p e s m args below meth c ad0 C hr _
  have hn9 : True := trivial
  replace C : zC Z p s m args meth c cX12_answer 3 RX12 := C
  refine z_aload_n C dX12_answer_0 (i := 0) rfl rfl ?_
  refine z_iload_n C dX12_answer_1 (i := 1) rfl rfl ?_
  refine t_callV C (rest := []) (c2 := 0) (s2 := 0) (kd := 100) (i := 0) [.int (a1)] dX12_answer_2 lk_X12_387 li_X12_isWork le_X12_isWork (c_X12_isWork hfl h) rfl rfl (by decide) rfl ⟨_, rfl⟩ rfl ⟨Nat.le_of_ble_eq_true rfl, Nat.le_of_ble_eq_true rfl⟩ (Nat.le_of_ble_eq_true rfl) ⟨Nat.le_of_ble_eq_true rfl, Nat.le_of_ble_eq_true rfl, Nat.le_of_ble_eq_true rfl, Nat.le_of_ble_eq_true rfl⟩ (k_Wi fun r2 s2 h => ?_)
  refine z_if_ne C dX12_answer_5 (tgt := 10) (by decide) (fun c5 => ?_) (fun c5 => ?_)
  · have h := h.2 c5
    refine z_aload_n C dX12_answer_10 (i := 0) rfl rfl ?_
    refine z_iload_n C dX12_answer_11 (i := 1) rfl rfl ?_
    refine t_callV C (rest := []) (c2 := 0) (s2 := 0) (kd := 100) (i := 0) [.int (a1)] dX12_answer_12 lk_X12_390 li_X12_stateOf le_X12_stateOf (c_X12_stateOf hfl h) rfl rfl (by decide) rfl ⟨_, rfl⟩ rfl ⟨Nat.le_of_ble_eq_true rfl, Nat.le_of_ble_eq_true rfl⟩ (Nat.le_of_ble_eq_true rfl) ⟨Nat.le_of_ble_eq_true rfl, Nat.le_of_ble_eq_true rfl, Nat.le_of_ble_eq_true rfl, Nat.le_of_ble_eq_true rfl⟩ (k_Ri fun r12 h => ?_)
    refine z_iconst C dX12_answer_15 (v := 2) (by decide) ?_
    refine z_icmp_eq C dX12_answer_16 (tgt := 21) (by decide) (fun c16 => ?_) (fun c16 => ?_)
    · have h := h.1 c16
      refine z_aload_n C dX12_answer_21 (i := 0) rfl rfl ?_
      refine t_get C dX12_answer_22 fl_X12_222 (k := 100) (i := 0) (by decide) rfl (fg_100_3 _ _ _) ?_
      refine z_aload_n C dX12_answer_25 (i := 0) rfl rfl ?_
      refine z_iload_n C dX12_answer_26 (i := 1) rfl rfl ?_
      refine t_callV C (rest := [.int (zgF s2 100 0 3)]) (c2 := 0) (s2 := 0) (kd := 100) (i := 0) [.int (a1)] dX12_answer_27 lk_X12_378 li_X12_arrives le_X12_arrives (c_X12_arrives hfl h) rfl rfl (by decide) rfl ⟨_, rfl⟩ rfl ⟨Nat.le_of_ble_eq_true rfl, Nat.le_of_ble_eq_true rfl⟩ (Nat.le_of_ble_eq_true rfl) ⟨Nat.le_of_ble_eq_true rfl, Nat.le_of_ble_eq_true rfl, Nat.le_of_ble_eq_true rfl, Nat.le_of_ble_eq_true rfl⟩ (k_Ri fun r27 h => ?_)
      refine z_icmp_ge C dX12_answer_30 (tgt := 36) (by decide) (fun c30 => ?_) (fun c30 => ?_)
      · have h := h.1 c30
        refine z_aload_n C dX12_answer_36 (i := 0) rfl rfl ?_
        refine t_get C dX12_answer_37 fl_X12_67 (k := 100) (i := 0) (by decide) rfl (fg_100_30 _ _ _) ?_
        refine z_iload_n C dX12_answer_40 (i := 1) rfl rfl ?_
        refine z_iload_n C dX12_answer_41 (i := 2) rfl rfl ?_
        refine z_if_eq C dX12_answer_42 (tgt := 49) (by decide) (fun c42 => ?_) (fun c42 => ?_)
        · have h := h.1 c42
          refine z_iconst C dX12_answer_49 (v := 2) (by decide) ?_
          exact t_drop [true, true, false] rfl (j_X12_answer_50 hfl C hr hn9  s2 a1 (2) a1 h)
        · have h := h.2 c42
          refine z_iconst C dX12_answer_45 (v := 1) (by decide) ?_
          refine z_goto C dX12_answer_46 (tgt := 50) (by decide) ?_
          exact t_drop [true, true, false] rfl (j_X12_answer_50 hfl C hr hn9  s2 a1 (1) a1 h)
      · have h := h.2 c30
        refine z_bipush C dX12_answer_33 (v := (-2)) (by decide) ?_
        exact z_iret C dX12_answer_35 hr rfl ⟨_, _, rfl, rfl, h⟩ (Nat.le_of_ble_eq_true rfl) (Nat.le_of_ble_eq_true rfl)
    · have h := h.2 c16
      refine z_iconst C dX12_answer_19 (v := (-1)) (by decide) ?_
      exact z_iret C dX12_answer_20 hr rfl ⟨_, _, rfl, rfl, h⟩ (Nat.le_of_ble_eq_true rfl) (Nat.le_of_ble_eq_true rfl)
  · have h := h.1 c5
    refine z_iconst C dX12_answer_8 (v := 0) (by decide) ?_
    exact z_iret C dX12_answer_9 hr rfl ⟨_, _, rfl, rfl, h⟩ (Nat.le_of_ble_eq_true rfl) (Nat.le_of_ble_eq_true rfl)
def w_X12_lastAppeal (st : zTs) (a1 : Int32) (P : Int32 → Prop) : Prop := vp_in a1 30 ∧ (w_X12_keptOf st a1 9 (fun (r10 : Int32) => (w_X12_keptOf st a1 5 (fun (r16 : Int32) => (w_X12_countedFrom st (zgA st 121 0 (a1 : Int32).toNatClampNeg) r10 r16 (fun (r19 : Int32) => (P r19)))))))
set_option maxHeartbeats 4000000 in
set_option maxRecDepth 100000 in
theorem c_X12_lastAppeal {Z : zZ} {l : Launch} (hfl : l.stackTraces = false) {st : zTs} {a1 : Int32} {P : Int32 → Prop} (h : w_X12_lastAppeal st a1 P) : zN Z l yX12_lastAppeal cX12_lastAppeal 2 (some .int) ({ frames := 2, cells := 0, slots := 0, locals := 36 } : Room) (zh Z zm1 st) [.ref 100, .int (a1)] (zRi Z st P) := by
  unfold w_X12_lastAppeal at h
  refine z_enterN (by decide) (Nat.le_of_ble_eq_true rfl) (lc0 := [some (.ref 100), some (.int (a1))]) rfl ?_
  intro p e s m args below meth c ad0 C hr _
  have hn9 : True := trivial
  replace C : zC Z p s m args meth c cX12_lastAppeal 2 RX12 := C
  refine z_aload_n C dX12_lastAppeal_0 (i := 0) rfl rfl ?_
  refine t_get C dX12_lastAppeal_1 fl_X12_76 (k := 100) (i := 0) (by decide) rfl (fg_100_33 _ _ _) ?_
  refine z_iload_n C dX12_lastAppeal_4 (i := 1) rfl rfl ?_
  obtain ⟨g5, h⟩ := h
  refine t_iald C dX12_lastAppeal_5 (k := 121) (i := 0) (by decide) rfl (sh_121 _ _ _ _) g5 ?_
  refine z_aload_n C dX12_lastAppeal_6 (i := 0) rfl rfl ?_
  refine z_iload_n C dX12_lastAppeal_7 (i := 1) rfl rfl ?_
  refine z_bipush C dX12_lastAppeal_8 (v := 9) (by decide) ?_
  refine t_callV C (rest := [.int (zgA st 121 0 (a1 : Int32).toNatClampNeg)]) (c2 := 0) (s2 := 0) (kd := 100) (i := 0) [.int (a1), .int (9)] dX12_lastAppeal_10 lk_X12_375 li_X12_keptOf le_X12_keptOf (c_X12_keptOf hfl h) rfl rfl (by decide) rfl ⟨_, rfl⟩ rfl ⟨Nat.le_of_ble_eq_true rfl, Nat.le_of_ble_eq_true rfl⟩ (Nat.le_of_ble_eq_true rfl) ⟨Nat.le_of_ble_eq_true rfl, Nat.le_of_ble_eq_true rfl, Nat.le_of_ble_eq_true rfl, Nat.le_of_ble_eq_true rfl⟩ (k_Ri fun r10 h => ?_)
  refine z_aload_n C dX12_lastAppeal_13 (i := 0) rfl rfl ?_
  refine z_iload_n C dX12_lastAppeal_14 (i := 1) rfl rfl ?_
  refine z_iconst C dX12_lastAppeal_15 (v := 5) (by decide) ?_
  refine t_callV C (rest := [.int (r10), .int (zgA st 121 0 (a1 : Int32).toNatClampNeg)]) (c2 := 0) (s2 := 0) (kd := 100) (i := 0) [.int (a1), .int (5)] dX12_lastAppeal_16 lk_X12_375 li_X12_keptOf le_X12_keptOf (c_X12_keptOf hfl h) rfl rfl (by decide) rfl ⟨_, rfl⟩ rfl ⟨Nat.le_of_ble_eq_true rfl, Nat.le_of_ble_eq_true rfl⟩ (Nat.le_of_ble_eq_true rfl) ⟨Nat.le_of_ble_eq_true rfl, Nat.le_of_ble_eq_true rfl, Nat.le_of_ble_eq_true rfl, Nat.le_of_ble_eq_true rfl⟩ (k_Ri fun r16 h => ?_)
  refine t_callS C (rest := []) (c2 := 0) (s2 := 0) [.int (zgA st 121 0 (a1 : Int32).toNatClampNeg), .int (r10), .int (r16)] dX12_lastAppeal_19 lk_X12_364 ls_X12_countedFrom (c_X12_countedFrom hfl h) rfl rfl ⟨Nat.le_of_ble_eq_true rfl, Nat.le_of_ble_eq_true rfl⟩ (Nat.le_of_ble_eq_true rfl) ⟨Nat.le_of_ble_eq_true rfl, Nat.le_of_ble_eq_true rfl, Nat.le_of_ble_eq_true rfl, Nat.le_of_ble_eq_true rfl⟩ (k_Ri fun r19 h => ?_)
  exact z_iret C dX12_lastAppeal_22 hr rfl ⟨rfl, _, rfl, h⟩ (Nat.le_of_ble_eq_true rfl) (Nat.le_of_ble_eq_true rfl)
def w_X12_mayAppeal (st : zTs) (a1 : Int32) (P : Int32 → Prop) : Prop := vp_in a1 30 ∧ (((zgA st 120 0 (a1 : Int32).toNatClampNeg) = 0 → P 0) ∧ (¬ (zgA st 120 0 (a1 : Int32).toNatClampNeg) = 0 → w_X12_stateOf st a1 (fun (r11 : Int32) => ((r11 = 3 → P 1) ∧ (¬ r11 = 3 → w_X12_stateOf st a1 (fun (r20 : Int32) => ((r20 = 5 → P 1) ∧ (¬ r20 = 5 → P 0))))))))
set_option maxHeartbeats 4000000 in
set_option maxRecDepth 100000 in
theorem c_X12_mayAppeal {Z : zZ} {l : Launch} (hfl : l.stackTraces = false) {st : zTs} {a1 : Int32} {P : Int32 → Prop} (h : w_X12_mayAppeal st a1 P) : zN Z l yX12_mayAppeal cX12_mayAppeal 2 (some .boolean) ({ frames := 6, cells := 0, slots := 0, locals := 118 } : Room) (zh Z zm1 st) [.ref 100, .int (a1)] (zRi Z st P) := by
  unfold w_X12_mayAppeal at h
  refine z_enterN (by decide) (Nat.le_of_ble_eq_true rfl) (lc0 := [some (.ref 100), some (.int (a1))]) rfl ?_
  intro p e s m args below meth c ad0 C hr _
  have hn9 : True := trivial
  replace C : zC Z p s m args meth c cX12_mayAppeal 2 RX12 := C
  refine z_aload_n C dX12_mayAppeal_0 (i := 0) rfl rfl ?_
  refine t_get C dX12_mayAppeal_1 fl_X12_73 (k := 100) (i := 0) (by decide) rfl (fg_100_32 _ _ _) ?_
  refine z_iload_n C dX12_mayAppeal_4 (i := 1) rfl rfl ?_
  obtain ⟨g5, h⟩ := h
  refine t_zald C dX12_mayAppeal_5 (k := 120) (i := 0) (by decide) rfl (sh_120 _ _ _ _) g5 ?_
  refine z_if_eq C dX12_mayAppeal_6 (tgt := 31) (by decide) (fun c6 => ?_) (fun c6 => ?_)
  · have h := h.1 c6
    refine z_iconst C dX12_mayAppeal_31 (v := 0) (by decide) ?_
    exact z_iret C dX12_mayAppeal_32 hr rfl ⟨rfl, _, rfl, h⟩ (Nat.le_of_ble_eq_true rfl) (Nat.le_of_ble_eq_true rfl)
  · have h := h.2 c6
    refine z_aload_n C dX12_mayAppeal_9 (i := 0) rfl rfl ?_
    refine z_iload_n C dX12_mayAppeal_10 (i := 1) rfl rfl ?_
    refine t_callV C (rest := []) (c2 := 0) (s2 := 0) (kd := 100) (i := 0) [.int (a1)] dX12_mayAppeal_11 lk_X12_390 li_X12_stateOf le_X12_stateOf (c_X12_stateOf hfl h) rfl rfl (by decide) rfl ⟨_, rfl⟩ rfl ⟨Nat.le_of_ble_eq_true rfl, Nat.le_of_ble_eq_true rfl⟩ (Nat.le_of_ble_eq_true rfl) ⟨Nat.le_of_ble_eq_true rfl, Nat.le_of_ble_eq_true rfl, Nat.le_of_ble_eq_true rfl, Nat.le_of_ble_eq_true rfl⟩ (k_Ri fun r11 h => ?_)
    refine z_iconst C dX12_mayAppeal_14 (v := 3) (by decide) ?_
    refine z_icmp_eq C dX12_mayAppeal_15 (tgt := 27) (by decide) (fun c15 => ?_) (fun c15 => ?_)
    · have h := h.1 c15
      refine z_iconst C dX12_mayAppeal_27 (v := 1) (by decide) ?_
      refine z_goto C dX12_mayAppeal_28 (tgt := 32) (by decide) ?_
      exact z_iret C dX12_mayAppeal_32 hr rfl ⟨rfl, _, rfl, h⟩ (Nat.le_of_ble_eq_true rfl) (Nat.le_of_ble_eq_true rfl)
    · have h := h.2 c15
      refine z_aload_n C dX12_mayAppeal_18 (i := 0) rfl rfl ?_
      refine z_iload_n C dX12_mayAppeal_19 (i := 1) rfl rfl ?_
      refine t_callV C (rest := []) (c2 := 0) (s2 := 0) (kd := 100) (i := 0) [.int (a1)] dX12_mayAppeal_20 lk_X12_390 li_X12_stateOf le_X12_stateOf (c_X12_stateOf hfl h) rfl rfl (by decide) rfl ⟨_, rfl⟩ rfl ⟨Nat.le_of_ble_eq_true rfl, Nat.le_of_ble_eq_true rfl⟩ (Nat.le_of_ble_eq_true rfl) ⟨Nat.le_of_ble_eq_true rfl, Nat.le_of_ble_eq_true rfl, Nat.le_of_ble_eq_true rfl, Nat.le_of_ble_eq_true rfl⟩ (k_Ri fun r20 h => ?_)
      refine z_iconst C dX12_mayAppeal_23 (v := 5) (by decide) ?_
      refine z_icmp_ne C dX12_mayAppeal_24 (tgt := 31) (by decide) (fun c24 => ?_) (fun c24 => ?_)
      · have h := h.2 c24
        refine z_iconst C dX12_mayAppeal_31 (v := 0) (by decide) ?_
        exact z_iret C dX12_mayAppeal_32 hr rfl ⟨rfl, _, rfl, h⟩ (Nat.le_of_ble_eq_true rfl) (Nat.le_of_ble_eq_true rfl)
      · have h := h.1 c24
        refine z_iconst C dX12_mayAppeal_27 (v := 1) (by decide) ?_
        refine z_goto C dX12_mayAppeal_28 (tgt := 32) (by decide) ?_
        exact z_iret C dX12_mayAppeal_32 hr rfl ⟨rfl, _, rfl, h⟩ (Nat.le_of_ble_eq_true rfl) (Nat.le_of_ble_eq_true rfl)
def w_X12_hoursFrom (st : zTs) (a1 : Int32) (P : Int32 → Prop) : Prop := vp_in a1 30 ∧ (((zgA st 120 0 (a1 : Int32).toNatClampNeg) = 0 → w_X12_keptOf st a1 13 (fun (r25 : Int32) => (P r25))) ∧ (¬ (zgA st 120 0 (a1 : Int32).toNatClampNeg) = 0 → vp_in a1 30 ∧ (P ((zgA st 123 0 (a1 : Int32).toNatClampNeg) / 100))))
set_option maxHeartbeats 4000000 in
set_option maxRecDepth 100000 in
theorem c_X12_hoursFrom {Z : zZ} {l : Launch} (hfl : l.stackTraces = false) {st : zTs} {a1 : Int32} {P : Int32 → Prop} (h : w_X12_hoursFrom st a1 P) : zN Z l yX12_hoursFrom cX12_hoursFrom 2 (some .int) ({ frames := 2, cells := 0, slots := 0, locals := 34 } : Room) (zh Z zm1 st) [.ref 100, .int (a1)] (zRi Z st P) := by
  unfold w_X12_hoursFrom at h
  refine z_enterN (by decide) (Nat.le_of_ble_eq_true rfl) (lc0 := [some (.ref 100), some (.int (a1))]) rfl ?_
  intro p e s m args below meth c ad0 C hr _
  have hn9 : True := trivial
  replace C : zC Z p s m args meth c cX12_hoursFrom 2 RX12 := C
  refine z_aload_n C dX12_hoursFrom_0 (i := 0) rfl rfl ?_
  refine t_get C dX12_hoursFrom_1 fl_X12_73 (k := 100) (i := 0) (by decide) rfl (fg_100_32 _ _ _) ?_
  refine z_iload_n C dX12_hoursFrom_4 (i := 1) rfl rfl ?_
  obtain ⟨g5, h⟩ := h
  refine t_zald C dX12_hoursFrom_5 (k := 120) (i := 0) (by decide) rfl (sh_120 _ _ _ _) g5 ?_
  refine z_if_eq C dX12_hoursFrom_6 (tgt := 21) (by decide) (fun c6 => ?_) (fun c6 => ?_)
  · have h := h.1 c6
    refine z_aload_n C dX12_hoursFrom_21 (i := 0) rfl rfl ?_
    refine z_iload_n C dX12_hoursFrom_22 (i := 1) rfl rfl ?_
    refine z_bipush C dX12_hoursFrom_23 (v := 13) (by decide) ?_
    refine t_callV C (rest := []) (c2 := 0) (s2 := 0) (kd := 100) (i := 0) [.int (a1), .int (13)] dX12_hoursFrom_25 lk_X12_375 li_X12_keptOf le_X12_keptOf (c_X12_keptOf hfl h) rfl rfl (by decide) rfl ⟨_, rfl⟩ rfl ⟨Nat.le_of_ble_eq_true rfl, Nat.le_of_ble_eq_true rfl⟩ (Nat.le_of_ble_eq_true rfl) ⟨Nat.le_of_ble_eq_true rfl, Nat.le_of_ble_eq_true rfl, Nat.le_of_ble_eq_true rfl, Nat.le_of_ble_eq_true rfl⟩ (k_Ri fun r25 h => ?_)
    exact z_iret C dX12_hoursFrom_28 hr rfl ⟨rfl, _, rfl, h⟩ (Nat.le_of_ble_eq_true rfl) (Nat.le_of_ble_eq_true rfl)
  · have h := h.2 c6
    refine z_aload_n C dX12_hoursFrom_9 (i := 0) rfl rfl ?_
    refine t_get C dX12_hoursFrom_10 fl_X12_82 (k := 100) (i := 0) (by decide) rfl (fg_100_35 _ _ _) ?_
    refine z_iload_n C dX12_hoursFrom_13 (i := 1) rfl rfl ?_
    obtain ⟨g14, h⟩ := h
    refine t_iald C dX12_hoursFrom_14 (k := 123) (i := 0) (by decide) rfl (sh_123 _ _ _ _) g14 ?_
    refine z_bipush C dX12_hoursFrom_15 (v := 100) (by decide) ?_
    refine z_idiv C dX12_hoursFrom_17 (by decide) ?_
    refine z_goto C dX12_hoursFrom_18 (tgt := 28) (by decide) ?_
    exact z_iret C dX12_hoursFrom_28 hr rfl ⟨rfl, _, rfl, h⟩ (Nat.le_of_ble_eq_true rfl) (Nat.le_of_ble_eq_true rfl)
def w_X12_hoursTo (st : zTs) (a1 : Int32) (P : Int32 → Prop) : Prop := vp_in a1 30 ∧ (((zgA st 120 0 (a1 : Int32).toNatClampNeg) = 0 → w_X12_keptOf st a1 14 (fun (r25 : Int32) => (P r25))) ∧ (¬ (zgA st 120 0 (a1 : Int32).toNatClampNeg) = 0 → vp_in a1 30 ∧ (P ((zgA st 123 0 (a1 : Int32).toNatClampNeg) - (zgA st 123 0 (a1 : Int32).toNatClampNeg) / 100 * 100))))
set_option maxHeartbeats 4000000 in
set_option maxRecDepth 100000 in
theorem c_X12_hoursTo {Z : zZ} {l : Launch} (hfl : l.stackTraces = false) {st : zTs} {a1 : Int32} {P : Int32 → Prop} (h : w_X12_hoursTo st a1 P) : zN Z l yX12_hoursTo cX12_hoursTo 2 (some .int) ({ frames := 2, cells := 0, slots := 0, locals := 34 } : Room) (zh Z zm1 st) [.ref 100, .int (a1)] (zRi Z st P) := by
  unfold w_X12_hoursTo at h
  refine z_enterN (by decide) (Nat.le_of_ble_eq_true rfl) (lc0 := [some (.ref 100), some (.int (a1))]) rfl ?_
  intro p e s m args below meth c ad0 C hr _
  have hn9 : True := trivial
  replace C : zC Z p s m args meth c cX12_hoursTo 2 RX12 := C
  refine z_aload_n C dX12_hoursTo_0 (i := 0) rfl rfl ?_
  refine t_get C dX12_hoursTo_1 fl_X12_73 (k := 100) (i := 0) (by decide) rfl (fg_100_32 _ _ _) ?_
  refine z_iload_n C dX12_hoursTo_4 (i := 1) rfl rfl ?_
  obtain ⟨g5, h⟩ := h
  refine t_zald C dX12_hoursTo_5 (k := 120) (i := 0) (by decide) rfl (sh_120 _ _ _ _) g5 ?_
  refine z_if_eq C dX12_hoursTo_6 (tgt := 21) (by decide) (fun c6 => ?_) (fun c6 => ?_)
  · have h := h.1 c6
    refine z_aload_n C dX12_hoursTo_21 (i := 0) rfl rfl ?_
    refine z_iload_n C dX12_hoursTo_22 (i := 1) rfl rfl ?_
    refine z_bipush C dX12_hoursTo_23 (v := 14) (by decide) ?_
    refine t_callV C (rest := []) (c2 := 0) (s2 := 0) (kd := 100) (i := 0) [.int (a1), .int (14)] dX12_hoursTo_25 lk_X12_375 li_X12_keptOf le_X12_keptOf (c_X12_keptOf hfl h) rfl rfl (by decide) rfl ⟨_, rfl⟩ rfl ⟨Nat.le_of_ble_eq_true rfl, Nat.le_of_ble_eq_true rfl⟩ (Nat.le_of_ble_eq_true rfl) ⟨Nat.le_of_ble_eq_true rfl, Nat.le_of_ble_eq_true rfl, Nat.le_of_ble_eq_true rfl, Nat.le_of_ble_eq_true rfl⟩ (k_Ri fun r25 h => ?_)
    exact z_iret C dX12_hoursTo_28 hr rfl ⟨rfl, _, rfl, h⟩ (Nat.le_of_ble_eq_true rfl) (Nat.le_of_ble_eq_true rfl)
  · have h := h.2 c6
    refine z_aload_n C dX12_hoursTo_9 (i := 0) rfl rfl ?_
    refine t_get C dX12_hoursTo_10 fl_X12_82 (k := 100) (i := 0) (by decide) rfl (fg_100_35 _ _ _) ?_
    refine z_iload_n C dX12_hoursTo_13 (i := 1) rfl rfl ?_
    obtain ⟨g14, h⟩ := h
    refine t_iald C dX12_hoursTo_14 (k := 123) (i := 0) (by decide) rfl (sh_123 _ _ _ _) g14 ?_
    refine z_bipush C dX12_hoursTo_15 (v := 100) (by decide) ?_
    refine z_irem C dX12_hoursTo_17 (by decide) ?_
    refine z_goto C dX12_hoursTo_18 (tgt := 28) (by decide) ?_
    exact z_iret C dX12_hoursTo_28 hr rfl ⟨rfl, _, rfl, h⟩ (Nat.le_of_ble_eq_true rfl) (Nat.le_of_ble_eq_true rfl)
def w_X12_shareOf (st : zTs) (a1 : Int32) (P : Int32 → Prop) : Prop := vp_in a1 30 ∧ (((zgA st 120 0 (a1 : Int32).toNatClampNeg) = 0 → P 100) ∧ (¬ (zgA st 120 0 (a1 : Int32).toNatClampNeg) = 0 → vp_in a1 30 ∧ (P (zgA st 124 0 (a1 : Int32).toNatClampNeg))))
set_option maxHeartbeats 4000000 in
set_option maxRecDepth 100000 in
theorem c_X12_shareOf {Z : zZ} {l : Launch} (hfl : l.stackTraces = false) {st : zTs} {a1 : Int32} {P : Int32 → Prop} (h : w_X12_shareOf st a1 P) : zN Z l yX12_shareOf cX12_shareOf 2 (some .int) ({ frames := 1, cells := 0, slots := 0, locals := 12 } : Room) (zh Z zm1 st) [.ref 100, .int (a1)] (zRi Z st P) := by
  unfold w_X12_shareOf at h
  refine z_enterN (by decide) (Nat.le_of_ble_eq_true rfl) (lc0 := [some (.ref 100), some (.int (a1))]) rfl ?_
  intro p e s m args below meth c ad0 C hr _
  have hn9 : True := trivial
  replace C : zC Z p s m args meth c cX12_shareOf 2 RX12 := C
  refine z_aload_n C dX12_shareOf_0 (i := 0) rfl rfl ?_
  refine t_get C dX12_shareOf_1 fl_X12_73 (k := 100) (i := 0) (by decide) rfl (fg_100_32 _ _ _) ?_
  refine z_iload_n C dX12_shareOf_4 (i := 1) rfl rfl ?_
  obtain ⟨g5, h⟩ := h
  refine t_zald C dX12_shareOf_5 (k := 120) (i := 0) (by decide) rfl (sh_120 _ _ _ _) g5 ?_
  refine z_if_eq C dX12_shareOf_6 (tgt := 18) (by decide) (fun c6 => ?_) (fun c6 => ?_)
  · have h := h.1 c6
    refine z_bipush C dX12_shareOf_18 (v := 100) (by decide) ?_
    exact z_iret C dX12_shareOf_20 hr rfl ⟨rfl, _, rfl, h⟩ (Nat.le_of_ble_eq_true rfl) (Nat.le_of_ble_eq_true rfl)
  · have h := h.2 c6
    refine z_aload_n C dX12_shareOf_9 (i := 0) rfl rfl ?_
    refine t_get C dX12_shareOf_10 fl_X12_85 (k := 100) (i := 0) (by decide) rfl (fg_100_36 _ _ _) ?_
    refine z_iload_n C dX12_shareOf_13 (i := 1) rfl rfl ?_
    obtain ⟨g14, h⟩ := h
    refine t_iald C dX12_shareOf_14 (k := 124) (i := 0) (by decide) rfl (sh_124 _ _ _ _) g14 ?_
    refine z_goto C dX12_shareOf_15 (tgt := 20) (by decide) ?_
    exact z_iret C dX12_shareOf_20 hr rfl ⟨rfl, _, rfl, h⟩ (Nat.le_of_ble_eq_true rfl) (Nat.le_of_ble_eq_true rfl)
def w_X12_told_24 (P : Int32 → zTs → Prop)  (st : zTs) (a1 : Int32) (a2 : Int32) (b0 : Int32) : Prop := w_X12_bad st b0 2 (fun (r25 : Int32) (s25 : zTs) => ((r25 = 0 → (a2 = 0 → vp_in a1 30 ∧ (((zgA s25 126 0 (a1 : Int32).toNatClampNeg) ≤ 0 → w_X12_ahead s25 a1 (fun (r96 : Int32) => ((r96 = 3 → w_X12_allowedFrom s25 a1 (fun (r105 : Int32) => (P r105 s25))) ∧ (¬ r96 = 3 → P (-1) s25)))) ∧ (¬ (zgA s25 126 0 (a1 : Int32).toNatClampNeg) ≤ 0 → vp_in a1 30 ∧ (P (zgA s25 128 0 (a1 : Int32).toNatClampNeg) s25)))) ∧ (a2 = 1 → w_X12_stateOf s25 a1 (fun (r115 : Int32) => ((r115 = 4 → w_X12_disputeFrom s25 a1 (fun (r124 : Int32) => (P r124 s25))) ∧ (¬ r115 = 4 → P (-1) s25)))) ∧ (a2 = 2 → w_X12_hoursFrom s25 a1 (fun (r134 : Int32) => (P r134 s25))) ∧ (a2 = 3 → w_X12_hoursTo s25 a1 (fun (r140 : Int32) => (P r140 s25))) ∧ (a2 = 4 → w_X12_shareOf s25 a1 (fun (r146 : Int32) => (P r146 s25))) ∧ (a2 = 5 → w_X12_stateOf s25 a1 (fun (r152 : Int32) => ((r152 = 2 → w_X12_lastAnswer s25 a1 (fun (r161 : Int32) => (P r161 s25))) ∧ (¬ r152 = 2 → P (-1) s25)))) ∧ (a2 = 6 → w_X12_mayAppeal s25 a1 (fun (r171 : Int32) => ((r171 = 0 → P (-1) s25) ∧ (¬ r171 = 0 → w_X12_lastAppeal s25 a1 (fun (r179 : Int32) => (P r179 s25)))))) ∧ (¬ a2 = 0 ∧ ¬ a2 = 1 ∧ ¬ a2 = 2 ∧ ¬ a2 = 3 ∧ ¬ a2 = 4 ∧ ¬ a2 = 5 ∧ ¬ a2 = 6 → vp_in a1 30 ∧ (P (zgA s25 127 0 (a1 : Int32).toNatClampNeg) s25))) ∧ (¬ r25 = 0 → P 0 s25)))
set_option maxHeartbeats 4000000 in
set_option maxRecDepth 100000 in
theorem j_X12_told_24 {P : Int32 → zTs → Prop}  (hfl : l.stackTraces = false) (C : zC Z p s m args meth c cX12_told 3 RX12) (hr : meth.sig.returnType = (some .int)) (hn9 : True)  (st : zTs) (a1 : Int32) (a2 : Int32) (b0 : Int32) (h : w_X12_told_24 P st a1 a2 b0) : zG Z ad0 h0 p l e ({ frames := 7, cells := 0, slots := 0, locals := 139 } : Room) s m args below meth c (MQ below (zQ Z ad0 h0 (zWi Z P)) args s 0 0 (zA Z)) 0 0 (zh Z zm1 st) 3 24 [some (.ref 100), some (.int (a1)), some (.int (a2))] [.int (b0), .ref 100] := by
  unfold w_X12_told_24 at h
  refine z_iconst C dX12_told_24 (v := 2) (by decide) ?_
  refine t_callV C (rest := []) (c2 := 0) (s2 := 0) (kd := 100) (i := 0) [.int (b0), .int (2)] dX12_told_25 lk_X12_205 li_X12_bad le_X12_bad (c_X12_bad hfl h) rfl rfl (by decide) rfl ⟨_, rfl⟩ rfl ⟨Nat.le_of_ble_eq_true rfl, Nat.le_of_ble_eq_true rfl⟩ (Nat.le_of_ble_eq_true rfl) ⟨Nat.le_of_ble_eq_true rfl, Nat.le_of_ble_eq_true rfl, Nat.le_of_ble_eq_true rfl, Nat.le_of_ble_eq_true rfl⟩ (k_Wi fun r25 s25 h => ?_)
  refine z_if_eq C dX12_told_28 (tgt := 33) (by decide) (fun c28 => ?_) (fun c28 => ?_)
  · have h := h.1 c28
    refine z_iload_n C dX12_told_33 (i := 2) rfl rfl ?_
    by_cases c34_0 : a2 = 0
    · have h := h.1 c34_0
      refine z_tableIn C dX12_told_34 (off := 42) (tgt := 76) (by rw [c34_0]; decide) (by rw [c34_0]; decide) (by rw [c34_0]; rfl) (by decide) ?_
      refine z_aload_n C dX12_told_76 (i := 0) rfl rfl ?_
      refine t_get C dX12_told_77 fl_X12_91 (k := 100) (i := 0) (by decide) rfl (fg_100_38 _ _ _) ?_
      refine z_iload_n C dX12_told_80 (i := 1) rfl rfl ?_
      obtain ⟨g81, h⟩ := h
      refine t_iald C dX12_told_81 (k := 126) (i := 0) (by decide) rfl (sh_126 _ _ _ _) g81 ?_
      refine z_if_le C dX12_told_82 (tgt := 94) (by decide) (fun c82 => ?_) (fun c82 => ?_)
      · have h := h.1 c82
        refine z_aload_n C dX12_told_94 (i := 0) rfl rfl ?_
        refine z_iload_n C dX12_told_95 (i := 1) rfl rfl ?_
        refine t_callV C (rest := []) (c2 := 0) (s2 := 0) (kd := 100) (i := 0) [.int (a1)] dX12_told_96 lk_X12_384 li_X12_ahead le_X12_ahead (c_X12_ahead hfl h) rfl rfl (by decide) rfl ⟨_, rfl⟩ rfl ⟨Nat.le_of_ble_eq_true rfl, Nat.le_of_ble_eq_true rfl⟩ (Nat.le_of_ble_eq_true rfl) ⟨Nat.le_of_ble_eq_true rfl, Nat.le_of_ble_eq_true rfl, Nat.le_of_ble_eq_true rfl, Nat.le_of_ble_eq_true rfl⟩ (k_Ri fun r96 h => ?_)
        refine z_iconst C dX12_told_99 (v := 3) (by decide) ?_
        refine z_icmp_ne C dX12_told_100 (tgt := 111) (by decide) (fun c100 => ?_) (fun c100 => ?_)
        · have h := h.2 c100
          refine z_iconst C dX12_told_111 (v := (-1)) (by decide) ?_
          exact z_iret C dX12_told_112 hr rfl ⟨_, _, rfl, rfl, h⟩ (Nat.le_of_ble_eq_true rfl) (Nat.le_of_ble_eq_true rfl)
        · have h := h.1 c100
          refine z_aload_n C dX12_told_103 (i := 0) rfl rfl ?_
          refine z_iload_n C dX12_told_104 (i := 1) rfl rfl ?_
          refine t_callV C (rest := []) (c2 := 0) (s2 := 0) (kd := 100) (i := 0) [.int (a1)] dX12_told_105 lk_X12_393 li_X12_allowedFrom le_X12_allowedFrom (c_X12_allowedFrom hfl h) rfl rfl (by decide) rfl ⟨_, rfl⟩ rfl ⟨Nat.le_of_ble_eq_true rfl, Nat.le_of_ble_eq_true rfl⟩ (Nat.le_of_ble_eq_true rfl) ⟨Nat.le_of_ble_eq_true rfl, Nat.le_of_ble_eq_true rfl, Nat.le_of_ble_eq_true rfl, Nat.le_of_ble_eq_true rfl⟩ (k_Ri fun r105 h => ?_)
          refine z_goto C dX12_told_108 (tgt := 112) (by decide) ?_
          exact z_iret C dX12_told_112 hr rfl ⟨_, _, rfl, rfl, h⟩ (Nat.le_of_ble_eq_true rfl) (Nat.le_of_ble_eq_true rfl)
      · have h := h.2 c82
        refine z_aload_n C dX12_told_85 (i := 0) rfl rfl ?_
        refine t_get C dX12_told_86 fl_X12_97 (k := 100) (i := 0) (by decide) rfl (fg_100_40 _ _ _) ?_
        refine z_iload_n C dX12_told_89 (i := 1) rfl rfl ?_
        obtain ⟨g90, h⟩ := h
        refine t_iald C dX12_told_90 (k := 128) (i := 0) (by decide) rfl (sh_128 _ _ _ _) g90 ?_
        refine z_goto C dX12_told_91 (tgt := 112) (by decide) ?_
        exact z_iret C dX12_told_112 hr rfl ⟨_, _, rfl, rfl, h⟩ (Nat.le_of_ble_eq_true rfl) (Nat.le_of_ble_eq_true rfl)
    · by_cases c34_1 : a2 = 1
      · have h := h.2.1 c34_1
        refine z_tableIn C dX12_told_34 (off := 79) (tgt := 113) (by rw [c34_1]; decide) (by rw [c34_1]; decide) (by rw [c34_1]; rfl) (by decide) ?_
        refine z_aload_n C dX12_told_113 (i := 0) rfl rfl ?_
        refine z_iload_n C dX12_told_114 (i := 1) rfl rfl ?_
        refine t_callV C (rest := []) (c2 := 0) (s2 := 0) (kd := 100) (i := 0) [.int (a1)] dX12_told_115 lk_X12_390 li_X12_stateOf le_X12_stateOf (c_X12_stateOf hfl h) rfl rfl (by decide) rfl ⟨_, rfl⟩ rfl ⟨Nat.le_of_ble_eq_true rfl, Nat.le_of_ble_eq_true rfl⟩ (Nat.le_of_ble_eq_true rfl) ⟨Nat.le_of_ble_eq_true rfl, Nat.le_of_ble_eq_true rfl, Nat.le_of_ble_eq_true rfl, Nat.le_of_ble_eq_true rfl⟩ (k_Ri fun r115 h => ?_)
        refine z_iconst C dX12_told_118 (v := 4) (by decide) ?_
        refine z_icmp_ne C dX12_told_119 (tgt := 130) (by decide) (fun c119 => ?_) (fun c119 => ?_)
        · have h := h.2 c119
          refine z_iconst C dX12_told_130 (v := (-1)) (by decide) ?_
          exact z_iret C dX12_told_131 hr rfl ⟨_, _, rfl, rfl, h⟩ (Nat.le_of_ble_eq_true rfl) (Nat.le_of_ble_eq_true rfl)
        · have h := h.1 c119
          refine z_aload_n C dX12_told_122 (i := 0) rfl rfl ?_
          refine z_iload_n C dX12_told_123 (i := 1) rfl rfl ?_
          refine t_callV C (rest := []) (c2 := 0) (s2 := 0) (kd := 100) (i := 0) [.int (a1)] dX12_told_124 lk_X12_396 li_X12_disputeFrom le_X12_disputeFrom (c_X12_disputeFrom hfl h) rfl rfl (by decide) rfl ⟨_, rfl⟩ rfl ⟨Nat.le_of_ble_eq_true rfl, Nat.le_of_ble_eq_true rfl⟩ (Nat.le_of_ble_eq_true rfl) ⟨Nat.le_of_ble_eq_true rfl, Nat.le_of_ble_eq_true rfl, Nat.le_of_ble_eq_true rfl, Nat.le_of_ble_eq_true rfl⟩ (k_Ri fun r124 h => ?_)
          refine z_goto C dX12_told_127 (tgt := 131) (by decide) ?_
          exact z_iret C dX12_told_131 hr rfl ⟨_, _, rfl, rfl, h⟩ (Nat.le_of_ble_eq_true rfl) (Nat.le_of_ble_eq_true rfl)
      · by_cases c34_2 : a2 = 2
        · have h := h.2.2.1 c34_2
          refine z_tableIn C dX12_told_34 (off := 98) (tgt := 132) (by rw [c34_2]; decide) (by rw [c34_2]; decide) (by rw [c34_2]; rfl) (by decide) ?_
          refine z_aload_n C dX12_told_132 (i := 0) rfl rfl ?_
          refine z_iload_n C dX12_told_133 (i := 1) rfl rfl ?_
          refine t_callV C (rest := []) (c2 := 0) (s2 := 0) (kd := 100) (i := 0) [.int (a1)] dX12_told_134 lk_X12_399 li_X12_hoursFrom le_X12_hoursFrom (c_X12_hoursFrom hfl h) rfl rfl (by decide) rfl ⟨_, rfl⟩ rfl ⟨Nat.le_of_ble_eq_true rfl, Nat.le_of_ble_eq_true rfl⟩ (Nat.le_of_ble_eq_true rfl) ⟨Nat.le_of_ble_eq_true rfl, Nat.le_of_ble_eq_true rfl, Nat.le_of_ble_eq_true rfl, Nat.le_of_ble_eq_true rfl⟩ (k_Ri fun r134 h => ?_)
          exact z_iret C dX12_told_137 hr rfl ⟨_, _, rfl, rfl, h⟩ (Nat.le_of_ble_eq_true rfl) (Nat.le_of_ble_eq_true rfl)
        · by_cases c34_3 : a2 = 3
          · have h := h.2.2.2.1 c34_3
            refine z_tableIn C dX12_told_34 (off := 104) (tgt := 138) (by rw [c34_3]; decide) (by rw [c34_3]; decide) (by rw [c34_3]; rfl) (by decide) ?_
            refine z_aload_n C dX12_told_138 (i := 0) rfl rfl ?_
            refine z_iload_n C dX12_told_139 (i := 1) rfl rfl ?_
            refine t_callV C (rest := []) (c2 := 0) (s2 := 0) (kd := 100) (i := 0) [.int (a1)] dX12_told_140 lk_X12_402 li_X12_hoursTo le_X12_hoursTo (c_X12_hoursTo hfl h) rfl rfl (by decide) rfl ⟨_, rfl⟩ rfl ⟨Nat.le_of_ble_eq_true rfl, Nat.le_of_ble_eq_true rfl⟩ (Nat.le_of_ble_eq_true rfl) ⟨Nat.le_of_ble_eq_true rfl, Nat.le_of_ble_eq_true rfl, Nat.le_of_ble_eq_true rfl, Nat.le_of_ble_eq_true rfl⟩ (k_Ri fun r140 h => ?_)
            exact z_iret C dX12_told_143 hr rfl ⟨_, _, rfl, rfl, h⟩ (Nat.le_of_ble_eq_true rfl) (Nat.le_of_ble_eq_true rfl)
          · by_cases c34_4 : a2 = 4
            · have h := h.2.2.2.2.1 c34_4
              refine z_tableIn C dX12_told_34 (off := 110) (tgt := 144) (by rw [c34_4]; decide) (by rw [c34_4]; decide) (by rw [c34_4]; rfl) (by decide) ?_
              refine z_aload_n C dX12_told_144 (i := 0) rfl rfl ?_
              refine z_iload_n C dX12_told_145 (i := 1) rfl rfl ?_
              refine t_callV C (rest := []) (c2 := 0) (s2 := 0) (kd := 100) (i := 0) [.int (a1)] dX12_told_146 lk_X12_405 li_X12_shareOf le_X12_shareOf (c_X12_shareOf hfl h) rfl rfl (by decide) rfl ⟨_, rfl⟩ rfl ⟨Nat.le_of_ble_eq_true rfl, Nat.le_of_ble_eq_true rfl⟩ (Nat.le_of_ble_eq_true rfl) ⟨Nat.le_of_ble_eq_true rfl, Nat.le_of_ble_eq_true rfl, Nat.le_of_ble_eq_true rfl, Nat.le_of_ble_eq_true rfl⟩ (k_Ri fun r146 h => ?_)
              exact z_iret C dX12_told_149 hr rfl ⟨_, _, rfl, rfl, h⟩ (Nat.le_of_ble_eq_true rfl) (Nat.le_of_ble_eq_true rfl)
            · by_cases c34_5 : a2 = 5
              · have h := h.2.2.2.2.2.1 c34_5
                refine z_tableIn C dX12_told_34 (off := 116) (tgt := 150) (by rw [c34_5]; decide) (by rw [c34_5]; decide) (by rw [c34_5]; rfl) (by decide) ?_
                refine z_aload_n C dX12_told_150 (i := 0) rfl rfl ?_
                refine z_iload_n C dX12_told_151 (i := 1) rfl rfl ?_
                refine t_callV C (rest := []) (c2 := 0) (s2 := 0) (kd := 100) (i := 0) [.int (a1)] dX12_told_152 lk_X12_390 li_X12_stateOf le_X12_stateOf (c_X12_stateOf hfl h) rfl rfl (by decide) rfl ⟨_, rfl⟩ rfl ⟨Nat.le_of_ble_eq_true rfl, Nat.le_of_ble_eq_true rfl⟩ (Nat.le_of_ble_eq_true rfl) ⟨Nat.le_of_ble_eq_true rfl, Nat.le_of_ble_eq_true rfl, Nat.le_of_ble_eq_true rfl, Nat.le_of_ble_eq_true rfl⟩ (k_Ri fun r152 h => ?_)
                refine z_iconst C dX12_told_155 (v := 2) (by decide) ?_
                refine z_icmp_ne C dX12_told_156 (tgt := 167) (by decide) (fun c156 => ?_) (fun c156 => ?_)
                · have h := h.2 c156
                  refine z_iconst C dX12_told_167 (v := (-1)) (by decide) ?_
                  exact z_iret C dX12_told_168 hr rfl ⟨_, _, rfl, rfl, h⟩ (Nat.le_of_ble_eq_true rfl) (Nat.le_of_ble_eq_true rfl)
                · have h := h.1 c156
                  refine z_aload_n C dX12_told_159 (i := 0) rfl rfl ?_
                  refine z_iload_n C dX12_told_160 (i := 1) rfl rfl ?_
                  refine t_callV C (rest := []) (c2 := 0) (s2 := 0) (kd := 100) (i := 0) [.int (a1)] dX12_told_161 lk_X12_381 li_X12_lastAnswer le_X12_lastAnswer (c_X12_lastAnswer hfl h) rfl rfl (by decide) rfl ⟨_, rfl⟩ rfl ⟨Nat.le_of_ble_eq_true rfl, Nat.le_of_ble_eq_true rfl⟩ (Nat.le_of_ble_eq_true rfl) ⟨Nat.le_of_ble_eq_true rfl, Nat.le_of_ble_eq_true rfl, Nat.le_of_ble_eq_true rfl, Nat.le_of_ble_eq_true rfl⟩ (k_Ri fun r161 h => ?_)
                  refine z_goto C dX12_told_164 (tgt := 168) (by decide) ?_
                  exact z_iret C dX12_told_168 hr rfl ⟨_, _, rfl, rfl, h⟩ (Nat.le_of_ble_eq_true rfl) (Nat.le_of_ble_eq_true rfl)
              · by_cases c34_6 : a2 = 6
                · have h := h.2.2.2.2.2.2.1 c34_6
                  refine z_tableIn C dX12_told_34 (off := 135) (tgt := 169) (by rw [c34_6]; decide) (by rw [c34_6]; decide) (by rw [c34_6]; rfl) (by decide) ?_
                  refine z_aload_n C dX12_told_169 (i := 0) rfl rfl ?_
                  refine z_iload_n C dX12_told_170 (i := 1) rfl rfl ?_
                  refine t_callV C (rest := []) (c2 := 0) (s2 := 0) (kd := 100) (i := 0) [.int (a1)] dX12_told_171 lk_X12_408 li_X12_mayAppeal le_X12_mayAppeal (c_X12_mayAppeal hfl h) rfl rfl (by decide) rfl ⟨_, rfl⟩ rfl ⟨Nat.le_of_ble_eq_true rfl, Nat.le_of_ble_eq_true rfl⟩ (Nat.le_of_ble_eq_true rfl) ⟨Nat.le_of_ble_eq_true rfl, Nat.le_of_ble_eq_true rfl, Nat.le_of_ble_eq_true rfl, Nat.le_of_ble_eq_true rfl⟩ (k_Ri fun r171 h => ?_)
                  refine z_if_eq C dX12_told_174 (tgt := 185) (by decide) (fun c174 => ?_) (fun c174 => ?_)
                  · have h := h.1 c174
                    refine z_iconst C dX12_told_185 (v := (-1)) (by decide) ?_
                    exact z_iret C dX12_told_186 hr rfl ⟨_, _, rfl, rfl, h⟩ (Nat.le_of_ble_eq_true rfl) (Nat.le_of_ble_eq_true rfl)
                  · have h := h.2 c174
                    refine z_aload_n C dX12_told_177 (i := 0) rfl rfl ?_
                    refine z_iload_n C dX12_told_178 (i := 1) rfl rfl ?_
                    refine t_callV C (rest := []) (c2 := 0) (s2 := 0) (kd := 100) (i := 0) [.int (a1)] dX12_told_179 lk_X12_411 li_X12_lastAppeal le_X12_lastAppeal (c_X12_lastAppeal hfl h) rfl rfl (by decide) rfl ⟨_, rfl⟩ rfl ⟨Nat.le_of_ble_eq_true rfl, Nat.le_of_ble_eq_true rfl⟩ (Nat.le_of_ble_eq_true rfl) ⟨Nat.le_of_ble_eq_true rfl, Nat.le_of_ble_eq_true rfl, Nat.le_of_ble_eq_true rfl, Nat.le_of_ble_eq_true rfl⟩ (k_Ri fun r179 h => ?_)
                    refine z_goto C dX12_told_182 (tgt := 186) (by decide) ?_
                    exact z_iret C dX12_told_186 hr rfl ⟨_, _, rfl, rfl, h⟩ (Nat.le_of_ble_eq_true rfl) (Nat.le_of_ble_eq_true rfl)
                · have h := h.2.2.2.2.2.2.2 ⟨c34_0, c34_1, c34_2, c34_3, c34_4, c34_5, c34_6⟩
                  refine z_tableOut C dX12_told_34 (tgt := 187) (zsw_out (lt_s (p := fun a => ¬ a2 = nI a) (lt_s (p := fun a => ¬ a2 = nI a) (lt_s (p := fun a => ¬ a2 = nI a) (lt_s (p := fun a => ¬ a2 = nI a) (lt_s (p := fun a => ¬ a2 = nI a) (lt_s (p := fun a => ¬ a2 = nI a) (lt_s (p := fun a => ¬ a2 = nI a) lt_0 c34_0) c34_1) c34_2) c34_3) c34_4) c34_5) c34_6)) (by decide) ?_
                  refine z_aload_n C dX12_told_187 (i := 0) rfl rfl ?_
                  refine t_get C dX12_told_188 fl_X12_94 (k := 100) (i := 0) (by decide) rfl (fg_100_39 _ _ _) ?_
                  refine z_iload_n C dX12_told_191 (i := 1) rfl rfl ?_
                  obtain ⟨g192, h⟩ := h
                  refine t_iald C dX12_told_192 (k := 127) (i := 0) (by decide) rfl (sh_127 _ _ _ _) g192 ?_
                  exact z_iret C dX12_told_193 hr rfl ⟨_, _, rfl, rfl, h⟩ (Nat.le_of_ble_eq_true rfl) (Nat.le_of_ble_eq_true rfl)
  · have h := h.2 c28
    refine z_iconst C dX12_told_31 (v := 0) (by decide) ?_
    exact z_iret C dX12_told_32 hr rfl ⟨_, _, rfl, rfl, h⟩ (Nat.le_of_ble_eq_true rfl) (Nat.le_of_ble_eq_true rfl)
def w_X12_told (st : zTs) (a1 : Int32) (a2 : Int32) (P : Int32 → zTs → Prop) : Prop := w_X12_isWork st a1 (fun (r2 : Int32) (s2 : zTs) => ((r2 = 0 → P 0 s2) ∧ (¬ r2 = 0 → (a2 < 0 → w_X12_told_24 P s2 a1 a2 (1)) ∧ (¬ a2 < 0 → (a2 ≤ 7 → w_X12_told_24 P s2 a1 a2 (0)) ∧ (¬ a2 ≤ 7 → w_X12_told_24 P s2 a1 a2 (1))))))
set_option maxHeartbeats 4000000 in
set_option maxRecDepth 100000 in
theorem c_X12_told {Z : zZ} {l : Launch} (hfl : l.stackTraces = false) {st : zTs} {a1 : Int32} {a2 : Int32} {P : Int32 → zTs → Prop} (h : w_X12_told st a1 a2 P) : zN Z l yX12_told cX12_told 3 (some .int) ({ frames := 7, cells := 0, slots := 0, locals := 139 } : Room) (zh Z zm1 st) [.ref 100, .int (a1), .int (a2)] (zWi Z P) := by
  unfold w_X12_told at h
  refine z_enterN (by decide) (Nat.le_of_ble_eq_true rfl) (lc0 := [some (.ref 100), some (.int (a1)), some (.int (a2))]) rfl ?_
  intro p e s m args below meth c ad0 C hr _
  have hn9 : True := trivial
  replace C : zC Z p s m args meth c cX12_told 3 RX12 := C
  refine z_aload_n C dX12_told_0 (i := 0) rfl rfl ?_
  refine z_iload_n C dX12_told_1 (i := 1) rfl rfl ?_
  refine t_callV C (rest := []) (c2 := 0) (s2 := 0) (kd := 100) (i := 0) [.int (a1)] dX12_told_2 lk_X12_387 li_X12_isWork le_X12_isWork (c_X12_isWork hfl h) rfl rfl (by decide) rfl ⟨_, rfl⟩ rfl ⟨Nat.le_of_ble_eq_true rfl, Nat.le_of_ble_eq_true rfl⟩ (Nat.le_of_ble_eq_true rfl) ⟨Nat.le_of_ble_eq_true rfl, Nat.le_of_ble_eq_true rfl, Nat.le_of_ble_eq_true rfl, Nat.le_of_ble_eq_true rfl⟩ (k_Wi fun r2 s2 h => ?_)
  refine z_if_eq C dX12_told_5 (tgt := 31) (by decide) (fun c5 => ?_) (fun c5 => ?_)
  · have h := h.1 c5
    refine z_iconst C dX12_told_31 (v := 0) (by decide) ?_
    exact z_iret C dX12_told_32 hr rfl ⟨_, _, rfl, rfl, h⟩ (Nat.le_of_ble_eq_true rfl) (Nat.le_of_ble_eq_true rfl)
  · have h := h.2 c5
    refine z_aload_n C dX12_told_8 (i := 0) rfl rfl ?_
    refine z_iload_n C dX12_told_9 (i := 2) rfl rfl ?_
    refine z_if_lt C dX12_told_10 (tgt := 19) (by decide) (fun c10 => ?_) (fun c10 => ?_)
    · have h := h.1 c10
      refine z_iconst C dX12_told_19 (v := 1) (by decide) ?_
      refine z_goto C dX12_told_20 (tgt := 24) (by decide) ?_
      exact t_drop [true, true, true] rfl (j_X12_told_24 hfl C hr hn9  s2 a1 a2 (1) h)
    · have h := h.2 c10
      refine z_iload_n C dX12_told_13 (i := 2) rfl rfl ?_
      refine z_bipush C dX12_told_14 (v := 7) (by decide) ?_
      refine z_icmp_le C dX12_told_16 (tgt := 23) (by decide) (fun c16 => ?_) (fun c16 => ?_)
      · have h := h.1 c16
        refine z_iconst C dX12_told_23 (v := 0) (by decide) ?_
        exact t_drop [true, true, true] rfl (j_X12_told_24 hfl C hr hn9  s2 a1 a2 (0) h)
      · have h := h.2 c16
        refine z_iconst C dX12_told_19 (v := 1) (by decide) ?_
        refine z_goto C dX12_told_20 (tgt := 24) (by decide) ?_
        exact t_drop [true, true, true] rfl (j_X12_told_24 hfl C hr hn9  s2 a1 a2 (1) h)
def w_X12_surveyor_47 (P : Int32 → zTs → Prop)  (st : zTs) (a1 : Int32) (b0 : Int32) : Prop := w_X12_bad st b0 2 (fun (r48 : Int32) (s48 : zTs) => ((r48 = 0 → vp_in (zgF s48 100 0 41) 12 ∧ (∀ s65 : zTs, s65 = zuA s48 129 0 (zgF s48 100 0 41 : Int32).toNatClampNeg a1 → (∀ s73 : zTs, s73 = zuF s65 100 0 41 ((zgF s65 100 0 41) + 1) → (P ((zgF s73 100 0 41) - 1) s73)))) ∧ (¬ r48 = 0 → P 0 s48)))
set_option maxHeartbeats 4000000 in
set_option maxRecDepth 100000 in
theorem j_X12_surveyor_47 {P : Int32 → zTs → Prop}  (hfl : l.stackTraces = false) (C : zC Z p s m args meth c cX12_surveyor 2 RX12) (hr : meth.sig.returnType = (some .int)) (hn9 : True)  (st : zTs) (a1 : Int32) (b0 : Int32) (h : w_X12_surveyor_47 P st a1 b0) : zG Z ad0 h0 p l e ({ frames := 2, cells := 0, slots := 0, locals := 34 } : Room) s m args below meth c (MQ below (zQ Z ad0 h0 (zWi Z P)) args s 0 0 (zA Z)) 0 0 (zh Z zm1 st) 2 47 [some (.ref 100), some (.int (a1))] [.int (b0), .ref 100] := by
  unfold w_X12_surveyor_47 at h
  refine z_iconst C dX12_surveyor_47 (v := 2) (by decide) ?_
  refine t_callV C (rest := []) (c2 := 0) (s2 := 0) (kd := 100) (i := 0) [.int (b0), .int (2)] dX12_surveyor_48 lk_X12_205 li_X12_bad le_X12_bad (c_X12_bad hfl h) rfl rfl (by decide) rfl ⟨_, rfl⟩ rfl ⟨Nat.le_of_ble_eq_true rfl, Nat.le_of_ble_eq_true rfl⟩ (Nat.le_of_ble_eq_true rfl) ⟨Nat.le_of_ble_eq_true rfl, Nat.le_of_ble_eq_true rfl, Nat.le_of_ble_eq_true rfl, Nat.le_of_ble_eq_true rfl⟩ (k_Wi fun r48 s48 h => ?_)
  refine z_if_eq C dX12_surveyor_51 (tgt := 56) (by decide) (fun c51 => ?_) (fun c51 => ?_)
  · have h := h.1 c51
    refine z_aload_n C dX12_surveyor_56 (i := 0) rfl rfl ?_
    refine t_get C dX12_surveyor_57 fl_X12_100 (k := 100) (i := 0) (by decide) rfl (fg_100_42 _ _ _) ?_
    refine z_aload_n C dX12_surveyor_60 (i := 0) rfl rfl ?_
    refine t_get C dX12_surveyor_61 fl_X12_414 (k := 100) (i := 0) (by decide) rfl (fg_100_41 _ _ _) ?_
    refine z_iload_n C dX12_surveyor_64 (i := 1) rfl rfl ?_
    obtain ⟨g65, h⟩ := h
    refine t_iast C dX12_surveyor_65 (k := 129) (i := 0) (by decide) rfl (fun s9 => sh_129 _ _ s9 _) g65 ?_
    refine t_tops (fun s65 es65 => ?_)
    have h := h s65 es65
    refine z_aload_n C dX12_surveyor_66 (i := 0) rfl rfl ?_
    refine z_dup C dX12_surveyor_67 rfl ?_
    refine t_get C dX12_surveyor_68 fl_X12_414 (k := 100) (i := 0) (by decide) rfl (fg_100_41 _ _ _) ?_
    refine z_iconst C dX12_surveyor_71 (v := 1) (by decide) ?_
    refine z_iadd C dX12_surveyor_72 ?_
    refine t_put C dX12_surveyor_73 fq_X12_414 (Or.inl rfl) (k := 100) (i := 0) (by decide) rfl ⟨rfl, rfl⟩ (fp_100_41 _ _ _ _ _) ?_
    refine t_tops (fun s73 es73 => ?_)
    have h := h s73 es73
    refine z_aload_n C dX12_surveyor_76 (i := 0) rfl rfl ?_
    refine t_get C dX12_surveyor_77 fl_X12_414 (k := 100) (i := 0) (by decide) rfl (fg_100_41 _ _ _) ?_
    refine z_iconst C dX12_surveyor_80 (v := 1) (by decide) ?_
    refine z_isub C dX12_surveyor_81 ?_
    exact z_iret C dX12_surveyor_82 hr rfl ⟨_, _, rfl, rfl, h⟩ (Nat.le_of_ble_eq_true rfl) (Nat.le_of_ble_eq_true rfl)
  · have h := h.2 c51
    refine z_iconst C dX12_surveyor_54 (v := 0) (by decide) ?_
    exact z_iret C dX12_surveyor_55 hr rfl ⟨_, _, rfl, rfl, h⟩ (Nat.le_of_ble_eq_true rfl) (Nat.le_of_ble_eq_true rfl)
def w_X12_surveyor_25 (P : Int32 → zTs → Prop)  (st : zTs) (a1 : Int32) (b0 : Int32) : Prop := w_X12_bad st b0 1 (fun (r26 : Int32) (s26 : zTs) => ((r26 = 0 → ((zgF s26 100 0 41) = 12 → w_X12_surveyor_47 P s26 a1 (1)) ∧ (¬ (zgF s26 100 0 41) = 12 → w_X12_surveyor_47 P s26 a1 (0))) ∧ (¬ r26 = 0 → P 0 s26)))
set_option maxHeartbeats 4000000 in
set_option maxRecDepth 100000 in
theorem j_X12_surveyor_25 {P : Int32 → zTs → Prop}  (hfl : l.stackTraces = false) (C : zC Z p s m args meth c cX12_surveyor 2 RX12) (hr : meth.sig.returnType = (some .int)) (hn9 : True)  (st : zTs) (a1 : Int32) (b0 : Int32) (h : w_X12_surveyor_25 P st a1 b0) : zG Z ad0 h0 p l e ({ frames := 2, cells := 0, slots := 0, locals := 34 } : Room) s m args below meth c (MQ below (zQ Z ad0 h0 (zWi Z P)) args s 0 0 (zA Z)) 0 0 (zh Z zm1 st) 2 25 [some (.ref 100), some (.int (a1))] [.int (b0), .ref 100] := by
  unfold w_X12_surveyor_25 at h
  refine z_iconst C dX12_surveyor_25 (v := 1) (by decide) ?_
  refine t_callV C (rest := []) (c2 := 0) (s2 := 0) (kd := 100) (i := 0) [.int (b0), .int (1)] dX12_surveyor_26 lk_X12_205 li_X12_bad le_X12_bad (c_X12_bad hfl h) rfl rfl (by decide) rfl ⟨_, rfl⟩ rfl ⟨Nat.le_of_ble_eq_true rfl, Nat.le_of_ble_eq_true rfl⟩ (Nat.le_of_ble_eq_true rfl) ⟨Nat.le_of_ble_eq_true rfl, Nat.le_of_ble_eq_true rfl, Nat.le_of_ble_eq_true rfl, Nat.le_of_ble_eq_true rfl⟩ (k_Wi fun r26 s26 h => ?_)
  refine z_if_ne C dX12_surveyor_29 (tgt := 54) (by decide) (fun c29 => ?_) (fun c29 => ?_)
  · have h := h.2 c29
    refine z_iconst C dX12_surveyor_54 (v := 0) (by decide) ?_
    exact z_iret C dX12_surveyor_55 hr rfl ⟨_, _, rfl, rfl, h⟩ (Nat.le_of_ble_eq_true rfl) (Nat.le_of_ble_eq_true rfl)
  · have h := h.1 c29
    refine z_aload_n C dX12_surveyor_32 (i := 0) rfl rfl ?_
    refine z_aload_n C dX12_surveyor_33 (i := 0) rfl rfl ?_
    refine t_get C dX12_surveyor_34 fl_X12_414 (k := 100) (i := 0) (by decide) rfl (fg_100_41 _ _ _) ?_
    refine z_bipush C dX12_surveyor_37 (v := 12) (by decide) ?_
    refine z_icmp_ne C dX12_surveyor_39 (tgt := 46) (by decide) (fun c39 => ?_) (fun c39 => ?_)
    · have h := h.2 c39
      refine z_iconst C dX12_surveyor_46 (v := 0) (by decide) ?_
      exact t_drop [true, true] rfl (j_X12_surveyor_47 hfl C hr hn9  s26 a1 (0) h)
    · have h := h.1 c39
      refine z_iconst C dX12_surveyor_42 (v := 1) (by decide) ?_
      refine z_goto C dX12_surveyor_43 (tgt := 47) (by decide) ?_
      exact t_drop [true, true] rfl (j_X12_surveyor_47 hfl C hr hn9  s26 a1 (1) h)
def w_X12_surveyor (st : zTs) (a1 : Int32) (P : Int32 → zTs → Prop) : Prop := ∀ s2 : zTs, s2 = zuF st 100 0 0 0 → ((a1 < 0 → w_X12_surveyor_25 P s2 a1 (1)) ∧ (¬ a1 < 0 → (a1 < (1 <<< ((zgF s2 100 0 1) &&& 31)) → w_X12_surveyor_25 P s2 a1 (0)) ∧ (¬ a1 < (1 <<< ((zgF s2 100 0 1) &&& 31)) → w_X12_surveyor_25 P s2 a1 (1))))
set_option maxHeartbeats 4000000 in
set_option maxRecDepth 100000 in
theorem c_X12_surveyor {Z : zZ} {l : Launch} (hfl : l.stackTraces = false) {st : zTs} {a1 : Int32} {P : Int32 → zTs → Prop} (h : w_X12_surveyor st a1 P) : zN Z l yX12_surveyor cX12_surveyor 2 (some .int) ({ frames := 2, cells := 0, slots := 0, locals := 34 } : Room) (zh Z zm1 st) [.ref 100, .int (a1)] (zWi Z P) := by
  unfold w_X12_surveyor at h
  refine z_enterN (by decide) (Nat.le_of_ble_eq_true rfl) (lc0 := [some (.ref 100), some (.int (a1))]) rfl ?_
  intro p e s m args below meth c ad0 C hr _
  have hn9 : True := trivial
  replace C : zC Z p s m args meth c cX12_surveyor 2 RX12 := C
  refine z_aload_n C dX12_surveyor_0 (i := 0) rfl rfl ?_
  refine z_iconst C dX12_surveyor_1 (v := 0) (by decide) ?_
  refine t_put C dX12_surveyor_2 fq_X12_199 (Or.inl rfl) (k := 100) (i := 0) (by decide) rfl ⟨rfl, rfl⟩ (fp_100_0 _ _ _ _ _) ?_
  refine t_tops (fun s2 es2 => ?_)
  have h := h s2 es2
  refine z_aload_n C dX12_surveyor_5 (i := 0) rfl rfl ?_
  refine z_iload_n C dX12_surveyor_6 (i := 1) rfl rfl ?_
  refine z_if_lt C dX12_surveyor_7 (tgt := 20) (by decide) (fun c7 => ?_) (fun c7 => ?_)
  · have h := h.1 c7
    refine z_iconst C dX12_surveyor_20 (v := 1) (by decide) ?_
    refine z_goto C dX12_surveyor_21 (tgt := 25) (by decide) ?_
    exact t_drop [true, true] rfl (j_X12_surveyor_25 hfl C hr hn9  s2 a1 (1) h)
  · have h := h.2 c7
    refine z_iload_n C dX12_surveyor_10 (i := 1) rfl rfl ?_
    refine z_iconst C dX12_surveyor_11 (v := 1) (by decide) ?_
    refine z_aload_n C dX12_surveyor_12 (i := 0) rfl rfl ?_
    refine t_get C dX12_surveyor_13 fl_X12_202 (k := 100) (i := 0) (by decide) rfl (fg_100_1 _ _ _) ?_
    refine z_ishl C dX12_surveyor_16 ?_
    refine z_icmp_lt C dX12_surveyor_17 (tgt := 24) (by decide) (fun c17 => ?_) (fun c17 => ?_)
    · have h := h.1 c17
      refine z_iconst C dX12_surveyor_24 (v := 0) (by decide) ?_
      exact t_drop [true, true] rfl (j_X12_surveyor_25 hfl C hr hn9  s2 a1 (0) h)
    · have h := h.2 c17
      refine z_iconst C dX12_surveyor_20 (v := 1) (by decide) ?_
      refine z_goto C dX12_surveyor_21 (tgt := 25) (by decide) ?_
      exact t_drop [true, true] rfl (j_X12_surveyor_25 hfl C hr hn9  s2 a1 (1) h)
def w_X12_isBarred (st : zTs) (a1 : Int32) (a2 : Int32) (P : Int32 → Prop) : Prop := vp_in a1 30 ∧ (∀ x6 : Int32, x6 = zgA st 112 0 (a1 : Int32).toNatClampNeg → (vp_in a2 12 ∧ (vp_in (2 * x6) 12 ∧ (((((zgA st 129 0 (a2 : Int32).toNatClampNeg) >>> ((zgA st 101 0 (2 * x6 : Int32).toNatClampNeg) &&& 31)) &&& 1) = 1 → P 1) ∧ (¬ (((zgA st 129 0 (a2 : Int32).toNatClampNeg) >>> ((zgA st 101 0 (2 * x6 : Int32).toNatClampNeg) &&& 31)) &&& 1) = 1 → vp_in a2 12 ∧ (vp_in ((2 * x6) + 1) 12 ∧ (((((zgA st 129 0 (a2 : Int32).toNatClampNeg) >>> ((zgA st 101 0 ((2 * x6) + 1 : Int32).toNatClampNeg) &&& 31)) &&& 1) = 1 → P 1) ∧ (¬ (((zgA st 129 0 (a2 : Int32).toNatClampNeg) >>> ((zgA st 101 0 ((2 * x6) + 1 : Int32).toNatClampNeg) &&& 31)) &&& 1) = 1 → P 0))))))))
set_option maxHeartbeats 4000000 in
set_option maxRecDepth 100000 in
theorem c_X12_isBarred {Z : zZ} {l : Launch} (hfl : l.stackTraces = false) {st : zTs} {a1 : Int32} {a2 : Int32} {P : Int32 → Prop} (h : w_X12_isBarred st a1 a2 P) : zN Z l yX12_isBarred cX12_isBarred 4 (some .boolean) ({ frames := 1, cells := 0, slots := 0, locals := 12 } : Room) (zh Z zm1 st) [.ref 100, .int (a1), .int (a2)] (zRi Z st P) := by
  unfold w_X12_isBarred at h
  refine z_enterN (by decide) (Nat.le_of_ble_eq_true rfl) (lc0 := [some (.ref 100), some (.int (a1)), some (.int (a2)), none]) rfl ?_
  intro p e s m args below meth c ad0 C hr _
  have hn9 : True := trivial
  replace C : zC Z p s m args meth c cX12_isBarred 4 RX12 := C
  refine z_aload_n C dX12_isBarred_0 (i := 0) rfl rfl ?_
  refine t_get C dX12_isBarred_1 fl_X12_49 (k := 100) (i := 0) (by decide) rfl (fg_100_24 _ _ _) ?_
  refine z_iload_n C dX12_isBarred_4 (i := 1) rfl rfl ?_
  obtain ⟨g5, h⟩ := h
  refine t_iald C dX12_isBarred_5 (k := 112) (i := 0) (by decide) rfl (sh_112 _ _ _ _) g5 ?_
  refine t_topi (fun x6 ex6 => ?_)
  have h := h x6 ex6
  refine z_istore_n C dX12_isBarred_6 (i := 3) (lc' := [some (.ref 100), some (.int (a1)), some (.int (a2)), some (.int (x6))]) rfl (by decide) rfl ?_
  refine z_aload_n C dX12_isBarred_7 (i := 0) rfl rfl ?_
  refine t_get C dX12_isBarred_8 fl_X12_100 (k := 100) (i := 0) (by decide) rfl (fg_100_42 _ _ _) ?_
  refine z_iload_n C dX12_isBarred_11 (i := 2) rfl rfl ?_
  obtain ⟨g12, h⟩ := h
  refine t_iald C dX12_isBarred_12 (k := 129) (i := 0) (by decide) rfl (sh_129 _ _ _ _) g12 ?_
  refine z_aload_n C dX12_isBarred_13 (i := 0) rfl rfl ?_
  refine t_get C dX12_isBarred_14 fl_X12_9 (k := 100) (i := 0) (by decide) rfl (fg_100_4 _ _ _) ?_
  refine z_iconst C dX12_isBarred_17 (v := 2) (by decide) ?_
  refine z_iload_n C dX12_isBarred_18 (i := 3) rfl rfl ?_
  refine z_imul C dX12_isBarred_19 ?_
  obtain ⟨g20, h⟩ := h
  refine t_iald C dX12_isBarred_20 (k := 101) (i := 0) (by decide) rfl (sh_101 _ _ _ _) g20 ?_
  refine z_ishr C dX12_isBarred_21 ?_
  refine z_iconst C dX12_isBarred_22 (v := 1) (by decide) ?_
  refine z_iand C dX12_isBarred_23 ?_
  refine z_iconst C dX12_isBarred_24 (v := 1) (by decide) ?_
  refine z_icmp_eq C dX12_isBarred_25 (tgt := 51) (by decide) (fun c25 => ?_) (fun c25 => ?_)
  · have h := h.1 c25
    refine z_iconst C dX12_isBarred_51 (v := 1) (by decide) ?_
    refine z_goto C dX12_isBarred_52 (tgt := 56) (by decide) ?_
    exact z_iret C dX12_isBarred_56 hr rfl ⟨rfl, _, rfl, h⟩ (Nat.le_of_ble_eq_true rfl) (Nat.le_of_ble_eq_true rfl)
  · have h := h.2 c25
    refine z_aload_n C dX12_isBarred_28 (i := 0) rfl rfl ?_
    refine t_get C dX12_isBarred_29 fl_X12_100 (k := 100) (i := 0) (by decide) rfl (fg_100_42 _ _ _) ?_
    refine z_iload_n C dX12_isBarred_32 (i := 2) rfl rfl ?_
    obtain ⟨g33, h⟩ := h
    refine t_iald C dX12_isBarred_33 (k := 129) (i := 0) (by decide) rfl (sh_129 _ _ _ _) g33 ?_
    refine z_aload_n C dX12_isBarred_34 (i := 0) rfl rfl ?_
    refine t_get C dX12_isBarred_35 fl_X12_9 (k := 100) (i := 0) (by decide) rfl (fg_100_4 _ _ _) ?_
    refine z_iconst C dX12_isBarred_38 (v := 2) (by decide) ?_
    refine z_iload_n C dX12_isBarred_39 (i := 3) rfl rfl ?_
    refine z_imul C dX12_isBarred_40 ?_
    refine z_iconst C dX12_isBarred_41 (v := 1) (by decide) ?_
    refine z_iadd C dX12_isBarred_42 ?_
    obtain ⟨g43, h⟩ := h
    refine t_iald C dX12_isBarred_43 (k := 101) (i := 0) (by decide) rfl (sh_101 _ _ _ _) g43 ?_
    refine z_ishr C dX12_isBarred_44 ?_
    refine z_iconst C dX12_isBarred_45 (v := 1) (by decide) ?_
    refine z_iand C dX12_isBarred_46 ?_
    refine z_iconst C dX12_isBarred_47 (v := 1) (by decide) ?_
    refine z_icmp_ne C dX12_isBarred_48 (tgt := 55) (by decide) (fun c48 => ?_) (fun c48 => ?_)
    · have h := h.2 c48
      refine z_iconst C dX12_isBarred_55 (v := 0) (by decide) ?_
      exact z_iret C dX12_isBarred_56 hr rfl ⟨rfl, _, rfl, h⟩ (Nat.le_of_ble_eq_true rfl) (Nat.le_of_ble_eq_true rfl)
    · have h := h.1 c48
      refine z_iconst C dX12_isBarred_51 (v := 1) (by decide) ?_
      refine z_goto C dX12_isBarred_52 (tgt := 56) (by decide) ?_
      exact z_iret C dX12_isBarred_56 hr rfl ⟨rfl, _, rfl, h⟩ (Nat.le_of_ble_eq_true rfl) (Nat.le_of_ble_eq_true rfl)
def w_X12_thirdFor_71 (P : zTs → Prop) (K4 : zTs → Int32 → Int32 → Int32 → Prop) (st : zTs) (a1 : Int32) (a2 : Int32) (a3 : Int32) : Prop := ∀ x71 : Int32, x71 = a3 + 1 → (K4 st a1 a2 x71)
set_option maxHeartbeats 4000000 in
set_option maxRecDepth 100000 in
theorem j_X12_thirdFor_71 {P : zTs → Prop} {K4 : zTs → Int32 → Int32 → Int32 → Prop} (hfl : l.stackTraces = false) (C : zC Z p s m args meth c cX12_thirdFor 4 RX12) (hr : meth.sig.returnType = none) (hn9 : True) (hK4 : ∀ (st : zTs) (a1 : Int32) (a2 : Int32) (a3 : Int32), K4 st a1 a2 a3 → zG Z ad0 h0 p l e ({ frames := 2, cells := 0, slots := 0, locals := 35 } : Room) s m args below meth c (MQ below (zQ Z ad0 h0 (zWv Z zm1 P)) args s 0 0 (zA Z)) 0 0 (zh Z zm1 st) 4 4 [some (.ref 100), some (.int (a1)), some (.int (a2)), some (.int (a3))] []) (st : zTs) (a1 : Int32) (a2 : Int32) (a3 : Int32) (h : w_X12_thirdFor_71 P K4 st a1 a2 a3) : zG Z ad0 h0 p l e ({ frames := 2, cells := 0, slots := 0, locals := 35 } : Room) s m args below meth c (MQ below (zQ Z ad0 h0 (zWv Z zm1 P)) args s 0 0 (zA Z)) 0 0 (zh Z zm1 st) 4 71 [some (.ref 100), some (.int (a1)), some (.int (a2)), some (.int (a3))] [] := by
  unfold w_X12_thirdFor_71 at h
  obtain ⟨x71, ex71⟩ : ∃ z : Int32, z = a3 + 1 := ⟨_, rfl⟩
  have h := h x71 ex71
  refine z_iinc C dX12_thirdFor_71 (v := x71) (lc' := [some (.ref 100), some (.int (a1)), some (.int (a2)), some (.int (x71))]) rfl (by decide) (by rw [ex71]; rfl) rfl ?_
  refine z_goto C dX12_thirdFor_74 (tgt := 4) (by decide) ?_
  exact t_drop [true, true, true, true] rfl (hK4 st a1 a2 x71 h)
def w_X12_thirdFor_69 (P : zTs → Prop) (K4 : zTs → Int32 → Int32 → Int32 → Prop) (st : zTs) (a1 : Int32) (a3 : Int32) : Prop := w_X12_thirdFor_71 P K4 st a1 a3 a3
set_option maxHeartbeats 4000000 in
set_option maxRecDepth 100000 in
theorem j_X12_thirdFor_69 {P : zTs → Prop} {K4 : zTs → Int32 → Int32 → Int32 → Prop} (hfl : l.stackTraces = false) (C : zC Z p s m args meth c cX12_thirdFor 4 RX12) (hr : meth.sig.returnType = none) (hn9 : True) (hK4 : ∀ (st : zTs) (a1 : Int32) (a2 : Int32) (a3 : Int32), K4 st a1 a2 a3 → zG Z ad0 h0 p l e ({ frames := 2, cells := 0, slots := 0, locals := 35 } : Room) s m args below meth c (MQ below (zQ Z ad0 h0 (zWv Z zm1 P)) args s 0 0 (zA Z)) 0 0 (zh Z zm1 st) 4 4 [some (.ref 100), some (.int (a1)), some (.int (a2)), some (.int (a3))] []) (st : zTs) (a1 : Int32) (a3 : Int32) (h : w_X12_thirdFor_69 P K4 st a1 a3) : zG Z ad0 h0 p l e ({ frames := 2, cells := 0, slots := 0, locals := 35 } : Room) s m args below meth c (MQ below (zQ Z ad0 h0 (zWv Z zm1 P)) args s 0 0 (zA Z)) 0 0 (zh Z zm1 st) 4 69 [some (.ref 100), some (.int (a1)), none, some (.int (a3))] [] := by
  unfold w_X12_thirdFor_69 at h
  refine z_iload_n C dX12_thirdFor_69 (i := 3) rfl rfl ?_
  refine z_istore_n C dX12_thirdFor_70 (i := 2) (lc' := [some (.ref 100), some (.int (a1)), some (.int (a3)), some (.int (a3))]) rfl (by decide) rfl ?_
  exact t_drop [true, true, true, true] rfl (j_X12_thirdFor_71 hfl C hr hn9 hK4 st a1 a3 a3 h)
def w_X12_thirdFor_4 (P : zTs → Prop)  : Nat → zTs → Int32 → Int32 → Int32 → Prop
  | 0, _, _, _, _ => False
  | n9 + 1, st, a1, a2, a3 => ((zgF st 100 0 41) ≤ a3 → vp_in ((3 * a1) + 2) 90 ∧ (∀ s87 : zTs, s87 = zuA st 131 0 ((3 * a1) + 2 : Int32).toNatClampNeg a2 → ((a2 < 0 → P s87) ∧ (¬ a2 < 0 → vp_in a2 12 ∧ (vp_in a2 12 ∧ (∀ s101 : zTs, s101 = zuA s87 130 0 (a2 : Int32).toNatClampNeg ((zgA s87 130 0 (a2 : Int32).toNatClampNeg) + 1) → (P s101))))))) ∧ (¬ (zgF st 100 0 41) ≤ a3 → vp_in (3 * a1) 90 ∧ ((a3 = (zgA st 131 0 (3 * a1 : Int32).toNatClampNeg) → w_X12_thirdFor_71 P (w_X12_thirdFor_4 P n9) st a1 a2 a3) ∧ (¬ a3 = (zgA st 131 0 (3 * a1 : Int32).toNatClampNeg) → vp_in ((3 * a1) + 1) 90 ∧ ((a3 = (zgA st 131 0 ((3 * a1) + 1 : Int32).toNatClampNeg) → w_X12_thirdFor_71 P (w_X12_thirdFor_4 P n9) st a1 a2 a3) ∧ (¬ a3 = (zgA st 131 0 ((3 * a1) + 1 : Int32).toNatClampNeg) → w_X12_isBarred st a1 a3 (fun (r41 : Int32) => ((r41 = 0 → (a2 < 0 → w_X12_thirdFor_69 P (w_X12_thirdFor_4 P n9) st a1 a3) ∧ (¬ a2 < 0 → vp_in a3 12 ∧ (vp_in a2 12 ∧ (((zgA st 130 0 (a2 : Int32).toNatClampNeg) ≤ (zgA st 130 0 (a3 : Int32).toNatClampNeg) → w_X12_thirdFor_71 P (w_X12_thirdFor_4 P n9) st a1 a2 a3) ∧ (¬ (zgA st 130 0 (a2 : Int32).toNatClampNeg) ≤ (zgA st 130 0 (a3 : Int32).toNatClampNeg) → w_X12_thirdFor_69 P (w_X12_thirdFor_4 P n9) st a1 a3))))) ∧ (¬ r41 = 0 → w_X12_thirdFor_71 P (w_X12_thirdFor_4 P n9) st a1 a2 a3))))))))
set_option maxHeartbeats 4000000 in
set_option maxRecDepth 100000 in
theorem j_X12_thirdFor_4 {P : zTs → Prop}  (hfl : l.stackTraces = false) (C : zC Z p s m args meth c cX12_thirdFor 4 RX12) (hr : meth.sig.returnType = none) (hn9 : True)  : ∀ (n9 : Nat) (st : zTs) (a1 : Int32) (a2 : Int32) (a3 : Int32), w_X12_thirdFor_4 P n9 st a1 a2 a3 → zG Z ad0 h0 p l e ({ frames := 2, cells := 0, slots := 0, locals := 35 } : Room) s m args below meth c (MQ below (zQ Z ad0 h0 (zWv Z zm1 P)) args s 0 0 (zA Z)) 0 0 (zh Z zm1 st) 4 4 [some (.ref 100), some (.int (a1)), some (.int (a2)), some (.int (a3))] [] := by
  intro n9
  induction n9 with
  | zero => intro st a1 a2 a3 h; exact h.elim
  | succ n9 hK4 =>
    intro st a1 a2 a3 h
    rw [w_X12_thirdFor_4] at h
    refine z_iload_n C dX12_thirdFor_4 (i := 3) rfl rfl ?_
    refine z_aload_n C dX12_thirdFor_5 (i := 0) rfl rfl ?_
    refine t_get C dX12_thirdFor_6 fl_X12_414 (k := 100) (i := 0) (by decide) rfl (fg_100_41 _ _ _) ?_
    refine z_icmp_ge C dX12_thirdFor_9 (tgt := 77) (by decide) (fun c9 => ?_) (fun c9 => ?_)
    · have h := h.1 c9
      refine z_aload_n C dX12_thirdFor_77 (i := 0) rfl rfl ?_
      refine t_get C dX12_thirdFor_78 fl_X12_106 (k := 100) (i := 0) (by decide) rfl (fg_100_44 _ _ _) ?_
      refine z_iconst C dX12_thirdFor_81 (v := 3) (by decide) ?_
      refine z_iload_n C dX12_thirdFor_82 (i := 1) rfl rfl ?_
      refine z_imul C dX12_thirdFor_83 ?_
      refine z_iconst C dX12_thirdFor_84 (v := 2) (by decide) ?_
      refine z_iadd C dX12_thirdFor_85 ?_
      refine z_iload_n C dX12_thirdFor_86 (i := 2) rfl rfl ?_
      obtain ⟨g87, h⟩ := h
      refine t_iast C dX12_thirdFor_87 (k := 131) (i := 0) (by decide) rfl (fun s9 => sh_131 _ _ s9 _) g87 ?_
      refine t_tops (fun s87 es87 => ?_)
      have h := h s87 es87
      refine z_iload_n C dX12_thirdFor_88 (i := 2) rfl rfl ?_
      refine z_if_lt C dX12_thirdFor_89 (tgt := 102) (by decide) (fun c89 => ?_) (fun c89 => ?_)
      · have h := h.1 c89
        exact z_vret C dX12_thirdFor_102 hr ⟨_, rfl, rfl, h⟩ (Nat.le_of_ble_eq_true rfl) (Nat.le_of_ble_eq_true rfl)
      · have h := h.2 c89
        refine z_aload_n C dX12_thirdFor_92 (i := 0) rfl rfl ?_
        refine t_get C dX12_thirdFor_93 fl_X12_103 (k := 100) (i := 0) (by decide) rfl (fg_100_43 _ _ _) ?_
        refine z_iload_n C dX12_thirdFor_96 (i := 2) rfl rfl ?_
        refine z_dup2 C dX12_thirdFor_97 rfl rfl ?_
        obtain ⟨g98, h⟩ := h
        refine t_iald C dX12_thirdFor_98 (k := 130) (i := 0) (by decide) rfl (sh_130 _ _ _ _) g98 ?_
        refine z_iconst C dX12_thirdFor_99 (v := 1) (by decide) ?_
        refine z_iadd C dX12_thirdFor_100 ?_
        obtain ⟨g101, h⟩ := h
        refine t_iast C dX12_thirdFor_101 (k := 130) (i := 0) (by decide) rfl (fun s9 => sh_130 _ _ s9 _) g101 ?_
        refine t_tops (fun s101 es101 => ?_)
        have h := h s101 es101
        exact z_vret C dX12_thirdFor_102 hr ⟨_, rfl, rfl, h⟩ (Nat.le_of_ble_eq_true rfl) (Nat.le_of_ble_eq_true rfl)
    · have h := h.2 c9
      refine z_iload_n C dX12_thirdFor_12 (i := 3) rfl rfl ?_
      refine z_aload_n C dX12_thirdFor_13 (i := 0) rfl rfl ?_
      refine t_get C dX12_thirdFor_14 fl_X12_106 (k := 100) (i := 0) (by decide) rfl (fg_100_44 _ _ _) ?_
      refine z_iconst C dX12_thirdFor_17 (v := 3) (by decide) ?_
      refine z_iload_n C dX12_thirdFor_18 (i := 1) rfl rfl ?_
      refine z_imul C dX12_thirdFor_19 ?_
      obtain ⟨g20, h⟩ := h
      refine t_iald C dX12_thirdFor_20 (k := 131) (i := 0) (by decide) rfl (sh_131 _ _ _ _) g20 ?_
      refine z_icmp_eq C dX12_thirdFor_21 (tgt := 71) (by decide) (fun c21 => ?_) (fun c21 => ?_)
      · have h := h.1 c21
        exact t_drop [true, true, true, true] rfl (j_X12_thirdFor_71 hfl C hr hn9 hK4 st a1 a2 a3 h)
      · have h := h.2 c21
        refine z_iload_n C dX12_thirdFor_24 (i := 3) rfl rfl ?_
        refine z_aload_n C dX12_thirdFor_25 (i := 0) rfl rfl ?_
        refine t_get C dX12_thirdFor_26 fl_X12_106 (k := 100) (i := 0) (by decide) rfl (fg_100_44 _ _ _) ?_
        refine z_iconst C dX12_thirdFor_29 (v := 3) (by decide) ?_
        refine z_iload_n C dX12_thirdFor_30 (i := 1) rfl rfl ?_
        refine z_imul C dX12_thirdFor_31 ?_
        refine z_iconst C dX12_thirdFor_32 (v := 1) (by decide) ?_
        refine z_iadd C dX12_thirdFor_33 ?_
        obtain ⟨g34, h⟩ := h
        refine t_iald C dX12_thirdFor_34 (k := 131) (i := 0) (by decide) rfl (sh_131 _ _ _ _) g34 ?_
        refine z_icmp_eq C dX12_thirdFor_35 (tgt := 71) (by decide) (fun c35 => ?_) (fun c35 => ?_)
        · have h := h.1 c35
          exact t_drop [true, true, true, true] rfl (j_X12_thirdFor_71 hfl C hr hn9 hK4 st a1 a2 a3 h)
        · have h := h.2 c35
          refine z_aload_n C dX12_thirdFor_38 (i := 0) rfl rfl ?_
          refine z_iload_n C dX12_thirdFor_39 (i := 1) rfl rfl ?_
          refine z_iload_n C dX12_thirdFor_40 (i := 3) rfl rfl ?_
          refine t_callV C (rest := []) (c2 := 0) (s2 := 0) (kd := 100) (i := 0) [.int (a1), .int (a3)] dX12_thirdFor_41 lk_X12_417 li_X12_isBarred le_X12_isBarred (c_X12_isBarred hfl h) rfl rfl (by decide) rfl ⟨_, rfl⟩ rfl ⟨Nat.le_of_ble_eq_true rfl, Nat.le_of_ble_eq_true rfl⟩ (Nat.le_of_ble_eq_true rfl) ⟨Nat.le_of_ble_eq_true rfl, Nat.le_of_ble_eq_true rfl, Nat.le_of_ble_eq_true rfl, Nat.le_of_ble_eq_true rfl⟩ (k_Ri fun r41 h => ?_)
          refine z_if_eq C dX12_thirdFor_44 (tgt := 50) (by decide) (fun c44 => ?_) (fun c44 => ?_)
          · have h := h.1 c44
            refine z_iload_n C dX12_thirdFor_50 (i := 2) rfl rfl ?_
            refine z_if_lt C dX12_thirdFor_51 (tgt := 69) (by decide) (fun c51 => ?_) (fun c51 => ?_)
            · have h := h.1 c51
              exact t_drop [true, true, false, true] rfl (j_X12_thirdFor_69 hfl C hr hn9 hK4 st a1 a3 h)
            · have h := h.2 c51
              refine z_aload_n C dX12_thirdFor_54 (i := 0) rfl rfl ?_
              refine t_get C dX12_thirdFor_55 fl_X12_103 (k := 100) (i := 0) (by decide) rfl (fg_100_43 _ _ _) ?_
              refine z_iload_n C dX12_thirdFor_58 (i := 3) rfl rfl ?_
              obtain ⟨g59, h⟩ := h
              refine t_iald C dX12_thirdFor_59 (k := 130) (i := 0) (by decide) rfl (sh_130 _ _ _ _) g59 ?_
              refine z_aload_n C dX12_thirdFor_60 (i := 0) rfl rfl ?_
              refine t_get C dX12_thirdFor_61 fl_X12_103 (k := 100) (i := 0) (by decide) rfl (fg_100_43 _ _ _) ?_
              refine z_iload_n C dX12_thirdFor_64 (i := 2) rfl rfl ?_
              obtain ⟨g65, h⟩ := h
              refine t_iald C dX12_thirdFor_65 (k := 130) (i := 0) (by decide) rfl (sh_130 _ _ _ _) g65 ?_
              refine z_icmp_ge C dX12_thirdFor_66 (tgt := 71) (by decide) (fun c66 => ?_) (fun c66 => ?_)
              · have h := h.1 c66
                exact t_drop [true, true, true, true] rfl (j_X12_thirdFor_71 hfl C hr hn9 hK4 st a1 a2 a3 h)
              · have h := h.2 c66
                exact t_drop [true, true, false, true] rfl (j_X12_thirdFor_69 hfl C hr hn9 hK4 st a1 a3 h)
          · have h := h.2 c44
            refine z_goto C dX12_thirdFor_47 (tgt := 71) (by decide) ?_
            exact t_drop [true, true, true, true] rfl (j_X12_thirdFor_71 hfl C hr hn9 hK4 st a1 a2 a3 h)
def w_X12_thirdFor (st : zTs) (a1 : Int32) (P : zTs → Prop) : Prop := w_X12_thirdFor_4 P zfu st a1 (-1) (0)
set_option maxHeartbeats 4000000 in
set_option maxRecDepth 100000 in
theorem c_X12_thirdFor {Z : zZ} {l : Launch} (hfl : l.stackTraces = false) {st : zTs} {a1 : Int32} {P : zTs → Prop} (h : w_X12_thirdFor st a1 P) : zN Z l yX12_thirdFor cX12_thirdFor 4 none ({ frames := 2, cells := 0, slots := 0, locals := 35 } : Room) (zh Z zm1 st) [.ref 100, .int (a1)] (zWv Z zm1 P) := by
  unfold w_X12_thirdFor at h
  refine z_enterN (by decide) (Nat.le_of_ble_eq_true rfl) (lc0 := [some (.ref 100), some (.int (a1)), none, none]) rfl ?_
  intro p e s m args below meth c ad0 C hr _
  have hn9 : True := trivial
  replace C : zC Z p s m args meth c cX12_thirdFor 4 RX12 := C
  refine z_iconst C dX12_thirdFor_0 (v := (-1)) (by decide) ?_
  refine z_istore_n C dX12_thirdFor_1 (i := 2) (lc' := [some (.ref 100), some (.int (a1)), some (.int (-1)), none]) rfl (by decide) rfl ?_
  refine z_iconst C dX12_thirdFor_2 (v := 0) (by decide) ?_
  refine z_istore_n C dX12_thirdFor_3 (i := 3) (lc' := [some (.ref 100), some (.int (a1)), some (.int (-1)), some (.int (0))]) rfl (by decide) rfl ?_
  exact t_drop [true, true, true, true] rfl (j_X12_thirdFor_4 hfl C hr hn9  zfu st a1 (-1) (0) h)
def w_X12_appoint_127 (P : Int32 → zTs → Prop)  (st : zTs) (a1 : Int32) (a2 : Int32) (a3 : Int32) : Prop := w_X12_isBarred st a1 a3 (fun (r130 : Int32) => ((r130 = 0 → vp_in (((3 * a1) + 1) - a2) 90 ∧ (((zgA st 131 0 (((3 * a1) + 1) - a2 : Int32).toNatClampNeg) = a3 → P (-5) st) ∧ (¬ (zgA st 131 0 (((3 * a1) + 1) - a2 : Int32).toNatClampNeg) = a3 → vp_in ((3 * a1) + a2) 90 ∧ (∀ s168 : zTs, s168 = zuA st 131 0 ((3 * a1) + a2 : Int32).toNatClampNeg a3 → (vp_in (((3 * a1) + 1) - a2) 90 ∧ (((zgA s168 131 0 (((3 * a1) + 1) - a2 : Int32).toNatClampNeg) < 0 → P 1 s168) ∧ (¬ (zgA s168 131 0 (((3 * a1) + 1) - a2 : Int32).toNatClampNeg) < 0 → w_X12_thirdFor s168 a1 (fun (s186 : zTs) => (P 1 s186))))))))) ∧ (¬ r130 = 0 → P (-4) st)))
set_option maxHeartbeats 4000000 in
set_option maxRecDepth 100000 in
theorem j_X12_appoint_127 {P : Int32 → zTs → Prop}  (hfl : l.stackTraces = false) (C : zC Z p s m args meth c cX12_appoint 5 RX12) (hr : meth.sig.returnType = (some .int)) (hn9 : True)  (st : zTs) (a1 : Int32) (a2 : Int32) (a3 : Int32) (h : w_X12_appoint_127 P st a1 a2 a3) : zG Z ad0 h0 p l e ({ frames := 6, cells := 0, slots := 0, locals := 118 } : Room) s m args below meth c (MQ below (zQ Z ad0 h0 (zWi Z P)) args s 0 0 (zA Z)) 0 0 (zh Z zm1 st) 5 127 [some (.ref 100), some (.int (a1)), some (.int (a2)), some (.int (a3)), none] [] := by
  unfold w_X12_appoint_127 at h
  refine z_aload_n C dX12_appoint_127 (i := 0) rfl rfl ?_
  refine z_iload_n C dX12_appoint_128 (i := 1) rfl rfl ?_
  refine z_iload_n C dX12_appoint_129 (i := 3) rfl rfl ?_
  refine t_callV C (rest := []) (c2 := 0) (s2 := 0) (kd := 100) (i := 0) [.int (a1), .int (a3)] dX12_appoint_130 lk_X12_417 li_X12_isBarred le_X12_isBarred (c_X12_isBarred hfl h) rfl rfl (by decide) rfl ⟨_, rfl⟩ rfl ⟨Nat.le_of_ble_eq_true rfl, Nat.le_of_ble_eq_true rfl⟩ (Nat.le_of_ble_eq_true rfl) ⟨Nat.le_of_ble_eq_true rfl, Nat.le_of_ble_eq_true rfl, Nat.le_of_ble_eq_true rfl, Nat.le_of_ble_eq_true rfl⟩ (k_Ri fun r130 h => ?_)
  refine z_if_eq C dX12_appoint_133 (tgt := 139) (by decide) (fun c133 => ?_) (fun c133 => ?_)
  · have h := h.1 c133
    refine z_aload_n C dX12_appoint_139 (i := 0) rfl rfl ?_
    refine t_get C dX12_appoint_140 fl_X12_106 (k := 100) (i := 0) (by decide) rfl (fg_100_44 _ _ _) ?_
    refine z_iconst C dX12_appoint_143 (v := 3) (by decide) ?_
    refine z_iload_n C dX12_appoint_144 (i := 1) rfl rfl ?_
    refine z_imul C dX12_appoint_145 ?_
    refine z_iconst C dX12_appoint_146 (v := 1) (by decide) ?_
    refine z_iadd C dX12_appoint_147 ?_
    refine z_iload_n C dX12_appoint_148 (i := 2) rfl rfl ?_
    refine z_isub C dX12_appoint_149 ?_
    obtain ⟨g150, h⟩ := h
    refine t_iald C dX12_appoint_150 (k := 131) (i := 0) (by decide) rfl (sh_131 _ _ _ _) g150 ?_
    refine z_iload_n C dX12_appoint_151 (i := 3) rfl rfl ?_
    refine z_icmp_ne C dX12_appoint_152 (tgt := 158) (by decide) (fun c152 => ?_) (fun c152 => ?_)
    · have h := h.2 c152
      refine z_aload_n C dX12_appoint_158 (i := 0) rfl rfl ?_
      refine t_get C dX12_appoint_159 fl_X12_106 (k := 100) (i := 0) (by decide) rfl (fg_100_44 _ _ _) ?_
      refine z_iconst C dX12_appoint_162 (v := 3) (by decide) ?_
      refine z_iload_n C dX12_appoint_163 (i := 1) rfl rfl ?_
      refine z_imul C dX12_appoint_164 ?_
      refine z_iload_n C dX12_appoint_165 (i := 2) rfl rfl ?_
      refine z_iadd C dX12_appoint_166 ?_
      refine z_iload_n C dX12_appoint_167 (i := 3) rfl rfl ?_
      obtain ⟨g168, h⟩ := h
      refine t_iast C dX12_appoint_168 (k := 131) (i := 0) (by decide) rfl (fun s9 => sh_131 _ _ s9 _) g168 ?_
      refine t_tops (fun s168 es168 => ?_)
      have h := h s168 es168
      refine z_aload_n C dX12_appoint_169 (i := 0) rfl rfl ?_
      refine t_get C dX12_appoint_170 fl_X12_106 (k := 100) (i := 0) (by decide) rfl (fg_100_44 _ _ _) ?_
      refine z_iconst C dX12_appoint_173 (v := 3) (by decide) ?_
      refine z_iload_n C dX12_appoint_174 (i := 1) rfl rfl ?_
      refine z_imul C dX12_appoint_175 ?_
      refine z_iconst C dX12_appoint_176 (v := 1) (by decide) ?_
      refine z_iadd C dX12_appoint_177 ?_
      refine z_iload_n C dX12_appoint_178 (i := 2) rfl rfl ?_
      refine z_isub C dX12_appoint_179 ?_
      obtain ⟨g180, h⟩ := h
      refine t_iald C dX12_appoint_180 (k := 131) (i := 0) (by decide) rfl (sh_131 _ _ _ _) g180 ?_
      refine z_if_lt C dX12_appoint_181 (tgt := 189) (by decide) (fun c181 => ?_) (fun c181 => ?_)
      · have h := h.1 c181
        refine z_iconst C dX12_appoint_189 (v := 1) (by decide) ?_
        exact z_iret C dX12_appoint_190 hr rfl ⟨_, _, rfl, rfl, h⟩ (Nat.le_of_ble_eq_true rfl) (Nat.le_of_ble_eq_true rfl)
      · have h := h.2 c181
        refine z_aload_n C dX12_appoint_184 (i := 0) rfl rfl ?_
        refine z_iload_n C dX12_appoint_185 (i := 1) rfl rfl ?_
        refine t_callV C (rest := []) (c2 := 0) (s2 := 0) (kd := 100) (i := 0) [.int (a1)] dX12_appoint_186 lk_X12_421 li_X12_thirdFor le_X12_thirdFor (c_X12_thirdFor hfl h) rfl rfl (by decide) rfl ⟨_, rfl⟩ rfl ⟨Nat.le_of_ble_eq_true rfl, Nat.le_of_ble_eq_true rfl⟩ (Nat.le_of_ble_eq_true rfl) ⟨Nat.le_of_ble_eq_true rfl, Nat.le_of_ble_eq_true rfl, Nat.le_of_ble_eq_true rfl, Nat.le_of_ble_eq_true rfl⟩ (k_Wv fun s186 h => ?_)
        refine z_iconst C dX12_appoint_189 (v := 1) (by decide) ?_
        exact z_iret C dX12_appoint_190 hr rfl ⟨_, _, rfl, rfl, h⟩ (Nat.le_of_ble_eq_true rfl) (Nat.le_of_ble_eq_true rfl)
    · have h := h.1 c152
      refine z_bipush C dX12_appoint_155 (v := (-5)) (by decide) ?_
      exact z_iret C dX12_appoint_157 hr rfl ⟨_, _, rfl, rfl, h⟩ (Nat.le_of_ble_eq_true rfl) (Nat.le_of_ble_eq_true rfl)
  · have h := h.2 c133
    refine z_bipush C dX12_appoint_136 (v := (-4)) (by decide) ?_
    exact z_iret C dX12_appoint_138 hr rfl ⟨_, _, rfl, rfl, h⟩ (Nat.le_of_ble_eq_true rfl) (Nat.le_of_ble_eq_true rfl)
def w_X12_appoint_54 (P : Int32 → zTs → Prop)  (st : zTs) (a1 : Int32) (a2 : Int32) (a3 : Int32) (a4 : Int32) (b0 : Int32) : Prop := w_X12_bad st b0 2 (fun (r55 : Int32) (s55 : zTs) => ((r55 = 0 → w_X12_stateOf s55 a1 (fun (r65 : Int32) => ((r65 = 4 → vp_in ((3 * a1) + a2) 90 ∧ (((zgA s55 131 0 ((3 * a1) + a2 : Int32).toNatClampNeg) < 0 → (a4 = a2 → w_X12_appoint_127 P s55 a1 a2 a3) ∧ (¬ a4 = a2 → w_X12_disputeFrom s55 a1 (fun (r102 : Int32) => (w_X12_keptOf s55 a1 8 (fun (r109 : Int32) => (w_X12_keptOf s55 a1 5 (fun (r115 : Int32) => (w_X12_countedFrom s55 r102 r109 r115 (fun (r118 : Int32) => ((r118 < (zgF s55 100 0 3) → w_X12_appoint_127 P s55 a1 a2 a3) ∧ (¬ r118 < (zgF s55 100 0 3) → P (-3) s55))))))))))) ∧ (¬ (zgA s55 131 0 ((3 * a1) + a2 : Int32).toNatClampNeg) < 0 → P (-2) s55))) ∧ (¬ r65 = 4 → P (-1) s55)))) ∧ (¬ r55 = 0 → P 0 s55)))
set_option maxHeartbeats 4000000 in
set_option maxRecDepth 100000 in
theorem j_X12_appoint_54 {P : Int32 → zTs → Prop}  (hfl : l.stackTraces = false) (C : zC Z p s m args meth c cX12_appoint 5 RX12) (hr : meth.sig.returnType = (some .int)) (hn9 : True)  (st : zTs) (a1 : Int32) (a2 : Int32) (a3 : Int32) (a4 : Int32) (b0 : Int32) (h : w_X12_appoint_54 P st a1 a2 a3 a4 b0) : zG Z ad0 h0 p l e ({ frames := 6, cells := 0, slots := 0, locals := 118 } : Room) s m args below meth c (MQ below (zQ Z ad0 h0 (zWi Z P)) args s 0 0 (zA Z)) 0 0 (zh Z zm1 st) 5 54 [some (.ref 100), some (.int (a1)), some (.int (a2)), some (.int (a3)), some (.int (a4))] [.int (b0), .ref 100] := by
  unfold w_X12_appoint_54 at h
  refine z_iconst C dX12_appoint_54 (v := 2) (by decide) ?_
  refine t_callV C (rest := []) (c2 := 0) (s2 := 0) (kd := 100) (i := 0) [.int (b0), .int (2)] dX12_appoint_55 lk_X12_205 li_X12_bad le_X12_bad (c_X12_bad hfl h) rfl rfl (by decide) rfl ⟨_, rfl⟩ rfl ⟨Nat.le_of_ble_eq_true rfl, Nat.le_of_ble_eq_true rfl⟩ (Nat.le_of_ble_eq_true rfl) ⟨Nat.le_of_ble_eq_true rfl, Nat.le_of_ble_eq_true rfl, Nat.le_of_ble_eq_true rfl, Nat.le_of_ble_eq_true rfl⟩ (k_Wi fun r55 s55 h => ?_)
  refine z_if_eq C dX12_appoint_58 (tgt := 63) (by decide) (fun c58 => ?_) (fun c58 => ?_)
  · have h := h.1 c58
    refine z_aload_n C dX12_appoint_63 (i := 0) rfl rfl ?_
    refine z_iload_n C dX12_appoint_64 (i := 1) rfl rfl ?_
    refine t_callV C (rest := []) (c2 := 0) (s2 := 0) (kd := 100) (i := 0) [.int (a1)] dX12_appoint_65 lk_X12_390 li_X12_stateOf le_X12_stateOf (c_X12_stateOf hfl h) rfl rfl (by decide) rfl ⟨_, rfl⟩ rfl ⟨Nat.le_of_ble_eq_true rfl, Nat.le_of_ble_eq_true rfl⟩ (Nat.le_of_ble_eq_true rfl) ⟨Nat.le_of_ble_eq_true rfl, Nat.le_of_ble_eq_true rfl, Nat.le_of_ble_eq_true rfl, Nat.le_of_ble_eq_true rfl⟩ (k_Ri fun r65 h => ?_)
    refine z_iconst C dX12_appoint_68 (v := 4) (by decide) ?_
    refine z_icmp_eq C dX12_appoint_69 (tgt := 74) (by decide) (fun c69 => ?_) (fun c69 => ?_)
    · have h := h.1 c69
      refine z_aload_n C dX12_appoint_74 (i := 0) rfl rfl ?_
      refine t_get C dX12_appoint_75 fl_X12_106 (k := 100) (i := 0) (by decide) rfl (fg_100_44 _ _ _) ?_
      refine z_iconst C dX12_appoint_78 (v := 3) (by decide) ?_
      refine z_iload_n C dX12_appoint_79 (i := 1) rfl rfl ?_
      refine z_imul C dX12_appoint_80 ?_
      refine z_iload_n C dX12_appoint_81 (i := 2) rfl rfl ?_
      refine z_iadd C dX12_appoint_82 ?_
      obtain ⟨g83, h⟩ := h
      refine t_iald C dX12_appoint_83 (k := 131) (i := 0) (by decide) rfl (sh_131 _ _ _ _) g83 ?_
      refine z_if_lt C dX12_appoint_84 (tgt := 90) (by decide) (fun c84 => ?_) (fun c84 => ?_)
      · have h := h.1 c84
        refine z_iload C dX12_appoint_90 rfl ?_
        refine z_iload_n C dX12_appoint_92 (i := 2) rfl rfl ?_
        refine z_icmp_eq C dX12_appoint_93 (tgt := 127) (by decide) (fun c93 => ?_) (fun c93 => ?_)
        · have h := h.1 c93
          exact t_drop [true, true, true, true, false] rfl (j_X12_appoint_127 hfl C hr hn9  s55 a1 a2 a3 h)
        · have h := h.2 c93
          refine z_aload_n C dX12_appoint_96 (i := 0) rfl rfl ?_
          refine t_get C dX12_appoint_97 fl_X12_222 (k := 100) (i := 0) (by decide) rfl (fg_100_3 _ _ _) ?_
          refine z_aload_n C dX12_appoint_100 (i := 0) rfl rfl ?_
          refine z_iload_n C dX12_appoint_101 (i := 1) rfl rfl ?_
          refine t_callV C (rest := [.int (zgF s55 100 0 3)]) (c2 := 0) (s2 := 0) (kd := 100) (i := 0) [.int (a1)] dX12_appoint_102 lk_X12_396 li_X12_disputeFrom le_X12_disputeFrom (c_X12_disputeFrom hfl h) rfl rfl (by decide) rfl ⟨_, rfl⟩ rfl ⟨Nat.le_of_ble_eq_true rfl, Nat.le_of_ble_eq_true rfl⟩ (Nat.le_of_ble_eq_true rfl) ⟨Nat.le_of_ble_eq_true rfl, Nat.le_of_ble_eq_true rfl, Nat.le_of_ble_eq_true rfl, Nat.le_of_ble_eq_true rfl⟩ (k_Ri fun r102 h => ?_)
          refine z_aload_n C dX12_appoint_105 (i := 0) rfl rfl ?_
          refine z_iload_n C dX12_appoint_106 (i := 1) rfl rfl ?_
          refine z_bipush C dX12_appoint_107 (v := 8) (by decide) ?_
          refine t_callV C (rest := [.int (r102), .int (zgF s55 100 0 3)]) (c2 := 0) (s2 := 0) (kd := 100) (i := 0) [.int (a1), .int (8)] dX12_appoint_109 lk_X12_375 li_X12_keptOf le_X12_keptOf (c_X12_keptOf hfl h) rfl rfl (by decide) rfl ⟨_, rfl⟩ rfl ⟨Nat.le_of_ble_eq_true rfl, Nat.le_of_ble_eq_true rfl⟩ (Nat.le_of_ble_eq_true rfl) ⟨Nat.le_of_ble_eq_true rfl, Nat.le_of_ble_eq_true rfl, Nat.le_of_ble_eq_true rfl, Nat.le_of_ble_eq_true rfl⟩ (k_Ri fun r109 h => ?_)
          refine z_aload_n C dX12_appoint_112 (i := 0) rfl rfl ?_
          refine z_iload_n C dX12_appoint_113 (i := 1) rfl rfl ?_
          refine z_iconst C dX12_appoint_114 (v := 5) (by decide) ?_
          refine t_callV C (rest := [.int (r109), .int (r102), .int (zgF s55 100 0 3)]) (c2 := 0) (s2 := 0) (kd := 100) (i := 0) [.int (a1), .int (5)] dX12_appoint_115 lk_X12_375 li_X12_keptOf le_X12_keptOf (c_X12_keptOf hfl h) rfl rfl (by decide) rfl ⟨_, rfl⟩ rfl ⟨Nat.le_of_ble_eq_true rfl, Nat.le_of_ble_eq_true rfl⟩ (Nat.le_of_ble_eq_true rfl) ⟨Nat.le_of_ble_eq_true rfl, Nat.le_of_ble_eq_true rfl, Nat.le_of_ble_eq_true rfl, Nat.le_of_ble_eq_true rfl⟩ (k_Ri fun r115 h => ?_)
          refine t_callS C (rest := [.int (zgF s55 100 0 3)]) (c2 := 0) (s2 := 0) [.int (r102), .int (r109), .int (r115)] dX12_appoint_118 lk_X12_364 ls_X12_countedFrom (c_X12_countedFrom hfl h) rfl rfl ⟨Nat.le_of_ble_eq_true rfl, Nat.le_of_ble_eq_true rfl⟩ (Nat.le_of_ble_eq_true rfl) ⟨Nat.le_of_ble_eq_true rfl, Nat.le_of_ble_eq_true rfl, Nat.le_of_ble_eq_true rfl, Nat.le_of_ble_eq_true rfl⟩ (k_Ri fun r118 h => ?_)
          refine z_icmp_gt C dX12_appoint_121 (tgt := 127) (by decide) (fun c121 => ?_) (fun c121 => ?_)
          · have h := h.1 c121
            exact t_drop [true, true, true, true, false] rfl (j_X12_appoint_127 hfl C hr hn9  s55 a1 a2 a3 h)
          · have h := h.2 c121
            refine z_bipush C dX12_appoint_124 (v := (-3)) (by decide) ?_
            exact z_iret C dX12_appoint_126 hr rfl ⟨_, _, rfl, rfl, h⟩ (Nat.le_of_ble_eq_true rfl) (Nat.le_of_ble_eq_true rfl)
      · have h := h.2 c84
        refine z_bipush C dX12_appoint_87 (v := (-2)) (by decide) ?_
        exact z_iret C dX12_appoint_89 hr rfl ⟨_, _, rfl, rfl, h⟩ (Nat.le_of_ble_eq_true rfl) (Nat.le_of_ble_eq_true rfl)
    · have h := h.2 c69
      refine z_iconst C dX12_appoint_72 (v := (-1)) (by decide) ?_
      exact z_iret C dX12_appoint_73 hr rfl ⟨_, _, rfl, rfl, h⟩ (Nat.le_of_ble_eq_true rfl) (Nat.le_of_ble_eq_true rfl)
  · have h := h.2 c58
    refine z_iconst C dX12_appoint_61 (v := 0) (by decide) ?_
    exact z_iret C dX12_appoint_62 hr rfl ⟨_, _, rfl, rfl, h⟩ (Nat.le_of_ble_eq_true rfl) (Nat.le_of_ble_eq_true rfl)
def w_X12_appoint_26 (P : Int32 → zTs → Prop)  (st : zTs) (a1 : Int32) (a2 : Int32) (a3 : Int32) (a4 : Int32) (b0 : Int32) : Prop := w_X12_bad st b0 1 (fun (r27 : Int32) (s27 : zTs) => ((r27 = 0 → w_X12_isSide s27 a2 (fun (r35 : Int32) => ((r35 = 0 → w_X12_appoint_54 P s27 a1 a2 a3 a4 (1)) ∧ (¬ r35 = 0 → w_X12_isSide s27 a4 (fun (r43 : Int32) => ((r43 = 0 → w_X12_appoint_54 P s27 a1 a2 a3 a4 (1)) ∧ (¬ r43 = 0 → w_X12_appoint_54 P s27 a1 a2 a3 a4 (0)))))))) ∧ (¬ r27 = 0 → P 0 s27)))
set_option maxHeartbeats 4000000 in
set_option maxRecDepth 100000 in
theorem j_X12_appoint_26 {P : Int32 → zTs → Prop}  (hfl : l.stackTraces = false) (C : zC Z p s m args meth c cX12_appoint 5 RX12) (hr : meth.sig.returnType = (some .int)) (hn9 : True)  (st : zTs) (a1 : Int32) (a2 : Int32) (a3 : Int32) (a4 : Int32) (b0 : Int32) (h : w_X12_appoint_26 P st a1 a2 a3 a4 b0) : zG Z ad0 h0 p l e ({ frames := 6, cells := 0, slots := 0, locals := 118 } : Room) s m args below meth c (MQ below (zQ Z ad0 h0 (zWi Z P)) args s 0 0 (zA Z)) 0 0 (zh Z zm1 st) 5 26 [some (.ref 100), some (.int (a1)), some (.int (a2)), some (.int (a3)), some (.int (a4))] [.int (b0), .ref 100] := by
  unfold w_X12_appoint_26 at h
  refine z_iconst C dX12_appoint_26 (v := 1) (by decide) ?_
  refine t_callV C (rest := []) (c2 := 0) (s2 := 0) (kd := 100) (i := 0) [.int (b0), .int (1)] dX12_appoint_27 lk_X12_205 li_X12_bad le_X12_bad (c_X12_bad hfl h) rfl rfl (by decide) rfl ⟨_, rfl⟩ rfl ⟨Nat.le_of_ble_eq_true rfl, Nat.le_of_ble_eq_true rfl⟩ (Nat.le_of_ble_eq_true rfl) ⟨Nat.le_of_ble_eq_true rfl, Nat.le_of_ble_eq_true rfl, Nat.le_of_ble_eq_true rfl, Nat.le_of_ble_eq_true rfl⟩ (k_Wi fun r27 s27 h => ?_)
  refine z_if_ne C dX12_appoint_30 (tgt := 61) (by decide) (fun c30 => ?_) (fun c30 => ?_)
  · have h := h.2 c30
    refine z_iconst C dX12_appoint_61 (v := 0) (by decide) ?_
    exact z_iret C dX12_appoint_62 hr rfl ⟨_, _, rfl, rfl, h⟩ (Nat.le_of_ble_eq_true rfl) (Nat.le_of_ble_eq_true rfl)
  · have h := h.1 c30
    refine z_aload_n C dX12_appoint_33 (i := 0) rfl rfl ?_
    refine z_iload_n C dX12_appoint_34 (i := 2) rfl rfl ?_
    refine t_callS C (rest := [.ref 100]) (c2 := 0) (s2 := 0) [.int (a2)] dX12_appoint_35 lk_X12_219 ls_X12_isSide (c_X12_isSide hfl h) rfl rfl ⟨Nat.le_of_ble_eq_true rfl, Nat.le_of_ble_eq_true rfl⟩ (Nat.le_of_ble_eq_true rfl) ⟨Nat.le_of_ble_eq_true rfl, Nat.le_of_ble_eq_true rfl, Nat.le_of_ble_eq_true rfl, Nat.le_of_ble_eq_true rfl⟩ (k_Ri fun r35 h => ?_)
    refine z_if_eq C dX12_appoint_38 (tgt := 49) (by decide) (fun c38 => ?_) (fun c38 => ?_)
    · have h := h.1 c38
      refine z_iconst C dX12_appoint_49 (v := 1) (by decide) ?_
      refine z_goto C dX12_appoint_50 (tgt := 54) (by decide) ?_
      exact t_drop [true, true, true, true, true] rfl (j_X12_appoint_54 hfl C hr hn9  s27 a1 a2 a3 a4 (1) h)
    · have h := h.2 c38
      refine z_iload C dX12_appoint_41 rfl ?_
      refine t_callS C (rest := [.ref 100]) (c2 := 0) (s2 := 0) [.int (a4)] dX12_appoint_43 lk_X12_219 ls_X12_isSide (c_X12_isSide hfl h) rfl rfl ⟨Nat.le_of_ble_eq_true rfl, Nat.le_of_ble_eq_true rfl⟩ (Nat.le_of_ble_eq_true rfl) ⟨Nat.le_of_ble_eq_true rfl, Nat.le_of_ble_eq_true rfl, Nat.le_of_ble_eq_true rfl, Nat.le_of_ble_eq_true rfl⟩ (k_Ri fun r43 h => ?_)
      refine z_if_ne C dX12_appoint_46 (tgt := 53) (by decide) (fun c46 => ?_) (fun c46 => ?_)
      · have h := h.2 c46
        refine z_iconst C dX12_appoint_53 (v := 0) (by decide) ?_
        exact t_drop [true, true, true, true, true] rfl (j_X12_appoint_54 hfl C hr hn9  s27 a1 a2 a3 a4 (0) h)
      · have h := h.1 c46
        refine z_iconst C dX12_appoint_49 (v := 1) (by decide) ?_
        refine z_goto C dX12_appoint_50 (tgt := 54) (by decide) ?_
        exact t_drop [true, true, true, true, true] rfl (j_X12_appoint_54 hfl C hr hn9  s27 a1 a2 a3 a4 (1) h)
def w_X12_appoint (st : zTs) (a1 : Int32) (a2 : Int32) (a3 : Int32) (a4 : Int32) (P : Int32 → zTs → Prop) : Prop := w_X12_isWork st a1 (fun (r2 : Int32) (s2 : zTs) => ((r2 = 0 → P 0 s2) ∧ (¬ r2 = 0 → (a3 < 0 → w_X12_appoint_26 P s2 a1 a2 a3 a4 (1)) ∧ (¬ a3 < 0 → (a3 < (zgF s2 100 0 41) → w_X12_appoint_26 P s2 a1 a2 a3 a4 (0)) ∧ (¬ a3 < (zgF s2 100 0 41) → w_X12_appoint_26 P s2 a1 a2 a3 a4 (1))))))
set_option maxHeartbeats 4000000 in
set_option maxRecDepth 100000 in
theorem c_X12_appoint {Z : zZ} {l : Launch} (hfl : l.stackTraces = false) {st : zTs} {a1 : Int32} {a2 : Int32} {a3 : Int32} {a4 : Int32} {P : Int32 → zTs → Prop} (h : w_X12_appoint st a1 a2 a3 a4 P) : zN Z l yX12_appoint cX12_appoint 5 (some .int) ({ frames := 6, cells := 0, slots := 0, locals := 118 } : Room) (zh Z zm1 st) [.ref 100, .int (a1), .int (a2), .int (a3), .int (a4)] (zWi Z P) := by
  unfold w_X12_appoint at h
  refine z_enterN (by decide) (Nat.le_of_ble_eq_true rfl) (lc0 := [some (.ref 100), some (.int (a1)), some (.int (a2)), some (.int (a3)), some (.int (a4))]) rfl ?_
  intro p e s m args below meth c ad0 C hr _
  have hn9 : True := trivial
  replace C : zC Z p s m args meth c cX12_appoint 5 RX12 := C
  refine z_aload_n C dX12_appoint_0 (i := 0) rfl rfl ?_
  refine z_iload_n C dX12_appoint_1 (i := 1) rfl rfl ?_
  refine t_callV C (rest := []) (c2 := 0) (s2 := 0) (kd := 100) (i := 0) [.int (a1)] dX12_appoint_2 lk_X12_387 li_X12_isWork le_X12_isWork (c_X12_isWork hfl h) rfl rfl (by decide) rfl ⟨_, rfl⟩ rfl ⟨Nat.le_of_ble_eq_true rfl, Nat.le_of_ble_eq_true rfl⟩ (Nat.le_of_ble_eq_true rfl) ⟨Nat.le_of_ble_eq_true rfl, Nat.le_of_ble_eq_true rfl, Nat.le_of_ble_eq_true rfl, Nat.le_of_ble_eq_true rfl⟩ (k_Wi fun r2 s2 h => ?_)
  refine z_if_eq C dX12_appoint_5 (tgt := 61) (by decide) (fun c5 => ?_) (fun c5 => ?_)
  · have h := h.1 c5
    refine z_iconst C dX12_appoint_61 (v := 0) (by decide) ?_
    exact z_iret C dX12_appoint_62 hr rfl ⟨_, _, rfl, rfl, h⟩ (Nat.le_of_ble_eq_true rfl) (Nat.le_of_ble_eq_true rfl)
  · have h := h.2 c5
    refine z_aload_n C dX12_appoint_8 (i := 0) rfl rfl ?_
    refine z_iload_n C dX12_appoint_9 (i := 3) rfl rfl ?_
    refine z_if_lt C dX12_appoint_10 (tgt := 21) (by decide) (fun c10 => ?_) (fun c10 => ?_)
    · have h := h.1 c10
      refine z_iconst C dX12_appoint_21 (v := 1) (by decide) ?_
      refine z_goto C dX12_appoint_22 (tgt := 26) (by decide) ?_
      exact t_drop [true, true, true, true, true] rfl (j_X12_appoint_26 hfl C hr hn9  s2 a1 a2 a3 a4 (1) h)
    · have h := h.2 c10
      refine z_iload_n C dX12_appoint_13 (i := 3) rfl rfl ?_
      refine z_aload_n C dX12_appoint_14 (i := 0) rfl rfl ?_
      refine t_get C dX12_appoint_15 fl_X12_414 (k := 100) (i := 0) (by decide) rfl (fg_100_41 _ _ _) ?_
      refine z_icmp_lt C dX12_appoint_18 (tgt := 25) (by decide) (fun c18 => ?_) (fun c18 => ?_)
      · have h := h.1 c18
        refine z_iconst C dX12_appoint_25 (v := 0) (by decide) ?_
        exact t_drop [true, true, true, true, true] rfl (j_X12_appoint_26 hfl C hr hn9  s2 a1 a2 a3 a4 (0) h)
      · have h := h.2 c18
        refine z_iconst C dX12_appoint_21 (v := 1) (by decide) ?_
        refine z_goto C dX12_appoint_22 (tgt := 26) (by decide) ?_
        exact t_drop [true, true, true, true, true] rfl (j_X12_appoint_26 hfl C hr hn9  s2 a1 a2 a3 a4 (1) h)
def w_X12_isWhich (st : zTs) (a0 : Int32) (P : Int32 → Prop) : Prop := (a0 < 0 → P 0) ∧ (¬ a0 < 0 → (2 < a0 → P 0) ∧ (¬ 2 < a0 → P 1))
set_option maxHeartbeats 4000000 in
set_option maxRecDepth 100000 in
theorem c_X12_isWhich {Z : zZ} {l : Launch} (hfl : l.stackTraces = false) {st : zTs} {a0 : Int32} {P : Int32 → Prop} (h : w_X12_isWhich st a0 P) : zN Z l yX12_isWhich cX12_isWhich 1 (some .boolean) ({ frames := 1, cells := 0, slots := 0, locals := 12 } : Room) (zh Z zm1 st) [.int (a0)] (zRi Z st P) := by
  unfold w_X12_isWhich at h
  refine z_enterN (by decide) (Nat.le_of_ble_eq_true rfl) (lc0 := [some (.int (a0))]) rfl ?_
  intro p e s m args below meth c ad0 C hr _
  have hn9 : True := trivial
  replace C : zC Z p s m args meth c cX12_isWhich 1 RX12 := C
  refine z_iload_n C dX12_isWhich_0 (i := 0) rfl rfl ?_
  refine z_if_lt C dX12_isWhich_1 (tgt := 13) (by decide) (fun c1 => ?_) (fun c1 => ?_)
  · have h := h.1 c1
    refine z_iconst C dX12_isWhich_13 (v := 0) (by decide) ?_
    exact z_iret C dX12_isWhich_14 hr rfl ⟨rfl, _, rfl, h⟩ (Nat.le_of_ble_eq_true rfl) (Nat.le_of_ble_eq_true rfl)
  · have h := h.2 c1
    refine z_iload_n C dX12_isWhich_4 (i := 0) rfl rfl ?_
    refine z_iconst C dX12_isWhich_5 (v := 2) (by decide) ?_
    refine z_icmp_gt C dX12_isWhich_6 (tgt := 13) (by decide) (fun c6 => ?_) (fun c6 => ?_)
    · have h := h.1 c6
      refine z_iconst C dX12_isWhich_13 (v := 0) (by decide) ?_
      exact z_iret C dX12_isWhich_14 hr rfl ⟨rfl, _, rfl, h⟩ (Nat.le_of_ble_eq_true rfl) (Nat.le_of_ble_eq_true rfl)
    · have h := h.2 c6
      refine z_iconst C dX12_isWhich_9 (v := 1) (by decide) ?_
      refine z_goto C dX12_isWhich_10 (tgt := 14) (by decide) ?_
      exact z_iret C dX12_isWhich_14 hr rfl ⟨rfl, _, rfl, h⟩ (Nat.le_of_ble_eq_true rfl) (Nat.le_of_ble_eq_true rfl)
def w_X12_surveys_21 (P : Int32 → zTs → Prop)  (st : zTs) (a1 : Int32) (a2 : Int32) (b0 : Int32) : Prop := w_X12_bad st b0 2 (fun (r22 : Int32) (s22 : zTs) => ((r22 = 0 → vp_in ((3 * a1) + a2) 90 ∧ (P (zgA s22 131 0 ((3 * a1) + a2 : Int32).toNatClampNeg) s22)) ∧ (¬ r22 = 0 → P 0 s22)))
set_option maxHeartbeats 4000000 in
set_option maxRecDepth 100000 in
theorem j_X12_surveys_21 {P : Int32 → zTs → Prop}  (hfl : l.stackTraces = false) (C : zC Z p s m args meth c cX12_surveys 3 RX12) (hr : meth.sig.returnType = (some .int)) (hn9 : True)  (st : zTs) (a1 : Int32) (a2 : Int32) (b0 : Int32) (h : w_X12_surveys_21 P st a1 a2 b0) : zG Z ad0 h0 p l e ({ frames := 2, cells := 0, slots := 0, locals := 34 } : Room) s m args below meth c (MQ below (zQ Z ad0 h0 (zWi Z P)) args s 0 0 (zA Z)) 0 0 (zh Z zm1 st) 3 21 [some (.ref 100), some (.int (a1)), some (.int (a2))] [.int (b0), .ref 100] := by
  unfold w_X12_surveys_21 at h
  refine z_iconst C dX12_surveys_21 (v := 2) (by decide) ?_
  refine t_callV C (rest := []) (c2 := 0) (s2 := 0) (kd := 100) (i := 0) [.int (b0), .int (2)] dX12_surveys_22 lk_X12_205 li_X12_bad le_X12_bad (c_X12_bad hfl h) rfl rfl (by decide) rfl ⟨_, rfl⟩ rfl ⟨Nat.le_of_ble_eq_true rfl, Nat.le_of_ble_eq_true rfl⟩ (Nat.le_of_ble_eq_true rfl) ⟨Nat.le_of_ble_eq_true rfl, Nat.le_of_ble_eq_true rfl, Nat.le_of_ble_eq_true rfl, Nat.le_of_ble_eq_true rfl⟩ (k_Wi fun r22 s22 h => ?_)
  refine z_if_eq C dX12_surveys_25 (tgt := 30) (by decide) (fun c25 => ?_) (fun c25 => ?_)
  · have h := h.1 c25
    refine z_aload_n C dX12_surveys_30 (i := 0) rfl rfl ?_
    refine t_get C dX12_surveys_31 fl_X12_106 (k := 100) (i := 0) (by decide) rfl (fg_100_44 _ _ _) ?_
    refine z_iconst C dX12_surveys_34 (v := 3) (by decide) ?_
    refine z_iload_n C dX12_surveys_35 (i := 1) rfl rfl ?_
    refine z_imul C dX12_surveys_36 ?_
    refine z_iload_n C dX12_surveys_37 (i := 2) rfl rfl ?_
    refine z_iadd C dX12_surveys_38 ?_
    obtain ⟨g39, h⟩ := h
    refine t_iald C dX12_surveys_39 (k := 131) (i := 0) (by decide) rfl (sh_131 _ _ _ _) g39 ?_
    exact z_iret C dX12_surveys_40 hr rfl ⟨_, _, rfl, rfl, h⟩ (Nat.le_of_ble_eq_true rfl) (Nat.le_of_ble_eq_true rfl)
  · have h := h.2 c25
    refine z_iconst C dX12_surveys_28 (v := 0) (by decide) ?_
    exact z_iret C dX12_surveys_29 hr rfl ⟨_, _, rfl, rfl, h⟩ (Nat.le_of_ble_eq_true rfl) (Nat.le_of_ble_eq_true rfl)
def w_X12_surveys (st : zTs) (a1 : Int32) (a2 : Int32) (P : Int32 → zTs → Prop) : Prop := w_X12_isWork st a1 (fun (r2 : Int32) (s2 : zTs) => ((r2 = 0 → P 0 s2) ∧ (¬ r2 = 0 → w_X12_isWhich s2 a2 (fun (r10 : Int32) => ((r10 = 0 → w_X12_surveys_21 P s2 a1 a2 (1)) ∧ (¬ r10 = 0 → w_X12_surveys_21 P s2 a1 a2 (0)))))))
set_option maxHeartbeats 4000000 in
set_option maxRecDepth 100000 in
theorem c_X12_surveys {Z : zZ} {l : Launch} (hfl : l.stackTraces = false) {st : zTs} {a1 : Int32} {a2 : Int32} {P : Int32 → zTs → Prop} (h : w_X12_surveys st a1 a2 P) : zN Z l yX12_surveys cX12_surveys 3 (some .int) ({ frames := 2, cells := 0, slots := 0, locals := 34 } : Room) (zh Z zm1 st) [.ref 100, .int (a1), .int (a2)] (zWi Z P) := by
  unfold w_X12_surveys at h
  refine z_enterN (by decide) (Nat.le_of_ble_eq_true rfl) (lc0 := [some (.ref 100), some (.int (a1)), some (.int (a2))]) rfl ?_
  intro p e s m args below meth c ad0 C hr _
  have hn9 : True := trivial
  replace C : zC Z p s m args meth c cX12_surveys 3 RX12 := C
  refine z_aload_n C dX12_surveys_0 (i := 0) rfl rfl ?_
  refine z_iload_n C dX12_surveys_1 (i := 1) rfl rfl ?_
  refine t_callV C (rest := []) (c2 := 0) (s2 := 0) (kd := 100) (i := 0) [.int (a1)] dX12_surveys_2 lk_X12_387 li_X12_isWork le_X12_isWork (c_X12_isWork hfl h) rfl rfl (by decide) rfl ⟨_, rfl⟩ rfl ⟨Nat.le_of_ble_eq_true rfl, Nat.le_of_ble_eq_true rfl⟩ (Nat.le_of_ble_eq_true rfl) ⟨Nat.le_of_ble_eq_true rfl, Nat.le_of_ble_eq_true rfl, Nat.le_of_ble_eq_true rfl, Nat.le_of_ble_eq_true rfl⟩ (k_Wi fun r2 s2 h => ?_)
  refine z_if_eq C dX12_surveys_5 (tgt := 28) (by decide) (fun c5 => ?_) (fun c5 => ?_)
  · have h := h.1 c5
    refine z_iconst C dX12_surveys_28 (v := 0) (by decide) ?_
    exact z_iret C dX12_surveys_29 hr rfl ⟨_, _, rfl, rfl, h⟩ (Nat.le_of_ble_eq_true rfl) (Nat.le_of_ble_eq_true rfl)
  · have h := h.2 c5
    refine z_aload_n C dX12_surveys_8 (i := 0) rfl rfl ?_
    refine z_iload_n C dX12_surveys_9 (i := 2) rfl rfl ?_
    refine t_callS C (rest := [.ref 100]) (c2 := 0) (s2 := 0) [.int (a2)] dX12_surveys_10 lk_X12_424 ls_X12_isWhich (c_X12_isWhich hfl h) rfl rfl ⟨Nat.le_of_ble_eq_true rfl, Nat.le_of_ble_eq_true rfl⟩ (Nat.le_of_ble_eq_true rfl) ⟨Nat.le_of_ble_eq_true rfl, Nat.le_of_ble_eq_true rfl, Nat.le_of_ble_eq_true rfl, Nat.le_of_ble_eq_true rfl⟩ (k_Ri fun r10 h => ?_)
    refine z_if_ne C dX12_surveys_13 (tgt := 20) (by decide) (fun c13 => ?_) (fun c13 => ?_)
    · have h := h.2 c13
      refine z_iconst C dX12_surveys_20 (v := 0) (by decide) ?_
      exact t_drop [true, true, true] rfl (j_X12_surveys_21 hfl C hr hn9  s2 a1 a2 (0) h)
    · have h := h.1 c13
      refine z_iconst C dX12_surveys_16 (v := 1) (by decide) ?_
      refine z_goto C dX12_surveys_17 (tgt := 21) (by decide) ?_
      exact t_drop [true, true, true] rfl (j_X12_surveys_21 hfl C hr hn9  s2 a1 a2 (1) h)
def w_X12_propose_271 (P : Int32 → zTs → Prop)  : Nat → zTs → Int32 → Int32 → Prop
  | 0, _, _, _ => False
  | n9 + 1, st, a1, a9 => (3 ≤ a9 → P 1 st) ∧ (¬ 3 ≤ a9 → vp_in ((3 * a1) + a9) 90 ∧ (∀ s288 : zTs, s288 = zuA st 132 0 ((3 * a1) + a9 : Int32).toNatClampNeg (-1) → (∀ x289 : Int32, x289 = a9 + 1 → ((w_X12_propose_271 P n9) s288 a1 x289))))
set_option maxHeartbeats 4000000 in
set_option maxRecDepth 100000 in
theorem j_X12_propose_271 {P : Int32 → zTs → Prop}  (hfl : l.stackTraces = false) (C : zC Z p s m args meth c cX12_propose 11 RX12) (hr : meth.sig.returnType = (some .int)) (hn9 : True)  : ∀ (n9 : Nat) (st : zTs) (a1 : Int32) (a9 : Int32), w_X12_propose_271 P n9 st a1 a9 → zG Z ad0 h0 p l e ({ frames := 6, cells := 0, slots := 0, locals := 118 } : Room) s m args below meth c (MQ below (zQ Z ad0 h0 (zWi Z P)) args s 0 0 (zA Z)) 0 0 (zh Z zm1 st) 11 271 [some (.ref 100), some (.int (a1)), none, none, none, none, none, none, none, some (.int (a9)), none] [] := by
  intro n9
  induction n9 with
  | zero => intro st a1 a9 h; exact h.elim
  | succ n9 hK271 =>
    intro st a1 a9 h
    rw [w_X12_propose_271] at h
    refine z_iload C dX12_propose_271 rfl ?_
    refine z_iconst C dX12_propose_273 (v := 3) (by decide) ?_
    refine z_icmp_ge C dX12_propose_274 (tgt := 295) (by decide) (fun c274 => ?_) (fun c274 => ?_)
    · have h := h.1 c274
      refine z_iconst C dX12_propose_295 (v := 1) (by decide) ?_
      exact z_iret C dX12_propose_296 hr rfl ⟨_, _, rfl, rfl, h⟩ (Nat.le_of_ble_eq_true rfl) (Nat.le_of_ble_eq_true rfl)
    · have h := h.2 c274
      refine z_aload_n C dX12_propose_277 (i := 0) rfl rfl ?_
      refine t_get C dX12_propose_278 fl_X12_109 (k := 100) (i := 0) (by decide) rfl (fg_100_45 _ _ _) ?_
      refine z_iconst C dX12_propose_281 (v := 3) (by decide) ?_
      refine z_iload_n C dX12_propose_282 (i := 1) rfl rfl ?_
      refine z_imul C dX12_propose_283 ?_
      refine z_iload C dX12_propose_284 rfl ?_
      refine z_iadd C dX12_propose_286 ?_
      refine z_iconst C dX12_propose_287 (v := (-1)) (by decide) ?_
      obtain ⟨g288, h⟩ := h
      refine t_iast C dX12_propose_288 (k := 132) (i := 0) (by decide) rfl (fun s9 => sh_132 _ _ s9 _) g288 ?_
      refine t_tops (fun s288 es288 => ?_)
      have h := h s288 es288
      obtain ⟨x289, ex289⟩ : ∃ z : Int32, z = a9 + 1 := ⟨_, rfl⟩
      have h := h x289 ex289
      refine z_iinc C dX12_propose_289 (v := x289) (lc' := [some (.ref 100), some (.int (a1)), none, none, none, none, none, none, none, some (.int (x289)), none]) rfl (by decide) (by rw [ex289]; rfl) rfl ?_
      refine z_goto C dX12_propose_292 (tgt := 271) (by decide) ?_
      exact t_drop [true, true, false, false, false, false, false, false, false, true, false] rfl (hK271 s288 a1 x289 h)
def w_X12_propose_213 (P : Int32 → zTs → Prop) (K148 : zTs → Int32 → Int32 → Int32 → Int32 → Int32 → Int32 → Int32 → Prop) (st : zTs) (a1 : Int32) (a2 : Int32) (a3 : Int32) (a4 : Int32) (a5 : Int32) (a9 : Int32) (b0 : Int32) : Prop := ∀ x215 : Int32, x215 = a9 + 1 → (K148 st a1 a2 a3 a4 a5 b0 x215)
set_option maxHeartbeats 4000000 in
set_option maxRecDepth 100000 in
theorem j_X12_propose_213 {P : Int32 → zTs → Prop} {K148 : zTs → Int32 → Int32 → Int32 → Int32 → Int32 → Int32 → Int32 → Prop} (hfl : l.stackTraces = false) (C : zC Z p s m args meth c cX12_propose 11 RX12) (hr : meth.sig.returnType = (some .int)) (hn9 : True) (hK148 : ∀ (st : zTs) (a1 : Int32) (a2 : Int32) (a3 : Int32) (a4 : Int32) (a5 : Int32) (a8 : Int32) (a9 : Int32), K148 st a1 a2 a3 a4 a5 a8 a9 → zG Z ad0 h0 p l e ({ frames := 6, cells := 0, slots := 0, locals := 118 } : Room) s m args below meth c (MQ below (zQ Z ad0 h0 (zWi Z P)) args s 0 0 (zA Z)) 0 0 (zh Z zm1 st) 11 148 [some (.ref 100), some (.int (a1)), some (.int (a2)), some (.int (a3)), some (.int (a4)), some (.int (a5)), none, none, some (.int (a8)), some (.int (a9)), none] []) (st : zTs) (a1 : Int32) (a2 : Int32) (a3 : Int32) (a4 : Int32) (a5 : Int32) (a9 : Int32) (b0 : Int32) (h : w_X12_propose_213 P K148 st a1 a2 a3 a4 a5 a9 b0) : zG Z ad0 h0 p l e ({ frames := 6, cells := 0, slots := 0, locals := 118 } : Room) s m args below meth c (MQ below (zQ Z ad0 h0 (zWi Z P)) args s 0 0 (zA Z)) 0 0 (zh Z zm1 st) 11 213 [some (.ref 100), some (.int (a1)), some (.int (a2)), some (.int (a3)), some (.int (a4)), some (.int (a5)), none, none, none, some (.int (a9)), none] [.int (b0)] := by
  unfold w_X12_propose_213 at h
  refine z_istore C dX12_propose_213 (lc' := [some (.ref 100), some (.int (a1)), some (.int (a2)), some (.int (a3)), some (.int (a4)), some (.int (a5)), none, none, some (.int (b0)), some (.int (a9)), none]) (by decide) rfl ?_
  obtain ⟨x215, ex215⟩ : ∃ z : Int32, z = a9 + 1 := ⟨_, rfl⟩
  have h := h x215 ex215
  refine z_iinc C dX12_propose_215 (v := x215) (lc' := [some (.ref 100), some (.int (a1)), some (.int (a2)), some (.int (a3)), some (.int (a4)), some (.int (a5)), none, none, some (.int (b0)), some (.int (x215)), none]) rfl (by decide) (by rw [ex215]; rfl) rfl ?_
  refine z_goto C dX12_propose_218 (tgt := 148) (by decide) ?_
  exact t_drop [true, true, true, true, true, true, false, false, true, true, false] rfl (hK148 st a1 a2 a3 a4 a5 b0 x215 h)
def w_X12_propose_212 (P : Int32 → zTs → Prop) (K148 : zTs → Int32 → Int32 → Int32 → Int32 → Int32 → Int32 → Int32 → Prop) (st : zTs) (a1 : Int32) (a2 : Int32) (a3 : Int32) (a4 : Int32) (a5 : Int32) (a9 : Int32) : Prop := w_X12_propose_213 P K148 st a1 a2 a3 a4 a5 a9 (0)
set_option maxHeartbeats 4000000 in
set_option maxRecDepth 100000 in
theorem j_X12_propose_212 {P : Int32 → zTs → Prop} {K148 : zTs → Int32 → Int32 → Int32 → Int32 → Int32 → Int32 → Int32 → Prop} (hfl : l.stackTraces = false) (C : zC Z p s m args meth c cX12_propose 11 RX12) (hr : meth.sig.returnType = (some .int)) (hn9 : True) (hK148 : ∀ (st : zTs) (a1 : Int32) (a2 : Int32) (a3 : Int32) (a4 : Int32) (a5 : Int32) (a8 : Int32) (a9 : Int32), K148 st a1 a2 a3 a4 a5 a8 a9 → zG Z ad0 h0 p l e ({ frames := 6, cells := 0, slots := 0, locals := 118 } : Room) s m args below meth c (MQ below (zQ Z ad0 h0 (zWi Z P)) args s 0 0 (zA Z)) 0 0 (zh Z zm1 st) 11 148 [some (.ref 100), some (.int (a1)), some (.int (a2)), some (.int (a3)), some (.int (a4)), some (.int (a5)), none, none, some (.int (a8)), some (.int (a9)), none] []) (st : zTs) (a1 : Int32) (a2 : Int32) (a3 : Int32) (a4 : Int32) (a5 : Int32) (a9 : Int32) (h : w_X12_propose_212 P K148 st a1 a2 a3 a4 a5 a9) : zG Z ad0 h0 p l e ({ frames := 6, cells := 0, slots := 0, locals := 118 } : Room) s m args below meth c (MQ below (zQ Z ad0 h0 (zWi Z P)) args s 0 0 (zA Z)) 0 0 (zh Z zm1 st) 11 212 [some (.ref 100), some (.int (a1)), some (.int (a2)), some (.int (a3)), some (.int (a4)), some (.int (a5)), none, none, none, some (.int (a9)), none] [] := by
  unfold w_X12_propose_212 at h
  refine z_iconst C dX12_propose_212 (v := 0) (by decide) ?_
  exact t_drop [true, true, true, true, true, true, false, false, false, true, false] rfl (j_X12_propose_213 hfl C hr hn9 hK148 st a1 a2 a3 a4 a5 a9 (0) h)
def w_X12_propose_148 (P : Int32 → zTs → Prop)  : Nat → zTs → Int32 → Int32 → Int32 → Int32 → Int32 → Int32 → Int32 → Prop
  | 0, _, _, _, _, _, _, _, _ => False
  | n9 + 1, st, a1, a2, a3, a4, a5, a8, a9 => (3 ≤ a9 → (a8 = 0 → P 0 st) ∧ (¬ a8 = 0 → vp_in a1 30 ∧ (∀ s234 : zTs, s234 = zuA st 120 0 (a1 : Int32).toNatClampNeg (vp_nar .boolean 1) → (vp_in a1 30 ∧ (∀ s244 : zTs, s244 = zuA s234 121 0 (a1 : Int32).toNatClampNeg (zgF s234 100 0 3) → (vp_in a1 30 ∧ (∀ s251 : zTs, s251 = zuA s244 122 0 (a1 : Int32).toNatClampNeg a3 → (vp_in a1 30 ∧ (∀ s259 : zTs, s259 = zuA s251 123 0 (a1 : Int32).toNatClampNeg a4 → (vp_in a1 30 ∧ (∀ s267 : zTs, s267 = zuA s259 124 0 (a1 : Int32).toNatClampNeg a5 → (w_X12_propose_271 P zfu s267 a1 (0))))))))))))) ∧ (¬ 3 ≤ a9 → ∀ x160 : Int32, x160 = (3 * a1) + a9 → ((a8 = 0 → (a9 = a2 → w_X12_propose_212 P (w_X12_propose_148 P n9) st a1 a2 a3 a4 a5 a9) ∧ (¬ a9 = a2 → vp_in x160 90 ∧ (((zgA st 132 0 (x160 : Int32).toNatClampNeg) = a3 → vp_in x160 90 ∧ (((zgA st 133 0 (x160 : Int32).toNatClampNeg) = a4 → vp_in x160 90 ∧ (((zgA st 134 0 (x160 : Int32).toNatClampNeg) = a5 → w_X12_propose_213 P (w_X12_propose_148 P n9) st a1 a2 a3 a4 a5 a9 (1)) ∧ (¬ (zgA st 134 0 (x160 : Int32).toNatClampNeg) = a5 → w_X12_propose_212 P (w_X12_propose_148 P n9) st a1 a2 a3 a4 a5 a9))) ∧ (¬ (zgA st 133 0 (x160 : Int32).toNatClampNeg) = a4 → w_X12_propose_212 P (w_X12_propose_148 P n9) st a1 a2 a3 a4 a5 a9))) ∧ (¬ (zgA st 132 0 (x160 : Int32).toNatClampNeg) = a3 → w_X12_propose_212 P (w_X12_propose_148 P n9) st a1 a2 a3 a4 a5 a9)))) ∧ (¬ a8 = 0 → w_X12_propose_213 P (w_X12_propose_148 P n9) st a1 a2 a3 a4 a5 a9 (1))))
set_option maxHeartbeats 4000000 in
set_option maxRecDepth 100000 in
theorem j_X12_propose_148 {P : Int32 → zTs → Prop}  (hfl : l.stackTraces = false) (C : zC Z p s m args meth c cX12_propose 11 RX12) (hr : meth.sig.returnType = (some .int)) (hn9 : True)  : ∀ (n9 : Nat) (st : zTs) (a1 : Int32) (a2 : Int32) (a3 : Int32) (a4 : Int32) (a5 : Int32) (a8 : Int32) (a9 : Int32), w_X12_propose_148 P n9 st a1 a2 a3 a4 a5 a8 a9 → zG Z ad0 h0 p l e ({ frames := 6, cells := 0, slots := 0, locals := 118 } : Room) s m args below meth c (MQ below (zQ Z ad0 h0 (zWi Z P)) args s 0 0 (zA Z)) 0 0 (zh Z zm1 st) 11 148 [some (.ref 100), some (.int (a1)), some (.int (a2)), some (.int (a3)), some (.int (a4)), some (.int (a5)), none, none, some (.int (a8)), some (.int (a9)), none] [] := by
  intro n9
  induction n9 with
  | zero => intro st a1 a2 a3 a4 a5 a8 a9 h; exact h.elim
  | succ n9 hK148 =>
    intro st a1 a2 a3 a4 a5 a8 a9 h
    rw [w_X12_propose_148] at h
    refine z_iload C dX12_propose_148 rfl ?_
    refine z_iconst C dX12_propose_150 (v := 3) (by decide) ?_
    refine z_icmp_ge C dX12_propose_151 (tgt := 221) (by decide) (fun c151 => ?_) (fun c151 => ?_)
    · have h := h.1 c151
      refine z_iload C dX12_propose_221 rfl ?_
      refine z_if_ne C dX12_propose_223 (tgt := 228) (by decide) (fun c223 => ?_) (fun c223 => ?_)
      · have h := h.2 c223
        refine z_aload_n C dX12_propose_228 (i := 0) rfl rfl ?_
        refine t_get C dX12_propose_229 fl_X12_73 (k := 100) (i := 0) (by decide) rfl (fg_100_32 _ _ _) ?_
        refine z_iload_n C dX12_propose_232 (i := 1) rfl rfl ?_
        refine z_iconst C dX12_propose_233 (v := 1) (by decide) ?_
        obtain ⟨g234, h⟩ := h
        refine t_zast C dX12_propose_234 (k := 120) (i := 0) (by decide) rfl (fun s9 => sh_120 _ _ s9 _) g234 ?_
        refine t_tops (fun s234 es234 => ?_)
        have h := h s234 es234
        refine z_aload_n C dX12_propose_235 (i := 0) rfl rfl ?_
        refine t_get C dX12_propose_236 fl_X12_76 (k := 100) (i := 0) (by decide) rfl (fg_100_33 _ _ _) ?_
        refine z_iload_n C dX12_propose_239 (i := 1) rfl rfl ?_
        refine z_aload_n C dX12_propose_240 (i := 0) rfl rfl ?_
        refine t_get C dX12_propose_241 fl_X12_222 (k := 100) (i := 0) (by decide) rfl (fg_100_3 _ _ _) ?_
        obtain ⟨g244, h⟩ := h
        refine t_iast C dX12_propose_244 (k := 121) (i := 0) (by decide) rfl (fun s9 => sh_121 _ _ s9 _) g244 ?_
        refine t_tops (fun s244 es244 => ?_)
        have h := h s244 es244
        refine z_aload_n C dX12_propose_245 (i := 0) rfl rfl ?_
        refine t_get C dX12_propose_246 fl_X12_79 (k := 100) (i := 0) (by decide) rfl (fg_100_34 _ _ _) ?_
        refine z_iload_n C dX12_propose_249 (i := 1) rfl rfl ?_
        refine z_iload_n C dX12_propose_250 (i := 3) rfl rfl ?_
        obtain ⟨g251, h⟩ := h
        refine t_iast C dX12_propose_251 (k := 122) (i := 0) (by decide) rfl (fun s9 => sh_122 _ _ s9 _) g251 ?_
        refine t_tops (fun s251 es251 => ?_)
        have h := h s251 es251
        refine z_aload_n C dX12_propose_252 (i := 0) rfl rfl ?_
        refine t_get C dX12_propose_253 fl_X12_82 (k := 100) (i := 0) (by decide) rfl (fg_100_35 _ _ _) ?_
        refine z_iload_n C dX12_propose_256 (i := 1) rfl rfl ?_
        refine z_iload C dX12_propose_257 rfl ?_
        obtain ⟨g259, h⟩ := h
        refine t_iast C dX12_propose_259 (k := 123) (i := 0) (by decide) rfl (fun s9 => sh_123 _ _ s9 _) g259 ?_
        refine t_tops (fun s259 es259 => ?_)
        have h := h s259 es259
        refine z_aload_n C dX12_propose_260 (i := 0) rfl rfl ?_
        refine t_get C dX12_propose_261 fl_X12_85 (k := 100) (i := 0) (by decide) rfl (fg_100_36 _ _ _) ?_
        refine z_iload_n C dX12_propose_264 (i := 1) rfl rfl ?_
        refine z_iload C dX12_propose_265 rfl ?_
        obtain ⟨g267, h⟩ := h
        refine t_iast C dX12_propose_267 (k := 124) (i := 0) (by decide) rfl (fun s9 => sh_124 _ _ s9 _) g267 ?_
        refine t_tops (fun s267 es267 => ?_)
        have h := h s267 es267
        refine z_iconst C dX12_propose_268 (v := 0) (by decide) ?_
        refine z_istore C dX12_propose_269 (lc' := [some (.ref 100), some (.int (a1)), some (.int (a2)), some (.int (a3)), some (.int (a4)), some (.int (a5)), none, none, some (.int (a8)), some (.int (0)), none]) (by decide) rfl ?_
        exact t_drop [true, true, false, false, false, false, false, false, false, true, false] rfl (j_X12_propose_271 hfl C hr hn9  zfu s267 a1 (0) h)
      · have h := h.1 c223
        refine z_iconst C dX12_propose_226 (v := 0) (by decide) ?_
        exact z_iret C dX12_propose_227 hr rfl ⟨_, _, rfl, rfl, h⟩ (Nat.le_of_ble_eq_true rfl) (Nat.le_of_ble_eq_true rfl)
    · have h := h.2 c151
      refine z_iconst C dX12_propose_154 (v := 3) (by decide) ?_
      refine z_iload_n C dX12_propose_155 (i := 1) rfl rfl ?_
      refine z_imul C dX12_propose_156 ?_
      refine z_iload C dX12_propose_157 rfl ?_
      refine z_iadd C dX12_propose_159 ?_
      refine t_topi (fun x160 ex160 => ?_)
      have h := h x160 ex160
      refine z_istore C dX12_propose_160 (lc' := [some (.ref 100), some (.int (a1)), some (.int (a2)), some (.int (a3)), some (.int (a4)), some (.int (a5)), none, none, some (.int (a8)), some (.int (a9)), some (.int (x160))]) (by decide) rfl ?_
      refine z_iload C dX12_propose_162 rfl ?_
      refine z_if_ne C dX12_propose_164 (tgt := 208) (by decide) (fun c164 => ?_) (fun c164 => ?_)
      · have h := h.2 c164
        refine z_iconst C dX12_propose_208 (v := 1) (by decide) ?_
        refine z_goto C dX12_propose_209 (tgt := 213) (by decide) ?_
        exact t_drop [true, true, true, true, true, true, false, false, false, true, false] rfl (j_X12_propose_213 hfl C hr hn9 hK148 st a1 a2 a3 a4 a5 a9 (1) h)
      · have h := h.1 c164
        refine z_iload C dX12_propose_167 rfl ?_
        refine z_iload_n C dX12_propose_169 (i := 2) rfl rfl ?_
        refine z_icmp_eq C dX12_propose_170 (tgt := 212) (by decide) (fun c170 => ?_) (fun c170 => ?_)
        · have h := h.1 c170
          exact t_drop [true, true, true, true, true, true, false, false, false, true, false] rfl (j_X12_propose_212 hfl C hr hn9 hK148 st a1 a2 a3 a4 a5 a9 h)
        · have h := h.2 c170
          refine z_aload_n C dX12_propose_173 (i := 0) rfl rfl ?_
          refine t_get C dX12_propose_174 fl_X12_109 (k := 100) (i := 0) (by decide) rfl (fg_100_45 _ _ _) ?_
          refine z_iload C dX12_propose_177 rfl ?_
          obtain ⟨g179, h⟩ := h
          refine t_iald C dX12_propose_179 (k := 132) (i := 0) (by decide) rfl (sh_132 _ _ _ _) g179 ?_
          refine z_iload_n C dX12_propose_180 (i := 3) rfl rfl ?_
          refine z_icmp_ne C dX12_propose_181 (tgt := 212) (by decide) (fun c181 => ?_) (fun c181 => ?_)
          · have h := h.2 c181
            exact t_drop [true, true, true, true, true, true, false, false, false, true, false] rfl (j_X12_propose_212 hfl C hr hn9 hK148 st a1 a2 a3 a4 a5 a9 h)
          · have h := h.1 c181
            refine z_aload_n C dX12_propose_184 (i := 0) rfl rfl ?_
            refine t_get C dX12_propose_185 fl_X12_112 (k := 100) (i := 0) (by decide) rfl (fg_100_46 _ _ _) ?_
            refine z_iload C dX12_propose_188 rfl ?_
            obtain ⟨g190, h⟩ := h
            refine t_iald C dX12_propose_190 (k := 133) (i := 0) (by decide) rfl (sh_133 _ _ _ _) g190 ?_
            refine z_iload C dX12_propose_191 rfl ?_
            refine z_icmp_ne C dX12_propose_193 (tgt := 212) (by decide) (fun c193 => ?_) (fun c193 => ?_)
            · have h := h.2 c193
              exact t_drop [true, true, true, true, true, true, false, false, false, true, false] rfl (j_X12_propose_212 hfl C hr hn9 hK148 st a1 a2 a3 a4 a5 a9 h)
            · have h := h.1 c193
              refine z_aload_n C dX12_propose_196 (i := 0) rfl rfl ?_
              refine t_get C dX12_propose_197 fl_X12_115 (k := 100) (i := 0) (by decide) rfl (fg_100_47 _ _ _) ?_
              refine z_iload C dX12_propose_200 rfl ?_
              obtain ⟨g202, h⟩ := h
              refine t_iald C dX12_propose_202 (k := 134) (i := 0) (by decide) rfl (sh_134 _ _ _ _) g202 ?_
              refine z_iload C dX12_propose_203 rfl ?_
              refine z_icmp_ne C dX12_propose_205 (tgt := 212) (by decide) (fun c205 => ?_) (fun c205 => ?_)
              · have h := h.2 c205
                exact t_drop [true, true, true, true, true, true, false, false, false, true, false] rfl (j_X12_propose_212 hfl C hr hn9 hK148 st a1 a2 a3 a4 a5 a9 h)
              · have h := h.1 c205
                refine z_iconst C dX12_propose_208 (v := 1) (by decide) ?_
                refine z_goto C dX12_propose_209 (tgt := 213) (by decide) ?_
                exact t_drop [true, true, true, true, true, true, false, false, false, true, false] rfl (j_X12_propose_213 hfl C hr hn9 hK148 st a1 a2 a3 a4 a5 a9 (1) h)
def w_X12_propose_60 (P : Int32 → zTs → Prop)  (st : zTs) (a1 : Int32) (a2 : Int32) (a3 : Int32) (a4 : Int32) (a5 : Int32) (b0 : Int32) : Prop := w_X12_isWork st a1 (fun (r64 : Int32) (s64 : zTs) => ((r64 = 0 → P 0 s64) ∧ (¬ r64 = 0 → w_X12_bad s64 b0 2 (fun (r74 : Int32) (s74 : zTs) => ((r74 = 0 → w_X12_stateOf s74 a1 (fun (r84 : Int32) => ((r84 = 4 → vp_in ((3 * a1) + a2) 90 ∧ ((0 ≤ (zgA s74 131 0 ((3 * a1) + a2 : Int32).toNatClampNeg) → ∀ x114 : Int32, x114 = (3 * a1) + a2 → (vp_in x114 90 ∧ (∀ s123 : zTs, s123 = zuA s74 132 0 (x114 : Int32).toNatClampNeg a3 → (vp_in x114 90 ∧ (∀ s132 : zTs, s132 = zuA s123 133 0 (x114 : Int32).toNatClampNeg a4 → (vp_in x114 90 ∧ (∀ s141 : zTs, s141 = zuA s132 134 0 (x114 : Int32).toNatClampNeg a5 → (w_X12_propose_148 P zfu s141 a1 a2 a3 a4 a5 (0) (0))))))))) ∧ (¬ 0 ≤ (zgA s74 131 0 ((3 * a1) + a2 : Int32).toNatClampNeg) → P (-2) s74))) ∧ (¬ r84 = 4 → P (-1) s74)))) ∧ (¬ r74 = 0 → P 0 s74))))))
set_option maxHeartbeats 4000000 in
set_option maxRecDepth 100000 in
theorem j_X12_propose_60 {P : Int32 → zTs → Prop}  (hfl : l.stackTraces = false) (C : zC Z p s m args meth c cX12_propose 11 RX12) (hr : meth.sig.returnType = (some .int)) (hn9 : True)  (st : zTs) (a1 : Int32) (a2 : Int32) (a3 : Int32) (a4 : Int32) (a5 : Int32) (b0 : Int32) (h : w_X12_propose_60 P st a1 a2 a3 a4 a5 b0) : zG Z ad0 h0 p l e ({ frames := 6, cells := 0, slots := 0, locals := 118 } : Room) s m args below meth c (MQ below (zQ Z ad0 h0 (zWi Z P)) args s 0 0 (zA Z)) 0 0 (zh Z zm1 st) 11 60 [some (.ref 100), some (.int (a1)), some (.int (a2)), some (.int (a3)), some (.int (a4)), some (.int (a5)), none, none, none, none, none] [.int (b0)] := by
  unfold w_X12_propose_60 at h
  refine z_istore C dX12_propose_60 (lc' := [some (.ref 100), some (.int (a1)), some (.int (a2)), some (.int (a3)), some (.int (a4)), some (.int (a5)), some (.int (b0)), none, none, none, none]) (by decide) rfl ?_
  refine z_aload_n C dX12_propose_62 (i := 0) rfl rfl ?_
  refine z_iload_n C dX12_propose_63 (i := 1) rfl rfl ?_
  refine t_callV C (rest := []) (c2 := 0) (s2 := 0) (kd := 100) (i := 0) [.int (a1)] dX12_propose_64 lk_X12_387 li_X12_isWork le_X12_isWork (c_X12_isWork hfl h) rfl rfl (by decide) rfl ⟨_, rfl⟩ rfl ⟨Nat.le_of_ble_eq_true rfl, Nat.le_of_ble_eq_true rfl⟩ (Nat.le_of_ble_eq_true rfl) ⟨Nat.le_of_ble_eq_true rfl, Nat.le_of_ble_eq_true rfl, Nat.le_of_ble_eq_true rfl, Nat.le_of_ble_eq_true rfl⟩ (k_Wi fun r64 s64 h => ?_)
  refine z_if_eq C dX12_propose_67 (tgt := 80) (by decide) (fun c67 => ?_) (fun c67 => ?_)
  · have h := h.1 c67
    refine z_iconst C dX12_propose_80 (v := 0) (by decide) ?_
    exact z_iret C dX12_propose_81 hr rfl ⟨_, _, rfl, rfl, h⟩ (Nat.le_of_ble_eq_true rfl) (Nat.le_of_ble_eq_true rfl)
  · have h := h.2 c67
    refine z_aload_n C dX12_propose_70 (i := 0) rfl rfl ?_
    refine z_iload C dX12_propose_71 rfl ?_
    refine z_iconst C dX12_propose_73 (v := 2) (by decide) ?_
    refine t_callV C (rest := []) (c2 := 0) (s2 := 0) (kd := 100) (i := 0) [.int (b0), .int (2)] dX12_propose_74 lk_X12_205 li_X12_bad le_X12_bad (c_X12_bad hfl h) rfl rfl (by decide) rfl ⟨_, rfl⟩ rfl ⟨Nat.le_of_ble_eq_true rfl, Nat.le_of_ble_eq_true rfl⟩ (Nat.le_of_ble_eq_true rfl) ⟨Nat.le_of_ble_eq_true rfl, Nat.le_of_ble_eq_true rfl, Nat.le_of_ble_eq_true rfl, Nat.le_of_ble_eq_true rfl⟩ (k_Wi fun r74 s74 h => ?_)
    refine z_if_eq C dX12_propose_77 (tgt := 82) (by decide) (fun c77 => ?_) (fun c77 => ?_)
    · have h := h.1 c77
      refine z_aload_n C dX12_propose_82 (i := 0) rfl rfl ?_
      refine z_iload_n C dX12_propose_83 (i := 1) rfl rfl ?_
      refine t_callV C (rest := []) (c2 := 0) (s2 := 0) (kd := 100) (i := 0) [.int (a1)] dX12_propose_84 lk_X12_390 li_X12_stateOf le_X12_stateOf (c_X12_stateOf hfl h) rfl rfl (by decide) rfl ⟨_, rfl⟩ rfl ⟨Nat.le_of_ble_eq_true rfl, Nat.le_of_ble_eq_true rfl⟩ (Nat.le_of_ble_eq_true rfl) ⟨Nat.le_of_ble_eq_true rfl, Nat.le_of_ble_eq_true rfl, Nat.le_of_ble_eq_true rfl, Nat.le_of_ble_eq_true rfl⟩ (k_Ri fun r84 h => ?_)
      refine z_iconst C dX12_propose_87 (v := 4) (by decide) ?_
      refine z_icmp_eq C dX12_propose_88 (tgt := 93) (by decide) (fun c88 => ?_) (fun c88 => ?_)
      · have h := h.1 c88
        refine z_aload_n C dX12_propose_93 (i := 0) rfl rfl ?_
        refine t_get C dX12_propose_94 fl_X12_106 (k := 100) (i := 0) (by decide) rfl (fg_100_44 _ _ _) ?_
        refine z_iconst C dX12_propose_97 (v := 3) (by decide) ?_
        refine z_iload_n C dX12_propose_98 (i := 1) rfl rfl ?_
        refine z_imul C dX12_propose_99 ?_
        refine z_iload_n C dX12_propose_100 (i := 2) rfl rfl ?_
        refine z_iadd C dX12_propose_101 ?_
        obtain ⟨g102, h⟩ := h
        refine t_iald C dX12_propose_102 (k := 131) (i := 0) (by decide) rfl (sh_131 _ _ _ _) g102 ?_
        refine z_if_ge C dX12_propose_103 (tgt := 109) (by decide) (fun c103 => ?_) (fun c103 => ?_)
        · have h := h.1 c103
          refine z_iconst C dX12_propose_109 (v := 3) (by decide) ?_
          refine z_iload_n C dX12_propose_110 (i := 1) rfl rfl ?_
          refine z_imul C dX12_propose_111 ?_
          refine z_iload_n C dX12_propose_112 (i := 2) rfl rfl ?_
          refine z_iadd C dX12_propose_113 ?_
          refine t_topi (fun x114 ex114 => ?_)
          have h := h x114 ex114
          refine z_istore C dX12_propose_114 (lc' := [some (.ref 100), some (.int (a1)), some (.int (a2)), some (.int (a3)), some (.int (a4)), some (.int (a5)), some (.int (b0)), some (.int (x114)), none, none, none]) (by decide) rfl ?_
          refine z_aload_n C dX12_propose_116 (i := 0) rfl rfl ?_
          refine t_get C dX12_propose_117 fl_X12_109 (k := 100) (i := 0) (by decide) rfl (fg_100_45 _ _ _) ?_
          refine z_iload C dX12_propose_120 rfl ?_
          refine z_iload_n C dX12_propose_122 (i := 3) rfl rfl ?_
          obtain ⟨g123, h⟩ := h
          refine t_iast C dX12_propose_123 (k := 132) (i := 0) (by decide) rfl (fun s9 => sh_132 _ _ s9 _) g123 ?_
          refine t_tops (fun s123 es123 => ?_)
          have h := h s123 es123
          refine z_aload_n C dX12_propose_124 (i := 0) rfl rfl ?_
          refine t_get C dX12_propose_125 fl_X12_112 (k := 100) (i := 0) (by decide) rfl (fg_100_46 _ _ _) ?_
          refine z_iload C dX12_propose_128 rfl ?_
          refine z_iload C dX12_propose_130 rfl ?_
          obtain ⟨g132, h⟩ := h
          refine t_iast C dX12_propose_132 (k := 133) (i := 0) (by decide) rfl (fun s9 => sh_133 _ _ s9 _) g132 ?_
          refine t_tops (fun s132 es132 => ?_)
          have h := h s132 es132
          refine z_aload_n C dX12_propose_133 (i := 0) rfl rfl ?_
          refine t_get C dX12_propose_134 fl_X12_115 (k := 100) (i := 0) (by decide) rfl (fg_100_47 _ _ _) ?_
          refine z_iload C dX12_propose_137 rfl ?_
          refine z_iload C dX12_propose_139 rfl ?_
          obtain ⟨g141, h⟩ := h
          refine t_iast C dX12_propose_141 (k := 134) (i := 0) (by decide) rfl (fun s9 => sh_134 _ _ s9 _) g141 ?_
          refine t_tops (fun s141 es141 => ?_)
          have h := h s141 es141
          refine z_iconst C dX12_propose_142 (v := 0) (by decide) ?_
          refine z_istore C dX12_propose_143 (lc' := [some (.ref 100), some (.int (a1)), some (.int (a2)), some (.int (a3)), some (.int (a4)), some (.int (a5)), some (.int (b0)), some (.int (x114)), some (.int (0)), none, none]) (by decide) rfl ?_
          refine z_iconst C dX12_propose_145 (v := 0) (by decide) ?_
          refine z_istore C dX12_propose_146 (lc' := [some (.ref 100), some (.int (a1)), some (.int (a2)), some (.int (a3)), some (.int (a4)), some (.int (a5)), some (.int (b0)), some (.int (x114)), some (.int (0)), some (.int (0)), none]) (by decide) rfl ?_
          exact t_drop [true, true, true, true, true, true, false, false, true, true, false] rfl (j_X12_propose_148 hfl C hr hn9  zfu s141 a1 a2 a3 a4 a5 (0) (0) h)
        · have h := h.2 c103
          refine z_bipush C dX12_propose_106 (v := (-2)) (by decide) ?_
          exact z_iret C dX12_propose_108 hr rfl ⟨_, _, rfl, rfl, h⟩ (Nat.le_of_ble_eq_true rfl) (Nat.le_of_ble_eq_true rfl)
      · have h := h.2 c88
        refine z_iconst C dX12_propose_91 (v := (-1)) (by decide) ?_
        exact z_iret C dX12_propose_92 hr rfl ⟨_, _, rfl, rfl, h⟩ (Nat.le_of_ble_eq_true rfl) (Nat.le_of_ble_eq_true rfl)
    · have h := h.2 c77
      refine z_iconst C dX12_propose_80 (v := 0) (by decide) ?_
      exact z_iret C dX12_propose_81 hr rfl ⟨_, _, rfl, rfl, h⟩ (Nat.le_of_ble_eq_true rfl) (Nat.le_of_ble_eq_true rfl)
def w_X12_propose (st : zTs) (a1 : Int32) (a2 : Int32) (a3 : Int32) (a4 : Int32) (a5 : Int32) (P : Int32 → zTs → Prop) : Prop := w_X12_isWhich st a2 (fun (r1 : Int32) => ((r1 = 0 → w_X12_propose_60 P st a1 a2 a3 a4 a5 (1)) ∧ (¬ r1 = 0 → (a3 < (zgF st 100 0 3) → w_X12_propose_60 P st a1 a2 a3 a4 a5 (1)) ∧ (¬ a3 < (zgF st 100 0 3) → (a4 < 0 → w_X12_propose_60 P st a1 a2 a3 a4 a5 (1)) ∧ (¬ a4 < 0 → ((a4 - a4 / 100 * 100) ≤ (a4 / 100) → w_X12_propose_60 P st a1 a2 a3 a4 a5 (1)) ∧ (¬ (a4 - a4 / 100 * 100) ≤ (a4 / 100) → (24 < (a4 - a4 / 100 * 100) → w_X12_propose_60 P st a1 a2 a3 a4 a5 (1)) ∧ (¬ 24 < (a4 - a4 / 100 * 100) → (a5 < 0 → w_X12_propose_60 P st a1 a2 a3 a4 a5 (1)) ∧ (¬ a5 < 0 → (a5 ≤ 100 → w_X12_propose_60 P st a1 a2 a3 a4 a5 (0)) ∧ (¬ a5 ≤ 100 → w_X12_propose_60 P st a1 a2 a3 a4 a5 (1))))))))))
set_option maxHeartbeats 4000000 in
set_option maxRecDepth 100000 in
theorem c_X12_propose {Z : zZ} {l : Launch} (hfl : l.stackTraces = false) {st : zTs} {a1 : Int32} {a2 : Int32} {a3 : Int32} {a4 : Int32} {a5 : Int32} {P : Int32 → zTs → Prop} (h : w_X12_propose st a1 a2 a3 a4 a5 P) : zN Z l yX12_propose cX12_propose 11 (some .int) ({ frames := 6, cells := 0, slots := 0, locals := 118 } : Room) (zh Z zm1 st) [.ref 100, .int (a1), .int (a2), .int (a3), .int (a4), .int (a5)] (zWi Z P) := by
  unfold w_X12_propose at h
  refine z_enterN (by decide) (Nat.le_of_ble_eq_true rfl) (lc0 := [some (.ref 100), some (.int (a1)), some (.int (a2)), some (.int (a3)), some (.int (a4)), some (.int (a5)), none, none, none, none, none]) rfl ?_
  intro p e s m args below meth c ad0 C hr _
  have hn9 : True := trivial
  replace C : zC Z p s m args meth c cX12_propose 11 RX12 := C
  refine z_iload_n C dX12_propose_0 (i := 2) rfl rfl ?_
  refine t_callS C (rest := []) (c2 := 0) (s2 := 0) [.int (a2)] dX12_propose_1 lk_X12_424 ls_X12_isWhich (c_X12_isWhich hfl h) rfl rfl ⟨Nat.le_of_ble_eq_true rfl, Nat.le_of_ble_eq_true rfl⟩ (Nat.le_of_ble_eq_true rfl) ⟨Nat.le_of_ble_eq_true rfl, Nat.le_of_ble_eq_true rfl, Nat.le_of_ble_eq_true rfl, Nat.le_of_ble_eq_true rfl⟩ (k_Ri fun r1 h => ?_)
  refine z_if_eq C dX12_propose_4 (tgt := 55) (by decide) (fun c4 => ?_) (fun c4 => ?_)
  · have h := h.1 c4
    refine z_iconst C dX12_propose_55 (v := 1) (by decide) ?_
    refine z_goto C dX12_propose_56 (tgt := 60) (by decide) ?_
    exact t_drop [true, true, true, true, true, true, false, false, false, false, false] rfl (j_X12_propose_60 hfl C hr hn9  st a1 a2 a3 a4 a5 (1) h)
  · have h := h.2 c4
    refine z_iload_n C dX12_propose_7 (i := 3) rfl rfl ?_
    refine z_aload_n C dX12_propose_8 (i := 0) rfl rfl ?_
    refine t_get C dX12_propose_9 fl_X12_222 (k := 100) (i := 0) (by decide) rfl (fg_100_3 _ _ _) ?_
    refine z_icmp_lt C dX12_propose_12 (tgt := 55) (by decide) (fun c12 => ?_) (fun c12 => ?_)
    · have h := h.1 c12
      refine z_iconst C dX12_propose_55 (v := 1) (by decide) ?_
      refine z_goto C dX12_propose_56 (tgt := 60) (by decide) ?_
      exact t_drop [true, true, true, true, true, true, false, false, false, false, false] rfl (j_X12_propose_60 hfl C hr hn9  st a1 a2 a3 a4 a5 (1) h)
    · have h := h.2 c12
      refine z_iload C dX12_propose_15 rfl ?_
      refine z_if_lt C dX12_propose_17 (tgt := 55) (by decide) (fun c17 => ?_) (fun c17 => ?_)
      · have h := h.1 c17
        refine z_iconst C dX12_propose_55 (v := 1) (by decide) ?_
        refine z_goto C dX12_propose_56 (tgt := 60) (by decide) ?_
        exact t_drop [true, true, true, true, true, true, false, false, false, false, false] rfl (j_X12_propose_60 hfl C hr hn9  st a1 a2 a3 a4 a5 (1) h)
      · have h := h.2 c17
        refine z_iload C dX12_propose_20 rfl ?_
        refine z_bipush C dX12_propose_22 (v := 100) (by decide) ?_
        refine z_idiv C dX12_propose_24 (by decide) ?_
        refine z_iload C dX12_propose_25 rfl ?_
        refine z_bipush C dX12_propose_27 (v := 100) (by decide) ?_
        refine z_irem C dX12_propose_29 (by decide) ?_
        refine z_icmp_ge C dX12_propose_30 (tgt := 55) (by decide) (fun c30 => ?_) (fun c30 => ?_)
        · have h := h.1 c30
          refine z_iconst C dX12_propose_55 (v := 1) (by decide) ?_
          refine z_goto C dX12_propose_56 (tgt := 60) (by decide) ?_
          exact t_drop [true, true, true, true, true, true, false, false, false, false, false] rfl (j_X12_propose_60 hfl C hr hn9  st a1 a2 a3 a4 a5 (1) h)
        · have h := h.2 c30
          refine z_iload C dX12_propose_33 rfl ?_
          refine z_bipush C dX12_propose_35 (v := 100) (by decide) ?_
          refine z_irem C dX12_propose_37 (by decide) ?_
          refine z_bipush C dX12_propose_38 (v := 24) (by decide) ?_
          refine z_icmp_gt C dX12_propose_40 (tgt := 55) (by decide) (fun c40 => ?_) (fun c40 => ?_)
          · have h := h.1 c40
            refine z_iconst C dX12_propose_55 (v := 1) (by decide) ?_
            refine z_goto C dX12_propose_56 (tgt := 60) (by decide) ?_
            exact t_drop [true, true, true, true, true, true, false, false, false, false, false] rfl (j_X12_propose_60 hfl C hr hn9  st a1 a2 a3 a4 a5 (1) h)
          · have h := h.2 c40
            refine z_iload C dX12_propose_43 rfl ?_
            refine z_if_lt C dX12_propose_45 (tgt := 55) (by decide) (fun c45 => ?_) (fun c45 => ?_)
            · have h := h.1 c45
              refine z_iconst C dX12_propose_55 (v := 1) (by decide) ?_
              refine z_goto C dX12_propose_56 (tgt := 60) (by decide) ?_
              exact t_drop [true, true, true, true, true, true, false, false, false, false, false] rfl (j_X12_propose_60 hfl C hr hn9  st a1 a2 a3 a4 a5 (1) h)
            · have h := h.2 c45
              refine z_iload C dX12_propose_48 rfl ?_
              refine z_bipush C dX12_propose_50 (v := 100) (by decide) ?_
              refine z_icmp_le C dX12_propose_52 (tgt := 59) (by decide) (fun c52 => ?_) (fun c52 => ?_)
              · have h := h.1 c52
                refine z_iconst C dX12_propose_59 (v := 0) (by decide) ?_
                exact t_drop [true, true, true, true, true, true, false, false, false, false, false] rfl (j_X12_propose_60 hfl C hr hn9  st a1 a2 a3 a4 a5 (0) h)
              · have h := h.2 c52
                refine z_iconst C dX12_propose_55 (v := 1) (by decide) ?_
                refine z_goto C dX12_propose_56 (tgt := 60) (by decide) ?_
                exact t_drop [true, true, true, true, true, true, false, false, false, false, false] rfl (j_X12_propose_60 hfl C hr hn9  st a1 a2 a3 a4 a5 (1) h)
def w_X12_appeal (st : zTs) (a1 : Int32) (P : Int32 → zTs → Prop) : Prop := w_X12_isWork st a1 (fun (r2 : Int32) (s2 : zTs) => ((r2 = 0 → P 0 s2) ∧ (¬ r2 = 0 → w_X12_mayAppeal s2 a1 (fun (r12 : Int32) => ((r12 = 0 → P (-1) s2) ∧ (¬ r12 = 0 → w_X12_lastAppeal s2 a1 (fun (r26 : Int32) => (((zgF s2 100 0 3) ≤ r26 → vp_in a1 30 ∧ (∀ s41 : zTs, s41 = zuA s2 120 0 (a1 : Int32).toNatClampNeg (vp_nar .boolean 0) → (vp_in a1 30 ∧ (∀ s51 : zTs, s51 = zuA s41 125 0 (a1 : Int32).toNatClampNeg (zgF s41 100 0 3) → (vp_in a1 30 ∧ (∀ s58 : zTs, s58 = zuA s51 126 0 (a1 : Int32).toNatClampNeg 0 → (vp_in a1 30 ∧ (∀ s65 : zTs, s65 = zuA s58 127 0 (a1 : Int32).toNatClampNeg (-1) → (vp_in a1 30 ∧ (∀ s72 : zTs, s72 = zuA s65 128 0 (a1 : Int32).toNatClampNeg (-1) → (P 1 s72))))))))))) ∧ (¬ (zgF s2 100 0 3) ≤ r26 → P (-2) s2)))))))))
set_option maxHeartbeats 4000000 in
set_option maxRecDepth 100000 in
theorem c_X12_appeal {Z : zZ} {l : Launch} (hfl : l.stackTraces = false) {st : zTs} {a1 : Int32} {P : Int32 → zTs → Prop} (h : w_X12_appeal st a1 P) : zN Z l yX12_appeal cX12_appeal 2 (some .int) ({ frames := 7, cells := 0, slots := 0, locals := 139 } : Room) (zh Z zm1 st) [.ref 100, .int (a1)] (zWi Z P) := by
  unfold w_X12_appeal at h
  refine z_enterN (by decide) (Nat.le_of_ble_eq_true rfl) (lc0 := [some (.ref 100), some (.int (a1))]) rfl ?_
  intro p e s m args below meth c ad0 C hr _
  have hn9 : True := trivial
  replace C : zC Z p s m args meth c cX12_appeal 2 RX12 := C
  refine z_aload_n C dX12_appeal_0 (i := 0) rfl rfl ?_
  refine z_iload_n C dX12_appeal_1 (i := 1) rfl rfl ?_
  refine t_callV C (rest := []) (c2 := 0) (s2 := 0) (kd := 100) (i := 0) [.int (a1)] dX12_appeal_2 lk_X12_387 li_X12_isWork le_X12_isWork (c_X12_isWork hfl h) rfl rfl (by decide) rfl ⟨_, rfl⟩ rfl ⟨Nat.le_of_ble_eq_true rfl, Nat.le_of_ble_eq_true rfl⟩ (Nat.le_of_ble_eq_true rfl) ⟨Nat.le_of_ble_eq_true rfl, Nat.le_of_ble_eq_true rfl, Nat.le_of_ble_eq_true rfl, Nat.le_of_ble_eq_true rfl⟩ (k_Wi fun r2 s2 h => ?_)
  refine z_if_ne C dX12_appeal_5 (tgt := 10) (by decide) (fun c5 => ?_) (fun c5 => ?_)
  · have h := h.2 c5
    refine z_aload_n C dX12_appeal_10 (i := 0) rfl rfl ?_
    refine z_iload_n C dX12_appeal_11 (i := 1) rfl rfl ?_
    refine t_callV C (rest := []) (c2 := 0) (s2 := 0) (kd := 100) (i := 0) [.int (a1)] dX12_appeal_12 lk_X12_408 li_X12_mayAppeal le_X12_mayAppeal (c_X12_mayAppeal hfl h) rfl rfl (by decide) rfl ⟨_, rfl⟩ rfl ⟨Nat.le_of_ble_eq_true rfl, Nat.le_of_ble_eq_true rfl⟩ (Nat.le_of_ble_eq_true rfl) ⟨Nat.le_of_ble_eq_true rfl, Nat.le_of_ble_eq_true rfl, Nat.le_of_ble_eq_true rfl, Nat.le_of_ble_eq_true rfl⟩ (k_Ri fun r12 h => ?_)
    refine z_if_ne C dX12_appeal_15 (tgt := 20) (by decide) (fun c15 => ?_) (fun c15 => ?_)
    · have h := h.2 c15
      refine z_aload_n C dX12_appeal_20 (i := 0) rfl rfl ?_
      refine t_get C dX12_appeal_21 fl_X12_222 (k := 100) (i := 0) (by decide) rfl (fg_100_3 _ _ _) ?_
      refine z_aload_n C dX12_appeal_24 (i := 0) rfl rfl ?_
      refine z_iload_n C dX12_appeal_25 (i := 1) rfl rfl ?_
      refine t_callV C (rest := [.int (zgF s2 100 0 3)]) (c2 := 0) (s2 := 0) (kd := 100) (i := 0) [.int (a1)] dX12_appeal_26 lk_X12_411 li_X12_lastAppeal le_X12_lastAppeal (c_X12_lastAppeal hfl h) rfl rfl (by decide) rfl ⟨_, rfl⟩ rfl ⟨Nat.le_of_ble_eq_true rfl, Nat.le_of_ble_eq_true rfl⟩ (Nat.le_of_ble_eq_true rfl) ⟨Nat.le_of_ble_eq_true rfl, Nat.le_of_ble_eq_true rfl, Nat.le_of_ble_eq_true rfl, Nat.le_of_ble_eq_true rfl⟩ (k_Ri fun r26 h => ?_)
      refine z_icmp_le C dX12_appeal_29 (tgt := 35) (by decide) (fun c29 => ?_) (fun c29 => ?_)
      · have h := h.1 c29
        refine z_aload_n C dX12_appeal_35 (i := 0) rfl rfl ?_
        refine t_get C dX12_appeal_36 fl_X12_73 (k := 100) (i := 0) (by decide) rfl (fg_100_32 _ _ _) ?_
        refine z_iload_n C dX12_appeal_39 (i := 1) rfl rfl ?_
        refine z_iconst C dX12_appeal_40 (v := 0) (by decide) ?_
        obtain ⟨g41, h⟩ := h
        refine t_zast C dX12_appeal_41 (k := 120) (i := 0) (by decide) rfl (fun s9 => sh_120 _ _ s9 _) g41 ?_
        refine t_tops (fun s41 es41 => ?_)
        have h := h s41 es41
        refine z_aload_n C dX12_appeal_42 (i := 0) rfl rfl ?_
        refine t_get C dX12_appeal_43 fl_X12_88 (k := 100) (i := 0) (by decide) rfl (fg_100_37 _ _ _) ?_
        refine z_iload_n C dX12_appeal_46 (i := 1) rfl rfl ?_
        refine z_aload_n C dX12_appeal_47 (i := 0) rfl rfl ?_
        refine t_get C dX12_appeal_48 fl_X12_222 (k := 100) (i := 0) (by decide) rfl (fg_100_3 _ _ _) ?_
        obtain ⟨g51, h⟩ := h
        refine t_iast C dX12_appeal_51 (k := 125) (i := 0) (by decide) rfl (fun s9 => sh_125 _ _ s9 _) g51 ?_
        refine t_tops (fun s51 es51 => ?_)
        have h := h s51 es51
        refine z_aload_n C dX12_appeal_52 (i := 0) rfl rfl ?_
        refine t_get C dX12_appeal_53 fl_X12_91 (k := 100) (i := 0) (by decide) rfl (fg_100_38 _ _ _) ?_
        refine z_iload_n C dX12_appeal_56 (i := 1) rfl rfl ?_
        refine z_iconst C dX12_appeal_57 (v := 0) (by decide) ?_
        obtain ⟨g58, h⟩ := h
        refine t_iast C dX12_appeal_58 (k := 126) (i := 0) (by decide) rfl (fun s9 => sh_126 _ _ s9 _) g58 ?_
        refine t_tops (fun s58 es58 => ?_)
        have h := h s58 es58
        refine z_aload_n C dX12_appeal_59 (i := 0) rfl rfl ?_
        refine t_get C dX12_appeal_60 fl_X12_94 (k := 100) (i := 0) (by decide) rfl (fg_100_39 _ _ _) ?_
        refine z_iload_n C dX12_appeal_63 (i := 1) rfl rfl ?_
        refine z_iconst C dX12_appeal_64 (v := (-1)) (by decide) ?_
        obtain ⟨g65, h⟩ := h
        refine t_iast C dX12_appeal_65 (k := 127) (i := 0) (by decide) rfl (fun s9 => sh_127 _ _ s9 _) g65 ?_
        refine t_tops (fun s65 es65 => ?_)
        have h := h s65 es65
        refine z_aload_n C dX12_appeal_66 (i := 0) rfl rfl ?_
        refine t_get C dX12_appeal_67 fl_X12_97 (k := 100) (i := 0) (by decide) rfl (fg_100_40 _ _ _) ?_
        refine z_iload_n C dX12_appeal_70 (i := 1) rfl rfl ?_
        refine z_iconst C dX12_appeal_71 (v := (-1)) (by decide) ?_
        obtain ⟨g72, h⟩ := h
        refine t_iast C dX12_appeal_72 (k := 128) (i := 0) (by decide) rfl (fun s9 => sh_128 _ _ s9 _) g72 ?_
        refine t_tops (fun s72 es72 => ?_)
        have h := h s72 es72
        refine z_iconst C dX12_appeal_73 (v := 1) (by decide) ?_
        exact z_iret C dX12_appeal_74 hr rfl ⟨_, _, rfl, rfl, h⟩ (Nat.le_of_ble_eq_true rfl) (Nat.le_of_ble_eq_true rfl)
      · have h := h.2 c29
        refine z_bipush C dX12_appeal_32 (v := (-2)) (by decide) ?_
        exact z_iret C dX12_appeal_34 hr rfl ⟨_, _, rfl, rfl, h⟩ (Nat.le_of_ble_eq_true rfl) (Nat.le_of_ble_eq_true rfl)
    · have h := h.1 c15
      refine z_iconst C dX12_appeal_18 (v := (-1)) (by decide) ?_
      exact z_iret C dX12_appeal_19 hr rfl ⟨_, _, rfl, rfl, h⟩ (Nat.le_of_ble_eq_true rfl) (Nat.le_of_ble_eq_true rfl)
  · have h := h.1 c5
    refine z_iconst C dX12_appeal_8 (v := 0) (by decide) ?_
    exact z_iret C dX12_appeal_9 hr rfl ⟨_, _, rfl, rfl, h⟩ (Nat.le_of_ble_eq_true rfl) (Nat.le_of_ble_eq_true rfl)
def w_X12_begin_100 (P : Int32 → zTs → Prop)  (st : zTs) (a3 : Int32) (b0 : Int32) (b1 : Int32) : Prop := vp_in b1 30 ∧ (∀ s100 : zTs, s100 = zuA st 126 0 (b1 : Int32).toNatClampNeg b0 → ((a3 = 0 → P 0 s100) ∧ (¬ a3 = 0 → P 1 s100)))
set_option maxHeartbeats 4000000 in
set_option maxRecDepth 100000 in
theorem j_X12_begin_100 {P : Int32 → zTs → Prop}  (hfl : l.stackTraces = false) (C : zC Z p s m args meth c cX12_begin 4 RX12) (hr : meth.sig.returnType = (some .int)) (hn9 : True)  (st : zTs) (a3 : Int32) (b0 : Int32) (b1 : Int32) (h : w_X12_begin_100 P st a3 b0 b1) : zG Z ad0 h0 p l e ({ frames := 5, cells := 0, slots := 0, locals := 97 } : Room) s m args below meth c (MQ below (zQ Z ad0 h0 (zWi Z P)) args s 0 0 (zA Z)) 0 0 (zh Z zm1 st) 4 100 [none, none, none, some (.int (a3))] [.int (b0), .int (b1), .ref 126] := by
  unfold w_X12_begin_100 at h
  obtain ⟨g100, h⟩ := h
  refine t_iast C dX12_begin_100 (k := 126) (i := 0) (by decide) rfl (fun s9 => sh_126 _ _ s9 _) g100 ?_
  refine t_tops (fun s100 es100 => ?_)
  have h := h s100 es100
  refine z_iload_n C dX12_begin_101 (i := 3) rfl rfl ?_
  refine z_if_eq C dX12_begin_102 (tgt := 109) (by decide) (fun c102 => ?_) (fun c102 => ?_)
  · have h := h.1 c102
    refine z_iconst C dX12_begin_109 (v := 0) (by decide) ?_
    exact z_iret C dX12_begin_110 hr rfl ⟨_, _, rfl, rfl, h⟩ (Nat.le_of_ble_eq_true rfl) (Nat.le_of_ble_eq_true rfl)
  · have h := h.2 c102
    refine z_iconst C dX12_begin_105 (v := 1) (by decide) ?_
    refine z_goto C dX12_begin_106 (tgt := 110) (by decide) ?_
    exact z_iret C dX12_begin_110 hr rfl ⟨_, _, rfl, rfl, h⟩ (Nat.le_of_ble_eq_true rfl) (Nat.le_of_ble_eq_true rfl)
def w_X12_begin_74 (P : Int32 → zTs → Prop)  (st : zTs) (a1 : Int32) (a3 : Int32) (b0 : Int32) (b1 : Int32) : Prop := vp_in b1 30 ∧ (∀ s74 : zTs, s74 = zuA st 128 0 (b1 : Int32).toNatClampNeg b0 → (vp_in a1 30 ∧ (∀ s84 : zTs, s84 = zuA s74 127 0 (a1 : Int32).toNatClampNeg (zgF s74 100 0 3) → ((a3 = 0 → w_X12_begin_100 P s84 a3 (6) a1) ∧ (¬ a3 = 0 → w_X12_begin_100 P s84 a3 (5) a1)))))
set_option maxHeartbeats 4000000 in
set_option maxRecDepth 100000 in
theorem j_X12_begin_74 {P : Int32 → zTs → Prop}  (hfl : l.stackTraces = false) (C : zC Z p s m args meth c cX12_begin 4 RX12) (hr : meth.sig.returnType = (some .int)) (hn9 : True)  (st : zTs) (a1 : Int32) (a3 : Int32) (b0 : Int32) (b1 : Int32) (h : w_X12_begin_74 P st a1 a3 b0 b1) : zG Z ad0 h0 p l e ({ frames := 5, cells := 0, slots := 0, locals := 97 } : Room) s m args below meth c (MQ below (zQ Z ad0 h0 (zWi Z P)) args s 0 0 (zA Z)) 0 0 (zh Z zm1 st) 4 74 [some (.ref 100), some (.int (a1)), none, some (.int (a3))] [.int (b0), .int (b1), .ref 128] := by
  unfold w_X12_begin_74 at h
  obtain ⟨g74, h⟩ := h
  refine t_iast C dX12_begin_74 (k := 128) (i := 0) (by decide) rfl (fun s9 => sh_128 _ _ s9 _) g74 ?_
  refine t_tops (fun s74 es74 => ?_)
  have h := h s74 es74
  refine z_aload_n C dX12_begin_75 (i := 0) rfl rfl ?_
  refine t_get C dX12_begin_76 fl_X12_94 (k := 100) (i := 0) (by decide) rfl (fg_100_39 _ _ _) ?_
  refine z_iload_n C dX12_begin_79 (i := 1) rfl rfl ?_
  refine z_aload_n C dX12_begin_80 (i := 0) rfl rfl ?_
  refine t_get C dX12_begin_81 fl_X12_222 (k := 100) (i := 0) (by decide) rfl (fg_100_3 _ _ _) ?_
  obtain ⟨g84, h⟩ := h
  refine t_iast C dX12_begin_84 (k := 127) (i := 0) (by decide) rfl (fun s9 => sh_127 _ _ s9 _) g84 ?_
  refine t_tops (fun s84 es84 => ?_)
  have h := h s84 es84
  refine z_aload_n C dX12_begin_85 (i := 0) rfl rfl ?_
  refine t_get C dX12_begin_86 fl_X12_91 (k := 100) (i := 0) (by decide) rfl (fg_100_38 _ _ _) ?_
  refine z_iload_n C dX12_begin_89 (i := 1) rfl rfl ?_
  refine z_iload_n C dX12_begin_90 (i := 3) rfl rfl ?_
  refine z_if_eq C dX12_begin_91 (tgt := 98) (by decide) (fun c91 => ?_) (fun c91 => ?_)
  · have h := h.1 c91
    refine z_bipush C dX12_begin_98 (v := 6) (by decide) ?_
    exact t_drop [false, false, false, true] rfl (j_X12_begin_100 hfl C hr hn9  s84 a3 (6) a1 h)
  · have h := h.2 c91
    refine z_iconst C dX12_begin_94 (v := 5) (by decide) ?_
    refine z_goto C dX12_begin_95 (tgt := 100) (by decide) ?_
    exact t_drop [false, false, false, true] rfl (j_X12_begin_100 hfl C hr hn9  s84 a3 (5) a1 h)
def w_X12_begin_54 (P : Int32 → zTs → Prop)  (st : zTs) (a1 : Int32) (a2 : Int32) (b0 : Int32) : Prop := (a2 = 3 → w_X12_allowedFrom st a1 (fun (r67 : Int32) => (w_X12_begin_74 P st a1 b0 r67 a1))) ∧ (¬ a2 = 3 → w_X12_begin_74 P st a1 b0 (-1) a1)
set_option maxHeartbeats 4000000 in
set_option maxRecDepth 100000 in
theorem j_X12_begin_54 {P : Int32 → zTs → Prop}  (hfl : l.stackTraces = false) (C : zC Z p s m args meth c cX12_begin 4 RX12) (hr : meth.sig.returnType = (some .int)) (hn9 : True)  (st : zTs) (a1 : Int32) (a2 : Int32) (b0 : Int32) (h : w_X12_begin_54 P st a1 a2 b0) : zG Z ad0 h0 p l e ({ frames := 5, cells := 0, slots := 0, locals := 97 } : Room) s m args below meth c (MQ below (zQ Z ad0 h0 (zWi Z P)) args s 0 0 (zA Z)) 0 0 (zh Z zm1 st) 4 54 [some (.ref 100), some (.int (a1)), some (.int (a2)), none] [.int (b0)] := by
  unfold w_X12_begin_54 at h
  refine z_istore_n C dX12_begin_54 (i := 3) (lc' := [some (.ref 100), some (.int (a1)), some (.int (a2)), some (.int (b0))]) rfl (by decide) rfl ?_
  refine z_aload_n C dX12_begin_55 (i := 0) rfl rfl ?_
  refine t_get C dX12_begin_56 fl_X12_97 (k := 100) (i := 0) (by decide) rfl (fg_100_40 _ _ _) ?_
  refine z_iload_n C dX12_begin_59 (i := 1) rfl rfl ?_
  refine z_iload_n C dX12_begin_60 (i := 2) rfl rfl ?_
  refine z_iconst C dX12_begin_61 (v := 3) (by decide) ?_
  refine z_icmp_ne C dX12_begin_62 (tgt := 73) (by decide) (fun c62 => ?_) (fun c62 => ?_)
  · have h := h.2 c62
    refine z_iconst C dX12_begin_73 (v := (-1)) (by decide) ?_
    exact t_drop [true, true, false, true] rfl (j_X12_begin_74 hfl C hr hn9  st a1 b0 (-1) a1 h)
  · have h := h.1 c62
    refine z_aload_n C dX12_begin_65 (i := 0) rfl rfl ?_
    refine z_iload_n C dX12_begin_66 (i := 1) rfl rfl ?_
    refine t_callV C (rest := [.int (a1), .ref 128]) (c2 := 0) (s2 := 0) (kd := 100) (i := 0) [.int (a1)] dX12_begin_67 lk_X12_393 li_X12_allowedFrom le_X12_allowedFrom (c_X12_allowedFrom hfl h) rfl rfl (by decide) rfl ⟨_, rfl⟩ rfl ⟨Nat.le_of_ble_eq_true rfl, Nat.le_of_ble_eq_true rfl⟩ (Nat.le_of_ble_eq_true rfl) ⟨Nat.le_of_ble_eq_true rfl, Nat.le_of_ble_eq_true rfl, Nat.le_of_ble_eq_true rfl, Nat.le_of_ble_eq_true rfl⟩ (k_Ri fun r67 h => ?_)
    refine z_goto C dX12_begin_70 (tgt := 74) (by decide) ?_
    exact t_drop [true, true, false, true] rfl (j_X12_begin_74 hfl C hr hn9  st a1 b0 r67 a1 h)
def w_X12_begin_53 (P : Int32 → zTs → Prop)  (st : zTs) (a1 : Int32) (a2 : Int32) : Prop := w_X12_begin_54 P st a1 a2 (0)
set_option maxHeartbeats 4000000 in
set_option maxRecDepth 100000 in
theorem j_X12_begin_53 {P : Int32 → zTs → Prop}  (hfl : l.stackTraces = false) (C : zC Z p s m args meth c cX12_begin 4 RX12) (hr : meth.sig.returnType = (some .int)) (hn9 : True)  (st : zTs) (a1 : Int32) (a2 : Int32) (h : w_X12_begin_53 P st a1 a2) : zG Z ad0 h0 p l e ({ frames := 5, cells := 0, slots := 0, locals := 97 } : Room) s m args below meth c (MQ below (zQ Z ad0 h0 (zWi Z P)) args s 0 0 (zA Z)) 0 0 (zh Z zm1 st) 4 53 [some (.ref 100), some (.int (a1)), some (.int (a2)), none] [] := by
  unfold w_X12_begin_53 at h
  refine z_iconst C dX12_begin_53 (v := 0) (by decide) ?_
  exact t_drop [true, true, true, false] rfl (j_X12_begin_54 hfl C hr hn9  st a1 a2 (0) h)
def w_X12_begin (st : zTs) (a1 : Int32) (P : Int32 → zTs → Prop) : Prop := w_X12_isWork st a1 (fun (r2 : Int32) (s2 : zTs) => ((r2 = 0 → P 0 s2) ∧ (¬ r2 = 0 → vp_in a1 30 ∧ (((zgA s2 126 0 (a1 : Int32).toNatClampNeg) ≤ 0 → w_X12_ahead s2 a1 (fun (r23 : Int32) => ((r23 = 1 → w_X12_begin_54 P s2 a1 r23 (1)) ∧ (¬ r23 = 1 → (r23 = 3 → w_X12_allowedFrom s2 a1 (fun (r43 : Int32) => (((zgF s2 100 0 3) < r43 → w_X12_begin_53 P s2 a1 r23) ∧ (¬ (zgF s2 100 0 3) < r43 → w_X12_begin_54 P s2 a1 r23 (1))))) ∧ (¬ r23 = 3 → w_X12_begin_53 P s2 a1 r23))))) ∧ (¬ (zgA s2 126 0 (a1 : Int32).toNatClampNeg) ≤ 0 → P (-1) s2)))))
set_option maxHeartbeats 4000000 in
set_option maxRecDepth 100000 in
theorem c_X12_begin {Z : zZ} {l : Launch} (hfl : l.stackTraces = false) {st : zTs} {a1 : Int32} {P : Int32 → zTs → Prop} (h : w_X12_begin st a1 P) : zN Z l yX12_begin cX12_begin 4 (some .int) ({ frames := 5, cells := 0, slots := 0, locals := 97 } : Room) (zh Z zm1 st) [.ref 100, .int (a1)] (zWi Z P) := by
  unfold w_X12_begin at h
  refine z_enterN (by decide) (Nat.le_of_ble_eq_true rfl) (lc0 := [some (.ref 100), some (.int (a1)), none, none]) rfl ?_
  intro p e s m args below meth c ad0 C hr _
  have hn9 : True := trivial
  replace C : zC Z p s m args meth c cX12_begin 4 RX12 := C
  refine z_aload_n C dX12_begin_0 (i := 0) rfl rfl ?_
  refine z_iload_n C dX12_begin_1 (i := 1) rfl rfl ?_
  refine t_callV C (rest := []) (c2 := 0) (s2 := 0) (kd := 100) (i := 0) [.int (a1)] dX12_begin_2 lk_X12_387 li_X12_isWork le_X12_isWork (c_X12_isWork hfl h) rfl rfl (by decide) rfl ⟨_, rfl⟩ rfl ⟨Nat.le_of_ble_eq_true rfl, Nat.le_of_ble_eq_true rfl⟩ (Nat.le_of_ble_eq_true rfl) ⟨Nat.le_of_ble_eq_true rfl, Nat.le_of_ble_eq_true rfl, Nat.le_of_ble_eq_true rfl, Nat.le_of_ble_eq_true rfl⟩ (k_Wi fun r2 s2 h => ?_)
  refine z_if_ne C dX12_begin_5 (tgt := 10) (by decide) (fun c5 => ?_) (fun c5 => ?_)
  · have h := h.2 c5
    refine z_aload_n C dX12_begin_10 (i := 0) rfl rfl ?_
    refine t_get C dX12_begin_11 fl_X12_91 (k := 100) (i := 0) (by decide) rfl (fg_100_38 _ _ _) ?_
    refine z_iload_n C dX12_begin_14 (i := 1) rfl rfl ?_
    obtain ⟨g15, h⟩ := h
    refine t_iald C dX12_begin_15 (k := 126) (i := 0) (by decide) rfl (sh_126 _ _ _ _) g15 ?_
    refine z_if_le C dX12_begin_16 (tgt := 21) (by decide) (fun c16 => ?_) (fun c16 => ?_)
    · have h := h.1 c16
      refine z_aload_n C dX12_begin_21 (i := 0) rfl rfl ?_
      refine z_iload_n C dX12_begin_22 (i := 1) rfl rfl ?_
      refine t_callV C (rest := []) (c2 := 0) (s2 := 0) (kd := 100) (i := 0) [.int (a1)] dX12_begin_23 lk_X12_384 li_X12_ahead le_X12_ahead (c_X12_ahead hfl h) rfl rfl (by decide) rfl ⟨_, rfl⟩ rfl ⟨Nat.le_of_ble_eq_true rfl, Nat.le_of_ble_eq_true rfl⟩ (Nat.le_of_ble_eq_true rfl) ⟨Nat.le_of_ble_eq_true rfl, Nat.le_of_ble_eq_true rfl, Nat.le_of_ble_eq_true rfl, Nat.le_of_ble_eq_true rfl⟩ (k_Ri fun r23 h => ?_)
      refine z_istore_n C dX12_begin_26 (i := 2) (lc' := [some (.ref 100), some (.int (a1)), some (.int (r23)), none]) rfl (by decide) rfl ?_
      refine z_iload_n C dX12_begin_27 (i := 2) rfl rfl ?_
      refine z_iconst C dX12_begin_28 (v := 1) (by decide) ?_
      refine z_icmp_eq C dX12_begin_29 (tgt := 49) (by decide) (fun c29 => ?_) (fun c29 => ?_)
      · have h := h.1 c29
        refine z_iconst C dX12_begin_49 (v := 1) (by decide) ?_
        refine z_goto C dX12_begin_50 (tgt := 54) (by decide) ?_
        exact t_drop [true, true, true, false] rfl (j_X12_begin_54 hfl C hr hn9  s2 a1 r23 (1) h)
      · have h := h.2 c29
        refine z_iload_n C dX12_begin_32 (i := 2) rfl rfl ?_
        refine z_iconst C dX12_begin_33 (v := 3) (by decide) ?_
        refine z_icmp_ne C dX12_begin_34 (tgt := 53) (by decide) (fun c34 => ?_) (fun c34 => ?_)
        · have h := h.2 c34
          exact t_drop [true, true, true, false] rfl (j_X12_begin_53 hfl C hr hn9  s2 a1 r23 h)
        · have h := h.1 c34
          refine z_aload_n C dX12_begin_37 (i := 0) rfl rfl ?_
          refine t_get C dX12_begin_38 fl_X12_222 (k := 100) (i := 0) (by decide) rfl (fg_100_3 _ _ _) ?_
          refine z_aload_n C dX12_begin_41 (i := 0) rfl rfl ?_
          refine z_iload_n C dX12_begin_42 (i := 1) rfl rfl ?_
          refine t_callV C (rest := [.int (zgF s2 100 0 3)]) (c2 := 0) (s2 := 0) (kd := 100) (i := 0) [.int (a1)] dX12_begin_43 lk_X12_393 li_X12_allowedFrom le_X12_allowedFrom (c_X12_allowedFrom hfl h) rfl rfl (by decide) rfl ⟨_, rfl⟩ rfl ⟨Nat.le_of_ble_eq_true rfl, Nat.le_of_ble_eq_true rfl⟩ (Nat.le_of_ble_eq_true rfl) ⟨Nat.le_of_ble_eq_true rfl, Nat.le_of_ble_eq_true rfl, Nat.le_of_ble_eq_true rfl, Nat.le_of_ble_eq_true rfl⟩ (k_Ri fun r43 h => ?_)
          refine z_icmp_lt C dX12_begin_46 (tgt := 53) (by decide) (fun c46 => ?_) (fun c46 => ?_)
          · have h := h.1 c46
            exact t_drop [true, true, true, false] rfl (j_X12_begin_53 hfl C hr hn9  s2 a1 r23 h)
          · have h := h.2 c46
            refine z_iconst C dX12_begin_49 (v := 1) (by decide) ?_
            refine z_goto C dX12_begin_50 (tgt := 54) (by decide) ?_
            exact t_drop [true, true, true, false] rfl (j_X12_begin_54 hfl C hr hn9  s2 a1 r23 (1) h)
    · have h := h.2 c16
      refine z_iconst C dX12_begin_19 (v := (-1)) (by decide) ?_
      exact z_iret C dX12_begin_20 hr rfl ⟨_, _, rfl, rfl, h⟩ (Nat.le_of_ble_eq_true rfl) (Nat.le_of_ble_eq_true rfl)
  · have h := h.1 c5
    refine z_iconst C dX12_begin_8 (v := 0) (by decide) ?_
    exact z_iret C dX12_begin_9 hr rfl ⟨_, _, rfl, rfl, h⟩ (Nat.le_of_ble_eq_true rfl) (Nat.le_of_ble_eq_true rfl)
def w_X12_done (st : zTs) (a1 : Int32) (P : Int32 → zTs → Prop) : Prop := w_X12_isWork st a1 (fun (r2 : Int32) (s2 : zTs) => ((r2 = 0 → P 0 s2) ∧ (¬ r2 = 0 → vp_in a1 30 ∧ (((zgA s2 126 0 (a1 : Int32).toNatClampNeg) = 5 → vp_in a1 30 ∧ (∀ s29 : zTs, s29 = zuA s2 126 0 (a1 : Int32).toNatClampNeg 7 → (P 1 s29))) ∧ (¬ (zgA s2 126 0 (a1 : Int32).toNatClampNeg) = 5 → P (-1) s2)))))
set_option maxHeartbeats 4000000 in
set_option maxRecDepth 100000 in
theorem c_X12_done {Z : zZ} {l : Launch} (hfl : l.stackTraces = false) {st : zTs} {a1 : Int32} {P : Int32 → zTs → Prop} (h : w_X12_done st a1 P) : zN Z l yX12_done cX12_done 2 (some .int) ({ frames := 2, cells := 0, slots := 0, locals := 33 } : Room) (zh Z zm1 st) [.ref 100, .int (a1)] (zWi Z P) := by
  unfold w_X12_done at h
  refine z_enterN (by decide) (Nat.le_of_ble_eq_true rfl) (lc0 := [some (.ref 100), some (.int (a1))]) rfl ?_
  intro p e s m args below meth c ad0 C hr _
  have hn9 : True := trivial
  replace C : zC Z p s m args meth c cX12_done 2 RX12 := C
  refine z_aload_n C dX12_done_0 (i := 0) rfl rfl ?_
  refine z_iload_n C dX12_done_1 (i := 1) rfl rfl ?_
  refine t_callV C (rest := []) (c2 := 0) (s2 := 0) (kd := 100) (i := 0) [.int (a1)] dX12_done_2 lk_X12_387 li_X12_isWork le_X12_isWork (c_X12_isWork hfl h) rfl rfl (by decide) rfl ⟨_, rfl⟩ rfl ⟨Nat.le_of_ble_eq_true rfl, Nat.le_of_ble_eq_true rfl⟩ (Nat.le_of_ble_eq_true rfl) ⟨Nat.le_of_ble_eq_true rfl, Nat.le_of_ble_eq_true rfl, Nat.le_of_ble_eq_true rfl, Nat.le_of_ble_eq_true rfl⟩ (k_Wi fun r2 s2 h => ?_)
  refine z_if_ne C dX12_done_5 (tgt := 10) (by decide) (fun c5 => ?_) (fun c5 => ?_)
  · have h := h.2 c5
    refine z_aload_n C dX12_done_10 (i := 0) rfl rfl ?_
    refine t_get C dX12_done_11 fl_X12_91 (k := 100) (i := 0) (by decide) rfl (fg_100_38 _ _ _) ?_
    refine z_iload_n C dX12_done_14 (i := 1) rfl rfl ?_
    obtain ⟨g15, h⟩ := h
    refine t_iald C dX12_done_15 (k := 126) (i := 0) (by decide) rfl (sh_126 _ _ _ _) g15 ?_
    refine z_iconst C dX12_done_16 (v := 5) (by decide) ?_
    refine z_icmp_eq C dX12_done_17 (tgt := 22) (by decide) (fun c17 => ?_) (fun c17 => ?_)
    · have h := h.1 c17
      refine z_aload_n C dX12_done_22 (i := 0) rfl rfl ?_
      refine t_get C dX12_done_23 fl_X12_91 (k := 100) (i := 0) (by decide) rfl (fg_100_38 _ _ _) ?_
      refine z_iload_n C dX12_done_26 (i := 1) rfl rfl ?_
      refine z_bipush C dX12_done_27 (v := 7) (by decide) ?_
      obtain ⟨g29, h⟩ := h
      refine t_iast C dX12_done_29 (k := 126) (i := 0) (by decide) rfl (fun s9 => sh_126 _ _ s9 _) g29 ?_
      refine t_tops (fun s29 es29 => ?_)
      have h := h s29 es29
      refine z_iconst C dX12_done_30 (v := 1) (by decide) ?_
      exact z_iret C dX12_done_31 hr rfl ⟨_, _, rfl, rfl, h⟩ (Nat.le_of_ble_eq_true rfl) (Nat.le_of_ble_eq_true rfl)
    · have h := h.2 c17
      refine z_iconst C dX12_done_20 (v := (-1)) (by decide) ?_
      exact z_iret C dX12_done_21 hr rfl ⟨_, _, rfl, rfl, h⟩ (Nat.le_of_ble_eq_true rfl) (Nat.le_of_ble_eq_true rfl)
  · have h := h.1 c5
    refine z_iconst C dX12_done_8 (v := 0) (by decide) ?_
    exact z_iret C dX12_done_9 hr rfl ⟨_, _, rfl, rfl, h⟩ (Nat.le_of_ble_eq_true rfl) (Nat.le_of_ble_eq_true rfl)
def w_X12_isFull (st : zTs)  (P : Int32 → Prop) : Prop := ((zgF st 100 0 48) = 300 → P 1) ∧ (¬ (zgF st 100 0 48) = 300 → P 0)
set_option maxHeartbeats 4000000 in
set_option maxRecDepth 100000 in
theorem c_X12_isFull {Z : zZ} {l : Launch} (hfl : l.stackTraces = false) {st : zTs}  {P : Int32 → Prop} (h : w_X12_isFull st  P) : zN Z l yX12_isFull cX12_isFull 1 (some .boolean) ({ frames := 1, cells := 0, slots := 0, locals := 12 } : Room) (zh Z zm1 st) [.ref 100] (zRi Z st P) := by
  unfold w_X12_isFull at h
  refine z_enterN (by decide) (Nat.le_of_ble_eq_true rfl) (lc0 := [some (.ref 100)]) rfl ?_
  intro p e s m args below meth c ad0 C hr _
  have hn9 : True := trivial
  replace C : zC Z p s m args meth c cX12_isFull 1 RX12 := C
  refine z_aload_n C dX12_isFull_0 (i := 0) rfl rfl ?_
  refine t_get C dX12_isFull_1 fl_X12_427 (k := 100) (i := 0) (by decide) rfl (fg_100_48 _ _ _) ?_
  refine z_sipush C dX12_isFull_4 (v := 300) (by decide) ?_
  refine z_icmp_ne C dX12_isFull_7 (tgt := 14) (by decide) (fun c7 => ?_) (fun c7 => ?_)
  · have h := h.2 c7
    refine z_iconst C dX12_isFull_14 (v := 0) (by decide) ?_
    exact z_iret C dX12_isFull_15 hr rfl ⟨rfl, _, rfl, h⟩ (Nat.le_of_ble_eq_true rfl) (Nat.le_of_ble_eq_true rfl)
  · have h := h.1 c7
    refine z_iconst C dX12_isFull_10 (v := 1) (by decide) ?_
    refine z_goto C dX12_isFull_11 (tgt := 15) (by decide) ?_
    exact z_iret C dX12_isFull_15 hr rfl ⟨rfl, _, rfl, h⟩ (Nat.le_of_ble_eq_true rfl) (Nat.le_of_ble_eq_true rfl)
def w_X12_pays (st : zTs) (a1 : Int32) (a2 : Int32) (a3 : Int32) (P : zTs → Prop) : Prop := vp_in (zgF st 100 0 48) 300 ∧ (∀ s9 : zTs, s9 = zuA st 135 0 (zgF st 100 0 48 : Int32).toNatClampNeg a1 → (vp_in (zgF s9 100 0 48) 300 ∧ (∀ s19 : zTs, s19 = zuA s9 136 0 (zgF s9 100 0 48 : Int32).toNatClampNeg a2 → (vp_in (zgF s19 100 0 48) 300 ∧ (∀ s29 : zTs, s29 = zuA s19 137 0 (zgF s19 100 0 48 : Int32).toNatClampNeg a3 → (vp_in (zgF s29 100 0 48) 300 ∧ (∀ s42 : zTs, s42 = zuA s29 138 0 (zgF s29 100 0 48 : Int32).toNatClampNeg (zgF s29 100 0 3) → (∀ s50 : zTs, s50 = zuF s42 100 0 48 ((zgF s42 100 0 48) + 1) → (P s50)))))))))
set_option maxHeartbeats 4000000 in
set_option maxRecDepth 100000 in
theorem c_X12_pays {Z : zZ} {l : Launch} (hfl : l.stackTraces = false) {st : zTs} {a1 : Int32} {a2 : Int32} {a3 : Int32} {P : zTs → Prop} (h : w_X12_pays st a1 a2 a3 P) : zN Z l yX12_pays cX12_pays 4 none ({ frames := 1, cells := 0, slots := 0, locals := 12 } : Room) (zh Z zm1 st) [.ref 100, .int (a1), .int (a2), .int (a3)] (zWv Z zm1 P) := by
  unfold w_X12_pays at h
  refine z_enterN (by decide) (Nat.le_of_ble_eq_true rfl) (lc0 := [some (.ref 100), some (.int (a1)), some (.int (a2)), some (.int (a3))]) rfl ?_
  intro p e s m args below meth c ad0 C hr _
  have hn9 : True := trivial
  replace C : zC Z p s m args meth c cX12_pays 4 RX12 := C
  refine z_aload_n C dX12_pays_0 (i := 0) rfl rfl ?_
  refine t_get C dX12_pays_1 fl_X12_118 (k := 100) (i := 0) (by decide) rfl (fg_100_50 _ _ _) ?_
  refine z_aload_n C dX12_pays_4 (i := 0) rfl rfl ?_
  refine t_get C dX12_pays_5 fl_X12_427 (k := 100) (i := 0) (by decide) rfl (fg_100_48 _ _ _) ?_
  refine z_iload_n C dX12_pays_8 (i := 1) rfl rfl ?_
  obtain ⟨g9, h⟩ := h
  refine t_iast C dX12_pays_9 (k := 135) (i := 0) (by decide) rfl (fun s9 => sh_135 _ _ s9 _) g9 ?_
  refine t_tops (fun s9 es9 => ?_)
  have h := h s9 es9
  refine z_aload_n C dX12_pays_10 (i := 0) rfl rfl ?_
  refine t_get C dX12_pays_11 fl_X12_121 (k := 100) (i := 0) (by decide) rfl (fg_100_51 _ _ _) ?_
  refine z_aload_n C dX12_pays_14 (i := 0) rfl rfl ?_
  refine t_get C dX12_pays_15 fl_X12_427 (k := 100) (i := 0) (by decide) rfl (fg_100_48 _ _ _) ?_
  refine z_iload_n C dX12_pays_18 (i := 2) rfl rfl ?_
  obtain ⟨g19, h⟩ := h
  refine t_iast C dX12_pays_19 (k := 136) (i := 0) (by decide) rfl (fun s9 => sh_136 _ _ s9 _) g19 ?_
  refine t_tops (fun s19 es19 => ?_)
  have h := h s19 es19
  refine z_aload_n C dX12_pays_20 (i := 0) rfl rfl ?_
  refine t_get C dX12_pays_21 fl_X12_124 (k := 100) (i := 0) (by decide) rfl (fg_100_52 _ _ _) ?_
  refine z_aload_n C dX12_pays_24 (i := 0) rfl rfl ?_
  refine t_get C dX12_pays_25 fl_X12_427 (k := 100) (i := 0) (by decide) rfl (fg_100_48 _ _ _) ?_
  refine z_iload_n C dX12_pays_28 (i := 3) rfl rfl ?_
  obtain ⟨g29, h⟩ := h
  refine t_iast C dX12_pays_29 (k := 137) (i := 0) (by decide) rfl (fun s9 => sh_137 _ _ s9 _) g29 ?_
  refine t_tops (fun s29 es29 => ?_)
  have h := h s29 es29
  refine z_aload_n C dX12_pays_30 (i := 0) rfl rfl ?_
  refine t_get C dX12_pays_31 fl_X12_127 (k := 100) (i := 0) (by decide) rfl (fg_100_53 _ _ _) ?_
  refine z_aload_n C dX12_pays_34 (i := 0) rfl rfl ?_
  refine t_get C dX12_pays_35 fl_X12_427 (k := 100) (i := 0) (by decide) rfl (fg_100_48 _ _ _) ?_
  refine z_aload_n C dX12_pays_38 (i := 0) rfl rfl ?_
  refine t_get C dX12_pays_39 fl_X12_222 (k := 100) (i := 0) (by decide) rfl (fg_100_3 _ _ _) ?_
  obtain ⟨g42, h⟩ := h
  refine t_iast C dX12_pays_42 (k := 138) (i := 0) (by decide) rfl (fun s9 => sh_138 _ _ s9 _) g42 ?_
  refine t_tops (fun s42 es42 => ?_)
  have h := h s42 es42
  refine z_aload_n C dX12_pays_43 (i := 0) rfl rfl ?_
  refine z_dup C dX12_pays_44 rfl ?_
  refine t_get C dX12_pays_45 fl_X12_427 (k := 100) (i := 0) (by decide) rfl (fg_100_48 _ _ _) ?_
  refine z_iconst C dX12_pays_48 (v := 1) (by decide) ?_
  refine z_iadd C dX12_pays_49 ?_
  refine t_put C dX12_pays_50 fq_X12_427 (Or.inl rfl) (k := 100) (i := 0) (by decide) rfl ⟨rfl, rfl⟩ (fp_100_48 _ _ _ _ _) ?_
  refine t_tops (fun s50 es50 => ?_)
  have h := h s50 es50
  exact z_vret C dX12_pays_53 hr ⟨_, rfl, rfl, h⟩ (Nat.le_of_ble_eq_true rfl) (Nat.le_of_ble_eq_true rfl)
def w_X12_ownOwner (st : zTs) (a1 : Int32) (P : Int32 → Prop) : Prop := vp_in a1 30 ∧ (vp_in a1 30 ∧ (vp_in ((2 * (zgA st 112 0 (a1 : Int32).toNatClampNeg)) + (zgA st 113 0 (a1 : Int32).toNatClampNeg)) 12 ∧ (P (zgA st 101 0 ((2 * (zgA st 112 0 (a1 : Int32).toNatClampNeg)) + (zgA st 113 0 (a1 : Int32).toNatClampNeg) : Int32).toNatClampNeg))))
set_option maxHeartbeats 4000000 in
set_option maxRecDepth 100000 in
theorem c_X12_ownOwner {Z : zZ} {l : Launch} (hfl : l.stackTraces = false) {st : zTs} {a1 : Int32} {P : Int32 → Prop} (h : w_X12_ownOwner st a1 P) : zN Z l yX12_ownOwner cX12_ownOwner 2 (some .int) ({ frames := 1, cells := 0, slots := 0, locals := 12 } : Room) (zh Z zm1 st) [.ref 100, .int (a1)] (zRi Z st P) := by
  unfold w_X12_ownOwner at h
  refine z_enterN (by decide) (Nat.le_of_ble_eq_true rfl) (lc0 := [some (.ref 100), some (.int (a1))]) rfl ?_
  intro p e s m args below meth c ad0 C hr _
  have hn9 : True := trivial
  replace C : zC Z p s m args meth c cX12_ownOwner 2 RX12 := C
  refine z_aload_n C dX12_ownOwner_0 (i := 0) rfl rfl ?_
  refine t_get C dX12_ownOwner_1 fl_X12_9 (k := 100) (i := 0) (by decide) rfl (fg_100_4 _ _ _) ?_
  refine z_iconst C dX12_ownOwner_4 (v := 2) (by decide) ?_
  refine z_aload_n C dX12_ownOwner_5 (i := 0) rfl rfl ?_
  refine t_get C dX12_ownOwner_6 fl_X12_49 (k := 100) (i := 0) (by decide) rfl (fg_100_24 _ _ _) ?_
  refine z_iload_n C dX12_ownOwner_9 (i := 1) rfl rfl ?_
  obtain ⟨g10, h⟩ := h
  refine t_iald C dX12_ownOwner_10 (k := 112) (i := 0) (by decide) rfl (sh_112 _ _ _ _) g10 ?_
  refine z_imul C dX12_ownOwner_11 ?_
  refine z_aload_n C dX12_ownOwner_12 (i := 0) rfl rfl ?_
  refine t_get C dX12_ownOwner_13 fl_X12_52 (k := 100) (i := 0) (by decide) rfl (fg_100_25 _ _ _) ?_
  refine z_iload_n C dX12_ownOwner_16 (i := 1) rfl rfl ?_
  obtain ⟨g17, h⟩ := h
  refine t_iald C dX12_ownOwner_17 (k := 113) (i := 0) (by decide) rfl (sh_113 _ _ _ _) g17 ?_
  refine z_iadd C dX12_ownOwner_18 ?_
  obtain ⟨g19, h⟩ := h
  refine t_iald C dX12_ownOwner_19 (k := 101) (i := 0) (by decide) rfl (sh_101 _ _ _ _) g19 ?_
  exact z_iret C dX12_ownOwner_20 hr rfl ⟨rfl, _, rfl, h⟩ (Nat.le_of_ble_eq_true rfl) (Nat.le_of_ble_eq_true rfl)
def w_X12_otherOwner (st : zTs) (a1 : Int32) (P : Int32 → Prop) : Prop := vp_in a1 30 ∧ (vp_in a1 30 ∧ (vp_in (((2 * (zgA st 112 0 (a1 : Int32).toNatClampNeg)) + 1) - (zgA st 113 0 (a1 : Int32).toNatClampNeg)) 12 ∧ (P (zgA st 101 0 (((2 * (zgA st 112 0 (a1 : Int32).toNatClampNeg)) + 1) - (zgA st 113 0 (a1 : Int32).toNatClampNeg) : Int32).toNatClampNeg))))
set_option maxHeartbeats 4000000 in
set_option maxRecDepth 100000 in
theorem c_X12_otherOwner {Z : zZ} {l : Launch} (hfl : l.stackTraces = false) {st : zTs} {a1 : Int32} {P : Int32 → Prop} (h : w_X12_otherOwner st a1 P) : zN Z l yX12_otherOwner cX12_otherOwner 2 (some .int) ({ frames := 1, cells := 0, slots := 0, locals := 12 } : Room) (zh Z zm1 st) [.ref 100, .int (a1)] (zRi Z st P) := by
  unfold w_X12_otherOwner at h
  refine z_enterN (by decide) (Nat.le_of_ble_eq_true rfl) (lc0 := [some (.ref 100), some (.int (a1))]) rfl ?_
  intro p e s m args below meth c ad0 C hr _
  have hn9 : True := trivial
  replace C : zC Z p s m args meth c cX12_otherOwner 2 RX12 := C
  refine z_aload_n C dX12_otherOwner_0 (i := 0) rfl rfl ?_
  refine t_get C dX12_otherOwner_1 fl_X12_9 (k := 100) (i := 0) (by decide) rfl (fg_100_4 _ _ _) ?_
  refine z_iconst C dX12_otherOwner_4 (v := 2) (by decide) ?_
  refine z_aload_n C dX12_otherOwner_5 (i := 0) rfl rfl ?_
  refine t_get C dX12_otherOwner_6 fl_X12_49 (k := 100) (i := 0) (by decide) rfl (fg_100_24 _ _ _) ?_
  refine z_iload_n C dX12_otherOwner_9 (i := 1) rfl rfl ?_
  obtain ⟨g10, h⟩ := h
  refine t_iald C dX12_otherOwner_10 (k := 112) (i := 0) (by decide) rfl (sh_112 _ _ _ _) g10 ?_
  refine z_imul C dX12_otherOwner_11 ?_
  refine z_iconst C dX12_otherOwner_12 (v := 1) (by decide) ?_
  refine z_iadd C dX12_otherOwner_13 ?_
  refine z_aload_n C dX12_otherOwner_14 (i := 0) rfl rfl ?_
  refine t_get C dX12_otherOwner_15 fl_X12_52 (k := 100) (i := 0) (by decide) rfl (fg_100_25 _ _ _) ?_
  refine z_iload_n C dX12_otherOwner_18 (i := 1) rfl rfl ?_
  obtain ⟨g19, h⟩ := h
  refine t_iald C dX12_otherOwner_19 (k := 113) (i := 0) (by decide) rfl (sh_113 _ _ _ _) g19 ?_
  refine z_isub C dX12_otherOwner_20 ?_
  obtain ⟨g21, h⟩ := h
  refine t_iald C dX12_otherOwner_21 (k := 101) (i := 0) (by decide) rfl (sh_101 _ _ _ _) g21 ?_
  exact z_iret C dX12_otherOwner_22 hr rfl ⟨rfl, _, rfl, h⟩ (Nat.le_of_ble_eq_true rfl) (Nat.le_of_ble_eq_true rfl)
def w_X12_knownSum_49 (P : Int32 → Prop) (st : zTs) (K10 : Int32 → Int32 → Int32 → Int32 → Prop) (a1 : Int32) (a2 : Int32) (a3 : Int32) (a4 : Int32) : Prop := ∀ x49 : Int32, x49 = a4 + 1 → (K10 a1 a2 a3 x49)
set_option maxHeartbeats 4000000 in
set_option maxRecDepth 100000 in
theorem j_X12_knownSum_49 {P : Int32 → Prop} {st : zTs} {K10 : Int32 → Int32 → Int32 → Int32 → Prop} (hfl : l.stackTraces = false) (C : zC Z p s m args meth c cX12_knownSum 5 RX12) (hr : meth.sig.returnType = (some .int)) (hn9 : True) (hK10 : ∀ (a1 : Int32) (a2 : Int32) (a3 : Int32) (a4 : Int32), K10 a1 a2 a3 a4 → zG Z ad0 h0 p l e ({ frames := 1, cells := 0, slots := 0, locals := 12 } : Room) s m args below meth c (MQ below (zQ Z ad0 h0 (zRi Z st P)) args s 0 0 (zA Z)) 0 0 (zh Z zm1 st) 5 10 [some (.ref 100), some (.int (a1)), some (.int (a2)), some (.int (a3)), some (.int (a4))] []) (a1 : Int32) (a2 : Int32) (a3 : Int32) (a4 : Int32) (h : w_X12_knownSum_49 P st K10 a1 a2 a3 a4) : zG Z ad0 h0 p l e ({ frames := 1, cells := 0, slots := 0, locals := 12 } : Room) s m args below meth c (MQ below (zQ Z ad0 h0 (zRi Z st P)) args s 0 0 (zA Z)) 0 0 (zh Z zm1 st) 5 49 [some (.ref 100), some (.int (a1)), some (.int (a2)), some (.int (a3)), some (.int (a4))] [] := by
  unfold w_X12_knownSum_49 at h
  obtain ⟨x49, ex49⟩ : ∃ z : Int32, z = a4 + 1 := ⟨_, rfl⟩
  have h := h x49 ex49
  refine z_iinc C dX12_knownSum_49 (v := x49) (lc' := [some (.ref 100), some (.int (a1)), some (.int (a2)), some (.int (a3)), some (.int (x49))]) rfl (by decide) (by rw [ex49]; rfl) rfl ?_
  refine z_goto C dX12_knownSum_52 (tgt := 10) (by decide) ?_
  exact t_drop [true, true, true, true, true] rfl (hK10 a1 a2 a3 x49 h)
def w_X12_knownSum_10 (P : Int32 → Prop) (st : zTs)  : Nat → Int32 → Int32 → Int32 → Int32 → Prop
  | 0, _, _, _, _ => False
  | n9 + 1, a1, a2, a3, a4 => ((zgF st 100 0 49) ≤ a4 → P a3) ∧ (¬ (zgF st 100 0 49) ≤ a4 → vp_in a4 60 ∧ (((zgA st 139 0 (a4 : Int32).toNatClampNeg) = a1 → vp_in a4 60 ∧ ((a2 < (zgA st 141 0 (a4 : Int32).toNatClampNeg) → w_X12_knownSum_49 P st (w_X12_knownSum_10 P st n9) a1 a2 a3 a4) ∧ (¬ a2 < (zgA st 141 0 (a4 : Int32).toNatClampNeg) → vp_in a4 60 ∧ (∀ x48 : Int32, x48 = zgA st 140 0 (a4 : Int32).toNatClampNeg → (w_X12_knownSum_49 P st (w_X12_knownSum_10 P st n9) a1 a2 x48 a4))))) ∧ (¬ (zgA st 139 0 (a4 : Int32).toNatClampNeg) = a1 → w_X12_knownSum_49 P st (w_X12_knownSum_10 P st n9) a1 a2 a3 a4)))
set_option maxHeartbeats 4000000 in
set_option maxRecDepth 100000 in
theorem j_X12_knownSum_10 {P : Int32 → Prop} {st : zTs}  (hfl : l.stackTraces = false) (C : zC Z p s m args meth c cX12_knownSum 5 RX12) (hr : meth.sig.returnType = (some .int)) (hn9 : True)  : ∀ (n9 : Nat) (a1 : Int32) (a2 : Int32) (a3 : Int32) (a4 : Int32), w_X12_knownSum_10 P st n9 a1 a2 a3 a4 → zG Z ad0 h0 p l e ({ frames := 1, cells := 0, slots := 0, locals := 12 } : Room) s m args below meth c (MQ below (zQ Z ad0 h0 (zRi Z st P)) args s 0 0 (zA Z)) 0 0 (zh Z zm1 st) 5 10 [some (.ref 100), some (.int (a1)), some (.int (a2)), some (.int (a3)), some (.int (a4))] [] := by
  intro n9
  induction n9 with
  | zero => intro a1 a2 a3 a4 h; exact h.elim
  | succ n9 hK10 =>
    intro a1 a2 a3 a4 h
    rw [w_X12_knownSum_10] at h
    refine z_iload C dX12_knownSum_10 rfl ?_
    refine z_aload_n C dX12_knownSum_12 (i := 0) rfl rfl ?_
    refine t_get C dX12_knownSum_13 fl_X12_430 (k := 100) (i := 0) (by decide) rfl (fg_100_49 _ _ _) ?_
    refine z_icmp_ge C dX12_knownSum_16 (tgt := 55) (by decide) (fun c16 => ?_) (fun c16 => ?_)
    · have h := h.1 c16
      refine z_iload_n C dX12_knownSum_55 (i := 3) rfl rfl ?_
      exact z_iret C dX12_knownSum_56 hr rfl ⟨rfl, _, rfl, h⟩ (Nat.le_of_ble_eq_true rfl) (Nat.le_of_ble_eq_true rfl)
    · have h := h.2 c16
      refine z_aload_n C dX12_knownSum_19 (i := 0) rfl rfl ?_
      refine t_get C dX12_knownSum_20 fl_X12_130 (k := 100) (i := 0) (by decide) rfl (fg_100_54 _ _ _) ?_
      refine z_iload C dX12_knownSum_23 rfl ?_
      obtain ⟨g25, h⟩ := h
      refine t_iald C dX12_knownSum_25 (k := 139) (i := 0) (by decide) rfl (sh_139 _ _ _ _) g25 ?_
      refine z_iload_n C dX12_knownSum_26 (i := 1) rfl rfl ?_
      refine z_icmp_ne C dX12_knownSum_27 (tgt := 49) (by decide) (fun c27 => ?_) (fun c27 => ?_)
      · have h := h.2 c27
        exact t_drop [true, true, true, true, true] rfl (j_X12_knownSum_49 hfl C hr hn9 hK10 a1 a2 a3 a4 h)
      · have h := h.1 c27
        refine z_aload_n C dX12_knownSum_30 (i := 0) rfl rfl ?_
        refine t_get C dX12_knownSum_31 fl_X12_136 (k := 100) (i := 0) (by decide) rfl (fg_100_56 _ _ _) ?_
        refine z_iload C dX12_knownSum_34 rfl ?_
        obtain ⟨g36, h⟩ := h
        refine t_iald C dX12_knownSum_36 (k := 141) (i := 0) (by decide) rfl (sh_141 _ _ _ _) g36 ?_
        refine z_iload_n C dX12_knownSum_37 (i := 2) rfl rfl ?_
        refine z_icmp_gt C dX12_knownSum_38 (tgt := 49) (by decide) (fun c38 => ?_) (fun c38 => ?_)
        · have h := h.1 c38
          exact t_drop [true, true, true, true, true] rfl (j_X12_knownSum_49 hfl C hr hn9 hK10 a1 a2 a3 a4 h)
        · have h := h.2 c38
          refine z_aload_n C dX12_knownSum_41 (i := 0) rfl rfl ?_
          refine t_get C dX12_knownSum_42 fl_X12_133 (k := 100) (i := 0) (by decide) rfl (fg_100_55 _ _ _) ?_
          refine z_iload C dX12_knownSum_45 rfl ?_
          obtain ⟨g47, h⟩ := h
          refine t_iald C dX12_knownSum_47 (k := 140) (i := 0) (by decide) rfl (sh_140 _ _ _ _) g47 ?_
          refine t_topi (fun x48 ex48 => ?_)
          have h := h x48 ex48
          refine z_istore_n C dX12_knownSum_48 (i := 3) (lc' := [some (.ref 100), some (.int (a1)), some (.int (a2)), some (.int (x48)), some (.int (a4))]) rfl (by decide) rfl ?_
          exact t_drop [true, true, true, true, true] rfl (j_X12_knownSum_49 hfl C hr hn9 hK10 a1 a2 x48 a4 h)
def w_X12_knownSum (st : zTs) (a1 : Int32) (a2 : Int32) (P : Int32 → Prop) : Prop := vp_in a1 300 ∧ (∀ x6 : Int32, x6 = zgA st 137 0 (a1 : Int32).toNatClampNeg → (w_X12_knownSum_10 P st zfu a1 a2 x6 (0)))
set_option maxHeartbeats 4000000 in
set_option maxRecDepth 100000 in
theorem c_X12_knownSum {Z : zZ} {l : Launch} (hfl : l.stackTraces = false) {st : zTs} {a1 : Int32} {a2 : Int32} {P : Int32 → Prop} (h : w_X12_knownSum st a1 a2 P) : zN Z l yX12_knownSum cX12_knownSum 5 (some .int) ({ frames := 1, cells := 0, slots := 0, locals := 12 } : Room) (zh Z zm1 st) [.ref 100, .int (a1), .int (a2)] (zRi Z st P) := by
  unfold w_X12_knownSum at h
  refine z_enterN (by decide) (Nat.le_of_ble_eq_true rfl) (lc0 := [some (.ref 100), some (.int (a1)), some (.int (a2)), none, none]) rfl ?_
  intro p e s m args below meth c ad0 C hr _
  have hn9 : True := trivial
  replace C : zC Z p s m args meth c cX12_knownSum 5 RX12 := C
  refine z_aload_n C dX12_knownSum_0 (i := 0) rfl rfl ?_
  refine t_get C dX12_knownSum_1 fl_X12_124 (k := 100) (i := 0) (by decide) rfl (fg_100_52 _ _ _) ?_
  refine z_iload_n C dX12_knownSum_4 (i := 1) rfl rfl ?_
  obtain ⟨g5, h⟩ := h
  refine t_iald C dX12_knownSum_5 (k := 137) (i := 0) (by decide) rfl (sh_137 _ _ _ _) g5 ?_
  refine t_topi (fun x6 ex6 => ?_)
  have h := h x6 ex6
  refine z_istore_n C dX12_knownSum_6 (i := 3) (lc' := [some (.ref 100), some (.int (a1)), some (.int (a2)), some (.int (x6)), none]) rfl (by decide) rfl ?_
  refine z_iconst C dX12_knownSum_7 (v := 0) (by decide) ?_
  refine z_istore C dX12_knownSum_8 (lc' := [some (.ref 100), some (.int (a1)), some (.int (a2)), some (.int (x6)), some (.int (0))]) (by decide) rfl ?_
  exact t_drop [true, true, true, true, true] rfl (j_X12_knownSum_10 hfl C hr hn9  zfu a1 a2 x6 (0) h)
def w_X12_isPayment_18 (P : Int32 → zTs → Prop)  (st : zTs) (b0 : Int32) : Prop := ∀ s18 : zTs, s18 = zuF st 100 0 0 b0 → (((zgF s18 100 0 0) = 0 → P 1 s18) ∧ (¬ (zgF s18 100 0 0) = 0 → P 0 s18))
set_option maxHeartbeats 4000000 in
set_option maxRecDepth 100000 in
theorem j_X12_isPayment_18 {P : Int32 → zTs → Prop}  (hfl : l.stackTraces = false) (C : zC Z p s m args meth c cX12_isPayment 2 RX12) (hr : meth.sig.returnType = (some .boolean)) (hn9 : True)  (st : zTs) (b0 : Int32) (h : w_X12_isPayment_18 P st b0) : zG Z ad0 h0 p l e ({ frames := 1, cells := 0, slots := 0, locals := 12 } : Room) s m args below meth c (MQ below (zQ Z ad0 h0 (zWi Z P)) args s 0 0 (zA Z)) 0 0 (zh Z zm1 st) 2 18 [some (.ref 100), none] [.int (b0), .ref 100] := by
  unfold w_X12_isPayment_18 at h
  refine t_put C dX12_isPayment_18 fq_X12_199 (Or.inl rfl) (k := 100) (i := 0) (by decide) rfl ⟨rfl, rfl⟩ (fp_100_0 _ _ _ _ _) ?_
  refine t_tops (fun s18 es18 => ?_)
  have h := h s18 es18
  refine z_aload_n C dX12_isPayment_21 (i := 0) rfl rfl ?_
  refine t_get C dX12_isPayment_22 fl_X12_199 (k := 100) (i := 0) (by decide) rfl (fg_100_0 _ _ _) ?_
  refine z_if_ne C dX12_isPayment_25 (tgt := 32) (by decide) (fun c25 => ?_) (fun c25 => ?_)
  · have h := h.2 c25
    refine z_iconst C dX12_isPayment_32 (v := 0) (by decide) ?_
    exact z_iret C dX12_isPayment_33 hr rfl ⟨_, _, rfl, rfl, h⟩ (Nat.le_of_ble_eq_true rfl) (Nat.le_of_ble_eq_true rfl)
  · have h := h.1 c25
    refine z_iconst C dX12_isPayment_28 (v := 1) (by decide) ?_
    refine z_goto C dX12_isPayment_29 (tgt := 33) (by decide) ?_
    exact z_iret C dX12_isPayment_33 hr rfl ⟨_, _, rfl, rfl, h⟩ (Nat.le_of_ble_eq_true rfl) (Nat.le_of_ble_eq_true rfl)
def w_X12_isPayment (st : zTs) (a1 : Int32) (P : Int32 → zTs → Prop) : Prop := (a1 < 0 → w_X12_isPayment_18 P st (1)) ∧ (¬ a1 < 0 → (a1 < (zgF st 100 0 48) → w_X12_isPayment_18 P st (0)) ∧ (¬ a1 < (zgF st 100 0 48) → w_X12_isPayment_18 P st (1)))
set_option maxHeartbeats 4000000 in
set_option maxRecDepth 100000 in
theorem c_X12_isPayment {Z : zZ} {l : Launch} (hfl : l.stackTraces = false) {st : zTs} {a1 : Int32} {P : Int32 → zTs → Prop} (h : w_X12_isPayment st a1 P) : zN Z l yX12_isPayment cX12_isPayment 2 (some .boolean) ({ frames := 1, cells := 0, slots := 0, locals := 12 } : Room) (zh Z zm1 st) [.ref 100, .int (a1)] (zWi Z P) := by
  unfold w_X12_isPayment at h
  refine z_enterN (by decide) (Nat.le_of_ble_eq_true rfl) (lc0 := [some (.ref 100), some (.int (a1))]) rfl ?_
  intro p e s m args below meth c ad0 C hr _
  have hn9 : True := trivial
  replace C : zC Z p s m args meth c cX12_isPayment 2 RX12 := C
  refine z_aload_n C dX12_isPayment_0 (i := 0) rfl rfl ?_
  refine z_iload_n C dX12_isPayment_1 (i := 1) rfl rfl ?_
  refine z_if_lt C dX12_isPayment_2 (tgt := 13) (by decide) (fun c2 => ?_) (fun c2 => ?_)
  · have h := h.1 c2
    refine z_iconst C dX12_isPayment_13 (v := 1) (by decide) ?_
    refine z_goto C dX12_isPayment_14 (tgt := 18) (by decide) ?_
    exact t_drop [true, false] rfl (j_X12_isPayment_18 hfl C hr hn9  st (1) h)
  · have h := h.2 c2
    refine z_iload_n C dX12_isPayment_5 (i := 1) rfl rfl ?_
    refine z_aload_n C dX12_isPayment_6 (i := 0) rfl rfl ?_
    refine t_get C dX12_isPayment_7 fl_X12_427 (k := 100) (i := 0) (by decide) rfl (fg_100_48 _ _ _) ?_
    refine z_icmp_lt C dX12_isPayment_10 (tgt := 17) (by decide) (fun c10 => ?_) (fun c10 => ?_)
    · have h := h.1 c10
      refine z_iconst C dX12_isPayment_17 (v := 0) (by decide) ?_
      exact t_drop [true, false] rfl (j_X12_isPayment_18 hfl C hr hn9  st (0) h)
    · have h := h.2 c10
      refine z_iconst C dX12_isPayment_13 (v := 1) (by decide) ?_
      refine z_goto C dX12_isPayment_14 (tgt := 18) (by decide) ?_
      exact t_drop [true, false] rfl (j_X12_isPayment_18 hfl C hr hn9  st (1) h)
def w_X12_mend_25 (P : Int32 → zTs → Prop)  (st : zTs) (a1 : Int32) (a2 : Int32) (b0 : Int32) : Prop := w_X12_bad st b0 2 (fun (r26 : Int32) (s26 : zTs) => ((r26 = 0 → ((zgF s26 100 0 49) = 60 → P (-1) s26) ∧ (¬ (zgF s26 100 0 49) = 60 → w_X12_knownSum s26 a1 (zgF s26 100 0 3) (fun (r51 : Int32) => (vp_in (zgF s26 100 0 49) 60 ∧ (∀ s64 : zTs, s64 = zuA s26 139 0 (zgF s26 100 0 49 : Int32).toNatClampNeg a1 → (vp_in (zgF s64 100 0 49) 60 ∧ (∀ s74 : zTs, s74 = zuA s64 140 0 (zgF s64 100 0 49 : Int32).toNatClampNeg a2 → (vp_in (zgF s74 100 0 49) 60 ∧ (∀ s87 : zTs, s87 = zuA s74 141 0 (zgF s74 100 0 49 : Int32).toNatClampNeg (zgF s74 100 0 3) → (∀ s95 : zTs, s95 = zuF s87 100 0 49 ((zgF s87 100 0 49) + 1) → (P r51 s95))))))))))) ∧ (¬ r26 = 0 → P 0 s26)))
set_option maxHeartbeats 4000000 in
set_option maxRecDepth 100000 in
theorem j_X12_mend_25 {P : Int32 → zTs → Prop}  (hfl : l.stackTraces = false) (C : zC Z p s m args meth c cX12_mend 4 RX12) (hr : meth.sig.returnType = (some .int)) (hn9 : True)  (st : zTs) (a1 : Int32) (a2 : Int32) (b0 : Int32) (h : w_X12_mend_25 P st a1 a2 b0) : zG Z ad0 h0 p l e ({ frames := 2, cells := 0, slots := 0, locals := 36 } : Room) s m args below meth c (MQ below (zQ Z ad0 h0 (zWi Z P)) args s 0 0 (zA Z)) 0 0 (zh Z zm1 st) 4 25 [some (.ref 100), some (.int (a1)), some (.int (a2)), none] [.int (b0), .ref 100] := by
  unfold w_X12_mend_25 at h
  refine z_iconst C dX12_mend_25 (v := 2) (by decide) ?_
  refine t_callV C (rest := []) (c2 := 0) (s2 := 0) (kd := 100) (i := 0) [.int (b0), .int (2)] dX12_mend_26 lk_X12_205 li_X12_bad le_X12_bad (c_X12_bad hfl h) rfl rfl (by decide) rfl ⟨_, rfl⟩ rfl ⟨Nat.le_of_ble_eq_true rfl, Nat.le_of_ble_eq_true rfl⟩ (Nat.le_of_ble_eq_true rfl) ⟨Nat.le_of_ble_eq_true rfl, Nat.le_of_ble_eq_true rfl, Nat.le_of_ble_eq_true rfl, Nat.le_of_ble_eq_true rfl⟩ (k_Wi fun r26 s26 h => ?_)
  refine z_if_eq C dX12_mend_29 (tgt := 34) (by decide) (fun c29 => ?_) (fun c29 => ?_)
  · have h := h.1 c29
    refine z_aload_n C dX12_mend_34 (i := 0) rfl rfl ?_
    refine t_get C dX12_mend_35 fl_X12_430 (k := 100) (i := 0) (by decide) rfl (fg_100_49 _ _ _) ?_
    refine z_bipush C dX12_mend_38 (v := 60) (by decide) ?_
    refine z_icmp_ne C dX12_mend_40 (tgt := 45) (by decide) (fun c40 => ?_) (fun c40 => ?_)
    · have h := h.2 c40
      refine z_aload_n C dX12_mend_45 (i := 0) rfl rfl ?_
      refine z_iload_n C dX12_mend_46 (i := 1) rfl rfl ?_
      refine z_aload_n C dX12_mend_47 (i := 0) rfl rfl ?_
      refine t_get C dX12_mend_48 fl_X12_222 (k := 100) (i := 0) (by decide) rfl (fg_100_3 _ _ _) ?_
      refine t_callV C (rest := []) (c2 := 0) (s2 := 0) (kd := 100) (i := 0) [.int (a1), .int (zgF s26 100 0 3)] dX12_mend_51 lk_X12_437 li_X12_knownSum le_X12_knownSum (c_X12_knownSum hfl h) rfl rfl (by decide) rfl ⟨_, rfl⟩ rfl ⟨Nat.le_of_ble_eq_true rfl, Nat.le_of_ble_eq_true rfl⟩ (Nat.le_of_ble_eq_true rfl) ⟨Nat.le_of_ble_eq_true rfl, Nat.le_of_ble_eq_true rfl, Nat.le_of_ble_eq_true rfl, Nat.le_of_ble_eq_true rfl⟩ (k_Ri fun r51 h => ?_)
      refine z_istore_n C dX12_mend_54 (i := 3) (lc' := [some (.ref 100), some (.int (a1)), some (.int (a2)), some (.int (r51))]) rfl (by decide) rfl ?_
      refine z_aload_n C dX12_mend_55 (i := 0) rfl rfl ?_
      refine t_get C dX12_mend_56 fl_X12_130 (k := 100) (i := 0) (by decide) rfl (fg_100_54 _ _ _) ?_
      refine z_aload_n C dX12_mend_59 (i := 0) rfl rfl ?_
      refine t_get C dX12_mend_60 fl_X12_430 (k := 100) (i := 0) (by decide) rfl (fg_100_49 _ _ _) ?_
      refine z_iload_n C dX12_mend_63 (i := 1) rfl rfl ?_
      obtain ⟨g64, h⟩ := h
      refine t_iast C dX12_mend_64 (k := 139) (i := 0) (by decide) rfl (fun s9 => sh_139 _ _ s9 _) g64 ?_
      refine t_tops (fun s64 es64 => ?_)
      have h := h s64 es64
      refine z_aload_n C dX12_mend_65 (i := 0) rfl rfl ?_
      refine t_get C dX12_mend_66 fl_X12_133 (k := 100) (i := 0) (by decide) rfl (fg_100_55 _ _ _) ?_
      refine z_aload_n C dX12_mend_69 (i := 0) rfl rfl ?_
      refine t_get C dX12_mend_70 fl_X12_430 (k := 100) (i := 0) (by decide) rfl (fg_100_49 _ _ _) ?_
      refine z_iload_n C dX12_mend_73 (i := 2) rfl rfl ?_
      obtain ⟨g74, h⟩ := h
      refine t_iast C dX12_mend_74 (k := 140) (i := 0) (by decide) rfl (fun s9 => sh_140 _ _ s9 _) g74 ?_
      refine t_tops (fun s74 es74 => ?_)
      have h := h s74 es74
      refine z_aload_n C dX12_mend_75 (i := 0) rfl rfl ?_
      refine t_get C dX12_mend_76 fl_X12_136 (k := 100) (i := 0) (by decide) rfl (fg_100_56 _ _ _) ?_
      refine z_aload_n C dX12_mend_79 (i := 0) rfl rfl ?_
      refine t_get C dX12_mend_80 fl_X12_430 (k := 100) (i := 0) (by decide) rfl (fg_100_49 _ _ _) ?_
      refine z_aload_n C dX12_mend_83 (i := 0) rfl rfl ?_
      refine t_get C dX12_mend_84 fl_X12_222 (k := 100) (i := 0) (by decide) rfl (fg_100_3 _ _ _) ?_
      obtain ⟨g87, h⟩ := h
      refine t_iast C dX12_mend_87 (k := 141) (i := 0) (by decide) rfl (fun s9 => sh_141 _ _ s9 _) g87 ?_
      refine t_tops (fun s87 es87 => ?_)
      have h := h s87 es87
      refine z_aload_n C dX12_mend_88 (i := 0) rfl rfl ?_
      refine z_dup C dX12_mend_89 rfl ?_
      refine t_get C dX12_mend_90 fl_X12_430 (k := 100) (i := 0) (by decide) rfl (fg_100_49 _ _ _) ?_
      refine z_iconst C dX12_mend_93 (v := 1) (by decide) ?_
      refine z_iadd C dX12_mend_94 ?_
      refine t_put C dX12_mend_95 fq_X12_430 (Or.inl rfl) (k := 100) (i := 0) (by decide) rfl ⟨rfl, rfl⟩ (fp_100_49 _ _ _ _ _) ?_
      refine t_tops (fun s95 es95 => ?_)
      have h := h s95 es95
      refine z_iload_n C dX12_mend_98 (i := 3) rfl rfl ?_
      exact z_iret C dX12_mend_99 hr rfl ⟨_, _, rfl, rfl, h⟩ (Nat.le_of_ble_eq_true rfl) (Nat.le_of_ble_eq_true rfl)
    · have h := h.1 c40
      refine z_iconst C dX12_mend_43 (v := (-1)) (by decide) ?_
      exact z_iret C dX12_mend_44 hr rfl ⟨_, _, rfl, rfl, h⟩ (Nat.le_of_ble_eq_true rfl) (Nat.le_of_ble_eq_true rfl)
  · have h := h.2 c29
    refine z_iconst C dX12_mend_32 (v := 0) (by decide) ?_
    exact z_iret C dX12_mend_33 hr rfl ⟨_, _, rfl, rfl, h⟩ (Nat.le_of_ble_eq_true rfl) (Nat.le_of_ble_eq_true rfl)
def w_X12_mend (st : zTs) (a1 : Int32) (a2 : Int32) (P : Int32 → zTs → Prop) : Prop := w_X12_isPayment st a1 (fun (r2 : Int32) (s2 : zTs) => ((r2 = 0 → P 0 s2) ∧ (¬ r2 = 0 → (a2 < 0 → w_X12_mend_25 P s2 a1 a2 (1)) ∧ (¬ a2 < 0 → (a2 ≤ 1000000000 → w_X12_mend_25 P s2 a1 a2 (0)) ∧ (¬ a2 ≤ 1000000000 → w_X12_mend_25 P s2 a1 a2 (1))))))
set_option maxHeartbeats 4000000 in
set_option maxRecDepth 100000 in
theorem c_X12_mend {Z : zZ} {l : Launch} (hfl : l.stackTraces = false) {st : zTs} {a1 : Int32} {a2 : Int32} {P : Int32 → zTs → Prop} (h : w_X12_mend st a1 a2 P) : zN Z l yX12_mend cX12_mend 4 (some .int) ({ frames := 2, cells := 0, slots := 0, locals := 36 } : Room) (zh Z zm1 st) [.ref 100, .int (a1), .int (a2)] (zWi Z P) := by
  unfold w_X12_mend at h
  refine z_enterN (by decide) (Nat.le_of_ble_eq_true rfl) (lc0 := [some (.ref 100), some (.int (a1)), some (.int (a2)), none]) rfl ?_
  intro p e s m args below meth c ad0 C hr _
  have hn9 : True := trivial
  replace C : zC Z p s m args meth c cX12_mend 4 RX12 := C
  refine z_aload_n C dX12_mend_0 (i := 0) rfl rfl ?_
  refine z_iload_n C dX12_mend_1 (i := 1) rfl rfl ?_
  refine t_callV C (rest := []) (c2 := 0) (s2 := 0) (kd := 100) (i := 0) [.int (a1)] dX12_mend_2 lk_X12_433 li_X12_isPayment le_X12_isPayment (c_X12_isPayment hfl h) rfl rfl (by decide) rfl ⟨_, rfl⟩ rfl ⟨Nat.le_of_ble_eq_true rfl, Nat.le_of_ble_eq_true rfl⟩ (Nat.le_of_ble_eq_true rfl) ⟨Nat.le_of_ble_eq_true rfl, Nat.le_of_ble_eq_true rfl, Nat.le_of_ble_eq_true rfl, Nat.le_of_ble_eq_true rfl⟩ (k_Wi fun r2 s2 h => ?_)
  refine z_if_eq C dX12_mend_5 (tgt := 32) (by decide) (fun c5 => ?_) (fun c5 => ?_)
  · have h := h.1 c5
    refine z_iconst C dX12_mend_32 (v := 0) (by decide) ?_
    exact z_iret C dX12_mend_33 hr rfl ⟨_, _, rfl, rfl, h⟩ (Nat.le_of_ble_eq_true rfl) (Nat.le_of_ble_eq_true rfl)
  · have h := h.2 c5
    refine z_aload_n C dX12_mend_8 (i := 0) rfl rfl ?_
    refine z_iload_n C dX12_mend_9 (i := 2) rfl rfl ?_
    refine z_if_lt C dX12_mend_10 (tgt := 20) (by decide) (fun c10 => ?_) (fun c10 => ?_)
    · have h := h.1 c10
      refine z_iconst C dX12_mend_20 (v := 1) (by decide) ?_
      refine z_goto C dX12_mend_21 (tgt := 25) (by decide) ?_
      exact t_drop [true, true, true, false] rfl (j_X12_mend_25 hfl C hr hn9  s2 a1 a2 (1) h)
    · have h := h.2 c10
      refine z_iload_n C dX12_mend_13 (i := 2) rfl rfl ?_
      refine z_ldc_w C dX12_mend_14 kc_X12_436 ?_
      refine z_icmp_le C dX12_mend_17 (tgt := 24) (by decide) (fun c17 => ?_) (fun c17 => ?_)
      · have h := h.1 c17
        refine z_iconst C dX12_mend_24 (v := 0) (by decide) ?_
        exact t_drop [true, true, true, false] rfl (j_X12_mend_25 hfl C hr hn9  s2 a1 a2 (0) h)
      · have h := h.2 c17
        refine z_iconst C dX12_mend_20 (v := 1) (by decide) ?_
        refine z_goto C dX12_mend_21 (tgt := 25) (by decide) ?_
        exact t_drop [true, true, true, false] rfl (j_X12_mend_25 hfl C hr hn9  s2 a1 a2 (1) h)
def w_X12_payment_23 (P : Int32 → zTs → Prop)  (st : zTs) (a1 : Int32) (a2 : Int32) (b0 : Int32) : Prop := w_X12_bad st b0 2 (fun (r24 : Int32) (s24 : zTs) => ((r24 = 0 → (a2 = 0 → vp_in a1 300 ∧ (P (zgA s24 135 0 (a1 : Int32).toNatClampNeg) s24)) ∧ (¬ a2 = 0 → (a2 = 1 → vp_in a1 300 ∧ (P (zgA s24 136 0 (a1 : Int32).toNatClampNeg) s24)) ∧ (¬ a2 = 1 → (a2 = 2 → w_X12_knownSum s24 a1 (zgF s24 100 0 3) (fun (r70 : Int32) => (P r70 s24))) ∧ (¬ a2 = 2 → vp_in a1 300 ∧ (P (zgA s24 138 0 (a1 : Int32).toNatClampNeg) s24))))) ∧ (¬ r24 = 0 → P 0 s24)))
set_option maxHeartbeats 4000000 in
set_option maxRecDepth 100000 in
theorem j_X12_payment_23 {P : Int32 → zTs → Prop}  (hfl : l.stackTraces = false) (C : zC Z p s m args meth c cX12_payment 3 RX12) (hr : meth.sig.returnType = (some .int)) (hn9 : True)  (st : zTs) (a1 : Int32) (a2 : Int32) (b0 : Int32) (h : w_X12_payment_23 P st a1 a2 b0) : zG Z ad0 h0 p l e ({ frames := 2, cells := 0, slots := 0, locals := 36 } : Room) s m args below meth c (MQ below (zQ Z ad0 h0 (zWi Z P)) args s 0 0 (zA Z)) 0 0 (zh Z zm1 st) 3 23 [some (.ref 100), some (.int (a1)), some (.int (a2))] [.int (b0), .ref 100] := by
  unfold w_X12_payment_23 at h
  refine z_iconst C dX12_payment_23 (v := 2) (by decide) ?_
  refine t_callV C (rest := []) (c2 := 0) (s2 := 0) (kd := 100) (i := 0) [.int (b0), .int (2)] dX12_payment_24 lk_X12_205 li_X12_bad le_X12_bad (c_X12_bad hfl h) rfl rfl (by decide) rfl ⟨_, rfl⟩ rfl ⟨Nat.le_of_ble_eq_true rfl, Nat.le_of_ble_eq_true rfl⟩ (Nat.le_of_ble_eq_true rfl) ⟨Nat.le_of_ble_eq_true rfl, Nat.le_of_ble_eq_true rfl, Nat.le_of_ble_eq_true rfl, Nat.le_of_ble_eq_true rfl⟩ (k_Wi fun r24 s24 h => ?_)
  refine z_if_eq C dX12_payment_27 (tgt := 32) (by decide) (fun c27 => ?_) (fun c27 => ?_)
  · have h := h.1 c27
    refine z_iload_n C dX12_payment_32 (i := 2) rfl rfl ?_
    refine z_if_ne C dX12_payment_33 (tgt := 45) (by decide) (fun c33 => ?_) (fun c33 => ?_)
    · have h := h.2 c33
      refine z_iload_n C dX12_payment_45 (i := 2) rfl rfl ?_
      refine z_iconst C dX12_payment_46 (v := 1) (by decide) ?_
      refine z_icmp_ne C dX12_payment_47 (tgt := 59) (by decide) (fun c47 => ?_) (fun c47 => ?_)
      · have h := h.2 c47
        refine z_iload_n C dX12_payment_59 (i := 2) rfl rfl ?_
        refine z_iconst C dX12_payment_60 (v := 2) (by decide) ?_
        refine z_icmp_ne C dX12_payment_61 (tgt := 76) (by decide) (fun c61 => ?_) (fun c61 => ?_)
        · have h := h.2 c61
          refine z_aload_n C dX12_payment_76 (i := 0) rfl rfl ?_
          refine t_get C dX12_payment_77 fl_X12_127 (k := 100) (i := 0) (by decide) rfl (fg_100_53 _ _ _) ?_
          refine z_iload_n C dX12_payment_80 (i := 1) rfl rfl ?_
          obtain ⟨g81, h⟩ := h
          refine t_iald C dX12_payment_81 (k := 138) (i := 0) (by decide) rfl (sh_138 _ _ _ _) g81 ?_
          exact z_iret C dX12_payment_82 hr rfl ⟨_, _, rfl, rfl, h⟩ (Nat.le_of_ble_eq_true rfl) (Nat.le_of_ble_eq_true rfl)
        · have h := h.1 c61
          refine z_aload_n C dX12_payment_64 (i := 0) rfl rfl ?_
          refine z_iload_n C dX12_payment_65 (i := 1) rfl rfl ?_
          refine z_aload_n C dX12_payment_66 (i := 0) rfl rfl ?_
          refine t_get C dX12_payment_67 fl_X12_222 (k := 100) (i := 0) (by decide) rfl (fg_100_3 _ _ _) ?_
          refine t_callV C (rest := []) (c2 := 0) (s2 := 0) (kd := 100) (i := 0) [.int (a1), .int (zgF s24 100 0 3)] dX12_payment_70 lk_X12_437 li_X12_knownSum le_X12_knownSum (c_X12_knownSum hfl h) rfl rfl (by decide) rfl ⟨_, rfl⟩ rfl ⟨Nat.le_of_ble_eq_true rfl, Nat.le_of_ble_eq_true rfl⟩ (Nat.le_of_ble_eq_true rfl) ⟨Nat.le_of_ble_eq_true rfl, Nat.le_of_ble_eq_true rfl, Nat.le_of_ble_eq_true rfl, Nat.le_of_ble_eq_true rfl⟩ (k_Ri fun r70 h => ?_)
          refine z_goto C dX12_payment_73 (tgt := 82) (by decide) ?_
          exact z_iret C dX12_payment_82 hr rfl ⟨_, _, rfl, rfl, h⟩ (Nat.le_of_ble_eq_true rfl) (Nat.le_of_ble_eq_true rfl)
      · have h := h.1 c47
        refine z_aload_n C dX12_payment_50 (i := 0) rfl rfl ?_
        refine t_get C dX12_payment_51 fl_X12_121 (k := 100) (i := 0) (by decide) rfl (fg_100_51 _ _ _) ?_
        refine z_iload_n C dX12_payment_54 (i := 1) rfl rfl ?_
        obtain ⟨g55, h⟩ := h
        refine t_iald C dX12_payment_55 (k := 136) (i := 0) (by decide) rfl (sh_136 _ _ _ _) g55 ?_
        refine z_goto C dX12_payment_56 (tgt := 82) (by decide) ?_
        exact z_iret C dX12_payment_82 hr rfl ⟨_, _, rfl, rfl, h⟩ (Nat.le_of_ble_eq_true rfl) (Nat.le_of_ble_eq_true rfl)
    · have h := h.1 c33
      refine z_aload_n C dX12_payment_36 (i := 0) rfl rfl ?_
      refine t_get C dX12_payment_37 fl_X12_118 (k := 100) (i := 0) (by decide) rfl (fg_100_50 _ _ _) ?_
      refine z_iload_n C dX12_payment_40 (i := 1) rfl rfl ?_
      obtain ⟨g41, h⟩ := h
      refine t_iald C dX12_payment_41 (k := 135) (i := 0) (by decide) rfl (sh_135 _ _ _ _) g41 ?_
      refine z_goto C dX12_payment_42 (tgt := 82) (by decide) ?_
      exact z_iret C dX12_payment_82 hr rfl ⟨_, _, rfl, rfl, h⟩ (Nat.le_of_ble_eq_true rfl) (Nat.le_of_ble_eq_true rfl)
  · have h := h.2 c27
    refine z_iconst C dX12_payment_30 (v := 0) (by decide) ?_
    exact z_iret C dX12_payment_31 hr rfl ⟨_, _, rfl, rfl, h⟩ (Nat.le_of_ble_eq_true rfl) (Nat.le_of_ble_eq_true rfl)
def w_X12_payment (st : zTs) (a1 : Int32) (a2 : Int32) (P : Int32 → zTs → Prop) : Prop := w_X12_isPayment st a1 (fun (r2 : Int32) (s2 : zTs) => ((r2 = 0 → P 0 s2) ∧ (¬ r2 = 0 → (a2 < 0 → w_X12_payment_23 P s2 a1 a2 (1)) ∧ (¬ a2 < 0 → (a2 ≤ 3 → w_X12_payment_23 P s2 a1 a2 (0)) ∧ (¬ a2 ≤ 3 → w_X12_payment_23 P s2 a1 a2 (1))))))
set_option maxHeartbeats 4000000 in
set_option maxRecDepth 100000 in
theorem c_X12_payment {Z : zZ} {l : Launch} (hfl : l.stackTraces = false) {st : zTs} {a1 : Int32} {a2 : Int32} {P : Int32 → zTs → Prop} (h : w_X12_payment st a1 a2 P) : zN Z l yX12_payment cX12_payment 3 (some .int) ({ frames := 2, cells := 0, slots := 0, locals := 36 } : Room) (zh Z zm1 st) [.ref 100, .int (a1), .int (a2)] (zWi Z P) := by
  unfold w_X12_payment at h
  refine z_enterN (by decide) (Nat.le_of_ble_eq_true rfl) (lc0 := [some (.ref 100), some (.int (a1)), some (.int (a2))]) rfl ?_
  intro p e s m args below meth c ad0 C hr _
  have hn9 : True := trivial
  replace C : zC Z p s m args meth c cX12_payment 3 RX12 := C
  refine z_aload_n C dX12_payment_0 (i := 0) rfl rfl ?_
  refine z_iload_n C dX12_payment_1 (i := 1) rfl rfl ?_
  refine t_callV C (rest := []) (c2 := 0) (s2 := 0) (kd := 100) (i := 0) [.int (a1)] dX12_payment_2 lk_X12_433 li_X12_isPayment le_X12_isPayment (c_X12_isPayment hfl h) rfl rfl (by decide) rfl ⟨_, rfl⟩ rfl ⟨Nat.le_of_ble_eq_true rfl, Nat.le_of_ble_eq_true rfl⟩ (Nat.le_of_ble_eq_true rfl) ⟨Nat.le_of_ble_eq_true rfl, Nat.le_of_ble_eq_true rfl, Nat.le_of_ble_eq_true rfl, Nat.le_of_ble_eq_true rfl⟩ (k_Wi fun r2 s2 h => ?_)
  refine z_if_eq C dX12_payment_5 (tgt := 30) (by decide) (fun c5 => ?_) (fun c5 => ?_)
  · have h := h.1 c5
    refine z_iconst C dX12_payment_30 (v := 0) (by decide) ?_
    exact z_iret C dX12_payment_31 hr rfl ⟨_, _, rfl, rfl, h⟩ (Nat.le_of_ble_eq_true rfl) (Nat.le_of_ble_eq_true rfl)
  · have h := h.2 c5
    refine z_aload_n C dX12_payment_8 (i := 0) rfl rfl ?_
    refine z_iload_n C dX12_payment_9 (i := 2) rfl rfl ?_
    refine z_if_lt C dX12_payment_10 (tgt := 18) (by decide) (fun c10 => ?_) (fun c10 => ?_)
    · have h := h.1 c10
      refine z_iconst C dX12_payment_18 (v := 1) (by decide) ?_
      refine z_goto C dX12_payment_19 (tgt := 23) (by decide) ?_
      exact t_drop [true, true, true] rfl (j_X12_payment_23 hfl C hr hn9  s2 a1 a2 (1) h)
    · have h := h.2 c10
      refine z_iload_n C dX12_payment_13 (i := 2) rfl rfl ?_
      refine z_iconst C dX12_payment_14 (v := 3) (by decide) ?_
      refine z_icmp_le C dX12_payment_15 (tgt := 22) (by decide) (fun c15 => ?_) (fun c15 => ?_)
      · have h := h.1 c15
        refine z_iconst C dX12_payment_22 (v := 0) (by decide) ?_
        exact t_drop [true, true, true] rfl (j_X12_payment_23 hfl C hr hn9  s2 a1 a2 (0) h)
      · have h := h.2 c15
        refine z_iconst C dX12_payment_18 (v := 1) (by decide) ?_
        refine z_goto C dX12_payment_19 (tgt := 23) (by decide) ?_
        exact t_drop [true, true, true] rfl (j_X12_payment_23 hfl C hr hn9  s2 a1 a2 (1) h)
def w_X12_balance_124 (P : Int64 → zTs → Prop) (K34 : zTs → Int32 → Int32 → Int32 → Int64 → Int32 → Prop) (st : zTs) (a1 : Int32) (a2 : Int32) (a3 : Int32) (a4 : Int64) (a6 : Int32) : Prop := ∀ x124 : Int32, x124 = a6 + 1 → (K34 st a1 a2 a3 a4 x124)
set_option maxHeartbeats 4000000 in
set_option maxRecDepth 100000 in
theorem j_X12_balance_124 {P : Int64 → zTs → Prop} {K34 : zTs → Int32 → Int32 → Int32 → Int64 → Int32 → Prop} (hfl : l.stackTraces = false) (C : zC Z p s m args meth c cX12_balance 7 RX12) (hr : meth.sig.returnType = (some .long)) (hn9 : True) (hK34 : ∀ (st : zTs) (a1 : Int32) (a2 : Int32) (a3 : Int32) (a4 : Int64) (a6 : Int32), K34 st a1 a2 a3 a4 a6 → zG Z ad0 h0 p l e ({ frames := 2, cells := 0, slots := 0, locals := 36 } : Room) s m args below meth c (MQ below (zQ Z ad0 h0 (zWl Z P)) args s 0 0 (zA Z)) 0 0 (zh Z zm1 st) 7 34 [some (.ref 100), some (.int (a1)), some (.int (a2)), some (.int (a3)), some (.long (a4)), none, some (.int (a6))] []) (st : zTs) (a1 : Int32) (a2 : Int32) (a3 : Int32) (a4 : Int64) (a6 : Int32) (h : w_X12_balance_124 P K34 st a1 a2 a3 a4 a6) : zG Z ad0 h0 p l e ({ frames := 2, cells := 0, slots := 0, locals := 36 } : Room) s m args below meth c (MQ below (zQ Z ad0 h0 (zWl Z P)) args s 0 0 (zA Z)) 0 0 (zh Z zm1 st) 7 124 [some (.ref 100), some (.int (a1)), some (.int (a2)), some (.int (a3)), some (.long (a4)), none, some (.int (a6))] [] := by
  unfold w_X12_balance_124 at h
  obtain ⟨x124, ex124⟩ : ∃ z : Int32, z = a6 + 1 := ⟨_, rfl⟩
  have h := h x124 ex124
  refine z_iinc C dX12_balance_124 (v := x124) (lc' := [some (.ref 100), some (.int (a1)), some (.int (a2)), some (.int (a3)), some (.long (a4)), none, some (.int (x124))]) rfl (by decide) (by rw [ex124]; rfl) rfl ?_
  refine z_goto C dX12_balance_127 (tgt := 34) (by decide) ?_
  exact t_drop [true, true, true, true, true, false, true] rfl (hK34 st a1 a2 a3 a4 x124 h)
def w_X12_balance_121 (P : Int64 → zTs → Prop) (K34 : zTs → Int32 → Int32 → Int32 → Int64 → Int32 → Prop) (st : zTs) (a1 : Int32) (a2 : Int32) (a3 : Int32) (a6 : Int32) (b0 : Int64) (b1 : Int64) : Prop := ∀ x122 : Int64, x122 = b1 - b0 → (w_X12_balance_124 P K34 st a1 a2 a3 x122 a6)
set_option maxHeartbeats 4000000 in
set_option maxRecDepth 100000 in
theorem j_X12_balance_121 {P : Int64 → zTs → Prop} {K34 : zTs → Int32 → Int32 → Int32 → Int64 → Int32 → Prop} (hfl : l.stackTraces = false) (C : zC Z p s m args meth c cX12_balance 7 RX12) (hr : meth.sig.returnType = (some .long)) (hn9 : True) (hK34 : ∀ (st : zTs) (a1 : Int32) (a2 : Int32) (a3 : Int32) (a4 : Int64) (a6 : Int32), K34 st a1 a2 a3 a4 a6 → zG Z ad0 h0 p l e ({ frames := 2, cells := 0, slots := 0, locals := 36 } : Room) s m args below meth c (MQ below (zQ Z ad0 h0 (zWl Z P)) args s 0 0 (zA Z)) 0 0 (zh Z zm1 st) 7 34 [some (.ref 100), some (.int (a1)), some (.int (a2)), some (.int (a3)), some (.long (a4)), none, some (.int (a6))] []) (st : zTs) (a1 : Int32) (a2 : Int32) (a3 : Int32) (a6 : Int32) (b0 : Int64) (b1 : Int64) (h : w_X12_balance_121 P K34 st a1 a2 a3 a6 b0 b1) : zG Z ad0 h0 p l e ({ frames := 2, cells := 0, slots := 0, locals := 36 } : Room) s m args below meth c (MQ below (zQ Z ad0 h0 (zWl Z P)) args s 0 0 (zA Z)) 0 0 (zh Z zm1 st) 7 121 [some (.ref 100), some (.int (a1)), some (.int (a2)), some (.int (a3)), none, none, some (.int (a6))] [.long (b0), .long (b1)] := by
  unfold w_X12_balance_121 at h
  refine z_lsub C dX12_balance_121 ?_
  refine t_topl (fun x122 ex122 => ?_)
  have h := h x122 ex122
  refine z_lstore C dX12_balance_122 (lc' := [some (.ref 100), some (.int (a1)), some (.int (a2)), some (.int (a3)), some (.long (x122)), none, some (.int (a6))]) (by decide) rfl ?_
  exact t_drop [true, true, true, true, true, false, true] rfl (j_X12_balance_124 hfl C hr hn9 hK34 st a1 a2 a3 x122 a6 h)
def w_X12_balance_93 (P : Int64 → zTs → Prop) (K34 : zTs → Int32 → Int32 → Int32 → Int64 → Int32 → Prop) (st : zTs) (a1 : Int32) (a2 : Int32) (a3 : Int32) (a6 : Int32) (b0 : Int64) (b1 : Int64) : Prop := ∀ x94 : Int64, x94 = b1 + b0 → (vp_in a6 300 ∧ (((zgA st 135 0 (a6 : Int32).toNatClampNeg) = a1 → w_X12_knownSum st a6 a3 (fun (r113 : Int32) => (w_X12_balance_121 P K34 st a1 a2 a3 a6 ((r113 : Int32).toInt64) x94))) ∧ (¬ (zgA st 135 0 (a6 : Int32).toNatClampNeg) = a1 → w_X12_balance_121 P K34 st a1 a2 a3 a6 (0) x94)))
set_option maxHeartbeats 4000000 in
set_option maxRecDepth 100000 in
theorem j_X12_balance_93 {P : Int64 → zTs → Prop} {K34 : zTs → Int32 → Int32 → Int32 → Int64 → Int32 → Prop} (hfl : l.stackTraces = false) (C : zC Z p s m args meth c cX12_balance 7 RX12) (hr : meth.sig.returnType = (some .long)) (hn9 : True) (hK34 : ∀ (st : zTs) (a1 : Int32) (a2 : Int32) (a3 : Int32) (a4 : Int64) (a6 : Int32), K34 st a1 a2 a3 a4 a6 → zG Z ad0 h0 p l e ({ frames := 2, cells := 0, slots := 0, locals := 36 } : Room) s m args below meth c (MQ below (zQ Z ad0 h0 (zWl Z P)) args s 0 0 (zA Z)) 0 0 (zh Z zm1 st) 7 34 [some (.ref 100), some (.int (a1)), some (.int (a2)), some (.int (a3)), some (.long (a4)), none, some (.int (a6))] []) (st : zTs) (a1 : Int32) (a2 : Int32) (a3 : Int32) (a6 : Int32) (b0 : Int64) (b1 : Int64) (h : w_X12_balance_93 P K34 st a1 a2 a3 a6 b0 b1) : zG Z ad0 h0 p l e ({ frames := 2, cells := 0, slots := 0, locals := 36 } : Room) s m args below meth c (MQ below (zQ Z ad0 h0 (zWl Z P)) args s 0 0 (zA Z)) 0 0 (zh Z zm1 st) 7 93 [some (.ref 100), some (.int (a1)), some (.int (a2)), some (.int (a3)), none, none, some (.int (a6))] [.long (b0), .long (b1)] := by
  unfold w_X12_balance_93 at h
  refine z_ladd C dX12_balance_93 ?_
  refine t_topl (fun x94 ex94 => ?_)
  have h := h x94 ex94
  refine z_lstore C dX12_balance_94 (lc' := [some (.ref 100), some (.int (a1)), some (.int (a2)), some (.int (a3)), some (.long (x94)), none, some (.int (a6))]) (by decide) rfl ?_
  refine z_lload C dX12_balance_96 rfl ?_
  refine z_aload_n C dX12_balance_98 (i := 0) rfl rfl ?_
  refine t_get C dX12_balance_99 fl_X12_118 (k := 100) (i := 0) (by decide) rfl (fg_100_50 _ _ _) ?_
  refine z_iload C dX12_balance_102 rfl ?_
  obtain ⟨g104, h⟩ := h
  refine t_iald C dX12_balance_104 (k := 135) (i := 0) (by decide) rfl (sh_135 _ _ _ _) g104 ?_
  refine z_iload_n C dX12_balance_105 (i := 1) rfl rfl ?_
  refine z_icmp_ne C dX12_balance_106 (tgt := 120) (by decide) (fun c106 => ?_) (fun c106 => ?_)
  · have h := h.2 c106
    refine z_lconst C dX12_balance_120 (v := 0) (by decide) ?_
    exact t_drop [true, true, true, true, false, false, true] rfl (j_X12_balance_121 hfl C hr hn9 hK34 st a1 a2 a3 a6 (0) x94 h)
  · have h := h.1 c106
    refine z_aload_n C dX12_balance_109 (i := 0) rfl rfl ?_
    refine z_iload C dX12_balance_110 rfl ?_
    refine z_iload_n C dX12_balance_112 (i := 3) rfl rfl ?_
    refine t_callV C (rest := [.long (x94)]) (c2 := 0) (s2 := 0) (kd := 100) (i := 0) [.int (a6), .int (a3)] dX12_balance_113 lk_X12_437 li_X12_knownSum le_X12_knownSum (c_X12_knownSum hfl h) rfl rfl (by decide) rfl ⟨_, rfl⟩ rfl ⟨Nat.le_of_ble_eq_true rfl, Nat.le_of_ble_eq_true rfl⟩ (Nat.le_of_ble_eq_true rfl) ⟨Nat.le_of_ble_eq_true rfl, Nat.le_of_ble_eq_true rfl, Nat.le_of_ble_eq_true rfl, Nat.le_of_ble_eq_true rfl⟩ (k_Ri fun r113 h => ?_)
    refine z_i2l C dX12_balance_116 ?_
    refine z_goto C dX12_balance_117 (tgt := 121) (by decide) ?_
    exact t_drop [true, true, true, true, false, false, true] rfl (j_X12_balance_121 hfl C hr hn9 hK34 st a1 a2 a3 a6 ((r113 : Int32).toInt64) x94 h)
def w_X12_balance_34 (P : Int64 → zTs → Prop)  : Nat → zTs → Int32 → Int32 → Int32 → Int64 → Int32 → Prop
  | 0, _, _, _, _, _, _ => False
  | n9 + 1, st, a1, a2, a3, a4, a6 => ((zgF st 100 0 48) ≤ a6 → P a4 st) ∧ (¬ (zgF st 100 0 48) ≤ a6 → vp_in a6 300 ∧ ((a2 < (zgA st 138 0 (a6 : Int32).toNatClampNeg) → w_X12_balance_124 P (w_X12_balance_34 P n9) st a1 a2 a3 a4 a6) ∧ (¬ a2 < (zgA st 138 0 (a6 : Int32).toNatClampNeg) → vp_in a6 300 ∧ (((zgA st 138 0 (a6 : Int32).toNatClampNeg) ≤ a3 → vp_in a6 300 ∧ (((zgA st 136 0 (a6 : Int32).toNatClampNeg) = a1 → w_X12_knownSum st a6 a3 (fun (r85 : Int32) => (w_X12_balance_93 P (w_X12_balance_34 P n9) st a1 a2 a3 a6 ((r85 : Int32).toInt64) a4))) ∧ (¬ (zgA st 136 0 (a6 : Int32).toNatClampNeg) = a1 → w_X12_balance_93 P (w_X12_balance_34 P n9) st a1 a2 a3 a6 (0) a4))) ∧ (¬ (zgA st 138 0 (a6 : Int32).toNatClampNeg) ≤ a3 → w_X12_balance_124 P (w_X12_balance_34 P n9) st a1 a2 a3 a4 a6)))))
set_option maxHeartbeats 4000000 in
set_option maxRecDepth 100000 in
theorem j_X12_balance_34 {P : Int64 → zTs → Prop}  (hfl : l.stackTraces = false) (C : zC Z p s m args meth c cX12_balance 7 RX12) (hr : meth.sig.returnType = (some .long)) (hn9 : True)  : ∀ (n9 : Nat) (st : zTs) (a1 : Int32) (a2 : Int32) (a3 : Int32) (a4 : Int64) (a6 : Int32), w_X12_balance_34 P n9 st a1 a2 a3 a4 a6 → zG Z ad0 h0 p l e ({ frames := 2, cells := 0, slots := 0, locals := 36 } : Room) s m args below meth c (MQ below (zQ Z ad0 h0 (zWl Z P)) args s 0 0 (zA Z)) 0 0 (zh Z zm1 st) 7 34 [some (.ref 100), some (.int (a1)), some (.int (a2)), some (.int (a3)), some (.long (a4)), none, some (.int (a6))] [] := by
  intro n9
  induction n9 with
  | zero => intro st a1 a2 a3 a4 a6 h; exact h.elim
  | succ n9 hK34 =>
    intro st a1 a2 a3 a4 a6 h
    rw [w_X12_balance_34] at h
    refine z_iload C dX12_balance_34 rfl ?_
    refine z_aload_n C dX12_balance_36 (i := 0) rfl rfl ?_
    refine t_get C dX12_balance_37 fl_X12_427 (k := 100) (i := 0) (by decide) rfl (fg_100_48 _ _ _) ?_
    refine z_icmp_ge C dX12_balance_40 (tgt := 130) (by decide) (fun c40 => ?_) (fun c40 => ?_)
    · have h := h.1 c40
      refine z_lload C dX12_balance_130 rfl ?_
      exact z_lret C dX12_balance_132 hr ⟨_, _, rfl, rfl, h⟩ (Nat.le_of_ble_eq_true rfl) (Nat.le_of_ble_eq_true rfl)
    · have h := h.2 c40
      refine z_aload_n C dX12_balance_43 (i := 0) rfl rfl ?_
      refine t_get C dX12_balance_44 fl_X12_127 (k := 100) (i := 0) (by decide) rfl (fg_100_53 _ _ _) ?_
      refine z_iload C dX12_balance_47 rfl ?_
      obtain ⟨g49, h⟩ := h
      refine t_iald C dX12_balance_49 (k := 138) (i := 0) (by decide) rfl (sh_138 _ _ _ _) g49 ?_
      refine z_iload_n C dX12_balance_50 (i := 2) rfl rfl ?_
      refine z_icmp_gt C dX12_balance_51 (tgt := 124) (by decide) (fun c51 => ?_) (fun c51 => ?_)
      · have h := h.1 c51
        exact t_drop [true, true, true, true, true, false, true] rfl (j_X12_balance_124 hfl C hr hn9 hK34 st a1 a2 a3 a4 a6 h)
      · have h := h.2 c51
        refine z_aload_n C dX12_balance_54 (i := 0) rfl rfl ?_
        refine t_get C dX12_balance_55 fl_X12_127 (k := 100) (i := 0) (by decide) rfl (fg_100_53 _ _ _) ?_
        refine z_iload C dX12_balance_58 rfl ?_
        obtain ⟨g60, h⟩ := h
        refine t_iald C dX12_balance_60 (k := 138) (i := 0) (by decide) rfl (sh_138 _ _ _ _) g60 ?_
        refine z_iload_n C dX12_balance_61 (i := 3) rfl rfl ?_
        refine z_icmp_le C dX12_balance_62 (tgt := 68) (by decide) (fun c62 => ?_) (fun c62 => ?_)
        · have h := h.1 c62
          refine z_lload C dX12_balance_68 rfl ?_
          refine z_aload_n C dX12_balance_70 (i := 0) rfl rfl ?_
          refine t_get C dX12_balance_71 fl_X12_121 (k := 100) (i := 0) (by decide) rfl (fg_100_51 _ _ _) ?_
          refine z_iload C dX12_balance_74 rfl ?_
          obtain ⟨g76, h⟩ := h
          refine t_iald C dX12_balance_76 (k := 136) (i := 0) (by decide) rfl (sh_136 _ _ _ _) g76 ?_
          refine z_iload_n C dX12_balance_77 (i := 1) rfl rfl ?_
          refine z_icmp_ne C dX12_balance_78 (tgt := 92) (by decide) (fun c78 => ?_) (fun c78 => ?_)
          · have h := h.2 c78
            refine z_lconst C dX12_balance_92 (v := 0) (by decide) ?_
            exact t_drop [true, true, true, true, false, false, true] rfl (j_X12_balance_93 hfl C hr hn9 hK34 st a1 a2 a3 a6 (0) a4 h)
          · have h := h.1 c78
            refine z_aload_n C dX12_balance_81 (i := 0) rfl rfl ?_
            refine z_iload C dX12_balance_82 rfl ?_
            refine z_iload_n C dX12_balance_84 (i := 3) rfl rfl ?_
            refine t_callV C (rest := [.long (a4)]) (c2 := 0) (s2 := 0) (kd := 100) (i := 0) [.int (a6), .int (a3)] dX12_balance_85 lk_X12_437 li_X12_knownSum le_X12_knownSum (c_X12_knownSum hfl h) rfl rfl (by decide) rfl ⟨_, rfl⟩ rfl ⟨Nat.le_of_ble_eq_true rfl, Nat.le_of_ble_eq_true rfl⟩ (Nat.le_of_ble_eq_true rfl) ⟨Nat.le_of_ble_eq_true rfl, Nat.le_of_ble_eq_true rfl, Nat.le_of_ble_eq_true rfl, Nat.le_of_ble_eq_true rfl⟩ (k_Ri fun r85 h => ?_)
            refine z_i2l C dX12_balance_88 ?_
            refine z_goto C dX12_balance_89 (tgt := 93) (by decide) ?_
            exact t_drop [true, true, true, true, false, false, true] rfl (j_X12_balance_93 hfl C hr hn9 hK34 st a1 a2 a3 a6 ((r85 : Int32).toInt64) a4 h)
        · have h := h.2 c62
          refine z_goto C dX12_balance_65 (tgt := 124) (by decide) ?_
          exact t_drop [true, true, true, true, true, false, true] rfl (j_X12_balance_124 hfl C hr hn9 hK34 st a1 a2 a3 a4 a6 h)
def w_X12_balance_19 (P : Int64 → zTs → Prop)  (st : zTs) (a1 : Int32) (a2 : Int32) (a3 : Int32) (b0 : Int32) : Prop := w_X12_bad st b0 1 (fun (r20 : Int32) (s20 : zTs) => ((r20 = 0 → w_X12_balance_34 P zfu s20 a1 a2 a3 (0) (0)) ∧ (¬ r20 = 0 → P 0 s20)))
set_option maxHeartbeats 4000000 in
set_option maxRecDepth 100000 in
theorem j_X12_balance_19 {P : Int64 → zTs → Prop}  (hfl : l.stackTraces = false) (C : zC Z p s m args meth c cX12_balance 7 RX12) (hr : meth.sig.returnType = (some .long)) (hn9 : True)  (st : zTs) (a1 : Int32) (a2 : Int32) (a3 : Int32) (b0 : Int32) (h : w_X12_balance_19 P st a1 a2 a3 b0) : zG Z ad0 h0 p l e ({ frames := 2, cells := 0, slots := 0, locals := 36 } : Room) s m args below meth c (MQ below (zQ Z ad0 h0 (zWl Z P)) args s 0 0 (zA Z)) 0 0 (zh Z zm1 st) 7 19 [some (.ref 100), some (.int (a1)), some (.int (a2)), some (.int (a3)), none, none, none] [.int (b0), .ref 100] := by
  unfold w_X12_balance_19 at h
  refine z_iconst C dX12_balance_19 (v := 1) (by decide) ?_
  refine t_callV C (rest := []) (c2 := 0) (s2 := 0) (kd := 100) (i := 0) [.int (b0), .int (1)] dX12_balance_20 lk_X12_205 li_X12_bad le_X12_bad (c_X12_bad hfl h) rfl rfl (by decide) rfl ⟨_, rfl⟩ rfl ⟨Nat.le_of_ble_eq_true rfl, Nat.le_of_ble_eq_true rfl⟩ (Nat.le_of_ble_eq_true rfl) ⟨Nat.le_of_ble_eq_true rfl, Nat.le_of_ble_eq_true rfl, Nat.le_of_ble_eq_true rfl, Nat.le_of_ble_eq_true rfl⟩ (k_Wi fun r20 s20 h => ?_)
  refine z_if_eq C dX12_balance_23 (tgt := 28) (by decide) (fun c23 => ?_) (fun c23 => ?_)
  · have h := h.1 c23
    refine z_lconst C dX12_balance_28 (v := 0) (by decide) ?_
    refine z_lstore C dX12_balance_29 (lc' := [some (.ref 100), some (.int (a1)), some (.int (a2)), some (.int (a3)), some (.long (0)), none, none]) (by decide) rfl ?_
    refine z_iconst C dX12_balance_31 (v := 0) (by decide) ?_
    refine z_istore C dX12_balance_32 (lc' := [some (.ref 100), some (.int (a1)), some (.int (a2)), some (.int (a3)), some (.long (0)), none, some (.int (0))]) (by decide) rfl ?_
    exact t_drop [true, true, true, true, true, false, true] rfl (j_X12_balance_34 hfl C hr hn9  zfu s20 a1 a2 a3 (0) (0) h)
  · have h := h.2 c23
    refine z_lconst C dX12_balance_26 (v := 0) (by decide) ?_
    exact z_lret C dX12_balance_27 hr ⟨_, _, rfl, rfl, h⟩ (Nat.le_of_ble_eq_true rfl) (Nat.le_of_ble_eq_true rfl)
def w_X12_balance (st : zTs) (a1 : Int32) (a2 : Int32) (a3 : Int32) (P : Int64 → zTs → Prop) : Prop := ∀ s2 : zTs, s2 = zuF st 100 0 0 0 → (w_X12_isOwner s2 a1 (fun (r8 : Int32) => ((r8 = 0 → w_X12_balance_19 P s2 a1 a2 a3 (1)) ∧ (¬ r8 = 0 → w_X12_balance_19 P s2 a1 a2 a3 (0)))))
set_option maxHeartbeats 4000000 in
set_option maxRecDepth 100000 in
theorem c_X12_balance {Z : zZ} {l : Launch} (hfl : l.stackTraces = false) {st : zTs} {a1 : Int32} {a2 : Int32} {a3 : Int32} {P : Int64 → zTs → Prop} (h : w_X12_balance st a1 a2 a3 P) : zN Z l yX12_balance cX12_balance 7 (some .long) ({ frames := 2, cells := 0, slots := 0, locals := 36 } : Room) (zh Z zm1 st) [.ref 100, .int (a1), .int (a2), .int (a3)] (zWl Z P) := by
  unfold w_X12_balance at h
  refine z_enterN (by decide) (Nat.le_of_ble_eq_true rfl) (lc0 := [some (.ref 100), some (.int (a1)), some (.int (a2)), some (.int (a3)), none, none, none]) rfl ?_
  intro p e s m args below meth c ad0 C hr _
  have hn9 : True := trivial
  replace C : zC Z p s m args meth c cX12_balance 7 RX12 := C
  refine z_aload_n C dX12_balance_0 (i := 0) rfl rfl ?_
  refine z_iconst C dX12_balance_1 (v := 0) (by decide) ?_
  refine t_put C dX12_balance_2 fq_X12_199 (Or.inl rfl) (k := 100) (i := 0) (by decide) rfl ⟨rfl, rfl⟩ (fp_100_0 _ _ _ _ _) ?_
  refine t_tops (fun s2 es2 => ?_)
  have h := h s2 es2
  refine z_aload_n C dX12_balance_5 (i := 0) rfl rfl ?_
  refine z_aload_n C dX12_balance_6 (i := 0) rfl rfl ?_
  refine z_iload_n C dX12_balance_7 (i := 1) rfl rfl ?_
  refine t_callV C (rest := [.ref 100]) (c2 := 0) (s2 := 0) (kd := 100) (i := 0) [.int (a1)] dX12_balance_8 lk_X12_212 li_X12_isOwner le_X12_isOwner (c_X12_isOwner hfl h) rfl rfl (by decide) rfl ⟨_, rfl⟩ rfl ⟨Nat.le_of_ble_eq_true rfl, Nat.le_of_ble_eq_true rfl⟩ (Nat.le_of_ble_eq_true rfl) ⟨Nat.le_of_ble_eq_true rfl, Nat.le_of_ble_eq_true rfl, Nat.le_of_ble_eq_true rfl, Nat.le_of_ble_eq_true rfl⟩ (k_Ri fun r8 h => ?_)
  refine z_if_ne C dX12_balance_11 (tgt := 18) (by decide) (fun c11 => ?_) (fun c11 => ?_)
  · have h := h.2 c11
    refine z_iconst C dX12_balance_18 (v := 0) (by decide) ?_
    exact t_drop [true, true, true, true, false, false, false] rfl (j_X12_balance_19 hfl C hr hn9  s2 a1 a2 a3 (0) h)
  · have h := h.1 c11
    refine z_iconst C dX12_balance_14 (v := 1) (by decide) ?_
    refine z_goto C dX12_balance_15 (tgt := 19) (by decide) ?_
    exact t_drop [true, true, true, true, false, false, false] rfl (j_X12_balance_19 hfl C hr hn9  s2 a1 a2 a3 (1) h)
def w_X12_enter_87 (P : Int32 → zTs → Prop)  (st : zTs) (a1 : Int32) (b0 : Int32) : Prop := (b0 = 0 → w_X12_isFull st (fun (r105 : Int32) => ((r105 = 0 → vp_in a1 30 ∧ (vp_in a1 30 ∧ (∀ s123 : zTs, s123 = zuA st 143 0 (a1 : Int32).toNatClampNeg ((zgA st 143 0 (a1 : Int32).toNatClampNeg) + 1) → (w_X12_ownOwner s123 a1 (fun (r127 : Int32) => (w_X12_otherOwner s123 a1 (fun (r132 : Int32) => (w_X12_pays s123 r127 r132 10 (fun (s137 : zTs) => (P 0 s137)))))))))) ∧ (¬ r105 = 0 → P (-2) st)))) ∧ (¬ b0 = 0 → vp_in a1 30 ∧ (vp_in a1 30 ∧ (∀ s101 : zTs, s101 = zuA st 142 0 (a1 : Int32).toNatClampNeg ((zgA st 142 0 (a1 : Int32).toNatClampNeg) + 1) → (P 1 s101))))
set_option maxHeartbeats 4000000 in
set_option maxRecDepth 100000 in
theorem j_X12_enter_87 {P : Int32 → zTs → Prop}  (hfl : l.stackTraces = false) (C : zC Z p s m args meth c cX12_enter 4 RX12) (hr : meth.sig.returnType = (some .int)) (hn9 : True)  (st : zTs) (a1 : Int32) (b0 : Int32) (h : w_X12_enter_87 P st a1 b0) : zG Z ad0 h0 p l e ({ frames := 3, cells := 0, slots := 0, locals := 55 } : Room) s m args below meth c (MQ below (zQ Z ad0 h0 (zWi Z P)) args s 0 0 (zA Z)) 0 0 (zh Z zm1 st) 4 87 [some (.ref 100), some (.int (a1)), none, none] [.int (b0)] := by
  unfold w_X12_enter_87 at h
  refine z_istore_n C dX12_enter_87 (i := 3) (lc' := [some (.ref 100), some (.int (a1)), none, some (.int (b0))]) rfl (by decide) rfl ?_
  refine z_iload_n C dX12_enter_88 (i := 3) rfl rfl ?_
  refine z_if_eq C dX12_enter_89 (tgt := 104) (by decide) (fun c89 => ?_) (fun c89 => ?_)
  · have h := h.1 c89
    refine z_aload_n C dX12_enter_104 (i := 0) rfl rfl ?_
    refine t_callV C (rest := []) (c2 := 0) (s2 := 0) (kd := 100) (i := 0) [] dX12_enter_105 lk_X12_440 li_X12_isFull le_X12_isFull (c_X12_isFull hfl h) rfl rfl (by decide) rfl ⟨_, rfl⟩ rfl ⟨Nat.le_of_ble_eq_true rfl, Nat.le_of_ble_eq_true rfl⟩ (Nat.le_of_ble_eq_true rfl) ⟨Nat.le_of_ble_eq_true rfl, Nat.le_of_ble_eq_true rfl, Nat.le_of_ble_eq_true rfl, Nat.le_of_ble_eq_true rfl⟩ (k_Ri fun r105 h => ?_)
    refine z_if_eq C dX12_enter_108 (tgt := 114) (by decide) (fun c108 => ?_) (fun c108 => ?_)
    · have h := h.1 c108
      refine z_aload_n C dX12_enter_114 (i := 0) rfl rfl ?_
      refine t_get C dX12_enter_115 fl_X12_142 (k := 100) (i := 0) (by decide) rfl (fg_100_58 _ _ _) ?_
      refine z_iload_n C dX12_enter_118 (i := 1) rfl rfl ?_
      refine z_dup2 C dX12_enter_119 rfl rfl ?_
      obtain ⟨g120, h⟩ := h
      refine t_iald C dX12_enter_120 (k := 143) (i := 0) (by decide) rfl (sh_143 _ _ _ _) g120 ?_
      refine z_iconst C dX12_enter_121 (v := 1) (by decide) ?_
      refine z_iadd C dX12_enter_122 ?_
      obtain ⟨g123, h⟩ := h
      refine t_iast C dX12_enter_123 (k := 143) (i := 0) (by decide) rfl (fun s9 => sh_143 _ _ s9 _) g123 ?_
      refine t_tops (fun s123 es123 => ?_)
      have h := h s123 es123
      refine z_aload_n C dX12_enter_124 (i := 0) rfl rfl ?_
      refine z_aload_n C dX12_enter_125 (i := 0) rfl rfl ?_
      refine z_iload_n C dX12_enter_126 (i := 1) rfl rfl ?_
      refine t_callV C (rest := [.ref 100]) (c2 := 0) (s2 := 0) (kd := 100) (i := 0) [.int (a1)] dX12_enter_127 lk_X12_444 li_X12_ownOwner le_X12_ownOwner (c_X12_ownOwner hfl h) rfl rfl (by decide) rfl ⟨_, rfl⟩ rfl ⟨Nat.le_of_ble_eq_true rfl, Nat.le_of_ble_eq_true rfl⟩ (Nat.le_of_ble_eq_true rfl) ⟨Nat.le_of_ble_eq_true rfl, Nat.le_of_ble_eq_true rfl, Nat.le_of_ble_eq_true rfl, Nat.le_of_ble_eq_true rfl⟩ (k_Ri fun r127 h => ?_)
      refine z_aload_n C dX12_enter_130 (i := 0) rfl rfl ?_
      refine z_iload_n C dX12_enter_131 (i := 1) rfl rfl ?_
      refine t_callV C (rest := [.int (r127), .ref 100]) (c2 := 0) (s2 := 0) (kd := 100) (i := 0) [.int (a1)] dX12_enter_132 lk_X12_447 li_X12_otherOwner le_X12_otherOwner (c_X12_otherOwner hfl h) rfl rfl (by decide) rfl ⟨_, rfl⟩ rfl ⟨Nat.le_of_ble_eq_true rfl, Nat.le_of_ble_eq_true rfl⟩ (Nat.le_of_ble_eq_true rfl) ⟨Nat.le_of_ble_eq_true rfl, Nat.le_of_ble_eq_true rfl, Nat.le_of_ble_eq_true rfl, Nat.le_of_ble_eq_true rfl⟩ (k_Ri fun r132 h => ?_)
      refine z_bipush C dX12_enter_135 (v := 10) (by decide) ?_
      refine t_callV C (rest := []) (c2 := 0) (s2 := 0) (kd := 100) (i := 0) [.int (r127), .int (r132), .int (10)] dX12_enter_137 lk_X12_450 li_X12_pays le_X12_pays (c_X12_pays hfl h) rfl rfl (by decide) rfl ⟨_, rfl⟩ rfl ⟨Nat.le_of_ble_eq_true rfl, Nat.le_of_ble_eq_true rfl⟩ (Nat.le_of_ble_eq_true rfl) ⟨Nat.le_of_ble_eq_true rfl, Nat.le_of_ble_eq_true rfl, Nat.le_of_ble_eq_true rfl, Nat.le_of_ble_eq_true rfl⟩ (k_Wv fun s137 h => ?_)
      refine z_iconst C dX12_enter_140 (v := 0) (by decide) ?_
      exact z_iret C dX12_enter_141 hr rfl ⟨_, _, rfl, rfl, h⟩ (Nat.le_of_ble_eq_true rfl) (Nat.le_of_ble_eq_true rfl)
    · have h := h.2 c108
      refine z_bipush C dX12_enter_111 (v := (-2)) (by decide) ?_
      exact z_iret C dX12_enter_113 hr rfl ⟨_, _, rfl, rfl, h⟩ (Nat.le_of_ble_eq_true rfl) (Nat.le_of_ble_eq_true rfl)
  · have h := h.2 c89
    refine z_aload_n C dX12_enter_92 (i := 0) rfl rfl ?_
    refine t_get C dX12_enter_93 fl_X12_139 (k := 100) (i := 0) (by decide) rfl (fg_100_57 _ _ _) ?_
    refine z_iload_n C dX12_enter_96 (i := 1) rfl rfl ?_
    refine z_dup2 C dX12_enter_97 rfl rfl ?_
    obtain ⟨g98, h⟩ := h
    refine t_iald C dX12_enter_98 (k := 142) (i := 0) (by decide) rfl (sh_142 _ _ _ _) g98 ?_
    refine z_iconst C dX12_enter_99 (v := 1) (by decide) ?_
    refine z_iadd C dX12_enter_100 ?_
    obtain ⟨g101, h⟩ := h
    refine t_iast C dX12_enter_101 (k := 142) (i := 0) (by decide) rfl (fun s9 => sh_142 _ _ s9 _) g101 ?_
    refine t_tops (fun s101 es101 => ?_)
    have h := h s101 es101
    refine z_iconst C dX12_enter_102 (v := 1) (by decide) ?_
    exact z_iret C dX12_enter_103 hr rfl ⟨_, _, rfl, rfl, h⟩ (Nat.le_of_ble_eq_true rfl) (Nat.le_of_ble_eq_true rfl)
def w_X12_enter_86 (P : Int32 → zTs → Prop)  (st : zTs) (a1 : Int32) : Prop := w_X12_enter_87 P st a1 (0)
set_option maxHeartbeats 4000000 in
set_option maxRecDepth 100000 in
theorem j_X12_enter_86 {P : Int32 → zTs → Prop}  (hfl : l.stackTraces = false) (C : zC Z p s m args meth c cX12_enter 4 RX12) (hr : meth.sig.returnType = (some .int)) (hn9 : True)  (st : zTs) (a1 : Int32) (h : w_X12_enter_86 P st a1) : zG Z ad0 h0 p l e ({ frames := 3, cells := 0, slots := 0, locals := 55 } : Room) s m args below meth c (MQ below (zQ Z ad0 h0 (zWi Z P)) args s 0 0 (zA Z)) 0 0 (zh Z zm1 st) 4 86 [some (.ref 100), some (.int (a1)), none, none] [] := by
  unfold w_X12_enter_86 at h
  refine z_iconst C dX12_enter_86 (v := 0) (by decide) ?_
  exact t_drop [true, true, false, false] rfl (j_X12_enter_87 hfl C hr hn9  st a1 (0) h)
def w_X12_enter_24 (P : Int32 → zTs → Prop)  (st : zTs) (a1 : Int32) (a2 : Int32) (b0 : Int32) : Prop := w_X12_bad st b0 2 (fun (r25 : Int32) (s25 : zTs) => ((r25 = 0 → vp_in a1 30 ∧ (((zgA s25 126 0 (a1 : Int32).toNatClampNeg) = 5 → w_X12_keptOf s25 a1 5 (fun (r48 : Int32) => ((((r48 >>> (((zgF s25 100 0 3) - (zgF s25 100 0 3) / 7 * 7) &&& 31)) &&& 1) = 0 → w_X12_hoursFrom s25 a1 (fun (r67 : Int32) => ((a2 < r67 → w_X12_enter_86 P s25 a1) ∧ (¬ a2 < r67 → w_X12_hoursTo s25 a1 (fun (r76 : Int32) => ((r76 ≤ a2 → w_X12_enter_86 P s25 a1) ∧ (¬ r76 ≤ a2 → w_X12_enter_87 P s25 a1 (1)))))))) ∧ (¬ ((r48 >>> (((zgF s25 100 0 3) - (zgF s25 100 0 3) / 7 * 7) &&& 31)) &&& 1) = 0 → w_X12_enter_86 P s25 a1)))) ∧ (¬ (zgA s25 126 0 (a1 : Int32).toNatClampNeg) = 5 → P (-1) s25))) ∧ (¬ r25 = 0 → P 0 s25)))
set_option maxHeartbeats 4000000 in
set_option maxRecDepth 100000 in
theorem j_X12_enter_24 {P : Int32 → zTs → Prop}  (hfl : l.stackTraces = false) (C : zC Z p s m args meth c cX12_enter 4 RX12) (hr : meth.sig.returnType = (some .int)) (hn9 : True)  (st : zTs) (a1 : Int32) (a2 : Int32) (b0 : Int32) (h : w_X12_enter_24 P st a1 a2 b0) : zG Z ad0 h0 p l e ({ frames := 3, cells := 0, slots := 0, locals := 55 } : Room) s m args below meth c (MQ below (zQ Z ad0 h0 (zWi Z P)) args s 0 0 (zA Z)) 0 0 (zh Z zm1 st) 4 24 [some (.ref 100), some (.int (a1)), some (.int (a2)), none] [.int (b0), .ref 100] := by
  unfold w_X12_enter_24 at h
  refine z_iconst C dX12_enter_24 (v := 2) (by decide) ?_
  refine t_callV C (rest := []) (c2 := 0) (s2 := 0) (kd := 100) (i := 0) [.int (b0), .int (2)] dX12_enter_25 lk_X12_205 li_X12_bad le_X12_bad (c_X12_bad hfl h) rfl rfl (by decide) rfl ⟨_, rfl⟩ rfl ⟨Nat.le_of_ble_eq_true rfl, Nat.le_of_ble_eq_true rfl⟩ (Nat.le_of_ble_eq_true rfl) ⟨Nat.le_of_ble_eq_true rfl, Nat.le_of_ble_eq_true rfl, Nat.le_of_ble_eq_true rfl, Nat.le_of_ble_eq_true rfl⟩ (k_Wi fun r25 s25 h => ?_)
  refine z_if_eq C dX12_enter_28 (tgt := 33) (by decide) (fun c28 => ?_) (fun c28 => ?_)
  · have h := h.1 c28
    refine z_aload_n C dX12_enter_33 (i := 0) rfl rfl ?_
    refine t_get C dX12_enter_34 fl_X12_91 (k := 100) (i := 0) (by decide) rfl (fg_100_38 _ _ _) ?_
    refine z_iload_n C dX12_enter_37 (i := 1) rfl rfl ?_
    obtain ⟨g38, h⟩ := h
    refine t_iald C dX12_enter_38 (k := 126) (i := 0) (by decide) rfl (sh_126 _ _ _ _) g38 ?_
    refine z_iconst C dX12_enter_39 (v := 5) (by decide) ?_
    refine z_icmp_eq C dX12_enter_40 (tgt := 45) (by decide) (fun c40 => ?_) (fun c40 => ?_)
    · have h := h.1 c40
      refine z_aload_n C dX12_enter_45 (i := 0) rfl rfl ?_
      refine z_iload_n C dX12_enter_46 (i := 1) rfl rfl ?_
      refine z_iconst C dX12_enter_47 (v := 5) (by decide) ?_
      refine t_callV C (rest := []) (c2 := 0) (s2 := 0) (kd := 100) (i := 0) [.int (a1), .int (5)] dX12_enter_48 lk_X12_375 li_X12_keptOf le_X12_keptOf (c_X12_keptOf hfl h) rfl rfl (by decide) rfl ⟨_, rfl⟩ rfl ⟨Nat.le_of_ble_eq_true rfl, Nat.le_of_ble_eq_true rfl⟩ (Nat.le_of_ble_eq_true rfl) ⟨Nat.le_of_ble_eq_true rfl, Nat.le_of_ble_eq_true rfl, Nat.le_of_ble_eq_true rfl, Nat.le_of_ble_eq_true rfl⟩ (k_Ri fun r48 h => ?_)
      refine z_aload_n C dX12_enter_51 (i := 0) rfl rfl ?_
      refine t_get C dX12_enter_52 fl_X12_222 (k := 100) (i := 0) (by decide) rfl (fg_100_3 _ _ _) ?_
      refine z_bipush C dX12_enter_55 (v := 7) (by decide) ?_
      refine z_irem C dX12_enter_57 (by decide) ?_
      refine z_ishr C dX12_enter_58 ?_
      refine z_iconst C dX12_enter_59 (v := 1) (by decide) ?_
      refine z_iand C dX12_enter_60 ?_
      refine z_if_ne C dX12_enter_61 (tgt := 86) (by decide) (fun c61 => ?_) (fun c61 => ?_)
      · have h := h.2 c61
        exact t_drop [true, true, false, false] rfl (j_X12_enter_86 hfl C hr hn9  s25 a1 h)
      · have h := h.1 c61
        refine z_iload_n C dX12_enter_64 (i := 2) rfl rfl ?_
        refine z_aload_n C dX12_enter_65 (i := 0) rfl rfl ?_
        refine z_iload_n C dX12_enter_66 (i := 1) rfl rfl ?_
        refine t_callV C (rest := [.int (a2)]) (c2 := 0) (s2 := 0) (kd := 100) (i := 0) [.int (a1)] dX12_enter_67 lk_X12_399 li_X12_hoursFrom le_X12_hoursFrom (c_X12_hoursFrom hfl h) rfl rfl (by decide) rfl ⟨_, rfl⟩ rfl ⟨Nat.le_of_ble_eq_true rfl, Nat.le_of_ble_eq_true rfl⟩ (Nat.le_of_ble_eq_true rfl) ⟨Nat.le_of_ble_eq_true rfl, Nat.le_of_ble_eq_true rfl, Nat.le_of_ble_eq_true rfl, Nat.le_of_ble_eq_true rfl⟩ (k_Ri fun r67 h => ?_)
        refine z_icmp_lt C dX12_enter_70 (tgt := 86) (by decide) (fun c70 => ?_) (fun c70 => ?_)
        · have h := h.1 c70
          exact t_drop [true, true, false, false] rfl (j_X12_enter_86 hfl C hr hn9  s25 a1 h)
        · have h := h.2 c70
          refine z_iload_n C dX12_enter_73 (i := 2) rfl rfl ?_
          refine z_aload_n C dX12_enter_74 (i := 0) rfl rfl ?_
          refine z_iload_n C dX12_enter_75 (i := 1) rfl rfl ?_
          refine t_callV C (rest := [.int (a2)]) (c2 := 0) (s2 := 0) (kd := 100) (i := 0) [.int (a1)] dX12_enter_76 lk_X12_402 li_X12_hoursTo le_X12_hoursTo (c_X12_hoursTo hfl h) rfl rfl (by decide) rfl ⟨_, rfl⟩ rfl ⟨Nat.le_of_ble_eq_true rfl, Nat.le_of_ble_eq_true rfl⟩ (Nat.le_of_ble_eq_true rfl) ⟨Nat.le_of_ble_eq_true rfl, Nat.le_of_ble_eq_true rfl, Nat.le_of_ble_eq_true rfl, Nat.le_of_ble_eq_true rfl⟩ (k_Ri fun r76 h => ?_)
          refine z_icmp_ge C dX12_enter_79 (tgt := 86) (by decide) (fun c79 => ?_) (fun c79 => ?_)
          · have h := h.1 c79
            exact t_drop [true, true, false, false] rfl (j_X12_enter_86 hfl C hr hn9  s25 a1 h)
          · have h := h.2 c79
            refine z_iconst C dX12_enter_82 (v := 1) (by decide) ?_
            refine z_goto C dX12_enter_83 (tgt := 87) (by decide) ?_
            exact t_drop [true, true, false, false] rfl (j_X12_enter_87 hfl C hr hn9  s25 a1 (1) h)
    · have h := h.2 c40
      refine z_iconst C dX12_enter_43 (v := (-1)) (by decide) ?_
      exact z_iret C dX12_enter_44 hr rfl ⟨_, _, rfl, rfl, h⟩ (Nat.le_of_ble_eq_true rfl) (Nat.le_of_ble_eq_true rfl)
  · have h := h.2 c28
    refine z_iconst C dX12_enter_31 (v := 0) (by decide) ?_
    exact z_iret C dX12_enter_32 hr rfl ⟨_, _, rfl, rfl, h⟩ (Nat.le_of_ble_eq_true rfl) (Nat.le_of_ble_eq_true rfl)
def w_X12_enter (st : zTs) (a1 : Int32) (a2 : Int32) (P : Int32 → zTs → Prop) : Prop := w_X12_isWork st a1 (fun (r2 : Int32) (s2 : zTs) => ((r2 = 0 → P 0 s2) ∧ (¬ r2 = 0 → (a2 < 0 → w_X12_enter_24 P s2 a1 a2 (1)) ∧ (¬ a2 < 0 → (a2 ≤ 23 → w_X12_enter_24 P s2 a1 a2 (0)) ∧ (¬ a2 ≤ 23 → w_X12_enter_24 P s2 a1 a2 (1))))))
set_option maxHeartbeats 4000000 in
set_option maxRecDepth 100000 in
theorem c_X12_enter {Z : zZ} {l : Launch} (hfl : l.stackTraces = false) {st : zTs} {a1 : Int32} {a2 : Int32} {P : Int32 → zTs → Prop} (h : w_X12_enter st a1 a2 P) : zN Z l yX12_enter cX12_enter 4 (some .int) ({ frames := 3, cells := 0, slots := 0, locals := 55 } : Room) (zh Z zm1 st) [.ref 100, .int (a1), .int (a2)] (zWi Z P) := by
  unfold w_X12_enter at h
  refine z_enterN (by decide) (Nat.le_of_ble_eq_true rfl) (lc0 := [some (.ref 100), some (.int (a1)), some (.int (a2)), none]) rfl ?_
  intro p e s m args below meth c ad0 C hr _
  have hn9 : True := trivial
  replace C : zC Z p s m args meth c cX12_enter 4 RX12 := C
  refine z_aload_n C dX12_enter_0 (i := 0) rfl rfl ?_
  refine z_iload_n C dX12_enter_1 (i := 1) rfl rfl ?_
  refine t_callV C (rest := []) (c2 := 0) (s2 := 0) (kd := 100) (i := 0) [.int (a1)] dX12_enter_2 lk_X12_387 li_X12_isWork le_X12_isWork (c_X12_isWork hfl h) rfl rfl (by decide) rfl ⟨_, rfl⟩ rfl ⟨Nat.le_of_ble_eq_true rfl, Nat.le_of_ble_eq_true rfl⟩ (Nat.le_of_ble_eq_true rfl) ⟨Nat.le_of_ble_eq_true rfl, Nat.le_of_ble_eq_true rfl, Nat.le_of_ble_eq_true rfl, Nat.le_of_ble_eq_true rfl⟩ (k_Wi fun r2 s2 h => ?_)
  refine z_if_eq C dX12_enter_5 (tgt := 31) (by decide) (fun c5 => ?_) (fun c5 => ?_)
  · have h := h.1 c5
    refine z_iconst C dX12_enter_31 (v := 0) (by decide) ?_
    exact z_iret C dX12_enter_32 hr rfl ⟨_, _, rfl, rfl, h⟩ (Nat.le_of_ble_eq_true rfl) (Nat.le_of_ble_eq_true rfl)
  · have h := h.2 c5
    refine z_aload_n C dX12_enter_8 (i := 0) rfl rfl ?_
    refine z_iload_n C dX12_enter_9 (i := 2) rfl rfl ?_
    refine z_if_lt C dX12_enter_10 (tgt := 19) (by decide) (fun c10 => ?_) (fun c10 => ?_)
    · have h := h.1 c10
      refine z_iconst C dX12_enter_19 (v := 1) (by decide) ?_
      refine z_goto C dX12_enter_20 (tgt := 24) (by decide) ?_
      exact t_drop [true, true, true, false] rfl (j_X12_enter_24 hfl C hr hn9  s2 a1 a2 (1) h)
    · have h := h.2 c10
      refine z_iload_n C dX12_enter_13 (i := 2) rfl rfl ?_
      refine z_bipush C dX12_enter_14 (v := 23) (by decide) ?_
      refine z_icmp_le C dX12_enter_16 (tgt := 23) (by decide) (fun c16 => ?_) (fun c16 => ?_)
      · have h := h.1 c16
        refine z_iconst C dX12_enter_23 (v := 0) (by decide) ?_
        exact t_drop [true, true, true, false] rfl (j_X12_enter_24 hfl C hr hn9  s2 a1 a2 (0) h)
      · have h := h.2 c16
        refine z_iconst C dX12_enter_19 (v := 1) (by decide) ?_
        refine z_goto C dX12_enter_20 (tgt := 24) (by decide) ?_
        exact t_drop [true, true, true, false] rfl (j_X12_enter_24 hfl C hr hn9  s2 a1 a2 (1) h)
def w_X12_entries_23 (P : Int32 → zTs → Prop)  (st : zTs) (a1 : Int32) (a2 : Int32) (b0 : Int32) : Prop := w_X12_bad st b0 2 (fun (r24 : Int32) (s24 : zTs) => ((r24 = 0 → (a2 = 0 → vp_in a1 30 ∧ (P (zgA s24 142 0 (a1 : Int32).toNatClampNeg) s24)) ∧ (¬ a2 = 0 → vp_in a1 30 ∧ (P (zgA s24 143 0 (a1 : Int32).toNatClampNeg) s24))) ∧ (¬ r24 = 0 → P 0 s24)))
set_option maxHeartbeats 4000000 in
set_option maxRecDepth 100000 in
theorem j_X12_entries_23 {P : Int32 → zTs → Prop}  (hfl : l.stackTraces = false) (C : zC Z p s m args meth c cX12_entries 3 RX12) (hr : meth.sig.returnType = (some .int)) (hn9 : True)  (st : zTs) (a1 : Int32) (a2 : Int32) (b0 : Int32) (h : w_X12_entries_23 P st a1 a2 b0) : zG Z ad0 h0 p l e ({ frames := 2, cells := 0, slots := 0, locals := 34 } : Room) s m args below meth c (MQ below (zQ Z ad0 h0 (zWi Z P)) args s 0 0 (zA Z)) 0 0 (zh Z zm1 st) 3 23 [some (.ref 100), some (.int (a1)), some (.int (a2))] [.int (b0), .ref 100] := by
  unfold w_X12_entries_23 at h
  refine z_iconst C dX12_entries_23 (v := 2) (by decide) ?_
  refine t_callV C (rest := []) (c2 := 0) (s2 := 0) (kd := 100) (i := 0) [.int (b0), .int (2)] dX12_entries_24 lk_X12_205 li_X12_bad le_X12_bad (c_X12_bad hfl h) rfl rfl (by decide) rfl ⟨_, rfl⟩ rfl ⟨Nat.le_of_ble_eq_true rfl, Nat.le_of_ble_eq_true rfl⟩ (Nat.le_of_ble_eq_true rfl) ⟨Nat.le_of_ble_eq_true rfl, Nat.le_of_ble_eq_true rfl, Nat.le_of_ble_eq_true rfl, Nat.le_of_ble_eq_true rfl⟩ (k_Wi fun r24 s24 h => ?_)
  refine z_if_eq C dX12_entries_27 (tgt := 32) (by decide) (fun c27 => ?_) (fun c27 => ?_)
  · have h := h.1 c27
    refine z_iload_n C dX12_entries_32 (i := 2) rfl rfl ?_
    refine z_if_ne C dX12_entries_33 (tgt := 45) (by decide) (fun c33 => ?_) (fun c33 => ?_)
    · have h := h.2 c33
      refine z_aload_n C dX12_entries_45 (i := 0) rfl rfl ?_
      refine t_get C dX12_entries_46 fl_X12_142 (k := 100) (i := 0) (by decide) rfl (fg_100_58 _ _ _) ?_
      refine z_iload_n C dX12_entries_49 (i := 1) rfl rfl ?_
      obtain ⟨g50, h⟩ := h
      refine t_iald C dX12_entries_50 (k := 143) (i := 0) (by decide) rfl (sh_143 _ _ _ _) g50 ?_
      exact z_iret C dX12_entries_51 hr rfl ⟨_, _, rfl, rfl, h⟩ (Nat.le_of_ble_eq_true rfl) (Nat.le_of_ble_eq_true rfl)
    · have h := h.1 c33
      refine z_aload_n C dX12_entries_36 (i := 0) rfl rfl ?_
      refine t_get C dX12_entries_37 fl_X12_139 (k := 100) (i := 0) (by decide) rfl (fg_100_57 _ _ _) ?_
      refine z_iload_n C dX12_entries_40 (i := 1) rfl rfl ?_
      obtain ⟨g41, h⟩ := h
      refine t_iald C dX12_entries_41 (k := 142) (i := 0) (by decide) rfl (sh_142 _ _ _ _) g41 ?_
      refine z_goto C dX12_entries_42 (tgt := 51) (by decide) ?_
      exact z_iret C dX12_entries_51 hr rfl ⟨_, _, rfl, rfl, h⟩ (Nat.le_of_ble_eq_true rfl) (Nat.le_of_ble_eq_true rfl)
  · have h := h.2 c27
    refine z_iconst C dX12_entries_30 (v := 0) (by decide) ?_
    exact z_iret C dX12_entries_31 hr rfl ⟨_, _, rfl, rfl, h⟩ (Nat.le_of_ble_eq_true rfl) (Nat.le_of_ble_eq_true rfl)
def w_X12_entries (st : zTs) (a1 : Int32) (a2 : Int32) (P : Int32 → zTs → Prop) : Prop := w_X12_isWork st a1 (fun (r2 : Int32) (s2 : zTs) => ((r2 = 0 → P 0 s2) ∧ (¬ r2 = 0 → (a2 < 0 → w_X12_entries_23 P s2 a1 a2 (1)) ∧ (¬ a2 < 0 → (a2 ≤ 1 → w_X12_entries_23 P s2 a1 a2 (0)) ∧ (¬ a2 ≤ 1 → w_X12_entries_23 P s2 a1 a2 (1))))))
set_option maxHeartbeats 4000000 in
set_option maxRecDepth 100000 in
theorem c_X12_entries {Z : zZ} {l : Launch} (hfl : l.stackTraces = false) {st : zTs} {a1 : Int32} {a2 : Int32} {P : Int32 → zTs → Prop} (h : w_X12_entries st a1 a2 P) : zN Z l yX12_entries cX12_entries 3 (some .int) ({ frames := 2, cells := 0, slots := 0, locals := 34 } : Room) (zh Z zm1 st) [.ref 100, .int (a1), .int (a2)] (zWi Z P) := by
  unfold w_X12_entries at h
  refine z_enterN (by decide) (Nat.le_of_ble_eq_true rfl) (lc0 := [some (.ref 100), some (.int (a1)), some (.int (a2))]) rfl ?_
  intro p e s m args below meth c ad0 C hr _
  have hn9 : True := trivial
  replace C : zC Z p s m args meth c cX12_entries 3 RX12 := C
  refine z_aload_n C dX12_entries_0 (i := 0) rfl rfl ?_
  refine z_iload_n C dX12_entries_1 (i := 1) rfl rfl ?_
  refine t_callV C (rest := []) (c2 := 0) (s2 := 0) (kd := 100) (i := 0) [.int (a1)] dX12_entries_2 lk_X12_387 li_X12_isWork le_X12_isWork (c_X12_isWork hfl h) rfl rfl (by decide) rfl ⟨_, rfl⟩ rfl ⟨Nat.le_of_ble_eq_true rfl, Nat.le_of_ble_eq_true rfl⟩ (Nat.le_of_ble_eq_true rfl) ⟨Nat.le_of_ble_eq_true rfl, Nat.le_of_ble_eq_true rfl, Nat.le_of_ble_eq_true rfl, Nat.le_of_ble_eq_true rfl⟩ (k_Wi fun r2 s2 h => ?_)
  refine z_if_eq C dX12_entries_5 (tgt := 30) (by decide) (fun c5 => ?_) (fun c5 => ?_)
  · have h := h.1 c5
    refine z_iconst C dX12_entries_30 (v := 0) (by decide) ?_
    exact z_iret C dX12_entries_31 hr rfl ⟨_, _, rfl, rfl, h⟩ (Nat.le_of_ble_eq_true rfl) (Nat.le_of_ble_eq_true rfl)
  · have h := h.2 c5
    refine z_aload_n C dX12_entries_8 (i := 0) rfl rfl ?_
    refine z_iload_n C dX12_entries_9 (i := 2) rfl rfl ?_
    refine z_if_lt C dX12_entries_10 (tgt := 18) (by decide) (fun c10 => ?_) (fun c10 => ?_)
    · have h := h.1 c10
      refine z_iconst C dX12_entries_18 (v := 1) (by decide) ?_
      refine z_goto C dX12_entries_19 (tgt := 23) (by decide) ?_
      exact t_drop [true, true, true] rfl (j_X12_entries_23 hfl C hr hn9  s2 a1 a2 (1) h)
    · have h := h.2 c10
      refine z_iload_n C dX12_entries_13 (i := 2) rfl rfl ?_
      refine z_iconst C dX12_entries_14 (v := 1) (by decide) ?_
      refine z_icmp_le C dX12_entries_15 (tgt := 22) (by decide) (fun c15 => ?_) (fun c15 => ?_)
      · have h := h.1 c15
        refine z_iconst C dX12_entries_22 (v := 0) (by decide) ?_
        exact t_drop [true, true, true] rfl (j_X12_entries_23 hfl C hr hn9  s2 a1 a2 (0) h)
      · have h := h.2 c15
        refine z_iconst C dX12_entries_18 (v := 1) (by decide) ?_
        refine z_goto C dX12_entries_19 (tgt := 23) (by decide) ?_
        exact t_drop [true, true, true] rfl (j_X12_entries_23 hfl C hr hn9  s2 a1 a2 (1) h)
def w_X12_isSpan (st : zTs) (a0 : Int32) (a1 : Int32) (P : Int32 → Prop) : Prop := (a0 < 0 → P 0) ∧ (¬ a0 < 0 → (a1 < a0 → P 0) ∧ (¬ a1 < a0 → (12 ≤ a1 → P 0) ∧ (¬ 12 ≤ a1 → P 1)))
set_option maxHeartbeats 4000000 in
set_option maxRecDepth 100000 in
theorem c_X12_isSpan {Z : zZ} {l : Launch} (hfl : l.stackTraces = false) {st : zTs} {a0 : Int32} {a1 : Int32} {P : Int32 → Prop} (h : w_X12_isSpan st a0 a1 P) : zN Z l yX12_isSpan cX12_isSpan 2 (some .boolean) ({ frames := 1, cells := 0, slots := 0, locals := 12 } : Room) (zh Z zm1 st) [.int (a0), .int (a1)] (zRi Z st P) := by
  unfold w_X12_isSpan at h
  refine z_enterN (by decide) (Nat.le_of_ble_eq_true rfl) (lc0 := [some (.int (a0)), some (.int (a1))]) rfl ?_
  intro p e s m args below meth c ad0 C hr _
  have hn9 : True := trivial
  replace C : zC Z p s m args meth c cX12_isSpan 2 RX12 := C
  refine z_iload_n C dX12_isSpan_0 (i := 0) rfl rfl ?_
  refine z_if_lt C dX12_isSpan_1 (tgt := 19) (by decide) (fun c1 => ?_) (fun c1 => ?_)
  · have h := h.1 c1
    refine z_iconst C dX12_isSpan_19 (v := 0) (by decide) ?_
    exact z_iret C dX12_isSpan_20 hr rfl ⟨rfl, _, rfl, h⟩ (Nat.le_of_ble_eq_true rfl) (Nat.le_of_ble_eq_true rfl)
  · have h := h.2 c1
    refine z_iload_n C dX12_isSpan_4 (i := 1) rfl rfl ?_
    refine z_iload_n C dX12_isSpan_5 (i := 0) rfl rfl ?_
    refine z_icmp_lt C dX12_isSpan_6 (tgt := 19) (by decide) (fun c6 => ?_) (fun c6 => ?_)
    · have h := h.1 c6
      refine z_iconst C dX12_isSpan_19 (v := 0) (by decide) ?_
      exact z_iret C dX12_isSpan_20 hr rfl ⟨rfl, _, rfl, h⟩ (Nat.le_of_ble_eq_true rfl) (Nat.le_of_ble_eq_true rfl)
    · have h := h.2 c6
      refine z_iload_n C dX12_isSpan_9 (i := 1) rfl rfl ?_
      refine z_bipush C dX12_isSpan_10 (v := 12) (by decide) ?_
      refine z_icmp_ge C dX12_isSpan_12 (tgt := 19) (by decide) (fun c12 => ?_) (fun c12 => ?_)
      · have h := h.1 c12
        refine z_iconst C dX12_isSpan_19 (v := 0) (by decide) ?_
        exact z_iret C dX12_isSpan_20 hr rfl ⟨rfl, _, rfl, h⟩ (Nat.le_of_ble_eq_true rfl) (Nat.le_of_ble_eq_true rfl)
      · have h := h.2 c12
        refine z_iconst C dX12_isSpan_15 (v := 1) (by decide) ?_
        refine z_goto C dX12_isSpan_16 (tgt := 20) (by decide) ?_
        exact z_iret C dX12_isSpan_20 hr rfl ⟨rfl, _, rfl, h⟩ (Nat.le_of_ble_eq_true rfl) (Nat.le_of_ble_eq_true rfl)
def w_X12_build_254 (P : Int32 → zTs → Prop)  : Nat → zTs → Int32 → Int32 → Int32 → Prop
  | 0, _, _, _, _ => False
  | n9 + 1, st, a6, a7, a8 => (12 ≤ a8 → P a7 st) ∧ (¬ 12 ≤ a8 → vp_in ((12 * a6) + a8) 72 ∧ (∀ x277 : Int32, x277 = a7 + (zgA st 144 0 ((12 * a6) + a8 : Int32).toNatClampNeg) → (∀ x279 : Int32, x279 = a8 + 1 → ((w_X12_build_254 P n9) st a6 x277 x279))))
set_option maxHeartbeats 4000000 in
set_option maxRecDepth 100000 in
theorem j_X12_build_254 {P : Int32 → zTs → Prop}  (hfl : l.stackTraces = false) (C : zC Z p s m args meth c cX12_build 11 RX12) (hr : meth.sig.returnType = (some .int)) (hn9 : True)  : ∀ (n9 : Nat) (st : zTs) (a6 : Int32) (a7 : Int32) (a8 : Int32), w_X12_build_254 P n9 st a6 a7 a8 → zG Z ad0 h0 p l e ({ frames := 2, cells := 0, slots := 0, locals := 34 } : Room) s m args below meth c (MQ below (zQ Z ad0 h0 (zWi Z P)) args s 0 0 (zA Z)) 0 0 (zh Z zm1 st) 11 254 [some (.ref 100), none, none, none, none, none, some (.int (a6)), some (.int (a7)), some (.int (a8)), none, none] [] := by
  intro n9
  induction n9 with
  | zero => intro st a6 a7 a8 h; exact h.elim
  | succ n9 hK254 =>
    intro st a6 a7 a8 h
    rw [w_X12_build_254] at h
    refine z_iload C dX12_build_254 rfl ?_
    refine z_bipush C dX12_build_256 (v := 12) (by decide) ?_
    refine z_icmp_ge C dX12_build_258 (tgt := 285) (by decide) (fun c258 => ?_) (fun c258 => ?_)
    · have h := h.1 c258
      refine z_iload C dX12_build_285 rfl ?_
      exact z_iret C dX12_build_287 hr rfl ⟨_, _, rfl, rfl, h⟩ (Nat.le_of_ble_eq_true rfl) (Nat.le_of_ble_eq_true rfl)
    · have h := h.2 c258
      refine z_iload C dX12_build_261 rfl ?_
      refine z_aload_n C dX12_build_263 (i := 0) rfl rfl ?_
      refine t_get C dX12_build_264 fl_X12_145 (k := 100) (i := 0) (by decide) rfl (fg_100_59 _ _ _) ?_
      refine z_bipush C dX12_build_267 (v := 12) (by decide) ?_
      refine z_iload C dX12_build_269 rfl ?_
      refine z_imul C dX12_build_271 ?_
      refine z_iload C dX12_build_272 rfl ?_
      refine z_iadd C dX12_build_274 ?_
      obtain ⟨g275, h⟩ := h
      refine t_iald C dX12_build_275 (k := 144) (i := 0) (by decide) rfl (sh_144 _ _ _ _) g275 ?_
      refine z_iadd C dX12_build_276 ?_
      refine t_topi (fun x277 ex277 => ?_)
      have h := h x277 ex277
      refine z_istore C dX12_build_277 (lc' := [some (.ref 100), none, none, none, none, none, some (.int (a6)), some (.int (x277)), some (.int (a8)), none, none]) (by decide) rfl ?_
      obtain ⟨x279, ex279⟩ : ∃ z : Int32, z = a8 + 1 := ⟨_, rfl⟩
      have h := h x279 ex279
      refine z_iinc C dX12_build_279 (v := x279) (lc' := [some (.ref 100), none, none, none, none, none, some (.int (a6)), some (.int (x277)), some (.int (x279)), none, none]) rfl (by decide) (by rw [ex279]; rfl) rfl ?_
      refine z_goto C dX12_build_282 (tgt := 254) (by decide) ?_
      exact t_drop [true, false, false, false, false, false, true, true, true, false, false] rfl (hK254 st a6 x277 x279 h)
def w_X12_build_140 (P : Int32 → zTs → Prop) (K131 : zTs → Int32 → Int32 → Int32 → Int32 → Int32 → Int32 → Int32 → Prop) : Nat → zTs → Int32 → Int32 → Int32 → Int32 → Int32 → Int32 → Int32 → Int32 → Prop
  | 0, _, _, _, _, _, _, _, _, _ => False
  | n9 + 1, st, a1, a3, a4, a5, a6, a7, a8, a9 => (a4 ≤ a9 → ∀ x245 : Int32, x245 = a8 + 1 → (K131 st a1 a3 a4 a5 a6 a7 x245)) ∧ (¬ a4 ≤ a9 → vp_in ((12 * a6) + a8) 72 ∧ (∀ x172 : Int32, x172 = (20 * ((12 * a6) + a8)) + (zgA st 144 0 ((12 * a6) + a8 : Int32).toNatClampNeg) → (vp_in a1 30 ∧ (vp_in x172 1440 ∧ (∀ s186 : zTs, s186 = zuA st 145 0 (x172 : Int32).toNatClampNeg (zgA st 113 0 (a1 : Int32).toNatClampNeg) → (vp_in x172 1440 ∧ (∀ s195 : zTs, s195 = zuA s186 146 0 (x172 : Int32).toNatClampNeg a5 → (vp_in x172 1440 ∧ (∀ s206 : zTs, s206 = zuA s195 147 0 (x172 : Int32).toNatClampNeg (zgF s195 100 0 3) → (vp_in a1 30 ∧ (vp_in x172 1440 ∧ (∀ s221 : zTs, s221 = zuA s206 148 0 (x172 : Int32).toNatClampNeg (1 <<< ((zgA s206 113 0 (a1 : Int32).toNatClampNeg) &&& 31)) → (vp_in ((12 * a6) + a8) 72 ∧ (vp_in ((12 * a6) + a8) 72 ∧ (∀ s238 : zTs, s238 = zuA s221 144 0 ((12 * a6) + a8 : Int32).toNatClampNeg ((zgA s221 144 0 ((12 * a6) + a8 : Int32).toNatClampNeg) + 1) → (∀ x239 : Int32, x239 = a9 + 1 → ((w_X12_build_140 P K131 n9) s238 a1 a3 a4 a5 a6 a7 a8 x239)))))))))))))))))
set_option maxHeartbeats 4000000 in
set_option maxRecDepth 100000 in
theorem j_X12_build_140 {P : Int32 → zTs → Prop} {K131 : zTs → Int32 → Int32 → Int32 → Int32 → Int32 → Int32 → Int32 → Prop} (hfl : l.stackTraces = false) (C : zC Z p s m args meth c cX12_build 11 RX12) (hr : meth.sig.returnType = (some .int)) (hn9 : True) (hK131 : ∀ (st : zTs) (a1 : Int32) (a3 : Int32) (a4 : Int32) (a5 : Int32) (a6 : Int32) (a7 : Int32) (a8 : Int32), K131 st a1 a3 a4 a5 a6 a7 a8 → zG Z ad0 h0 p l e ({ frames := 2, cells := 0, slots := 0, locals := 34 } : Room) s m args below meth c (MQ below (zQ Z ad0 h0 (zWi Z P)) args s 0 0 (zA Z)) 0 0 (zh Z zm1 st) 11 131 [some (.ref 100), some (.int (a1)), none, some (.int (a3)), some (.int (a4)), some (.int (a5)), some (.int (a6)), some (.int (a7)), some (.int (a8)), none, none] []) : ∀ (n9 : Nat) (st : zTs) (a1 : Int32) (a3 : Int32) (a4 : Int32) (a5 : Int32) (a6 : Int32) (a7 : Int32) (a8 : Int32) (a9 : Int32), w_X12_build_140 P K131 n9 st a1 a3 a4 a5 a6 a7 a8 a9 → zG Z ad0 h0 p l e ({ frames := 2, cells := 0, slots := 0, locals := 34 } : Room) s m args below meth c (MQ below (zQ Z ad0 h0 (zWi Z P)) args s 0 0 (zA Z)) 0 0 (zh Z zm1 st) 11 140 [some (.ref 100), some (.int (a1)), none, some (.int (a3)), some (.int (a4)), some (.int (a5)), some (.int (a6)), some (.int (a7)), some (.int (a8)), some (.int (a9)), none] [] := by
  intro n9
  induction n9 with
  | zero => intro st a1 a3 a4 a5 a6 a7 a8 a9 h; exact h.elim
  | succ n9 hK140 =>
    intro st a1 a3 a4 a5 a6 a7 a8 a9 h
    rw [w_X12_build_140] at h
    refine z_iload C dX12_build_140 rfl ?_
    refine z_iload C dX12_build_142 rfl ?_
    refine z_icmp_ge C dX12_build_144 (tgt := 245) (by decide) (fun c144 => ?_) (fun c144 => ?_)
    · have h := h.1 c144
      obtain ⟨x245, ex245⟩ : ∃ z : Int32, z = a8 + 1 := ⟨_, rfl⟩
      have h := h x245 ex245
      refine z_iinc C dX12_build_245 (v := x245) (lc' := [some (.ref 100), some (.int (a1)), none, some (.int (a3)), some (.int (a4)), some (.int (a5)), some (.int (a6)), some (.int (a7)), some (.int (x245)), some (.int (a9)), none]) rfl (by decide) (by rw [ex245]; rfl) rfl ?_
      refine z_goto C dX12_build_248 (tgt := 131) (by decide) ?_
      exact t_drop [true, true, false, true, true, true, true, true, true, false, false] rfl (hK131 st a1 a3 a4 a5 a6 a7 x245 h)
    · have h := h.2 c144
      refine z_bipush C dX12_build_147 (v := 20) (by decide) ?_
      refine z_bipush C dX12_build_149 (v := 12) (by decide) ?_
      refine z_iload C dX12_build_151 rfl ?_
      refine z_imul C dX12_build_153 ?_
      refine z_iload C dX12_build_154 rfl ?_
      refine z_iadd C dX12_build_156 ?_
      refine z_imul C dX12_build_157 ?_
      refine z_aload_n C dX12_build_158 (i := 0) rfl rfl ?_
      refine t_get C dX12_build_159 fl_X12_145 (k := 100) (i := 0) (by decide) rfl (fg_100_59 _ _ _) ?_
      refine z_bipush C dX12_build_162 (v := 12) (by decide) ?_
      refine z_iload C dX12_build_164 rfl ?_
      refine z_imul C dX12_build_166 ?_
      refine z_iload C dX12_build_167 rfl ?_
      refine z_iadd C dX12_build_169 ?_
      obtain ⟨g170, h⟩ := h
      refine t_iald C dX12_build_170 (k := 144) (i := 0) (by decide) rfl (sh_144 _ _ _ _) g170 ?_
      refine z_iadd C dX12_build_171 ?_
      refine t_topi (fun x172 ex172 => ?_)
      have h := h x172 ex172
      refine z_istore C dX12_build_172 (lc' := [some (.ref 100), some (.int (a1)), none, some (.int (a3)), some (.int (a4)), some (.int (a5)), some (.int (a6)), some (.int (a7)), some (.int (a8)), some (.int (a9)), some (.int (x172))]) (by decide) rfl ?_
      refine z_aload_n C dX12_build_174 (i := 0) rfl rfl ?_
      refine t_get C dX12_build_175 fl_X12_148 (k := 100) (i := 0) (by decide) rfl (fg_100_60 _ _ _) ?_
      refine z_iload C dX12_build_178 rfl ?_
      refine z_aload_n C dX12_build_180 (i := 0) rfl rfl ?_
      refine t_get C dX12_build_181 fl_X12_52 (k := 100) (i := 0) (by decide) rfl (fg_100_25 _ _ _) ?_
      refine z_iload_n C dX12_build_184 (i := 1) rfl rfl ?_
      obtain ⟨g185, h⟩ := h
      refine t_iald C dX12_build_185 (k := 113) (i := 0) (by decide) rfl (sh_113 _ _ _ _) g185 ?_
      obtain ⟨g186, h⟩ := h
      refine t_iast C dX12_build_186 (k := 145) (i := 0) (by decide) rfl (fun s9 => sh_145 _ _ s9 _) g186 ?_
      refine t_tops (fun s186 es186 => ?_)
      have h := h s186 es186
      refine z_aload_n C dX12_build_187 (i := 0) rfl rfl ?_
      refine t_get C dX12_build_188 fl_X12_151 (k := 100) (i := 0) (by decide) rfl (fg_100_61 _ _ _) ?_
      refine z_iload C dX12_build_191 rfl ?_
      refine z_iload C dX12_build_193 rfl ?_
      obtain ⟨g195, h⟩ := h
      refine t_iast C dX12_build_195 (k := 146) (i := 0) (by decide) rfl (fun s9 => sh_146 _ _ s9 _) g195 ?_
      refine t_tops (fun s195 es195 => ?_)
      have h := h s195 es195
      refine z_aload_n C dX12_build_196 (i := 0) rfl rfl ?_
      refine t_get C dX12_build_197 fl_X12_154 (k := 100) (i := 0) (by decide) rfl (fg_100_62 _ _ _) ?_
      refine z_iload C dX12_build_200 rfl ?_
      refine z_aload_n C dX12_build_202 (i := 0) rfl rfl ?_
      refine t_get C dX12_build_203 fl_X12_222 (k := 100) (i := 0) (by decide) rfl (fg_100_3 _ _ _) ?_
      obtain ⟨g206, h⟩ := h
      refine t_iast C dX12_build_206 (k := 147) (i := 0) (by decide) rfl (fun s9 => sh_147 _ _ s9 _) g206 ?_
      refine t_tops (fun s206 es206 => ?_)
      have h := h s206 es206
      refine z_aload_n C dX12_build_207 (i := 0) rfl rfl ?_
      refine t_get C dX12_build_208 fl_X12_157 (k := 100) (i := 0) (by decide) rfl (fg_100_63 _ _ _) ?_
      refine z_iload C dX12_build_211 rfl ?_
      refine z_iconst C dX12_build_213 (v := 1) (by decide) ?_
      refine z_aload_n C dX12_build_214 (i := 0) rfl rfl ?_
      refine t_get C dX12_build_215 fl_X12_52 (k := 100) (i := 0) (by decide) rfl (fg_100_25 _ _ _) ?_
      refine z_iload_n C dX12_build_218 (i := 1) rfl rfl ?_
      obtain ⟨g219, h⟩ := h
      refine t_iald C dX12_build_219 (k := 113) (i := 0) (by decide) rfl (sh_113 _ _ _ _) g219 ?_
      refine z_ishl C dX12_build_220 ?_
      obtain ⟨g221, h⟩ := h
      refine t_iast C dX12_build_221 (k := 148) (i := 0) (by decide) rfl (fun s9 => sh_148 _ _ s9 _) g221 ?_
      refine t_tops (fun s221 es221 => ?_)
      have h := h s221 es221
      refine z_aload_n C dX12_build_222 (i := 0) rfl rfl ?_
      refine t_get C dX12_build_223 fl_X12_145 (k := 100) (i := 0) (by decide) rfl (fg_100_59 _ _ _) ?_
      refine z_bipush C dX12_build_226 (v := 12) (by decide) ?_
      refine z_iload C dX12_build_228 rfl ?_
      refine z_imul C dX12_build_230 ?_
      refine z_iload C dX12_build_231 rfl ?_
      refine z_iadd C dX12_build_233 ?_
      refine z_dup2 C dX12_build_234 rfl rfl ?_
      obtain ⟨g235, h⟩ := h
      refine t_iald C dX12_build_235 (k := 144) (i := 0) (by decide) rfl (sh_144 _ _ _ _) g235 ?_
      refine z_iconst C dX12_build_236 (v := 1) (by decide) ?_
      refine z_iadd C dX12_build_237 ?_
      obtain ⟨g238, h⟩ := h
      refine t_iast C dX12_build_238 (k := 144) (i := 0) (by decide) rfl (fun s9 => sh_144 _ _ s9 _) g238 ?_
      refine t_tops (fun s238 es238 => ?_)
      have h := h s238 es238
      obtain ⟨x239, ex239⟩ : ∃ z : Int32, z = a9 + 1 := ⟨_, rfl⟩
      have h := h x239 ex239
      refine z_iinc C dX12_build_239 (v := x239) (lc' := [some (.ref 100), some (.int (a1)), none, some (.int (a3)), some (.int (a4)), some (.int (a5)), some (.int (a6)), some (.int (a7)), some (.int (a8)), some (.int (x239)), some (.int (x172))]) rfl (by decide) (by rw [ex239]; rfl) rfl ?_
      refine z_goto C dX12_build_242 (tgt := 140) (by decide) ?_
      exact t_drop [true, true, false, true, true, true, true, true, true, true, false] rfl (hK140 s238 a1 a3 a4 a5 a6 a7 a8 x239 h)
def w_X12_build_131 (P : Int32 → zTs → Prop)  : Nat → zTs → Int32 → Int32 → Int32 → Int32 → Int32 → Int32 → Int32 → Prop
  | 0, _, _, _, _, _, _, _, _ => False
  | n9 + 1, st, a1, a3, a4, a5, a6, a7, a8 => (a3 < a8 → w_X12_build_254 P zfu st a6 a7 (0)) ∧ (¬ a3 < a8 → w_X12_build_140 P (w_X12_build_131 P n9) zfu st a1 a3 a4 a5 a6 a7 a8 (0))
set_option maxHeartbeats 4000000 in
set_option maxRecDepth 100000 in
theorem j_X12_build_131 {P : Int32 → zTs → Prop}  (hfl : l.stackTraces = false) (C : zC Z p s m args meth c cX12_build 11 RX12) (hr : meth.sig.returnType = (some .int)) (hn9 : True)  : ∀ (n9 : Nat) (st : zTs) (a1 : Int32) (a3 : Int32) (a4 : Int32) (a5 : Int32) (a6 : Int32) (a7 : Int32) (a8 : Int32), w_X12_build_131 P n9 st a1 a3 a4 a5 a6 a7 a8 → zG Z ad0 h0 p l e ({ frames := 2, cells := 0, slots := 0, locals := 34 } : Room) s m args below meth c (MQ below (zQ Z ad0 h0 (zWi Z P)) args s 0 0 (zA Z)) 0 0 (zh Z zm1 st) 11 131 [some (.ref 100), some (.int (a1)), none, some (.int (a3)), some (.int (a4)), some (.int (a5)), some (.int (a6)), some (.int (a7)), some (.int (a8)), none, none] [] := by
  intro n9
  induction n9 with
  | zero => intro st a1 a3 a4 a5 a6 a7 a8 h; exact h.elim
  | succ n9 hK131 =>
    intro st a1 a3 a4 a5 a6 a7 a8 h
    rw [w_X12_build_131] at h
    refine z_iload C dX12_build_131 rfl ?_
    refine z_iload_n C dX12_build_133 (i := 3) rfl rfl ?_
    refine z_icmp_gt C dX12_build_134 (tgt := 251) (by decide) (fun c134 => ?_) (fun c134 => ?_)
    · have h := h.1 c134
      refine z_iconst C dX12_build_251 (v := 0) (by decide) ?_
      refine z_istore C dX12_build_252 (lc' := [some (.ref 100), some (.int (a1)), none, some (.int (a3)), some (.int (a4)), some (.int (a5)), some (.int (a6)), some (.int (a7)), some (.int (0)), none, none]) (by decide) rfl ?_
      exact t_drop [true, false, false, false, false, false, true, true, true, false, false] rfl (j_X12_build_254 hfl C hr hn9  zfu st a6 a7 (0) h)
    · have h := h.2 c134
      refine z_iconst C dX12_build_137 (v := 0) (by decide) ?_
      refine z_istore C dX12_build_138 (lc' := [some (.ref 100), some (.int (a1)), none, some (.int (a3)), some (.int (a4)), some (.int (a5)), some (.int (a6)), some (.int (a7)), some (.int (a8)), some (.int (0)), none]) (by decide) rfl ?_
      exact t_drop [true, true, false, true, true, true, true, true, true, true, false] rfl (j_X12_build_140 hfl C hr hn9 hK131 zfu st a1 a3 a4 a5 a6 a7 a8 (0) h)
def w_X12_build_92 (P : Int32 → zTs → Prop)  : Nat → zTs → Int32 → Int32 → Int32 → Int32 → Int32 → Int32 → Int32 → Int32 → Prop
  | 0, _, _, _, _, _, _, _, _, _ => False
  | n9 + 1, st, a1, a2, a3, a4, a5, a6, a7, a8 => (a3 < a8 → w_X12_build_131 P zfu st a1 a3 a4 a5 a6 a7 a2) ∧ (¬ a3 < a8 → vp_in ((12 * a6) + a8) 72 ∧ ((((zgA st 144 0 ((12 * a6) + a8 : Int32).toNatClampNeg) + a4) ≤ 20 → ∀ x122 : Int32, x122 = a8 + 1 → ((w_X12_build_92 P n9) st a1 a2 a3 a4 a5 a6 a7 x122)) ∧ (¬ ((zgA st 144 0 ((12 * a6) + a8 : Int32).toNatClampNeg) + a4) ≤ 20 → P (-2) st)))
set_option maxHeartbeats 4000000 in
set_option maxRecDepth 100000 in
theorem j_X12_build_92 {P : Int32 → zTs → Prop}  (hfl : l.stackTraces = false) (C : zC Z p s m args meth c cX12_build 11 RX12) (hr : meth.sig.returnType = (some .int)) (hn9 : True)  : ∀ (n9 : Nat) (st : zTs) (a1 : Int32) (a2 : Int32) (a3 : Int32) (a4 : Int32) (a5 : Int32) (a6 : Int32) (a7 : Int32) (a8 : Int32), w_X12_build_92 P n9 st a1 a2 a3 a4 a5 a6 a7 a8 → zG Z ad0 h0 p l e ({ frames := 2, cells := 0, slots := 0, locals := 34 } : Room) s m args below meth c (MQ below (zQ Z ad0 h0 (zWi Z P)) args s 0 0 (zA Z)) 0 0 (zh Z zm1 st) 11 92 [some (.ref 100), some (.int (a1)), some (.int (a2)), some (.int (a3)), some (.int (a4)), some (.int (a5)), some (.int (a6)), some (.int (a7)), some (.int (a8)), none, none] [] := by
  intro n9
  induction n9 with
  | zero => intro st a1 a2 a3 a4 a5 a6 a7 a8 h; exact h.elim
  | succ n9 hK92 =>
    intro st a1 a2 a3 a4 a5 a6 a7 a8 h
    rw [w_X12_build_92] at h
    refine z_iload C dX12_build_92 rfl ?_
    refine z_iload_n C dX12_build_94 (i := 3) rfl rfl ?_
    refine z_icmp_gt C dX12_build_95 (tgt := 128) (by decide) (fun c95 => ?_) (fun c95 => ?_)
    · have h := h.1 c95
      refine z_iload_n C dX12_build_128 (i := 2) rfl rfl ?_
      refine z_istore C dX12_build_129 (lc' := [some (.ref 100), some (.int (a1)), some (.int (a2)), some (.int (a3)), some (.int (a4)), some (.int (a5)), some (.int (a6)), some (.int (a7)), some (.int (a2)), none, none]) (by decide) rfl ?_
      exact t_drop [true, true, false, true, true, true, true, true, true, false, false] rfl (j_X12_build_131 hfl C hr hn9  zfu st a1 a3 a4 a5 a6 a7 a2 h)
    · have h := h.2 c95
      refine z_aload_n C dX12_build_98 (i := 0) rfl rfl ?_
      refine t_get C dX12_build_99 fl_X12_145 (k := 100) (i := 0) (by decide) rfl (fg_100_59 _ _ _) ?_
      refine z_bipush C dX12_build_102 (v := 12) (by decide) ?_
      refine z_iload C dX12_build_104 rfl ?_
      refine z_imul C dX12_build_106 ?_
      refine z_iload C dX12_build_107 rfl ?_
      refine z_iadd C dX12_build_109 ?_
      obtain ⟨g110, h⟩ := h
      refine t_iald C dX12_build_110 (k := 144) (i := 0) (by decide) rfl (sh_144 _ _ _ _) g110 ?_
      refine z_iload C dX12_build_111 rfl ?_
      refine z_iadd C dX12_build_113 ?_
      refine z_bipush C dX12_build_114 (v := 20) (by decide) ?_
      refine z_icmp_le C dX12_build_116 (tgt := 122) (by decide) (fun c116 => ?_) (fun c116 => ?_)
      · have h := h.1 c116
        obtain ⟨x122, ex122⟩ : ∃ z : Int32, z = a8 + 1 := ⟨_, rfl⟩
        have h := h x122 ex122
        refine z_iinc C dX12_build_122 (v := x122) (lc' := [some (.ref 100), some (.int (a1)), some (.int (a2)), some (.int (a3)), some (.int (a4)), some (.int (a5)), some (.int (a6)), some (.int (a7)), some (.int (x122)), none, none]) rfl (by decide) (by rw [ex122]; rfl) rfl ?_
        refine z_goto C dX12_build_125 (tgt := 92) (by decide) ?_
        exact t_drop [true, true, true, true, true, true, true, true, true, false, false] rfl (hK92 st a1 a2 a3 a4 a5 a6 a7 x122 h)
      · have h := h.2 c116
        refine z_bipush C dX12_build_119 (v := (-2)) (by decide) ?_
        exact z_iret C dX12_build_121 hr rfl ⟨_, _, rfl, rfl, h⟩ (Nat.le_of_ble_eq_true rfl) (Nat.le_of_ble_eq_true rfl)
def w_X12_build_48 (P : Int32 → zTs → Prop)  (st : zTs) (a1 : Int32) (a2 : Int32) (a3 : Int32) (a4 : Int32) (a5 : Int32) (b0 : Int32) : Prop := w_X12_bad st b0 2 (fun (r49 : Int32) (s49 : zTs) => ((r49 = 0 → vp_in a1 30 ∧ (((zgA s49 126 0 (a1 : Int32).toNatClampNeg) = 5 → vp_in a1 30 ∧ (((zgA s49 114 0 (a1 : Int32).toNatClampNeg) = 0 → vp_in a1 30 ∧ (∀ x84 : Int32, x84 = zgA s49 112 0 (a1 : Int32).toNatClampNeg → (w_X12_build_92 P zfu s49 a1 a2 a3 a4 a5 x84 (0) a2))) ∧ (¬ (zgA s49 114 0 (a1 : Int32).toNatClampNeg) = 0 → P (-1) s49))) ∧ (¬ (zgA s49 126 0 (a1 : Int32).toNatClampNeg) = 5 → P (-1) s49))) ∧ (¬ r49 = 0 → P 0 s49)))
set_option maxHeartbeats 4000000 in
set_option maxRecDepth 100000 in
theorem j_X12_build_48 {P : Int32 → zTs → Prop}  (hfl : l.stackTraces = false) (C : zC Z p s m args meth c cX12_build 11 RX12) (hr : meth.sig.returnType = (some .int)) (hn9 : True)  (st : zTs) (a1 : Int32) (a2 : Int32) (a3 : Int32) (a4 : Int32) (a5 : Int32) (b0 : Int32) (h : w_X12_build_48 P st a1 a2 a3 a4 a5 b0) : zG Z ad0 h0 p l e ({ frames := 2, cells := 0, slots := 0, locals := 34 } : Room) s m args below meth c (MQ below (zQ Z ad0 h0 (zWi Z P)) args s 0 0 (zA Z)) 0 0 (zh Z zm1 st) 11 48 [some (.ref 100), some (.int (a1)), some (.int (a2)), some (.int (a3)), some (.int (a4)), some (.int (a5)), none, none, none, none, none] [.int (b0), .ref 100] := by
  unfold w_X12_build_48 at h
  refine z_iconst C dX12_build_48 (v := 2) (by decide) ?_
  refine t_callV C (rest := []) (c2 := 0) (s2 := 0) (kd := 100) (i := 0) [.int (b0), .int (2)] dX12_build_49 lk_X12_205 li_X12_bad le_X12_bad (c_X12_bad hfl h) rfl rfl (by decide) rfl ⟨_, rfl⟩ rfl ⟨Nat.le_of_ble_eq_true rfl, Nat.le_of_ble_eq_true rfl⟩ (Nat.le_of_ble_eq_true rfl) ⟨Nat.le_of_ble_eq_true rfl, Nat.le_of_ble_eq_true rfl, Nat.le_of_ble_eq_true rfl, Nat.le_of_ble_eq_true rfl⟩ (k_Wi fun r49 s49 h => ?_)
  refine z_if_eq C dX12_build_52 (tgt := 57) (by decide) (fun c52 => ?_) (fun c52 => ?_)
  · have h := h.1 c52
    refine z_aload_n C dX12_build_57 (i := 0) rfl rfl ?_
    refine t_get C dX12_build_58 fl_X12_91 (k := 100) (i := 0) (by decide) rfl (fg_100_38 _ _ _) ?_
    refine z_iload_n C dX12_build_61 (i := 1) rfl rfl ?_
    obtain ⟨g62, h⟩ := h
    refine t_iald C dX12_build_62 (k := 126) (i := 0) (by decide) rfl (sh_126 _ _ _ _) g62 ?_
    refine z_iconst C dX12_build_63 (v := 5) (by decide) ?_
    refine z_icmp_ne C dX12_build_64 (tgt := 76) (by decide) (fun c64 => ?_) (fun c64 => ?_)
    · have h := h.2 c64
      refine z_iconst C dX12_build_76 (v := (-1)) (by decide) ?_
      exact z_iret C dX12_build_77 hr rfl ⟨_, _, rfl, rfl, h⟩ (Nat.le_of_ble_eq_true rfl) (Nat.le_of_ble_eq_true rfl)
    · have h := h.1 c64
      refine z_aload_n C dX12_build_67 (i := 0) rfl rfl ?_
      refine t_get C dX12_build_68 fl_X12_55 (k := 100) (i := 0) (by decide) rfl (fg_100_26 _ _ _) ?_
      refine z_iload_n C dX12_build_71 (i := 1) rfl rfl ?_
      obtain ⟨g72, h⟩ := h
      refine t_iald C dX12_build_72 (k := 114) (i := 0) (by decide) rfl (sh_114 _ _ _ _) g72 ?_
      refine z_if_eq C dX12_build_73 (tgt := 78) (by decide) (fun c73 => ?_) (fun c73 => ?_)
      · have h := h.1 c73
        refine z_aload_n C dX12_build_78 (i := 0) rfl rfl ?_
        refine t_get C dX12_build_79 fl_X12_49 (k := 100) (i := 0) (by decide) rfl (fg_100_24 _ _ _) ?_
        refine z_iload_n C dX12_build_82 (i := 1) rfl rfl ?_
        obtain ⟨g83, h⟩ := h
        refine t_iald C dX12_build_83 (k := 112) (i := 0) (by decide) rfl (sh_112 _ _ _ _) g83 ?_
        refine t_topi (fun x84 ex84 => ?_)
        have h := h x84 ex84
        refine z_istore C dX12_build_84 (lc' := [some (.ref 100), some (.int (a1)), some (.int (a2)), some (.int (a3)), some (.int (a4)), some (.int (a5)), some (.int (x84)), none, none, none, none]) (by decide) rfl ?_
        refine z_iconst C dX12_build_86 (v := 0) (by decide) ?_
        refine z_istore C dX12_build_87 (lc' := [some (.ref 100), some (.int (a1)), some (.int (a2)), some (.int (a3)), some (.int (a4)), some (.int (a5)), some (.int (x84)), some (.int (0)), none, none, none]) (by decide) rfl ?_
        refine z_iload_n C dX12_build_89 (i := 2) rfl rfl ?_
        refine z_istore C dX12_build_90 (lc' := [some (.ref 100), some (.int (a1)), some (.int (a2)), some (.int (a3)), some (.int (a4)), some (.int (a5)), some (.int (x84)), some (.int (0)), some (.int (a2)), none, none]) (by decide) rfl ?_
        exact t_drop [true, true, true, true, true, true, true, true, true, false, false] rfl (j_X12_build_92 hfl C hr hn9  zfu s49 a1 a2 a3 a4 a5 x84 (0) a2 h)
      · have h := h.2 c73
        refine z_iconst C dX12_build_76 (v := (-1)) (by decide) ?_
        exact z_iret C dX12_build_77 hr rfl ⟨_, _, rfl, rfl, h⟩ (Nat.le_of_ble_eq_true rfl) (Nat.le_of_ble_eq_true rfl)
  · have h := h.2 c52
    refine z_iconst C dX12_build_55 (v := 0) (by decide) ?_
    exact z_iret C dX12_build_56 hr rfl ⟨_, _, rfl, rfl, h⟩ (Nat.le_of_ble_eq_true rfl) (Nat.le_of_ble_eq_true rfl)
def w_X12_build (st : zTs) (a1 : Int32) (a2 : Int32) (a3 : Int32) (a4 : Int32) (a5 : Int32) (P : Int32 → zTs → Prop) : Prop := w_X12_isWork st a1 (fun (r2 : Int32) (s2 : zTs) => ((r2 = 0 → P 0 s2) ∧ (¬ r2 = 0 → w_X12_isSpan s2 a2 a3 (fun (r11 : Int32) => ((r11 = 0 → w_X12_build_48 P s2 a1 a2 a3 a4 a5 (1)) ∧ (¬ r11 = 0 → (a4 < 1 → w_X12_build_48 P s2 a1 a2 a3 a4 a5 (1)) ∧ (¬ a4 < 1 → (20 < a4 → w_X12_build_48 P s2 a1 a2 a3 a4 a5 (1)) ∧ (¬ 20 < a4 → (a5 < 0 → w_X12_build_48 P s2 a1 a2 a3 a4 a5 (1)) ∧ (¬ a5 < 0 → (a5 ≤ 100000 → w_X12_build_48 P s2 a1 a2 a3 a4 a5 (0)) ∧ (¬ a5 ≤ 100000 → w_X12_build_48 P s2 a1 a2 a3 a4 a5 (1)))))))))))
set_option maxHeartbeats 4000000 in
set_option maxRecDepth 100000 in
theorem c_X12_build {Z : zZ} {l : Launch} (hfl : l.stackTraces = false) {st : zTs} {a1 : Int32} {a2 : Int32} {a3 : Int32} {a4 : Int32} {a5 : Int32} {P : Int32 → zTs → Prop} (h : w_X12_build st a1 a2 a3 a4 a5 P) : zN Z l yX12_build cX12_build 11 (some .int) ({ frames := 2, cells := 0, slots := 0, locals := 34 } : Room) (zh Z zm1 st) [.ref 100, .int (a1), .int (a2), .int (a3), .int (a4), .int (a5)] (zWi Z P) := by
  unfold w_X12_build at h
  refine z_enterN (by decide) (Nat.le_of_ble_eq_true rfl) (lc0 := [some (.ref 100), some (.int (a1)), some (.int (a2)), some (.int (a3)), some (.int (a4)), some (.int (a5)), none, none, none, none, none]) rfl ?_
  intro p e s m args below meth c ad0 C hr _
  have hn9 : True := trivial
  replace C : zC Z p s m args meth c cX12_build 11 RX12 := C
  refine z_aload_n C dX12_build_0 (i := 0) rfl rfl ?_
  refine z_iload_n C dX12_build_1 (i := 1) rfl rfl ?_
  refine t_callV C (rest := []) (c2 := 0) (s2 := 0) (kd := 100) (i := 0) [.int (a1)] dX12_build_2 lk_X12_387 li_X12_isWork le_X12_isWork (c_X12_isWork hfl h) rfl rfl (by decide) rfl ⟨_, rfl⟩ rfl ⟨Nat.le_of_ble_eq_true rfl, Nat.le_of_ble_eq_true rfl⟩ (Nat.le_of_ble_eq_true rfl) ⟨Nat.le_of_ble_eq_true rfl, Nat.le_of_ble_eq_true rfl, Nat.le_of_ble_eq_true rfl, Nat.le_of_ble_eq_true rfl⟩ (k_Wi fun r2 s2 h => ?_)
  refine z_if_eq C dX12_build_5 (tgt := 55) (by decide) (fun c5 => ?_) (fun c5 => ?_)
  · have h := h.1 c5
    refine z_iconst C dX12_build_55 (v := 0) (by decide) ?_
    exact z_iret C dX12_build_56 hr rfl ⟨_, _, rfl, rfl, h⟩ (Nat.le_of_ble_eq_true rfl) (Nat.le_of_ble_eq_true rfl)
  · have h := h.2 c5
    refine z_aload_n C dX12_build_8 (i := 0) rfl rfl ?_
    refine z_iload_n C dX12_build_9 (i := 2) rfl rfl ?_
    refine z_iload_n C dX12_build_10 (i := 3) rfl rfl ?_
    refine t_callS C (rest := [.ref 100]) (c2 := 0) (s2 := 0) [.int (a2), .int (a3)] dX12_build_11 lk_X12_454 ls_X12_isSpan (c_X12_isSpan hfl h) rfl rfl ⟨Nat.le_of_ble_eq_true rfl, Nat.le_of_ble_eq_true rfl⟩ (Nat.le_of_ble_eq_true rfl) ⟨Nat.le_of_ble_eq_true rfl, Nat.le_of_ble_eq_true rfl, Nat.le_of_ble_eq_true rfl, Nat.le_of_ble_eq_true rfl⟩ (k_Ri fun r11 h => ?_)
    refine z_if_eq C dX12_build_14 (tgt := 43) (by decide) (fun c14 => ?_) (fun c14 => ?_)
    · have h := h.1 c14
      refine z_iconst C dX12_build_43 (v := 1) (by decide) ?_
      refine z_goto C dX12_build_44 (tgt := 48) (by decide) ?_
      exact t_drop [true, true, true, true, true, true, false, false, false, false, false] rfl (j_X12_build_48 hfl C hr hn9  s2 a1 a2 a3 a4 a5 (1) h)
    · have h := h.2 c14
      refine z_iload C dX12_build_17 rfl ?_
      refine z_iconst C dX12_build_19 (v := 1) (by decide) ?_
      refine z_icmp_lt C dX12_build_20 (tgt := 43) (by decide) (fun c20 => ?_) (fun c20 => ?_)
      · have h := h.1 c20
        refine z_iconst C dX12_build_43 (v := 1) (by decide) ?_
        refine z_goto C dX12_build_44 (tgt := 48) (by decide) ?_
        exact t_drop [true, true, true, true, true, true, false, false, false, false, false] rfl (j_X12_build_48 hfl C hr hn9  s2 a1 a2 a3 a4 a5 (1) h)
      · have h := h.2 c20
        refine z_iload C dX12_build_23 rfl ?_
        refine z_bipush C dX12_build_25 (v := 20) (by decide) ?_
        refine z_icmp_gt C dX12_build_27 (tgt := 43) (by decide) (fun c27 => ?_) (fun c27 => ?_)
        · have h := h.1 c27
          refine z_iconst C dX12_build_43 (v := 1) (by decide) ?_
          refine z_goto C dX12_build_44 (tgt := 48) (by decide) ?_
          exact t_drop [true, true, true, true, true, true, false, false, false, false, false] rfl (j_X12_build_48 hfl C hr hn9  s2 a1 a2 a3 a4 a5 (1) h)
        · have h := h.2 c27
          refine z_iload C dX12_build_30 rfl ?_
          refine z_if_lt C dX12_build_32 (tgt := 43) (by decide) (fun c32 => ?_) (fun c32 => ?_)
          · have h := h.1 c32
            refine z_iconst C dX12_build_43 (v := 1) (by decide) ?_
            refine z_goto C dX12_build_44 (tgt := 48) (by decide) ?_
            exact t_drop [true, true, true, true, true, true, false, false, false, false, false] rfl (j_X12_build_48 hfl C hr hn9  s2 a1 a2 a3 a4 a5 (1) h)
          · have h := h.2 c32
            refine z_iload C dX12_build_35 rfl ?_
            refine z_ldc_w C dX12_build_37 kc_X12_304 ?_
            refine z_icmp_le C dX12_build_40 (tgt := 47) (by decide) (fun c40 => ?_) (fun c40 => ?_)
            · have h := h.1 c40
              refine z_iconst C dX12_build_47 (v := 0) (by decide) ?_
              exact t_drop [true, true, true, true, true, true, false, false, false, false, false] rfl (j_X12_build_48 hfl C hr hn9  s2 a1 a2 a3 a4 a5 (0) h)
            · have h := h.2 c40
              refine z_iconst C dX12_build_43 (v := 1) (by decide) ?_
              refine z_goto C dX12_build_44 (tgt := 48) (by decide) ?_
              exact t_drop [true, true, true, true, true, true, false, false, false, false, false] rfl (j_X12_build_48 hfl C hr hn9  s2 a1 a2 a3 a4 a5 (1) h)
def w_X12_lower_98 (P : Int32 → zTs → Prop) (K55 : zTs → Int32 → Int32 → Int32 → Int32 → Prop) (st : zTs) (a1 : Int32) (a3 : Int32) (a4 : Int32) (a5 : Int32) : Prop := ∀ x98 : Int32, x98 = a5 + 1 → (K55 st a1 a3 a4 x98)
set_option maxHeartbeats 4000000 in
set_option maxRecDepth 100000 in
theorem j_X12_lower_98 {P : Int32 → zTs → Prop} {K55 : zTs → Int32 → Int32 → Int32 → Int32 → Prop} (hfl : l.stackTraces = false) (C : zC Z p s m args meth c cX12_lower 6 RX12) (hr : meth.sig.returnType = (some .int)) (hn9 : True) (hK55 : ∀ (st : zTs) (a1 : Int32) (a3 : Int32) (a4 : Int32) (a5 : Int32), K55 st a1 a3 a4 a5 → zG Z ad0 h0 p l e ({ frames := 2, cells := 0, slots := 0, locals := 34 } : Room) s m args below meth c (MQ below (zQ Z ad0 h0 (zWi Z P)) args s 0 0 (zA Z)) 0 0 (zh Z zm1 st) 6 55 [some (.ref 100), some (.int (a1)), none, some (.int (a3)), some (.int (a4)), some (.int (a5))] []) (st : zTs) (a1 : Int32) (a3 : Int32) (a4 : Int32) (a5 : Int32) (h : w_X12_lower_98 P K55 st a1 a3 a4 a5) : zG Z ad0 h0 p l e ({ frames := 2, cells := 0, slots := 0, locals := 34 } : Room) s m args below meth c (MQ below (zQ Z ad0 h0 (zWi Z P)) args s 0 0 (zA Z)) 0 0 (zh Z zm1 st) 6 98 [some (.ref 100), some (.int (a1)), none, some (.int (a3)), some (.int (a4)), some (.int (a5))] [] := by
  unfold w_X12_lower_98 at h
  obtain ⟨x98, ex98⟩ : ∃ z : Int32, z = a5 + 1 := ⟨_, rfl⟩
  have h := h x98 ex98
  refine z_iinc C dX12_lower_98 (v := x98) (lc' := [some (.ref 100), some (.int (a1)), none, some (.int (a3)), some (.int (a4)), some (.int (x98))]) rfl (by decide) (by rw [ex98]; rfl) rfl ?_
  refine z_goto C dX12_lower_101 (tgt := 55) (by decide) ?_
  exact t_drop [true, true, false, true, true, true] rfl (hK55 st a1 a3 a4 x98 h)
def w_X12_lower_55 (P : Int32 → zTs → Prop)  : Nat → zTs → Int32 → Int32 → Int32 → Int32 → Prop
  | 0, _, _, _, _, _ => False
  | n9 + 1, st, a1, a3, a4, a5 => (a3 < a5 → P a4 st) ∧ (¬ a3 < a5 → vp_in ((12 * a1) + a5) 72 ∧ (((zgA st 144 0 ((12 * a1) + a5 : Int32).toNatClampNeg) = 0 → w_X12_lower_98 P (w_X12_lower_55 P n9) st a1 a3 a4 a5) ∧ (¬ (zgA st 144 0 ((12 * a1) + a5 : Int32).toNatClampNeg) = 0 → vp_in ((12 * a1) + a5) 72 ∧ (vp_in ((12 * a1) + a5) 72 ∧ (∀ s94 : zTs, s94 = zuA st 144 0 ((12 * a1) + a5 : Int32).toNatClampNeg ((zgA st 144 0 ((12 * a1) + a5 : Int32).toNatClampNeg) - 1) → (∀ x95 : Int32, x95 = a4 + 1 → (w_X12_lower_98 P (w_X12_lower_55 P n9) s94 a1 a3 x95 a5)))))))
set_option maxHeartbeats 4000000 in
set_option maxRecDepth 100000 in
theorem j_X12_lower_55 {P : Int32 → zTs → Prop}  (hfl : l.stackTraces = false) (C : zC Z p s m args meth c cX12_lower 6 RX12) (hr : meth.sig.returnType = (some .int)) (hn9 : True)  : ∀ (n9 : Nat) (st : zTs) (a1 : Int32) (a3 : Int32) (a4 : Int32) (a5 : Int32), w_X12_lower_55 P n9 st a1 a3 a4 a5 → zG Z ad0 h0 p l e ({ frames := 2, cells := 0, slots := 0, locals := 34 } : Room) s m args below meth c (MQ below (zQ Z ad0 h0 (zWi Z P)) args s 0 0 (zA Z)) 0 0 (zh Z zm1 st) 6 55 [some (.ref 100), some (.int (a1)), none, some (.int (a3)), some (.int (a4)), some (.int (a5))] [] := by
  intro n9
  induction n9 with
  | zero => intro st a1 a3 a4 a5 h; exact h.elim
  | succ n9 hK55 =>
    intro st a1 a3 a4 a5 h
    rw [w_X12_lower_55] at h
    refine z_iload C dX12_lower_55 rfl ?_
    refine z_iload_n C dX12_lower_57 (i := 3) rfl rfl ?_
    refine z_icmp_gt C dX12_lower_58 (tgt := 104) (by decide) (fun c58 => ?_) (fun c58 => ?_)
    · have h := h.1 c58
      refine z_iload C dX12_lower_104 rfl ?_
      exact z_iret C dX12_lower_106 hr rfl ⟨_, _, rfl, rfl, h⟩ (Nat.le_of_ble_eq_true rfl) (Nat.le_of_ble_eq_true rfl)
    · have h := h.2 c58
      refine z_aload_n C dX12_lower_61 (i := 0) rfl rfl ?_
      refine t_get C dX12_lower_62 fl_X12_145 (k := 100) (i := 0) (by decide) rfl (fg_100_59 _ _ _) ?_
      refine z_bipush C dX12_lower_65 (v := 12) (by decide) ?_
      refine z_iload_n C dX12_lower_67 (i := 1) rfl rfl ?_
      refine z_imul C dX12_lower_68 ?_
      refine z_iload C dX12_lower_69 rfl ?_
      refine z_iadd C dX12_lower_71 ?_
      obtain ⟨g72, h⟩ := h
      refine t_iald C dX12_lower_72 (k := 144) (i := 0) (by decide) rfl (sh_144 _ _ _ _) g72 ?_
      refine z_if_ne C dX12_lower_73 (tgt := 79) (by decide) (fun c73 => ?_) (fun c73 => ?_)
      · have h := h.2 c73
        refine z_aload_n C dX12_lower_79 (i := 0) rfl rfl ?_
        refine t_get C dX12_lower_80 fl_X12_145 (k := 100) (i := 0) (by decide) rfl (fg_100_59 _ _ _) ?_
        refine z_bipush C dX12_lower_83 (v := 12) (by decide) ?_
        refine z_iload_n C dX12_lower_85 (i := 1) rfl rfl ?_
        refine z_imul C dX12_lower_86 ?_
        refine z_iload C dX12_lower_87 rfl ?_
        refine z_iadd C dX12_lower_89 ?_
        refine z_dup2 C dX12_lower_90 rfl rfl ?_
        obtain ⟨g91, h⟩ := h
        refine t_iald C dX12_lower_91 (k := 144) (i := 0) (by decide) rfl (sh_144 _ _ _ _) g91 ?_
        refine z_iconst C dX12_lower_92 (v := 1) (by decide) ?_
        refine z_isub C dX12_lower_93 ?_
        obtain ⟨g94, h⟩ := h
        refine t_iast C dX12_lower_94 (k := 144) (i := 0) (by decide) rfl (fun s9 => sh_144 _ _ s9 _) g94 ?_
        refine t_tops (fun s94 es94 => ?_)
        have h := h s94 es94
        obtain ⟨x95, ex95⟩ : ∃ z : Int32, z = a4 + 1 := ⟨_, rfl⟩
        have h := h x95 ex95
        refine z_iinc C dX12_lower_95 (v := x95) (lc' := [some (.ref 100), some (.int (a1)), none, some (.int (a3)), some (.int (x95)), some (.int (a5))]) rfl (by decide) (by rw [ex95]; rfl) rfl ?_
        exact t_drop [true, true, false, true, true, true] rfl (j_X12_lower_98 hfl C hr hn9 hK55 s94 a1 a3 x95 a5 h)
      · have h := h.1 c73
        refine z_goto C dX12_lower_76 (tgt := 98) (by decide) ?_
        exact t_drop [true, true, false, true, true, true] rfl (j_X12_lower_98 hfl C hr hn9 hK55 st a1 a3 a4 a5 h)
def w_X12_lower_40 (P : Int32 → zTs → Prop)  (st : zTs) (a1 : Int32) (a2 : Int32) (a3 : Int32) (b0 : Int32) : Prop := w_X12_bad st b0 2 (fun (r41 : Int32) (s41 : zTs) => ((r41 = 0 → w_X12_lower_55 P zfu s41 a1 a3 (0) a2) ∧ (¬ r41 = 0 → P 0 s41)))
set_option maxHeartbeats 4000000 in
set_option maxRecDepth 100000 in
theorem j_X12_lower_40 {P : Int32 → zTs → Prop}  (hfl : l.stackTraces = false) (C : zC Z p s m args meth c cX12_lower 6 RX12) (hr : meth.sig.returnType = (some .int)) (hn9 : True)  (st : zTs) (a1 : Int32) (a2 : Int32) (a3 : Int32) (b0 : Int32) (h : w_X12_lower_40 P st a1 a2 a3 b0) : zG Z ad0 h0 p l e ({ frames := 2, cells := 0, slots := 0, locals := 34 } : Room) s m args below meth c (MQ below (zQ Z ad0 h0 (zWi Z P)) args s 0 0 (zA Z)) 0 0 (zh Z zm1 st) 6 40 [some (.ref 100), some (.int (a1)), some (.int (a2)), some (.int (a3)), none, none] [.int (b0), .ref 100] := by
  unfold w_X12_lower_40 at h
  refine z_iconst C dX12_lower_40 (v := 2) (by decide) ?_
  refine t_callV C (rest := []) (c2 := 0) (s2 := 0) (kd := 100) (i := 0) [.int (b0), .int (2)] dX12_lower_41 lk_X12_205 li_X12_bad le_X12_bad (c_X12_bad hfl h) rfl rfl (by decide) rfl ⟨_, rfl⟩ rfl ⟨Nat.le_of_ble_eq_true rfl, Nat.le_of_ble_eq_true rfl⟩ (Nat.le_of_ble_eq_true rfl) ⟨Nat.le_of_ble_eq_true rfl, Nat.le_of_ble_eq_true rfl, Nat.le_of_ble_eq_true rfl, Nat.le_of_ble_eq_true rfl⟩ (k_Wi fun r41 s41 h => ?_)
  refine z_if_eq C dX12_lower_44 (tgt := 49) (by decide) (fun c44 => ?_) (fun c44 => ?_)
  · have h := h.1 c44
    refine z_iconst C dX12_lower_49 (v := 0) (by decide) ?_
    refine z_istore C dX12_lower_50 (lc' := [some (.ref 100), some (.int (a1)), some (.int (a2)), some (.int (a3)), some (.int (0)), none]) (by decide) rfl ?_
    refine z_iload_n C dX12_lower_52 (i := 2) rfl rfl ?_
    refine z_istore C dX12_lower_53 (lc' := [some (.ref 100), some (.int (a1)), some (.int (a2)), some (.int (a3)), some (.int (0)), some (.int (a2))]) (by decide) rfl ?_
    exact t_drop [true, true, false, true, true, true] rfl (j_X12_lower_55 hfl C hr hn9  zfu s41 a1 a3 (0) a2 h)
  · have h := h.2 c44
    refine z_iconst C dX12_lower_47 (v := 0) (by decide) ?_
    exact z_iret C dX12_lower_48 hr rfl ⟨_, _, rfl, rfl, h⟩ (Nat.le_of_ble_eq_true rfl) (Nat.le_of_ble_eq_true rfl)
def w_X12_lower_19 (P : Int32 → zTs → Prop)  (st : zTs) (a1 : Int32) (a2 : Int32) (a3 : Int32) (b0 : Int32) : Prop := w_X12_bad st b0 1 (fun (r20 : Int32) (s20 : zTs) => ((r20 = 0 → w_X12_isSpan s20 a2 a3 (fun (r29 : Int32) => ((r29 = 0 → w_X12_lower_40 P s20 a1 a2 a3 (1)) ∧ (¬ r29 = 0 → w_X12_lower_40 P s20 a1 a2 a3 (0))))) ∧ (¬ r20 = 0 → P 0 s20)))
set_option maxHeartbeats 4000000 in
set_option maxRecDepth 100000 in
theorem j_X12_lower_19 {P : Int32 → zTs → Prop}  (hfl : l.stackTraces = false) (C : zC Z p s m args meth c cX12_lower 6 RX12) (hr : meth.sig.returnType = (some .int)) (hn9 : True)  (st : zTs) (a1 : Int32) (a2 : Int32) (a3 : Int32) (b0 : Int32) (h : w_X12_lower_19 P st a1 a2 a3 b0) : zG Z ad0 h0 p l e ({ frames := 2, cells := 0, slots := 0, locals := 34 } : Room) s m args below meth c (MQ below (zQ Z ad0 h0 (zWi Z P)) args s 0 0 (zA Z)) 0 0 (zh Z zm1 st) 6 19 [some (.ref 100), some (.int (a1)), some (.int (a2)), some (.int (a3)), none, none] [.int (b0), .ref 100] := by
  unfold w_X12_lower_19 at h
  refine z_iconst C dX12_lower_19 (v := 1) (by decide) ?_
  refine t_callV C (rest := []) (c2 := 0) (s2 := 0) (kd := 100) (i := 0) [.int (b0), .int (1)] dX12_lower_20 lk_X12_205 li_X12_bad le_X12_bad (c_X12_bad hfl h) rfl rfl (by decide) rfl ⟨_, rfl⟩ rfl ⟨Nat.le_of_ble_eq_true rfl, Nat.le_of_ble_eq_true rfl⟩ (Nat.le_of_ble_eq_true rfl) ⟨Nat.le_of_ble_eq_true rfl, Nat.le_of_ble_eq_true rfl, Nat.le_of_ble_eq_true rfl, Nat.le_of_ble_eq_true rfl⟩ (k_Wi fun r20 s20 h => ?_)
  refine z_if_ne C dX12_lower_23 (tgt := 47) (by decide) (fun c23 => ?_) (fun c23 => ?_)
  · have h := h.2 c23
    refine z_iconst C dX12_lower_47 (v := 0) (by decide) ?_
    exact z_iret C dX12_lower_48 hr rfl ⟨_, _, rfl, rfl, h⟩ (Nat.le_of_ble_eq_true rfl) (Nat.le_of_ble_eq_true rfl)
  · have h := h.1 c23
    refine z_aload_n C dX12_lower_26 (i := 0) rfl rfl ?_
    refine z_iload_n C dX12_lower_27 (i := 2) rfl rfl ?_
    refine z_iload_n C dX12_lower_28 (i := 3) rfl rfl ?_
    refine t_callS C (rest := [.ref 100]) (c2 := 0) (s2 := 0) [.int (a2), .int (a3)] dX12_lower_29 lk_X12_454 ls_X12_isSpan (c_X12_isSpan hfl h) rfl rfl ⟨Nat.le_of_ble_eq_true rfl, Nat.le_of_ble_eq_true rfl⟩ (Nat.le_of_ble_eq_true rfl) ⟨Nat.le_of_ble_eq_true rfl, Nat.le_of_ble_eq_true rfl, Nat.le_of_ble_eq_true rfl, Nat.le_of_ble_eq_true rfl⟩ (k_Ri fun r29 h => ?_)
    refine z_if_ne C dX12_lower_32 (tgt := 39) (by decide) (fun c32 => ?_) (fun c32 => ?_)
    · have h := h.2 c32
      refine z_iconst C dX12_lower_39 (v := 0) (by decide) ?_
      exact t_drop [true, true, true, true, false, false] rfl (j_X12_lower_40 hfl C hr hn9  s20 a1 a2 a3 (0) h)
    · have h := h.1 c32
      refine z_iconst C dX12_lower_35 (v := 1) (by decide) ?_
      refine z_goto C dX12_lower_36 (tgt := 40) (by decide) ?_
      exact t_drop [true, true, true, true, false, false] rfl (j_X12_lower_40 hfl C hr hn9  s20 a1 a2 a3 (1) h)
def w_X12_lower (st : zTs) (a1 : Int32) (a2 : Int32) (a3 : Int32) (P : Int32 → zTs → Prop) : Prop := ∀ s2 : zTs, s2 = zuF st 100 0 0 0 → (w_X12_isWall s2 a1 (fun (r8 : Int32) => ((r8 = 0 → w_X12_lower_19 P s2 a1 a2 a3 (1)) ∧ (¬ r8 = 0 → w_X12_lower_19 P s2 a1 a2 a3 (0)))))
set_option maxHeartbeats 4000000 in
set_option maxRecDepth 100000 in
theorem c_X12_lower {Z : zZ} {l : Launch} (hfl : l.stackTraces = false) {st : zTs} {a1 : Int32} {a2 : Int32} {a3 : Int32} {P : Int32 → zTs → Prop} (h : w_X12_lower st a1 a2 a3 P) : zN Z l yX12_lower cX12_lower 6 (some .int) ({ frames := 2, cells := 0, slots := 0, locals := 34 } : Room) (zh Z zm1 st) [.ref 100, .int (a1), .int (a2), .int (a3)] (zWi Z P) := by
  unfold w_X12_lower at h
  refine z_enterN (by decide) (Nat.le_of_ble_eq_true rfl) (lc0 := [some (.ref 100), some (.int (a1)), some (.int (a2)), some (.int (a3)), none, none]) rfl ?_
  intro p e s m args below meth c ad0 C hr _
  have hn9 : True := trivial
  replace C : zC Z p s m args meth c cX12_lower 6 RX12 := C
  refine z_aload_n C dX12_lower_0 (i := 0) rfl rfl ?_
  refine z_iconst C dX12_lower_1 (v := 0) (by decide) ?_
  refine t_put C dX12_lower_2 fq_X12_199 (Or.inl rfl) (k := 100) (i := 0) (by decide) rfl ⟨rfl, rfl⟩ (fp_100_0 _ _ _ _ _) ?_
  refine t_tops (fun s2 es2 => ?_)
  have h := h s2 es2
  refine z_aload_n C dX12_lower_5 (i := 0) rfl rfl ?_
  refine z_aload_n C dX12_lower_6 (i := 0) rfl rfl ?_
  refine z_iload_n C dX12_lower_7 (i := 1) rfl rfl ?_
  refine t_callV C (rest := [.ref 100]) (c2 := 0) (s2 := 0) (kd := 100) (i := 0) [.int (a1)] dX12_lower_8 lk_X12_216 li_X12_isWall le_X12_isWall (c_X12_isWall hfl h) rfl rfl (by decide) rfl ⟨_, rfl⟩ rfl ⟨Nat.le_of_ble_eq_true rfl, Nat.le_of_ble_eq_true rfl⟩ (Nat.le_of_ble_eq_true rfl) ⟨Nat.le_of_ble_eq_true rfl, Nat.le_of_ble_eq_true rfl, Nat.le_of_ble_eq_true rfl, Nat.le_of_ble_eq_true rfl⟩ (k_Ri fun r8 h => ?_)
  refine z_if_ne C dX12_lower_11 (tgt := 18) (by decide) (fun c11 => ?_) (fun c11 => ?_)
  · have h := h.2 c11
    refine z_iconst C dX12_lower_18 (v := 0) (by decide) ?_
    exact t_drop [true, true, true, true, false, false] rfl (j_X12_lower_19 hfl C hr hn9  s2 a1 a2 a3 (0) h)
  · have h := h.1 c11
    refine z_iconst C dX12_lower_14 (v := 1) (by decide) ?_
    refine z_goto C dX12_lower_15 (tgt := 19) (by decide) ?_
    exact t_drop [true, true, true, true, false, false] rfl (j_X12_lower_19 hfl C hr hn9  s2 a1 a2 a3 (1) h)
def w_X12_valueOf (st : zTs) (a1 : Int32) (P : Int32 → Prop) : Prop := vp_in 10 15 ∧ (vp_in a1 1440 ∧ (∀ x26 : Int32, x26 = 100 - ((zgA st 103 0 (10 : Int32).toNatClampNeg) * (((zgF st 100 0 3) - (zgA st 147 0 (a1 : Int32).toNatClampNeg)) / 365)) → ((0 < x26 → vp_in a1 1440 ∧ (P (((((zgA st 146 0 (a1 : Int32).toNatClampNeg : Int32).toInt64) * ((x26 : Int32).toInt64)) / 100 : Int64).toInt32))) ∧ (¬ 0 < x26 → P 0))))
set_option maxHeartbeats 4000000 in
set_option maxRecDepth 100000 in
theorem c_X12_valueOf {Z : zZ} {l : Launch} (hfl : l.stackTraces = false) {st : zTs} {a1 : Int32} {P : Int32 → Prop} (h : w_X12_valueOf st a1 P) : zN Z l yX12_valueOf cX12_valueOf 3 (some .int) ({ frames := 1, cells := 0, slots := 0, locals := 12 } : Room) (zh Z zm1 st) [.ref 100, .int (a1)] (zRi Z st P) := by
  unfold w_X12_valueOf at h
  refine z_enterN (by decide) (Nat.le_of_ble_eq_true rfl) (lc0 := [some (.ref 100), some (.int (a1)), none]) rfl ?_
  intro p e s m args below meth c ad0 C hr _
  have hn9 : True := trivial
  replace C : zC Z p s m args meth c cX12_valueOf 3 RX12 := C
  refine z_bipush C dX12_valueOf_0 (v := 100) (by decide) ?_
  refine z_aload_n C dX12_valueOf_2 (i := 0) rfl rfl ?_
  refine t_get C dX12_valueOf_3 fl_X12_21 (k := 100) (i := 0) (by decide) rfl (fg_100_13 _ _ _) ?_
  refine z_bipush C dX12_valueOf_6 (v := 10) (by decide) ?_
  obtain ⟨g8, h⟩ := h
  refine t_iald C dX12_valueOf_8 (k := 103) (i := 0) (by decide) rfl (sh_103 _ _ _ _) g8 ?_
  refine z_aload_n C dX12_valueOf_9 (i := 0) rfl rfl ?_
  refine t_get C dX12_valueOf_10 fl_X12_222 (k := 100) (i := 0) (by decide) rfl (fg_100_3 _ _ _) ?_
  refine z_aload_n C dX12_valueOf_13 (i := 0) rfl rfl ?_
  refine t_get C dX12_valueOf_14 fl_X12_154 (k := 100) (i := 0) (by decide) rfl (fg_100_62 _ _ _) ?_
  refine z_iload_n C dX12_valueOf_17 (i := 1) rfl rfl ?_
  obtain ⟨g18, h⟩ := h
  refine t_iald C dX12_valueOf_18 (k := 147) (i := 0) (by decide) rfl (sh_147 _ _ _ _) g18 ?_
  refine z_isub C dX12_valueOf_19 ?_
  refine z_sipush C dX12_valueOf_20 (v := 365) (by decide) ?_
  refine z_idiv C dX12_valueOf_23 (by decide) ?_
  refine z_imul C dX12_valueOf_24 ?_
  refine z_isub C dX12_valueOf_25 ?_
  refine t_topi (fun x26 ex26 => ?_)
  have h := h x26 ex26
  refine z_istore_n C dX12_valueOf_26 (i := 2) (lc' := [some (.ref 100), some (.int (a1)), some (.int (x26))]) rfl (by decide) rfl ?_
  refine z_iload_n C dX12_valueOf_27 (i := 2) rfl rfl ?_
  refine z_if_gt C dX12_valueOf_28 (tgt := 35) (by decide) (fun c28 => ?_) (fun c28 => ?_)
  · have h := h.1 c28
    refine z_aload_n C dX12_valueOf_35 (i := 0) rfl rfl ?_
    refine t_get C dX12_valueOf_36 fl_X12_151 (k := 100) (i := 0) (by decide) rfl (fg_100_61 _ _ _) ?_
    refine z_iload_n C dX12_valueOf_39 (i := 1) rfl rfl ?_
    obtain ⟨g40, h⟩ := h
    refine t_iald C dX12_valueOf_40 (k := 146) (i := 0) (by decide) rfl (sh_146 _ _ _ _) g40 ?_
    refine z_i2l C dX12_valueOf_41 ?_
    refine z_iload_n C dX12_valueOf_42 (i := 2) rfl rfl ?_
    refine z_i2l C dX12_valueOf_43 ?_
    refine z_lmul C dX12_valueOf_44 ?_
    refine z_ldc2 C dX12_valueOf_45 kj_X12_457 ?_
    refine z_ldiv C dX12_valueOf_48 (by decide) ?_
    refine z_l2i C dX12_valueOf_49 ?_
    exact z_iret C dX12_valueOf_50 hr rfl ⟨rfl, _, rfl, h⟩ (Nat.le_of_ble_eq_true rfl) (Nat.le_of_ble_eq_true rfl)
  · have h := h.2 c28
    refine z_iconst C dX12_valueOf_31 (v := 0) (by decide) ?_
    refine z_goto C dX12_valueOf_32 (tgt := 50) (by decide) ?_
    exact z_iret C dX12_valueOf_50 hr rfl ⟨rfl, _, rfl, h⟩ (Nat.le_of_ble_eq_true rfl) (Nat.le_of_ble_eq_true rfl)
def w_X12_isDue (st : zTs) (a1 : Int32) (a2 : Int32) (P : Int32 → Prop) : Prop := vp_in a1 1440 ∧ (((zgA st 145 0 (a1 : Int32).toNatClampNeg) = a2 → P 0) ∧ (¬ (zgA st 145 0 (a1 : Int32).toNatClampNeg) = a2 → vp_in a1 1440 ∧ (((((zgA st 148 0 (a1 : Int32).toNatClampNeg) >>> (a2 &&& 31)) &&& 1) = 0 → P 1) ∧ (¬ (((zgA st 148 0 (a1 : Int32).toNatClampNeg) >>> (a2 &&& 31)) &&& 1) = 0 → P 0))))
set_option maxHeartbeats 4000000 in
set_option maxRecDepth 100000 in
theorem c_X12_isDue {Z : zZ} {l : Launch} (hfl : l.stackTraces = false) {st : zTs} {a1 : Int32} {a2 : Int32} {P : Int32 → Prop} (h : w_X12_isDue st a1 a2 P) : zN Z l yX12_isDue cX12_isDue 3 (some .boolean) ({ frames := 1, cells := 0, slots := 0, locals := 12 } : Room) (zh Z zm1 st) [.ref 100, .int (a1), .int (a2)] (zRi Z st P) := by
  unfold w_X12_isDue at h
  refine z_enterN (by decide) (Nat.le_of_ble_eq_true rfl) (lc0 := [some (.ref 100), some (.int (a1)), some (.int (a2))]) rfl ?_
  intro p e s m args below meth c ad0 C hr _
  have hn9 : True := trivial
  replace C : zC Z p s m args meth c cX12_isDue 3 RX12 := C
  refine z_aload_n C dX12_isDue_0 (i := 0) rfl rfl ?_
  refine t_get C dX12_isDue_1 fl_X12_148 (k := 100) (i := 0) (by decide) rfl (fg_100_60 _ _ _) ?_
  refine z_iload_n C dX12_isDue_4 (i := 1) rfl rfl ?_
  obtain ⟨g5, h⟩ := h
  refine t_iald C dX12_isDue_5 (k := 145) (i := 0) (by decide) rfl (sh_145 _ _ _ _) g5 ?_
  refine z_iload_n C dX12_isDue_6 (i := 2) rfl rfl ?_
  refine z_icmp_eq C dX12_isDue_7 (tgt := 27) (by decide) (fun c7 => ?_) (fun c7 => ?_)
  · have h := h.1 c7
    refine z_iconst C dX12_isDue_27 (v := 0) (by decide) ?_
    exact z_iret C dX12_isDue_28 hr rfl ⟨rfl, _, rfl, h⟩ (Nat.le_of_ble_eq_true rfl) (Nat.le_of_ble_eq_true rfl)
  · have h := h.2 c7
    refine z_aload_n C dX12_isDue_10 (i := 0) rfl rfl ?_
    refine t_get C dX12_isDue_11 fl_X12_157 (k := 100) (i := 0) (by decide) rfl (fg_100_63 _ _ _) ?_
    refine z_iload_n C dX12_isDue_14 (i := 1) rfl rfl ?_
    obtain ⟨g15, h⟩ := h
    refine t_iald C dX12_isDue_15 (k := 148) (i := 0) (by decide) rfl (sh_148 _ _ _ _) g15 ?_
    refine z_iload_n C dX12_isDue_16 (i := 2) rfl rfl ?_
    refine z_ishr C dX12_isDue_17 ?_
    refine z_iconst C dX12_isDue_18 (v := 1) (by decide) ?_
    refine z_iand C dX12_isDue_19 ?_
    refine z_if_ne C dX12_isDue_20 (tgt := 27) (by decide) (fun c20 => ?_) (fun c20 => ?_)
    · have h := h.2 c20
      refine z_iconst C dX12_isDue_27 (v := 0) (by decide) ?_
      exact z_iret C dX12_isDue_28 hr rfl ⟨rfl, _, rfl, h⟩ (Nat.le_of_ble_eq_true rfl) (Nat.le_of_ble_eq_true rfl)
    · have h := h.1 c20
      refine z_iconst C dX12_isDue_23 (v := 1) (by decide) ?_
      refine z_goto C dX12_isDue_24 (tgt := 28) (by decide) ?_
      exact z_iret C dX12_isDue_28 hr rfl ⟨rfl, _, rfl, h⟩ (Nat.le_of_ble_eq_true rfl) (Nat.le_of_ble_eq_true rfl)
def w_X12_use_244 (P : Int32 → zTs → Prop) (K180 : zTs → Int32 → Int32 → Int32 → Int32 → Int32 → Int32 → Prop) (st : zTs) (a1 : Int32) (a2 : Int32) (a4 : Int32) (a5 : Int32) (a6 : Int32) (a7 : Int32) : Prop := ∀ x244 : Int32, x244 = a7 + 1 → (K180 st a1 a2 a4 a5 a6 x244)
set_option maxHeartbeats 4000000 in
set_option maxRecDepth 100000 in
theorem j_X12_use_244 {P : Int32 → zTs → Prop} {K180 : zTs → Int32 → Int32 → Int32 → Int32 → Int32 → Int32 → Prop} (hfl : l.stackTraces = false) (C : zC Z p s m args meth c cX12_use 10 RX12) (hr : meth.sig.returnType = (some .int)) (hn9 : True) (hK180 : ∀ (st : zTs) (a1 : Int32) (a2 : Int32) (a4 : Int32) (a5 : Int32) (a6 : Int32) (a7 : Int32), K180 st a1 a2 a4 a5 a6 a7 → zG Z ad0 h0 p l e ({ frames := 2, cells := 0, slots := 0, locals := 35 } : Room) s m args below meth c (MQ below (zQ Z ad0 h0 (zWi Z P)) args s 0 0 (zA Z)) 0 0 (zh Z zm1 st) 10 180 [some (.ref 100), some (.int (a1)), some (.int (a2)), none, some (.int (a4)), some (.int (a5)), some (.int (a6)), some (.int (a7)), none, none] []) (st : zTs) (a1 : Int32) (a2 : Int32) (a4 : Int32) (a5 : Int32) (a6 : Int32) (a7 : Int32) (h : w_X12_use_244 P K180 st a1 a2 a4 a5 a6 a7) : zG Z ad0 h0 p l e ({ frames := 2, cells := 0, slots := 0, locals := 35 } : Room) s m args below meth c (MQ below (zQ Z ad0 h0 (zWi Z P)) args s 0 0 (zA Z)) 0 0 (zh Z zm1 st) 10 244 [some (.ref 100), some (.int (a1)), some (.int (a2)), none, some (.int (a4)), some (.int (a5)), some (.int (a6)), some (.int (a7)), none, none] [] := by
  unfold w_X12_use_244 at h
  obtain ⟨x244, ex244⟩ : ∃ z : Int32, z = a7 + 1 := ⟨_, rfl⟩
  have h := h x244 ex244
  refine z_iinc C dX12_use_244 (v := x244) (lc' := [some (.ref 100), some (.int (a1)), some (.int (a2)), none, some (.int (a4)), some (.int (a5)), some (.int (a6)), some (.int (x244)), none, none]) rfl (by decide) (by rw [ex244]; rfl) rfl ?_
  refine z_goto C dX12_use_247 (tgt := 180) (by decide) ?_
  exact t_drop [true, true, true, false, true, true, true, true, false, false] rfl (hK180 st a1 a2 a4 a5 a6 x244 h)
def w_X12_use_190 (P : Int32 → zTs → Prop) (K180 : zTs → Int32 → Int32 → Int32 → Int32 → Int32 → Int32 → Prop) : Nat → zTs → Int32 → Int32 → Int32 → Int32 → Int32 → Int32 → Int32 → Prop
  | 0, _, _, _, _, _, _, _, _ => False
  | n9 + 1, st, a1, a2, a4, a5, a6, a7, a8 => (a5 ≤ a8 → w_X12_use_244 P K180 st a1 a2 a4 a5 a6 a7) ∧ (¬ a5 ≤ a8 → vp_in ((12 * a1) + a7) 72 ∧ (((zgA st 144 0 ((12 * a1) + a7 : Int32).toNatClampNeg) ≤ a8 → w_X12_use_244 P K180 st a1 a2 a4 a5 a6 a7) ∧ (¬ (zgA st 144 0 ((12 * a1) + a7 : Int32).toNatClampNeg) ≤ a8 → vp_in ((20 * ((12 * a1) + a7)) + a8) 1440 ∧ (vp_in ((20 * ((12 * a1) + a7)) + a8) 1440 ∧ (∀ s237 : zTs, s237 = zuA st 148 0 ((20 * ((12 * a1) + a7)) + a8 : Int32).toNatClampNeg ((zgA st 148 0 ((20 * ((12 * a1) + a7)) + a8 : Int32).toNatClampNeg) ||| (1 <<< (a2 &&& 31))) → (∀ x238 : Int32, x238 = a8 + 1 → ((w_X12_use_190 P K180 n9) s237 a1 a2 a4 a5 a6 a7 x238)))))))
set_option maxHeartbeats 4000000 in
set_option maxRecDepth 100000 in
theorem j_X12_use_190 {P : Int32 → zTs → Prop} {K180 : zTs → Int32 → Int32 → Int32 → Int32 → Int32 → Int32 → Prop} (hfl : l.stackTraces = false) (C : zC Z p s m args meth c cX12_use 10 RX12) (hr : meth.sig.returnType = (some .int)) (hn9 : True) (hK180 : ∀ (st : zTs) (a1 : Int32) (a2 : Int32) (a4 : Int32) (a5 : Int32) (a6 : Int32) (a7 : Int32), K180 st a1 a2 a4 a5 a6 a7 → zG Z ad0 h0 p l e ({ frames := 2, cells := 0, slots := 0, locals := 35 } : Room) s m args below meth c (MQ below (zQ Z ad0 h0 (zWi Z P)) args s 0 0 (zA Z)) 0 0 (zh Z zm1 st) 10 180 [some (.ref 100), some (.int (a1)), some (.int (a2)), none, some (.int (a4)), some (.int (a5)), some (.int (a6)), some (.int (a7)), none, none] []) : ∀ (n9 : Nat) (st : zTs) (a1 : Int32) (a2 : Int32) (a4 : Int32) (a5 : Int32) (a6 : Int32) (a7 : Int32) (a8 : Int32), w_X12_use_190 P K180 n9 st a1 a2 a4 a5 a6 a7 a8 → zG Z ad0 h0 p l e ({ frames := 2, cells := 0, slots := 0, locals := 35 } : Room) s m args below meth c (MQ below (zQ Z ad0 h0 (zWi Z P)) args s 0 0 (zA Z)) 0 0 (zh Z zm1 st) 10 190 [some (.ref 100), some (.int (a1)), some (.int (a2)), none, some (.int (a4)), some (.int (a5)), some (.int (a6)), some (.int (a7)), some (.int (a8)), none] [] := by
  intro n9
  induction n9 with
  | zero => intro st a1 a2 a4 a5 a6 a7 a8 h; exact h.elim
  | succ n9 hK190 =>
    intro st a1 a2 a4 a5 a6 a7 a8 h
    rw [w_X12_use_190] at h
    refine z_iload C dX12_use_190 rfl ?_
    refine z_iload C dX12_use_192 rfl ?_
    refine z_icmp_ge C dX12_use_194 (tgt := 244) (by decide) (fun c194 => ?_) (fun c194 => ?_)
    · have h := h.1 c194
      exact t_drop [true, true, true, false, true, true, true, true, false, false] rfl (j_X12_use_244 hfl C hr hn9 hK180 st a1 a2 a4 a5 a6 a7 h)
    · have h := h.2 c194
      refine z_iload C dX12_use_197 rfl ?_
      refine z_aload_n C dX12_use_199 (i := 0) rfl rfl ?_
      refine t_get C dX12_use_200 fl_X12_145 (k := 100) (i := 0) (by decide) rfl (fg_100_59 _ _ _) ?_
      refine z_bipush C dX12_use_203 (v := 12) (by decide) ?_
      refine z_iload_n C dX12_use_205 (i := 1) rfl rfl ?_
      refine z_imul C dX12_use_206 ?_
      refine z_iload C dX12_use_207 rfl ?_
      refine z_iadd C dX12_use_209 ?_
      obtain ⟨g210, h⟩ := h
      refine t_iald C dX12_use_210 (k := 144) (i := 0) (by decide) rfl (sh_144 _ _ _ _) g210 ?_
      refine z_icmp_ge C dX12_use_211 (tgt := 244) (by decide) (fun c211 => ?_) (fun c211 => ?_)
      · have h := h.1 c211
        exact t_drop [true, true, true, false, true, true, true, true, false, false] rfl (j_X12_use_244 hfl C hr hn9 hK180 st a1 a2 a4 a5 a6 a7 h)
      · have h := h.2 c211
        refine z_aload_n C dX12_use_214 (i := 0) rfl rfl ?_
        refine t_get C dX12_use_215 fl_X12_157 (k := 100) (i := 0) (by decide) rfl (fg_100_63 _ _ _) ?_
        refine z_bipush C dX12_use_218 (v := 20) (by decide) ?_
        refine z_bipush C dX12_use_220 (v := 12) (by decide) ?_
        refine z_iload_n C dX12_use_222 (i := 1) rfl rfl ?_
        refine z_imul C dX12_use_223 ?_
        refine z_iload C dX12_use_224 rfl ?_
        refine z_iadd C dX12_use_226 ?_
        refine z_imul C dX12_use_227 ?_
        refine z_iload C dX12_use_228 rfl ?_
        refine z_iadd C dX12_use_230 ?_
        refine z_dup2 C dX12_use_231 rfl rfl ?_
        obtain ⟨g232, h⟩ := h
        refine t_iald C dX12_use_232 (k := 148) (i := 0) (by decide) rfl (sh_148 _ _ _ _) g232 ?_
        refine z_iconst C dX12_use_233 (v := 1) (by decide) ?_
        refine z_iload_n C dX12_use_234 (i := 2) rfl rfl ?_
        refine z_ishl C dX12_use_235 ?_
        refine z_ior C dX12_use_236 ?_
        obtain ⟨g237, h⟩ := h
        refine t_iast C dX12_use_237 (k := 148) (i := 0) (by decide) rfl (fun s9 => sh_148 _ _ s9 _) g237 ?_
        refine t_tops (fun s237 es237 => ?_)
        have h := h s237 es237
        obtain ⟨x238, ex238⟩ : ∃ z : Int32, z = a8 + 1 := ⟨_, rfl⟩
        have h := h x238 ex238
        refine z_iinc C dX12_use_238 (v := x238) (lc' := [some (.ref 100), some (.int (a1)), some (.int (a2)), none, some (.int (a4)), some (.int (a5)), some (.int (a6)), some (.int (a7)), some (.int (x238)), none]) rfl (by decide) (by rw [ex238]; rfl) rfl ?_
        refine z_goto C dX12_use_241 (tgt := 190) (by decide) ?_
        exact t_drop [true, true, true, false, true, true, true, true, true, false] rfl (hK190 s237 a1 a2 a4 a5 a6 a7 x238 h)
def w_X12_use_180 (P : Int32 → zTs → Prop)  : Nat → zTs → Int32 → Int32 → Int32 → Int32 → Int32 → Int32 → Prop
  | 0, _, _, _, _, _, _, _ => False
  | n9 + 1, st, a1, a2, a4, a5, a6, a7 => (a4 < a7 → (a6 ≤ 0 → P a6 st) ∧ (¬ a6 ≤ 0 → vp_in ((2 * a1) + a2) 12 ∧ (vp_in (((2 * a1) + 1) - a2) 12 ∧ (w_X12_pays st (zgA st 101 0 ((2 * a1) + a2 : Int32).toNatClampNeg) (zgA st 101 0 (((2 * a1) + 1) - a2 : Int32).toNatClampNeg) a6 (fun (s280 : zTs) => (P a6 s280)))))) ∧ (¬ a4 < a7 → w_X12_use_190 P (w_X12_use_180 P n9) zfu st a1 a2 a4 a5 a6 a7 (0))
set_option maxHeartbeats 4000000 in
set_option maxRecDepth 100000 in
theorem j_X12_use_180 {P : Int32 → zTs → Prop}  (hfl : l.stackTraces = false) (C : zC Z p s m args meth c cX12_use 10 RX12) (hr : meth.sig.returnType = (some .int)) (hn9 : True)  : ∀ (n9 : Nat) (st : zTs) (a1 : Int32) (a2 : Int32) (a4 : Int32) (a5 : Int32) (a6 : Int32) (a7 : Int32), w_X12_use_180 P n9 st a1 a2 a4 a5 a6 a7 → zG Z ad0 h0 p l e ({ frames := 2, cells := 0, slots := 0, locals := 35 } : Room) s m args below meth c (MQ below (zQ Z ad0 h0 (zWi Z P)) args s 0 0 (zA Z)) 0 0 (zh Z zm1 st) 10 180 [some (.ref 100), some (.int (a1)), some (.int (a2)), none, some (.int (a4)), some (.int (a5)), some (.int (a6)), some (.int (a7)), none, none] [] := by
  intro n9
  induction n9 with
  | zero => intro st a1 a2 a4 a5 a6 a7 h; exact h.elim
  | succ n9 hK180 =>
    intro st a1 a2 a4 a5 a6 a7 h
    rw [w_X12_use_180] at h
    refine z_iload C dX12_use_180 rfl ?_
    refine z_iload C dX12_use_182 rfl ?_
    refine z_icmp_gt C dX12_use_184 (tgt := 250) (by decide) (fun c184 => ?_) (fun c184 => ?_)
    · have h := h.1 c184
      refine z_iload C dX12_use_250 rfl ?_
      refine z_if_le C dX12_use_252 (tgt := 283) (by decide) (fun c252 => ?_) (fun c252 => ?_)
      · have h := h.1 c252
        refine z_iload C dX12_use_283 rfl ?_
        exact z_iret C dX12_use_285 hr rfl ⟨_, _, rfl, rfl, h⟩ (Nat.le_of_ble_eq_true rfl) (Nat.le_of_ble_eq_true rfl)
      · have h := h.2 c252
        refine z_aload_n C dX12_use_255 (i := 0) rfl rfl ?_
        refine z_aload_n C dX12_use_256 (i := 0) rfl rfl ?_
        refine t_get C dX12_use_257 fl_X12_9 (k := 100) (i := 0) (by decide) rfl (fg_100_4 _ _ _) ?_
        refine z_iconst C dX12_use_260 (v := 2) (by decide) ?_
        refine z_iload_n C dX12_use_261 (i := 1) rfl rfl ?_
        refine z_imul C dX12_use_262 ?_
        refine z_iload_n C dX12_use_263 (i := 2) rfl rfl ?_
        refine z_iadd C dX12_use_264 ?_
        obtain ⟨g265, h⟩ := h
        refine t_iald C dX12_use_265 (k := 101) (i := 0) (by decide) rfl (sh_101 _ _ _ _) g265 ?_
        refine z_aload_n C dX12_use_266 (i := 0) rfl rfl ?_
        refine t_get C dX12_use_267 fl_X12_9 (k := 100) (i := 0) (by decide) rfl (fg_100_4 _ _ _) ?_
        refine z_iconst C dX12_use_270 (v := 2) (by decide) ?_
        refine z_iload_n C dX12_use_271 (i := 1) rfl rfl ?_
        refine z_imul C dX12_use_272 ?_
        refine z_iconst C dX12_use_273 (v := 1) (by decide) ?_
        refine z_iadd C dX12_use_274 ?_
        refine z_iload_n C dX12_use_275 (i := 2) rfl rfl ?_
        refine z_isub C dX12_use_276 ?_
        obtain ⟨g277, h⟩ := h
        refine t_iald C dX12_use_277 (k := 101) (i := 0) (by decide) rfl (sh_101 _ _ _ _) g277 ?_
        refine z_iload C dX12_use_278 rfl ?_
        refine t_callV C (rest := []) (c2 := 0) (s2 := 0) (kd := 100) (i := 0) [.int (zgA st 101 0 ((2 * a1) + a2 : Int32).toNatClampNeg), .int (zgA st 101 0 (((2 * a1) + 1) - a2 : Int32).toNatClampNeg), .int (a6)] dX12_use_280 lk_X12_450 li_X12_pays le_X12_pays (c_X12_pays hfl h) rfl rfl (by decide) rfl ⟨_, rfl⟩ rfl ⟨Nat.le_of_ble_eq_true rfl, Nat.le_of_ble_eq_true rfl⟩ (Nat.le_of_ble_eq_true rfl) ⟨Nat.le_of_ble_eq_true rfl, Nat.le_of_ble_eq_true rfl, Nat.le_of_ble_eq_true rfl, Nat.le_of_ble_eq_true rfl⟩ (k_Wv fun s280 h => ?_)
        refine z_iload C dX12_use_283 rfl ?_
        exact z_iret C dX12_use_285 hr rfl ⟨_, _, rfl, rfl, h⟩ (Nat.le_of_ble_eq_true rfl) (Nat.le_of_ble_eq_true rfl)
    · have h := h.2 c184
      refine z_iconst C dX12_use_187 (v := 0) (by decide) ?_
      refine z_istore C dX12_use_188 (lc' := [some (.ref 100), some (.int (a1)), some (.int (a2)), none, some (.int (a4)), some (.int (a5)), some (.int (a6)), some (.int (a7)), some (.int (0)), none]) (by decide) rfl ?_
      exact t_drop [true, true, true, false, true, true, true, true, true, false] rfl (j_X12_use_190 hfl C hr hn9 hK180 zfu st a1 a2 a4 a5 a6 a7 (0) h)
def w_X12_use_177 (P : Int32 → zTs → Prop)  (st : zTs) (a1 : Int32) (a2 : Int32) (a3 : Int32) (a4 : Int32) (a5 : Int32) (a6 : Int32) : Prop := w_X12_use_180 P zfu st a1 a2 a4 a5 a6 a3
set_option maxHeartbeats 4000000 in
set_option maxRecDepth 100000 in
theorem j_X12_use_177 {P : Int32 → zTs → Prop}  (hfl : l.stackTraces = false) (C : zC Z p s m args meth c cX12_use 10 RX12) (hr : meth.sig.returnType = (some .int)) (hn9 : True)  (st : zTs) (a1 : Int32) (a2 : Int32) (a3 : Int32) (a4 : Int32) (a5 : Int32) (a6 : Int32) (h : w_X12_use_177 P st a1 a2 a3 a4 a5 a6) : zG Z ad0 h0 p l e ({ frames := 2, cells := 0, slots := 0, locals := 35 } : Room) s m args below meth c (MQ below (zQ Z ad0 h0 (zWi Z P)) args s 0 0 (zA Z)) 0 0 (zh Z zm1 st) 10 177 [some (.ref 100), some (.int (a1)), some (.int (a2)), some (.int (a3)), some (.int (a4)), some (.int (a5)), some (.int (a6)), none, none, none] [] := by
  unfold w_X12_use_177 at h
  refine z_iload_n C dX12_use_177 (i := 3) rfl rfl ?_
  refine z_istore C dX12_use_178 (lc' := [some (.ref 100), some (.int (a1)), some (.int (a2)), some (.int (a3)), some (.int (a4)), some (.int (a5)), some (.int (a6)), some (.int (a3)), none, none]) (by decide) rfl ?_
  exact t_drop [true, true, true, false, true, true, true, true, false, false] rfl (j_X12_use_180 hfl C hr hn9  zfu st a1 a2 a4 a5 a6 a3 h)
def w_X12_use_157 (P : Int32 → zTs → Prop) (K75 : zTs → Int32 → Int32 → Int32 → Int32 → Int32 → Int32 → Int32 → Prop) (st : zTs) (a1 : Int32) (a2 : Int32) (a3 : Int32) (a4 : Int32) (a5 : Int32) (a6 : Int32) (a7 : Int32) : Prop := ∀ x157 : Int32, x157 = a7 + 1 → (K75 st a1 a2 a3 a4 a5 a6 x157)
set_option maxHeartbeats 4000000 in
set_option maxRecDepth 100000 in
theorem j_X12_use_157 {P : Int32 → zTs → Prop} {K75 : zTs → Int32 → Int32 → Int32 → Int32 → Int32 → Int32 → Int32 → Prop} (hfl : l.stackTraces = false) (C : zC Z p s m args meth c cX12_use 10 RX12) (hr : meth.sig.returnType = (some .int)) (hn9 : True) (hK75 : ∀ (st : zTs) (a1 : Int32) (a2 : Int32) (a3 : Int32) (a4 : Int32) (a5 : Int32) (a6 : Int32) (a7 : Int32), K75 st a1 a2 a3 a4 a5 a6 a7 → zG Z ad0 h0 p l e ({ frames := 2, cells := 0, slots := 0, locals := 35 } : Room) s m args below meth c (MQ below (zQ Z ad0 h0 (zWi Z P)) args s 0 0 (zA Z)) 0 0 (zh Z zm1 st) 10 75 [some (.ref 100), some (.int (a1)), some (.int (a2)), some (.int (a3)), some (.int (a4)), some (.int (a5)), some (.int (a6)), some (.int (a7)), none, none] []) (st : zTs) (a1 : Int32) (a2 : Int32) (a3 : Int32) (a4 : Int32) (a5 : Int32) (a6 : Int32) (a7 : Int32) (h : w_X12_use_157 P K75 st a1 a2 a3 a4 a5 a6 a7) : zG Z ad0 h0 p l e ({ frames := 2, cells := 0, slots := 0, locals := 35 } : Room) s m args below meth c (MQ below (zQ Z ad0 h0 (zWi Z P)) args s 0 0 (zA Z)) 0 0 (zh Z zm1 st) 10 157 [some (.ref 100), some (.int (a1)), some (.int (a2)), some (.int (a3)), some (.int (a4)), some (.int (a5)), some (.int (a6)), some (.int (a7)), none, none] [] := by
  unfold w_X12_use_157 at h
  obtain ⟨x157, ex157⟩ : ∃ z : Int32, z = a7 + 1 := ⟨_, rfl⟩
  have h := h x157 ex157
  refine z_iinc C dX12_use_157 (v := x157) (lc' := [some (.ref 100), some (.int (a1)), some (.int (a2)), some (.int (a3)), some (.int (a4)), some (.int (a5)), some (.int (a6)), some (.int (x157)), none, none]) rfl (by decide) (by rw [ex157]; rfl) rfl ?_
  refine z_goto C dX12_use_160 (tgt := 75) (by decide) ?_
  exact t_drop [true, true, true, true, true, true, true, true, false, false] rfl (hK75 st a1 a2 a3 a4 a5 a6 x157 h)
def w_X12_use_148 (P : Int32 → zTs → Prop) (K75 : zTs → Int32 → Int32 → Int32 → Int32 → Int32 → Int32 → Int32 → Prop) (K85 : zTs → Int32 → Int32 → Int32 → Int32 → Int32 → Int32 → Int32 → Int32 → Prop) (st : zTs) (a1 : Int32) (a2 : Int32) (a3 : Int32) (a4 : Int32) (a5 : Int32) (a7 : Int32) (a8 : Int32) (b0 : Int32) (b1 : Int32) : Prop := ∀ x149 : Int32, x149 = b1 + b0 → (∀ x151 : Int32, x151 = a8 + 1 → (K85 st a1 a2 a3 a4 a5 x149 a7 x151))
set_option maxHeartbeats 4000000 in
set_option maxRecDepth 100000 in
theorem j_X12_use_148 {P : Int32 → zTs → Prop} {K75 : zTs → Int32 → Int32 → Int32 → Int32 → Int32 → Int32 → Int32 → Prop} {K85 : zTs → Int32 → Int32 → Int32 → Int32 → Int32 → Int32 → Int32 → Int32 → Prop} (hfl : l.stackTraces = false) (C : zC Z p s m args meth c cX12_use 10 RX12) (hr : meth.sig.returnType = (some .int)) (hn9 : True) (hK75 : ∀ (st : zTs) (a1 : Int32) (a2 : Int32) (a3 : Int32) (a4 : Int32) (a5 : Int32) (a6 : Int32) (a7 : Int32), K75 st a1 a2 a3 a4 a5 a6 a7 → zG Z ad0 h0 p l e ({ frames := 2, cells := 0, slots := 0, locals := 35 } : Room) s m args below meth c (MQ below (zQ Z ad0 h0 (zWi Z P)) args s 0 0 (zA Z)) 0 0 (zh Z zm1 st) 10 75 [some (.ref 100), some (.int (a1)), some (.int (a2)), some (.int (a3)), some (.int (a4)), some (.int (a5)), some (.int (a6)), some (.int (a7)), none, none] []) (hK85 : ∀ (st : zTs) (a1 : Int32) (a2 : Int32) (a3 : Int32) (a4 : Int32) (a5 : Int32) (a6 : Int32) (a7 : Int32) (a8 : Int32), K85 st a1 a2 a3 a4 a5 a6 a7 a8 → zG Z ad0 h0 p l e ({ frames := 2, cells := 0, slots := 0, locals := 35 } : Room) s m args below meth c (MQ below (zQ Z ad0 h0 (zWi Z P)) args s 0 0 (zA Z)) 0 0 (zh Z zm1 st) 10 85 [some (.ref 100), some (.int (a1)), some (.int (a2)), some (.int (a3)), some (.int (a4)), some (.int (a5)), some (.int (a6)), some (.int (a7)), some (.int (a8)), none] []) (st : zTs) (a1 : Int32) (a2 : Int32) (a3 : Int32) (a4 : Int32) (a5 : Int32) (a7 : Int32) (a8 : Int32) (b0 : Int32) (b1 : Int32) (h : w_X12_use_148 P K75 K85 st a1 a2 a3 a4 a5 a7 a8 b0 b1) : zG Z ad0 h0 p l e ({ frames := 2, cells := 0, slots := 0, locals := 35 } : Room) s m args below meth c (MQ below (zQ Z ad0 h0 (zWi Z P)) args s 0 0 (zA Z)) 0 0 (zh Z zm1 st) 10 148 [some (.ref 100), some (.int (a1)), some (.int (a2)), some (.int (a3)), some (.int (a4)), some (.int (a5)), none, some (.int (a7)), some (.int (a8)), none] [.int (b0), .int (b1)] := by
  unfold w_X12_use_148 at h
  refine z_iadd C dX12_use_148 ?_
  refine t_topi (fun x149 ex149 => ?_)
  have h := h x149 ex149
  refine z_istore C dX12_use_149 (lc' := [some (.ref 100), some (.int (a1)), some (.int (a2)), some (.int (a3)), some (.int (a4)), some (.int (a5)), some (.int (x149)), some (.int (a7)), some (.int (a8)), none]) (by decide) rfl ?_
  obtain ⟨x151, ex151⟩ : ∃ z : Int32, z = a8 + 1 := ⟨_, rfl⟩
  have h := h x151 ex151
  refine z_iinc C dX12_use_151 (v := x151) (lc' := [some (.ref 100), some (.int (a1)), some (.int (a2)), some (.int (a3)), some (.int (a4)), some (.int (a5)), some (.int (x149)), some (.int (a7)), some (.int (x151)), none]) rfl (by decide) (by rw [ex151]; rfl) rfl ?_
  refine z_goto C dX12_use_154 (tgt := 85) (by decide) ?_
  exact t_drop [true, true, true, true, true, true, true, true, true, false] rfl (hK85 st a1 a2 a3 a4 a5 x149 a7 x151 h)
def w_X12_use_85 (P : Int32 → zTs → Prop) (K75 : zTs → Int32 → Int32 → Int32 → Int32 → Int32 → Int32 → Int32 → Prop) : Nat → zTs → Int32 → Int32 → Int32 → Int32 → Int32 → Int32 → Int32 → Int32 → Prop
  | 0, _, _, _, _, _, _, _, _, _ => False
  | n9 + 1, st, a1, a2, a3, a4, a5, a6, a7, a8 => (a5 ≤ a8 → w_X12_use_157 P K75 st a1 a2 a3 a4 a5 a6 a7) ∧ (¬ a5 ≤ a8 → vp_in ((12 * a1) + a7) 72 ∧ (((zgA st 144 0 ((12 * a1) + a7 : Int32).toNatClampNeg) ≤ a8 → w_X12_use_157 P K75 st a1 a2 a3 a4 a5 a6 a7) ∧ (¬ (zgA st 144 0 ((12 * a1) + a7 : Int32).toNatClampNeg) ≤ a8 → ∀ x122 : Int32, x122 = (20 * ((12 * a1) + a7)) + a8 → (w_X12_isDue st x122 a2 (fun (r130 : Int32) => ((r130 = 0 → w_X12_use_148 P K75 (w_X12_use_85 P K75 n9) st a1 a2 a3 a4 a5 a7 a8 (0) a6) ∧ (¬ r130 = 0 → w_X12_valueOf st x122 (fun (r139 : Int32) => (w_X12_use_148 P K75 (w_X12_use_85 P K75 n9) st a1 a2 a3 a4 a5 a7 a8 (r139 / 2) a6)))))))))
set_option maxHeartbeats 4000000 in
set_option maxRecDepth 100000 in
theorem j_X12_use_85 {P : Int32 → zTs → Prop} {K75 : zTs → Int32 → Int32 → Int32 → Int32 → Int32 → Int32 → Int32 → Prop} (hfl : l.stackTraces = false) (C : zC Z p s m args meth c cX12_use 10 RX12) (hr : meth.sig.returnType = (some .int)) (hn9 : True) (hK75 : ∀ (st : zTs) (a1 : Int32) (a2 : Int32) (a3 : Int32) (a4 : Int32) (a5 : Int32) (a6 : Int32) (a7 : Int32), K75 st a1 a2 a3 a4 a5 a6 a7 → zG Z ad0 h0 p l e ({ frames := 2, cells := 0, slots := 0, locals := 35 } : Room) s m args below meth c (MQ below (zQ Z ad0 h0 (zWi Z P)) args s 0 0 (zA Z)) 0 0 (zh Z zm1 st) 10 75 [some (.ref 100), some (.int (a1)), some (.int (a2)), some (.int (a3)), some (.int (a4)), some (.int (a5)), some (.int (a6)), some (.int (a7)), none, none] []) : ∀ (n9 : Nat) (st : zTs) (a1 : Int32) (a2 : Int32) (a3 : Int32) (a4 : Int32) (a5 : Int32) (a6 : Int32) (a7 : Int32) (a8 : Int32), w_X12_use_85 P K75 n9 st a1 a2 a3 a4 a5 a6 a7 a8 → zG Z ad0 h0 p l e ({ frames := 2, cells := 0, slots := 0, locals := 35 } : Room) s m args below meth c (MQ below (zQ Z ad0 h0 (zWi Z P)) args s 0 0 (zA Z)) 0 0 (zh Z zm1 st) 10 85 [some (.ref 100), some (.int (a1)), some (.int (a2)), some (.int (a3)), some (.int (a4)), some (.int (a5)), some (.int (a6)), some (.int (a7)), some (.int (a8)), none] [] := by
  intro n9
  induction n9 with
  | zero => intro st a1 a2 a3 a4 a5 a6 a7 a8 h; exact h.elim
  | succ n9 hK85 =>
    intro st a1 a2 a3 a4 a5 a6 a7 a8 h
    rw [w_X12_use_85] at h
    refine z_iload C dX12_use_85 rfl ?_
    refine z_iload C dX12_use_87 rfl ?_
    refine z_icmp_ge C dX12_use_89 (tgt := 157) (by decide) (fun c89 => ?_) (fun c89 => ?_)
    · have h := h.1 c89
      exact t_drop [true, true, true, true, true, true, true, true, false, false] rfl (j_X12_use_157 hfl C hr hn9 hK75 st a1 a2 a3 a4 a5 a6 a7 h)
    · have h := h.2 c89
      refine z_iload C dX12_use_92 rfl ?_
      refine z_aload_n C dX12_use_94 (i := 0) rfl rfl ?_
      refine t_get C dX12_use_95 fl_X12_145 (k := 100) (i := 0) (by decide) rfl (fg_100_59 _ _ _) ?_
      refine z_bipush C dX12_use_98 (v := 12) (by decide) ?_
      refine z_iload_n C dX12_use_100 (i := 1) rfl rfl ?_
      refine z_imul C dX12_use_101 ?_
      refine z_iload C dX12_use_102 rfl ?_
      refine z_iadd C dX12_use_104 ?_
      obtain ⟨g105, h⟩ := h
      refine t_iald C dX12_use_105 (k := 144) (i := 0) (by decide) rfl (sh_144 _ _ _ _) g105 ?_
      refine z_icmp_ge C dX12_use_106 (tgt := 157) (by decide) (fun c106 => ?_) (fun c106 => ?_)
      · have h := h.1 c106
        exact t_drop [true, true, true, true, true, true, true, true, false, false] rfl (j_X12_use_157 hfl C hr hn9 hK75 st a1 a2 a3 a4 a5 a6 a7 h)
      · have h := h.2 c106
        refine z_bipush C dX12_use_109 (v := 20) (by decide) ?_
        refine z_bipush C dX12_use_111 (v := 12) (by decide) ?_
        refine z_iload_n C dX12_use_113 (i := 1) rfl rfl ?_
        refine z_imul C dX12_use_114 ?_
        refine z_iload C dX12_use_115 rfl ?_
        refine z_iadd C dX12_use_117 ?_
        refine z_imul C dX12_use_118 ?_
        refine z_iload C dX12_use_119 rfl ?_
        refine z_iadd C dX12_use_121 ?_
        refine t_topi (fun x122 ex122 => ?_)
        have h := h x122 ex122
        refine z_istore C dX12_use_122 (lc' := [some (.ref 100), some (.int (a1)), some (.int (a2)), some (.int (a3)), some (.int (a4)), some (.int (a5)), some (.int (a6)), some (.int (a7)), some (.int (a8)), some (.int (x122))]) (by decide) rfl ?_
        refine z_iload C dX12_use_124 rfl ?_
        refine z_aload_n C dX12_use_126 (i := 0) rfl rfl ?_
        refine z_iload C dX12_use_127 rfl ?_
        refine z_iload_n C dX12_use_129 (i := 2) rfl rfl ?_
        refine t_callV C (rest := [.int (a6)]) (c2 := 0) (s2 := 0) (kd := 100) (i := 0) [.int (x122), .int (a2)] dX12_use_130 lk_X12_459 li_X12_isDue le_X12_isDue (c_X12_isDue hfl h) rfl rfl (by decide) rfl ⟨_, rfl⟩ rfl ⟨Nat.le_of_ble_eq_true rfl, Nat.le_of_ble_eq_true rfl⟩ (Nat.le_of_ble_eq_true rfl) ⟨Nat.le_of_ble_eq_true rfl, Nat.le_of_ble_eq_true rfl, Nat.le_of_ble_eq_true rfl, Nat.le_of_ble_eq_true rfl⟩ (k_Ri fun r130 h => ?_)
        refine z_if_eq C dX12_use_133 (tgt := 147) (by decide) (fun c133 => ?_) (fun c133 => ?_)
        · have h := h.1 c133
          refine z_iconst C dX12_use_147 (v := 0) (by decide) ?_
          exact t_drop [true, true, true, true, true, true, false, true, true, false] rfl (j_X12_use_148 hfl C hr hn9 hK75 hK85 st a1 a2 a3 a4 a5 a7 a8 (0) a6 h)
        · have h := h.2 c133
          refine z_aload_n C dX12_use_136 (i := 0) rfl rfl ?_
          refine z_iload C dX12_use_137 rfl ?_
          refine t_callV C (rest := [.int (a6)]) (c2 := 0) (s2 := 0) (kd := 100) (i := 0) [.int (x122)] dX12_use_139 lk_X12_462 li_X12_valueOf le_X12_valueOf (c_X12_valueOf hfl h) rfl rfl (by decide) rfl ⟨_, rfl⟩ rfl ⟨Nat.le_of_ble_eq_true rfl, Nat.le_of_ble_eq_true rfl⟩ (Nat.le_of_ble_eq_true rfl) ⟨Nat.le_of_ble_eq_true rfl, Nat.le_of_ble_eq_true rfl, Nat.le_of_ble_eq_true rfl, Nat.le_of_ble_eq_true rfl⟩ (k_Ri fun r139 h => ?_)
          refine z_iconst C dX12_use_142 (v := 2) (by decide) ?_
          refine z_idiv C dX12_use_143 (by decide) ?_
          refine z_goto C dX12_use_144 (tgt := 148) (by decide) ?_
          exact t_drop [true, true, true, true, true, true, false, true, true, false] rfl (j_X12_use_148 hfl C hr hn9 hK75 hK85 st a1 a2 a3 a4 a5 a7 a8 (r139 / 2) a6 h)
def w_X12_use_75 (P : Int32 → zTs → Prop)  : Nat → zTs → Int32 → Int32 → Int32 → Int32 → Int32 → Int32 → Int32 → Prop
  | 0, _, _, _, _, _, _, _, _ => False
  | n9 + 1, st, a1, a2, a3, a4, a5, a6, a7 => (a4 < a7 → (a6 ≤ 0 → w_X12_use_177 P st a1 a2 a3 a4 a5 a6) ∧ (¬ a6 ≤ 0 → w_X12_isFull st (fun (r169 : Int32) => ((r169 = 0 → w_X12_use_177 P st a1 a2 a3 a4 a5 a6) ∧ (¬ r169 = 0 → P (-1) st))))) ∧ (¬ a4 < a7 → w_X12_use_85 P (w_X12_use_75 P n9) zfu st a1 a2 a3 a4 a5 a6 a7 (0))
set_option maxHeartbeats 4000000 in
set_option maxRecDepth 100000 in
theorem j_X12_use_75 {P : Int32 → zTs → Prop}  (hfl : l.stackTraces = false) (C : zC Z p s m args meth c cX12_use 10 RX12) (hr : meth.sig.returnType = (some .int)) (hn9 : True)  : ∀ (n9 : Nat) (st : zTs) (a1 : Int32) (a2 : Int32) (a3 : Int32) (a4 : Int32) (a5 : Int32) (a6 : Int32) (a7 : Int32), w_X12_use_75 P n9 st a1 a2 a3 a4 a5 a6 a7 → zG Z ad0 h0 p l e ({ frames := 2, cells := 0, slots := 0, locals := 35 } : Room) s m args below meth c (MQ below (zQ Z ad0 h0 (zWi Z P)) args s 0 0 (zA Z)) 0 0 (zh Z zm1 st) 10 75 [some (.ref 100), some (.int (a1)), some (.int (a2)), some (.int (a3)), some (.int (a4)), some (.int (a5)), some (.int (a6)), some (.int (a7)), none, none] [] := by
  intro n9
  induction n9 with
  | zero => intro st a1 a2 a3 a4 a5 a6 a7 h; exact h.elim
  | succ n9 hK75 =>
    intro st a1 a2 a3 a4 a5 a6 a7 h
    rw [w_X12_use_75] at h
    refine z_iload C dX12_use_75 rfl ?_
    refine z_iload C dX12_use_77 rfl ?_
    refine z_icmp_gt C dX12_use_79 (tgt := 163) (by decide) (fun c79 => ?_) (fun c79 => ?_)
    · have h := h.1 c79
      refine z_iload C dX12_use_163 rfl ?_
      refine z_if_le C dX12_use_165 (tgt := 177) (by decide) (fun c165 => ?_) (fun c165 => ?_)
      · have h := h.1 c165
        exact t_drop [true, true, true, true, true, true, true, false, false, false] rfl (j_X12_use_177 hfl C hr hn9  st a1 a2 a3 a4 a5 a6 h)
      · have h := h.2 c165
        refine z_aload_n C dX12_use_168 (i := 0) rfl rfl ?_
        refine t_callV C (rest := []) (c2 := 0) (s2 := 0) (kd := 100) (i := 0) [] dX12_use_169 lk_X12_440 li_X12_isFull le_X12_isFull (c_X12_isFull hfl h) rfl rfl (by decide) rfl ⟨_, rfl⟩ rfl ⟨Nat.le_of_ble_eq_true rfl, Nat.le_of_ble_eq_true rfl⟩ (Nat.le_of_ble_eq_true rfl) ⟨Nat.le_of_ble_eq_true rfl, Nat.le_of_ble_eq_true rfl, Nat.le_of_ble_eq_true rfl, Nat.le_of_ble_eq_true rfl⟩ (k_Ri fun r169 h => ?_)
        refine z_if_eq C dX12_use_172 (tgt := 177) (by decide) (fun c172 => ?_) (fun c172 => ?_)
        · have h := h.1 c172
          exact t_drop [true, true, true, true, true, true, true, false, false, false] rfl (j_X12_use_177 hfl C hr hn9  st a1 a2 a3 a4 a5 a6 h)
        · have h := h.2 c172
          refine z_iconst C dX12_use_175 (v := (-1)) (by decide) ?_
          exact z_iret C dX12_use_176 hr rfl ⟨_, _, rfl, rfl, h⟩ (Nat.le_of_ble_eq_true rfl) (Nat.le_of_ble_eq_true rfl)
    · have h := h.2 c79
      refine z_iconst C dX12_use_82 (v := 0) (by decide) ?_
      refine z_istore C dX12_use_83 (lc' := [some (.ref 100), some (.int (a1)), some (.int (a2)), some (.int (a3)), some (.int (a4)), some (.int (a5)), some (.int (a6)), some (.int (a7)), some (.int (0)), none]) (by decide) rfl ?_
      exact t_drop [true, true, true, true, true, true, true, true, true, false] rfl (j_X12_use_85 hfl C hr hn9 hK75 zfu st a1 a2 a3 a4 a5 a6 a7 (0) h)
def w_X12_use_60 (P : Int32 → zTs → Prop)  (st : zTs) (a1 : Int32) (a2 : Int32) (a3 : Int32) (a4 : Int32) (a5 : Int32) (b0 : Int32) : Prop := w_X12_bad st b0 2 (fun (r61 : Int32) (s61 : zTs) => ((r61 = 0 → w_X12_use_75 P zfu s61 a1 a2 a3 a4 a5 (0) a3) ∧ (¬ r61 = 0 → P 0 s61)))
set_option maxHeartbeats 4000000 in
set_option maxRecDepth 100000 in
theorem j_X12_use_60 {P : Int32 → zTs → Prop}  (hfl : l.stackTraces = false) (C : zC Z p s m args meth c cX12_use 10 RX12) (hr : meth.sig.returnType = (some .int)) (hn9 : True)  (st : zTs) (a1 : Int32) (a2 : Int32) (a3 : Int32) (a4 : Int32) (a5 : Int32) (b0 : Int32) (h : w_X12_use_60 P st a1 a2 a3 a4 a5 b0) : zG Z ad0 h0 p l e ({ frames := 2, cells := 0, slots := 0, locals := 35 } : Room) s m args below meth c (MQ below (zQ Z ad0 h0 (zWi Z P)) args s 0 0 (zA Z)) 0 0 (zh Z zm1 st) 10 60 [some (.ref 100), some (.int (a1)), some (.int (a2)), some (.int (a3)), some (.int (a4)), some (.int (a5)), none, none, none, none] [.int (b0), .ref 100] := by
  unfold w_X12_use_60 at h
  refine z_iconst C dX12_use_60 (v := 2) (by decide) ?_
  refine t_callV C (rest := []) (c2 := 0) (s2 := 0) (kd := 100) (i := 0) [.int (b0), .int (2)] dX12_use_61 lk_X12_205 li_X12_bad le_X12_bad (c_X12_bad hfl h) rfl rfl (by decide) rfl ⟨_, rfl⟩ rfl ⟨Nat.le_of_ble_eq_true rfl, Nat.le_of_ble_eq_true rfl⟩ (Nat.le_of_ble_eq_true rfl) ⟨Nat.le_of_ble_eq_true rfl, Nat.le_of_ble_eq_true rfl, Nat.le_of_ble_eq_true rfl, Nat.le_of_ble_eq_true rfl⟩ (k_Wi fun r61 s61 h => ?_)
  refine z_if_eq C dX12_use_64 (tgt := 69) (by decide) (fun c64 => ?_) (fun c64 => ?_)
  · have h := h.1 c64
    refine z_iconst C dX12_use_69 (v := 0) (by decide) ?_
    refine z_istore C dX12_use_70 (lc' := [some (.ref 100), some (.int (a1)), some (.int (a2)), some (.int (a3)), some (.int (a4)), some (.int (a5)), some (.int (0)), none, none, none]) (by decide) rfl ?_
    refine z_iload_n C dX12_use_72 (i := 3) rfl rfl ?_
    refine z_istore C dX12_use_73 (lc' := [some (.ref 100), some (.int (a1)), some (.int (a2)), some (.int (a3)), some (.int (a4)), some (.int (a5)), some (.int (0)), some (.int (a3)), none, none]) (by decide) rfl ?_
    exact t_drop [true, true, true, true, true, true, true, true, false, false] rfl (j_X12_use_75 hfl C hr hn9  zfu s61 a1 a2 a3 a4 a5 (0) a3 h)
  · have h := h.2 c64
    refine z_iconst C dX12_use_67 (v := 0) (by decide) ?_
    exact z_iret C dX12_use_68 hr rfl ⟨_, _, rfl, rfl, h⟩ (Nat.le_of_ble_eq_true rfl) (Nat.le_of_ble_eq_true rfl)
def w_X12_use_19 (P : Int32 → zTs → Prop)  (st : zTs) (a1 : Int32) (a2 : Int32) (a3 : Int32) (a4 : Int32) (a5 : Int32) (b0 : Int32) : Prop := w_X12_bad st b0 1 (fun (r20 : Int32) (s20 : zTs) => ((r20 = 0 → w_X12_isSide s20 a2 (fun (r28 : Int32) => ((r28 = 0 → w_X12_use_60 P s20 a1 a2 a3 a4 a5 (1)) ∧ (¬ r28 = 0 → w_X12_isSpan s20 a3 a4 (fun (r37 : Int32) => ((r37 = 0 → w_X12_use_60 P s20 a1 a2 a3 a4 a5 (1)) ∧ (¬ r37 = 0 → (a5 < 0 → w_X12_use_60 P s20 a1 a2 a3 a4 a5 (1)) ∧ (¬ a5 < 0 → (a5 ≤ 20 → w_X12_use_60 P s20 a1 a2 a3 a4 a5 (0)) ∧ (¬ a5 ≤ 20 → w_X12_use_60 P s20 a1 a2 a3 a4 a5 (1)))))))))) ∧ (¬ r20 = 0 → P 0 s20)))
set_option maxHeartbeats 4000000 in
set_option maxRecDepth 100000 in
theorem j_X12_use_19 {P : Int32 → zTs → Prop}  (hfl : l.stackTraces = false) (C : zC Z p s m args meth c cX12_use 10 RX12) (hr : meth.sig.returnType = (some .int)) (hn9 : True)  (st : zTs) (a1 : Int32) (a2 : Int32) (a3 : Int32) (a4 : Int32) (a5 : Int32) (b0 : Int32) (h : w_X12_use_19 P st a1 a2 a3 a4 a5 b0) : zG Z ad0 h0 p l e ({ frames := 2, cells := 0, slots := 0, locals := 35 } : Room) s m args below meth c (MQ below (zQ Z ad0 h0 (zWi Z P)) args s 0 0 (zA Z)) 0 0 (zh Z zm1 st) 10 19 [some (.ref 100), some (.int (a1)), some (.int (a2)), some (.int (a3)), some (.int (a4)), some (.int (a5)), none, none, none, none] [.int (b0), .ref 100] := by
  unfold w_X12_use_19 at h
  refine z_iconst C dX12_use_19 (v := 1) (by decide) ?_
  refine t_callV C (rest := []) (c2 := 0) (s2 := 0) (kd := 100) (i := 0) [.int (b0), .int (1)] dX12_use_20 lk_X12_205 li_X12_bad le_X12_bad (c_X12_bad hfl h) rfl rfl (by decide) rfl ⟨_, rfl⟩ rfl ⟨Nat.le_of_ble_eq_true rfl, Nat.le_of_ble_eq_true rfl⟩ (Nat.le_of_ble_eq_true rfl) ⟨Nat.le_of_ble_eq_true rfl, Nat.le_of_ble_eq_true rfl, Nat.le_of_ble_eq_true rfl, Nat.le_of_ble_eq_true rfl⟩ (k_Wi fun r20 s20 h => ?_)
  refine z_if_ne C dX12_use_23 (tgt := 67) (by decide) (fun c23 => ?_) (fun c23 => ?_)
  · have h := h.2 c23
    refine z_iconst C dX12_use_67 (v := 0) (by decide) ?_
    exact z_iret C dX12_use_68 hr rfl ⟨_, _, rfl, rfl, h⟩ (Nat.le_of_ble_eq_true rfl) (Nat.le_of_ble_eq_true rfl)
  · have h := h.1 c23
    refine z_aload_n C dX12_use_26 (i := 0) rfl rfl ?_
    refine z_iload_n C dX12_use_27 (i := 2) rfl rfl ?_
    refine t_callS C (rest := [.ref 100]) (c2 := 0) (s2 := 0) [.int (a2)] dX12_use_28 lk_X12_219 ls_X12_isSide (c_X12_isSide hfl h) rfl rfl ⟨Nat.le_of_ble_eq_true rfl, Nat.le_of_ble_eq_true rfl⟩ (Nat.le_of_ble_eq_true rfl) ⟨Nat.le_of_ble_eq_true rfl, Nat.le_of_ble_eq_true rfl, Nat.le_of_ble_eq_true rfl, Nat.le_of_ble_eq_true rfl⟩ (k_Ri fun r28 h => ?_)
    refine z_if_eq C dX12_use_31 (tgt := 55) (by decide) (fun c31 => ?_) (fun c31 => ?_)
    · have h := h.1 c31
      refine z_iconst C dX12_use_55 (v := 1) (by decide) ?_
      refine z_goto C dX12_use_56 (tgt := 60) (by decide) ?_
      exact t_drop [true, true, true, true, true, true, false, false, false, false] rfl (j_X12_use_60 hfl C hr hn9  s20 a1 a2 a3 a4 a5 (1) h)
    · have h := h.2 c31
      refine z_iload_n C dX12_use_34 (i := 3) rfl rfl ?_
      refine z_iload C dX12_use_35 rfl ?_
      refine t_callS C (rest := [.ref 100]) (c2 := 0) (s2 := 0) [.int (a3), .int (a4)] dX12_use_37 lk_X12_454 ls_X12_isSpan (c_X12_isSpan hfl h) rfl rfl ⟨Nat.le_of_ble_eq_true rfl, Nat.le_of_ble_eq_true rfl⟩ (Nat.le_of_ble_eq_true rfl) ⟨Nat.le_of_ble_eq_true rfl, Nat.le_of_ble_eq_true rfl, Nat.le_of_ble_eq_true rfl, Nat.le_of_ble_eq_true rfl⟩ (k_Ri fun r37 h => ?_)
      refine z_if_eq C dX12_use_40 (tgt := 55) (by decide) (fun c40 => ?_) (fun c40 => ?_)
      · have h := h.1 c40
        refine z_iconst C dX12_use_55 (v := 1) (by decide) ?_
        refine z_goto C dX12_use_56 (tgt := 60) (by decide) ?_
        exact t_drop [true, true, true, true, true, true, false, false, false, false] rfl (j_X12_use_60 hfl C hr hn9  s20 a1 a2 a3 a4 a5 (1) h)
      · have h := h.2 c40
        refine z_iload C dX12_use_43 rfl ?_
        refine z_if_lt C dX12_use_45 (tgt := 55) (by decide) (fun c45 => ?_) (fun c45 => ?_)
        · have h := h.1 c45
          refine z_iconst C dX12_use_55 (v := 1) (by decide) ?_
          refine z_goto C dX12_use_56 (tgt := 60) (by decide) ?_
          exact t_drop [true, true, true, true, true, true, false, false, false, false] rfl (j_X12_use_60 hfl C hr hn9  s20 a1 a2 a3 a4 a5 (1) h)
        · have h := h.2 c45
          refine z_iload C dX12_use_48 rfl ?_
          refine z_bipush C dX12_use_50 (v := 20) (by decide) ?_
          refine z_icmp_le C dX12_use_52 (tgt := 59) (by decide) (fun c52 => ?_) (fun c52 => ?_)
          · have h := h.1 c52
            refine z_iconst C dX12_use_59 (v := 0) (by decide) ?_
            exact t_drop [true, true, true, true, true, true, false, false, false, false] rfl (j_X12_use_60 hfl C hr hn9  s20 a1 a2 a3 a4 a5 (0) h)
          · have h := h.2 c52
            refine z_iconst C dX12_use_55 (v := 1) (by decide) ?_
            refine z_goto C dX12_use_56 (tgt := 60) (by decide) ?_
            exact t_drop [true, true, true, true, true, true, false, false, false, false] rfl (j_X12_use_60 hfl C hr hn9  s20 a1 a2 a3 a4 a5 (1) h)
def w_X12_use (st : zTs) (a1 : Int32) (a2 : Int32) (a3 : Int32) (a4 : Int32) (a5 : Int32) (P : Int32 → zTs → Prop) : Prop := ∀ s2 : zTs, s2 = zuF st 100 0 0 0 → (w_X12_isWall s2 a1 (fun (r8 : Int32) => ((r8 = 0 → w_X12_use_19 P s2 a1 a2 a3 a4 a5 (1)) ∧ (¬ r8 = 0 → w_X12_use_19 P s2 a1 a2 a3 a4 a5 (0)))))
set_option maxHeartbeats 4000000 in
set_option maxRecDepth 100000 in
theorem c_X12_use {Z : zZ} {l : Launch} (hfl : l.stackTraces = false) {st : zTs} {a1 : Int32} {a2 : Int32} {a3 : Int32} {a4 : Int32} {a5 : Int32} {P : Int32 → zTs → Prop} (h : w_X12_use st a1 a2 a3 a4 a5 P) : zN Z l yX12_use cX12_use 10 (some .int) ({ frames := 2, cells := 0, slots := 0, locals := 35 } : Room) (zh Z zm1 st) [.ref 100, .int (a1), .int (a2), .int (a3), .int (a4), .int (a5)] (zWi Z P) := by
  unfold w_X12_use at h
  refine z_enterN (by decide) (Nat.le_of_ble_eq_true rfl) (lc0 := [some (.ref 100), some (.int (a1)), some (.int (a2)), some (.int (a3)), some (.int (a4)), some (.int (a5)), none, none, none, none]) rfl ?_
  intro p e s m args below meth c ad0 C hr _
  have hn9 : True := trivial
  replace C : zC Z p s m args meth c cX12_use 10 RX12 := C
  refine z_aload_n C dX12_use_0 (i := 0) rfl rfl ?_
  refine z_iconst C dX12_use_1 (v := 0) (by decide) ?_
  refine t_put C dX12_use_2 fq_X12_199 (Or.inl rfl) (k := 100) (i := 0) (by decide) rfl ⟨rfl, rfl⟩ (fp_100_0 _ _ _ _ _) ?_
  refine t_tops (fun s2 es2 => ?_)
  have h := h s2 es2
  refine z_aload_n C dX12_use_5 (i := 0) rfl rfl ?_
  refine z_aload_n C dX12_use_6 (i := 0) rfl rfl ?_
  refine z_iload_n C dX12_use_7 (i := 1) rfl rfl ?_
  refine t_callV C (rest := [.ref 100]) (c2 := 0) (s2 := 0) (kd := 100) (i := 0) [.int (a1)] dX12_use_8 lk_X12_216 li_X12_isWall le_X12_isWall (c_X12_isWall hfl h) rfl rfl (by decide) rfl ⟨_, rfl⟩ rfl ⟨Nat.le_of_ble_eq_true rfl, Nat.le_of_ble_eq_true rfl⟩ (Nat.le_of_ble_eq_true rfl) ⟨Nat.le_of_ble_eq_true rfl, Nat.le_of_ble_eq_true rfl, Nat.le_of_ble_eq_true rfl, Nat.le_of_ble_eq_true rfl⟩ (k_Ri fun r8 h => ?_)
  refine z_if_ne C dX12_use_11 (tgt := 18) (by decide) (fun c11 => ?_) (fun c11 => ?_)
  · have h := h.2 c11
    refine z_iconst C dX12_use_18 (v := 0) (by decide) ?_
    exact t_drop [true, true, true, true, true, true, false, false, false, false] rfl (j_X12_use_19 hfl C hr hn9  s2 a1 a2 a3 a4 a5 (0) h)
  · have h := h.1 c11
    refine z_iconst C dX12_use_14 (v := 1) (by decide) ?_
    refine z_goto C dX12_use_15 (tgt := 19) (by decide) ?_
    exact t_drop [true, true, true, true, true, true, false, false, false, false] rfl (j_X12_use_19 hfl C hr hn9  s2 a1 a2 a3 a4 a5 (1) h)
def w_X12_cell_51 (P : Int32 → zTs → Prop)  (st : zTs) (a1 : Int32) (a2 : Int32) (a3 : Int32) (a4 : Int32) (b0 : Int32) : Prop := w_X12_bad st b0 2 (fun (r52 : Int32) (s52 : zTs) => ((r52 = 0 → (a3 < 0 → P (-1) s52) ∧ (¬ a3 < 0 → vp_in ((12 * a1) + a2) 72 ∧ ((a3 < (zgA s52 144 0 ((12 * a1) + a2 : Int32).toNatClampNeg) → ∀ x92 : Int32, x92 = (20 * ((12 * a1) + a2)) + a3 → ((a4 = 0 → vp_in x92 1440 ∧ (P (zgA s52 145 0 (x92 : Int32).toNatClampNeg) s52)) ∧ (¬ a4 = 0 → (a4 = 1 → w_X12_valueOf s52 x92 (fun (r118 : Int32) => (P r118 s52))) ∧ (¬ a4 = 1 → vp_in x92 1440 ∧ (P (zgA s52 148 0 (x92 : Int32).toNatClampNeg) s52))))) ∧ (¬ a3 < (zgA s52 144 0 ((12 * a1) + a2 : Int32).toNatClampNeg) → P (-1) s52)))) ∧ (¬ r52 = 0 → P 0 s52)))
set_option maxHeartbeats 4000000 in
set_option maxRecDepth 100000 in
theorem j_X12_cell_51 {P : Int32 → zTs → Prop}  (hfl : l.stackTraces = false) (C : zC Z p s m args meth c cX12_cell 6 RX12) (hr : meth.sig.returnType = (some .int)) (hn9 : True)  (st : zTs) (a1 : Int32) (a2 : Int32) (a3 : Int32) (a4 : Int32) (b0 : Int32) (h : w_X12_cell_51 P st a1 a2 a3 a4 b0) : zG Z ad0 h0 p l e ({ frames := 2, cells := 0, slots := 0, locals := 34 } : Room) s m args below meth c (MQ below (zQ Z ad0 h0 (zWi Z P)) args s 0 0 (zA Z)) 0 0 (zh Z zm1 st) 6 51 [some (.ref 100), some (.int (a1)), some (.int (a2)), some (.int (a3)), some (.int (a4)), none] [.int (b0), .ref 100] := by
  unfold w_X12_cell_51 at h
  refine z_iconst C dX12_cell_51 (v := 2) (by decide) ?_
  refine t_callV C (rest := []) (c2 := 0) (s2 := 0) (kd := 100) (i := 0) [.int (b0), .int (2)] dX12_cell_52 lk_X12_205 li_X12_bad le_X12_bad (c_X12_bad hfl h) rfl rfl (by decide) rfl ⟨_, rfl⟩ rfl ⟨Nat.le_of_ble_eq_true rfl, Nat.le_of_ble_eq_true rfl⟩ (Nat.le_of_ble_eq_true rfl) ⟨Nat.le_of_ble_eq_true rfl, Nat.le_of_ble_eq_true rfl, Nat.le_of_ble_eq_true rfl, Nat.le_of_ble_eq_true rfl⟩ (k_Wi fun r52 s52 h => ?_)
  refine z_if_eq C dX12_cell_55 (tgt := 60) (by decide) (fun c55 => ?_) (fun c55 => ?_)
  · have h := h.1 c55
    refine z_iload_n C dX12_cell_60 (i := 3) rfl rfl ?_
    refine z_if_lt C dX12_cell_61 (tgt := 79) (by decide) (fun c61 => ?_) (fun c61 => ?_)
    · have h := h.1 c61
      refine z_iconst C dX12_cell_79 (v := (-1)) (by decide) ?_
      exact z_iret C dX12_cell_80 hr rfl ⟨_, _, rfl, rfl, h⟩ (Nat.le_of_ble_eq_true rfl) (Nat.le_of_ble_eq_true rfl)
    · have h := h.2 c61
      refine z_iload_n C dX12_cell_64 (i := 3) rfl rfl ?_
      refine z_aload_n C dX12_cell_65 (i := 0) rfl rfl ?_
      refine t_get C dX12_cell_66 fl_X12_145 (k := 100) (i := 0) (by decide) rfl (fg_100_59 _ _ _) ?_
      refine z_bipush C dX12_cell_69 (v := 12) (by decide) ?_
      refine z_iload_n C dX12_cell_71 (i := 1) rfl rfl ?_
      refine z_imul C dX12_cell_72 ?_
      refine z_iload_n C dX12_cell_73 (i := 2) rfl rfl ?_
      refine z_iadd C dX12_cell_74 ?_
      obtain ⟨g75, h⟩ := h
      refine t_iald C dX12_cell_75 (k := 144) (i := 0) (by decide) rfl (sh_144 _ _ _ _) g75 ?_
      refine z_icmp_lt C dX12_cell_76 (tgt := 81) (by decide) (fun c76 => ?_) (fun c76 => ?_)
      · have h := h.1 c76
        refine z_bipush C dX12_cell_81 (v := 20) (by decide) ?_
        refine z_bipush C dX12_cell_83 (v := 12) (by decide) ?_
        refine z_iload_n C dX12_cell_85 (i := 1) rfl rfl ?_
        refine z_imul C dX12_cell_86 ?_
        refine z_iload_n C dX12_cell_87 (i := 2) rfl rfl ?_
        refine z_iadd C dX12_cell_88 ?_
        refine z_imul C dX12_cell_89 ?_
        refine z_iload_n C dX12_cell_90 (i := 3) rfl rfl ?_
        refine z_iadd C dX12_cell_91 ?_
        refine t_topi (fun x92 ex92 => ?_)
        have h := h x92 ex92
        refine z_istore C dX12_cell_92 (lc' := [some (.ref 100), some (.int (a1)), some (.int (a2)), some (.int (a3)), some (.int (a4)), some (.int (x92))]) (by decide) rfl ?_
        refine z_iload C dX12_cell_94 rfl ?_
        refine z_if_ne C dX12_cell_96 (tgt := 109) (by decide) (fun c96 => ?_) (fun c96 => ?_)
        · have h := h.2 c96
          refine z_iload C dX12_cell_109 rfl ?_
          refine z_iconst C dX12_cell_111 (v := 1) (by decide) ?_
          refine z_icmp_ne C dX12_cell_112 (tgt := 124) (by decide) (fun c112 => ?_) (fun c112 => ?_)
          · have h := h.2 c112
            refine z_aload_n C dX12_cell_124 (i := 0) rfl rfl ?_
            refine t_get C dX12_cell_125 fl_X12_157 (k := 100) (i := 0) (by decide) rfl (fg_100_63 _ _ _) ?_
            refine z_iload C dX12_cell_128 rfl ?_
            obtain ⟨g130, h⟩ := h
            refine t_iald C dX12_cell_130 (k := 148) (i := 0) (by decide) rfl (sh_148 _ _ _ _) g130 ?_
            exact z_iret C dX12_cell_131 hr rfl ⟨_, _, rfl, rfl, h⟩ (Nat.le_of_ble_eq_true rfl) (Nat.le_of_ble_eq_true rfl)
          · have h := h.1 c112
            refine z_aload_n C dX12_cell_115 (i := 0) rfl rfl ?_
            refine z_iload C dX12_cell_116 rfl ?_
            refine t_callV C (rest := []) (c2 := 0) (s2 := 0) (kd := 100) (i := 0) [.int (x92)] dX12_cell_118 lk_X12_462 li_X12_valueOf le_X12_valueOf (c_X12_valueOf hfl h) rfl rfl (by decide) rfl ⟨_, rfl⟩ rfl ⟨Nat.le_of_ble_eq_true rfl, Nat.le_of_ble_eq_true rfl⟩ (Nat.le_of_ble_eq_true rfl) ⟨Nat.le_of_ble_eq_true rfl, Nat.le_of_ble_eq_true rfl, Nat.le_of_ble_eq_true rfl, Nat.le_of_ble_eq_true rfl⟩ (k_Ri fun r118 h => ?_)
            refine z_goto C dX12_cell_121 (tgt := 131) (by decide) ?_
            exact z_iret C dX12_cell_131 hr rfl ⟨_, _, rfl, rfl, h⟩ (Nat.le_of_ble_eq_true rfl) (Nat.le_of_ble_eq_true rfl)
        · have h := h.1 c96
          refine z_aload_n C dX12_cell_99 (i := 0) rfl rfl ?_
          refine t_get C dX12_cell_100 fl_X12_148 (k := 100) (i := 0) (by decide) rfl (fg_100_60 _ _ _) ?_
          refine z_iload C dX12_cell_103 rfl ?_
          obtain ⟨g105, h⟩ := h
          refine t_iald C dX12_cell_105 (k := 145) (i := 0) (by decide) rfl (sh_145 _ _ _ _) g105 ?_
          refine z_goto C dX12_cell_106 (tgt := 131) (by decide) ?_
          exact z_iret C dX12_cell_131 hr rfl ⟨_, _, rfl, rfl, h⟩ (Nat.le_of_ble_eq_true rfl) (Nat.le_of_ble_eq_true rfl)
      · have h := h.2 c76
        refine z_iconst C dX12_cell_79 (v := (-1)) (by decide) ?_
        exact z_iret C dX12_cell_80 hr rfl ⟨_, _, rfl, rfl, h⟩ (Nat.le_of_ble_eq_true rfl) (Nat.le_of_ble_eq_true rfl)
  · have h := h.2 c55
    refine z_iconst C dX12_cell_58 (v := 0) (by decide) ?_
    exact z_iret C dX12_cell_59 hr rfl ⟨_, _, rfl, rfl, h⟩ (Nat.le_of_ble_eq_true rfl) (Nat.le_of_ble_eq_true rfl)
def w_X12_cell_19 (P : Int32 → zTs → Prop)  (st : zTs) (a1 : Int32) (a2 : Int32) (a3 : Int32) (a4 : Int32) (b0 : Int32) : Prop := w_X12_bad st b0 1 (fun (r20 : Int32) (s20 : zTs) => ((r20 = 0 → w_X12_isSpan s20 a2 a2 (fun (r29 : Int32) => ((r29 = 0 → w_X12_cell_51 P s20 a1 a2 a3 a4 (1)) ∧ (¬ r29 = 0 → (a4 < 0 → w_X12_cell_51 P s20 a1 a2 a3 a4 (1)) ∧ (¬ a4 < 0 → (a4 ≤ 2 → w_X12_cell_51 P s20 a1 a2 a3 a4 (0)) ∧ (¬ a4 ≤ 2 → w_X12_cell_51 P s20 a1 a2 a3 a4 (1))))))) ∧ (¬ r20 = 0 → P 0 s20)))
set_option maxHeartbeats 4000000 in
set_option maxRecDepth 100000 in
theorem j_X12_cell_19 {P : Int32 → zTs → Prop}  (hfl : l.stackTraces = false) (C : zC Z p s m args meth c cX12_cell 6 RX12) (hr : meth.sig.returnType = (some .int)) (hn9 : True)  (st : zTs) (a1 : Int32) (a2 : Int32) (a3 : Int32) (a4 : Int32) (b0 : Int32) (h : w_X12_cell_19 P st a1 a2 a3 a4 b0) : zG Z ad0 h0 p l e ({ frames := 2, cells := 0, slots := 0, locals := 34 } : Room) s m args below meth c (MQ below (zQ Z ad0 h0 (zWi Z P)) args s 0 0 (zA Z)) 0 0 (zh Z zm1 st) 6 19 [some (.ref 100), some (.int (a1)), some (.int (a2)), some (.int (a3)), some (.int (a4)), none] [.int (b0), .ref 100] := by
  unfold w_X12_cell_19 at h
  refine z_iconst C dX12_cell_19 (v := 1) (by decide) ?_
  refine t_callV C (rest := []) (c2 := 0) (s2 := 0) (kd := 100) (i := 0) [.int (b0), .int (1)] dX12_cell_20 lk_X12_205 li_X12_bad le_X12_bad (c_X12_bad hfl h) rfl rfl (by decide) rfl ⟨_, rfl⟩ rfl ⟨Nat.le_of_ble_eq_true rfl, Nat.le_of_ble_eq_true rfl⟩ (Nat.le_of_ble_eq_true rfl) ⟨Nat.le_of_ble_eq_true rfl, Nat.le_of_ble_eq_true rfl, Nat.le_of_ble_eq_true rfl, Nat.le_of_ble_eq_true rfl⟩ (k_Wi fun r20 s20 h => ?_)
  refine z_if_ne C dX12_cell_23 (tgt := 58) (by decide) (fun c23 => ?_) (fun c23 => ?_)
  · have h := h.2 c23
    refine z_iconst C dX12_cell_58 (v := 0) (by decide) ?_
    exact z_iret C dX12_cell_59 hr rfl ⟨_, _, rfl, rfl, h⟩ (Nat.le_of_ble_eq_true rfl) (Nat.le_of_ble_eq_true rfl)
  · have h := h.1 c23
    refine z_aload_n C dX12_cell_26 (i := 0) rfl rfl ?_
    refine z_iload_n C dX12_cell_27 (i := 2) rfl rfl ?_
    refine z_iload_n C dX12_cell_28 (i := 2) rfl rfl ?_
    refine t_callS C (rest := [.ref 100]) (c2 := 0) (s2 := 0) [.int (a2), .int (a2)] dX12_cell_29 lk_X12_454 ls_X12_isSpan (c_X12_isSpan hfl h) rfl rfl ⟨Nat.le_of_ble_eq_true rfl, Nat.le_of_ble_eq_true rfl⟩ (Nat.le_of_ble_eq_true rfl) ⟨Nat.le_of_ble_eq_true rfl, Nat.le_of_ble_eq_true rfl, Nat.le_of_ble_eq_true rfl, Nat.le_of_ble_eq_true rfl⟩ (k_Ri fun r29 h => ?_)
    refine z_if_eq C dX12_cell_32 (tgt := 46) (by decide) (fun c32 => ?_) (fun c32 => ?_)
    · have h := h.1 c32
      refine z_iconst C dX12_cell_46 (v := 1) (by decide) ?_
      refine z_goto C dX12_cell_47 (tgt := 51) (by decide) ?_
      exact t_drop [true, true, true, true, true, false] rfl (j_X12_cell_51 hfl C hr hn9  s20 a1 a2 a3 a4 (1) h)
    · have h := h.2 c32
      refine z_iload C dX12_cell_35 rfl ?_
      refine z_if_lt C dX12_cell_37 (tgt := 46) (by decide) (fun c37 => ?_) (fun c37 => ?_)
      · have h := h.1 c37
        refine z_iconst C dX12_cell_46 (v := 1) (by decide) ?_
        refine z_goto C dX12_cell_47 (tgt := 51) (by decide) ?_
        exact t_drop [true, true, true, true, true, false] rfl (j_X12_cell_51 hfl C hr hn9  s20 a1 a2 a3 a4 (1) h)
      · have h := h.2 c37
        refine z_iload C dX12_cell_40 rfl ?_
        refine z_iconst C dX12_cell_42 (v := 2) (by decide) ?_
        refine z_icmp_le C dX12_cell_43 (tgt := 50) (by decide) (fun c43 => ?_) (fun c43 => ?_)
        · have h := h.1 c43
          refine z_iconst C dX12_cell_50 (v := 0) (by decide) ?_
          exact t_drop [true, true, true, true, true, false] rfl (j_X12_cell_51 hfl C hr hn9  s20 a1 a2 a3 a4 (0) h)
        · have h := h.2 c43
          refine z_iconst C dX12_cell_46 (v := 1) (by decide) ?_
          refine z_goto C dX12_cell_47 (tgt := 51) (by decide) ?_
          exact t_drop [true, true, true, true, true, false] rfl (j_X12_cell_51 hfl C hr hn9  s20 a1 a2 a3 a4 (1) h)
def w_X12_cell (st : zTs) (a1 : Int32) (a2 : Int32) (a3 : Int32) (a4 : Int32) (P : Int32 → zTs → Prop) : Prop := ∀ s2 : zTs, s2 = zuF st 100 0 0 0 → (w_X12_isWall s2 a1 (fun (r8 : Int32) => ((r8 = 0 → w_X12_cell_19 P s2 a1 a2 a3 a4 (1)) ∧ (¬ r8 = 0 → w_X12_cell_19 P s2 a1 a2 a3 a4 (0)))))
set_option maxHeartbeats 4000000 in
set_option maxRecDepth 100000 in
theorem c_X12_cell {Z : zZ} {l : Launch} (hfl : l.stackTraces = false) {st : zTs} {a1 : Int32} {a2 : Int32} {a3 : Int32} {a4 : Int32} {P : Int32 → zTs → Prop} (h : w_X12_cell st a1 a2 a3 a4 P) : zN Z l yX12_cell cX12_cell 6 (some .int) ({ frames := 2, cells := 0, slots := 0, locals := 34 } : Room) (zh Z zm1 st) [.ref 100, .int (a1), .int (a2), .int (a3), .int (a4)] (zWi Z P) := by
  unfold w_X12_cell at h
  refine z_enterN (by decide) (Nat.le_of_ble_eq_true rfl) (lc0 := [some (.ref 100), some (.int (a1)), some (.int (a2)), some (.int (a3)), some (.int (a4)), none]) rfl ?_
  intro p e s m args below meth c ad0 C hr _
  have hn9 : True := trivial
  replace C : zC Z p s m args meth c cX12_cell 6 RX12 := C
  refine z_aload_n C dX12_cell_0 (i := 0) rfl rfl ?_
  refine z_iconst C dX12_cell_1 (v := 0) (by decide) ?_
  refine t_put C dX12_cell_2 fq_X12_199 (Or.inl rfl) (k := 100) (i := 0) (by decide) rfl ⟨rfl, rfl⟩ (fp_100_0 _ _ _ _ _) ?_
  refine t_tops (fun s2 es2 => ?_)
  have h := h s2 es2
  refine z_aload_n C dX12_cell_5 (i := 0) rfl rfl ?_
  refine z_aload_n C dX12_cell_6 (i := 0) rfl rfl ?_
  refine z_iload_n C dX12_cell_7 (i := 1) rfl rfl ?_
  refine t_callV C (rest := [.ref 100]) (c2 := 0) (s2 := 0) (kd := 100) (i := 0) [.int (a1)] dX12_cell_8 lk_X12_216 li_X12_isWall le_X12_isWall (c_X12_isWall hfl h) rfl rfl (by decide) rfl ⟨_, rfl⟩ rfl ⟨Nat.le_of_ble_eq_true rfl, Nat.le_of_ble_eq_true rfl⟩ (Nat.le_of_ble_eq_true rfl) ⟨Nat.le_of_ble_eq_true rfl, Nat.le_of_ble_eq_true rfl, Nat.le_of_ble_eq_true rfl, Nat.le_of_ble_eq_true rfl⟩ (k_Ri fun r8 h => ?_)
  refine z_if_ne C dX12_cell_11 (tgt := 18) (by decide) (fun c11 => ?_) (fun c11 => ?_)
  · have h := h.2 c11
    refine z_iconst C dX12_cell_18 (v := 0) (by decide) ?_
    exact t_drop [true, true, true, true, true, false] rfl (j_X12_cell_19 hfl C hr hn9  s2 a1 a2 a3 a4 (0) h)
  · have h := h.1 c11
    refine z_iconst C dX12_cell_14 (v := 1) (by decide) ?_
    refine z_goto C dX12_cell_15 (tgt := 19) (by decide) ?_
    exact t_drop [true, true, true, true, true, false] rfl (j_X12_cell_19 hfl C hr hn9  s2 a1 a2 a3 a4 (1) h)
def w_X12_spend_88 (P : Int32 → zTs → Prop)  (st : zTs) (a1 : Int32) (a3 : Int32) : Prop := (a3 ≤ 0 → P a3 st) ∧ (¬ a3 ≤ 0 → w_X12_otherOwner st a1 (fun (r95 : Int32) => (w_X12_ownOwner st a1 (fun (r100 : Int32) => (w_X12_pays st r95 r100 a3 (fun (s104 : zTs) => (P a3 s104)))))))
set_option maxHeartbeats 4000000 in
set_option maxRecDepth 100000 in
theorem j_X12_spend_88 {P : Int32 → zTs → Prop}  (hfl : l.stackTraces = false) (C : zC Z p s m args meth c cX12_spend 4 RX12) (hr : meth.sig.returnType = (some .int)) (hn9 : True)  (st : zTs) (a1 : Int32) (a3 : Int32) (h : w_X12_spend_88 P st a1 a3) : zG Z ad0 h0 p l e ({ frames := 2, cells := 0, slots := 0, locals := 35 } : Room) s m args below meth c (MQ below (zQ Z ad0 h0 (zWi Z P)) args s 0 0 (zA Z)) 0 0 (zh Z zm1 st) 4 88 [some (.ref 100), some (.int (a1)), none, some (.int (a3))] [] := by
  unfold w_X12_spend_88 at h
  refine z_iload_n C dX12_spend_88 (i := 3) rfl rfl ?_
  refine z_if_le C dX12_spend_89 (tgt := 107) (by decide) (fun c89 => ?_) (fun c89 => ?_)
  · have h := h.1 c89
    refine z_iload_n C dX12_spend_107 (i := 3) rfl rfl ?_
    exact z_iret C dX12_spend_108 hr rfl ⟨_, _, rfl, rfl, h⟩ (Nat.le_of_ble_eq_true rfl) (Nat.le_of_ble_eq_true rfl)
  · have h := h.2 c89
    refine z_aload_n C dX12_spend_92 (i := 0) rfl rfl ?_
    refine z_aload_n C dX12_spend_93 (i := 0) rfl rfl ?_
    refine z_iload_n C dX12_spend_94 (i := 1) rfl rfl ?_
    refine t_callV C (rest := [.ref 100]) (c2 := 0) (s2 := 0) (kd := 100) (i := 0) [.int (a1)] dX12_spend_95 lk_X12_447 li_X12_otherOwner le_X12_otherOwner (c_X12_otherOwner hfl h) rfl rfl (by decide) rfl ⟨_, rfl⟩ rfl ⟨Nat.le_of_ble_eq_true rfl, Nat.le_of_ble_eq_true rfl⟩ (Nat.le_of_ble_eq_true rfl) ⟨Nat.le_of_ble_eq_true rfl, Nat.le_of_ble_eq_true rfl, Nat.le_of_ble_eq_true rfl, Nat.le_of_ble_eq_true rfl⟩ (k_Ri fun r95 h => ?_)
    refine z_aload_n C dX12_spend_98 (i := 0) rfl rfl ?_
    refine z_iload_n C dX12_spend_99 (i := 1) rfl rfl ?_
    refine t_callV C (rest := [.int (r95), .ref 100]) (c2 := 0) (s2 := 0) (kd := 100) (i := 0) [.int (a1)] dX12_spend_100 lk_X12_444 li_X12_ownOwner le_X12_ownOwner (c_X12_ownOwner hfl h) rfl rfl (by decide) rfl ⟨_, rfl⟩ rfl ⟨Nat.le_of_ble_eq_true rfl, Nat.le_of_ble_eq_true rfl⟩ (Nat.le_of_ble_eq_true rfl) ⟨Nat.le_of_ble_eq_true rfl, Nat.le_of_ble_eq_true rfl, Nat.le_of_ble_eq_true rfl, Nat.le_of_ble_eq_true rfl⟩ (k_Ri fun r100 h => ?_)
    refine z_iload_n C dX12_spend_103 (i := 3) rfl rfl ?_
    refine t_callV C (rest := []) (c2 := 0) (s2 := 0) (kd := 100) (i := 0) [.int (r95), .int (r100), .int (a3)] dX12_spend_104 lk_X12_450 li_X12_pays le_X12_pays (c_X12_pays hfl h) rfl rfl (by decide) rfl ⟨_, rfl⟩ rfl ⟨Nat.le_of_ble_eq_true rfl, Nat.le_of_ble_eq_true rfl⟩ (Nat.le_of_ble_eq_true rfl) ⟨Nat.le_of_ble_eq_true rfl, Nat.le_of_ble_eq_true rfl, Nat.le_of_ble_eq_true rfl, Nat.le_of_ble_eq_true rfl⟩ (k_Wv fun s104 h => ?_)
    refine z_iload_n C dX12_spend_107 (i := 3) rfl rfl ?_
    exact z_iret C dX12_spend_108 hr rfl ⟨_, _, rfl, rfl, h⟩ (Nat.le_of_ble_eq_true rfl) (Nat.le_of_ble_eq_true rfl)
def w_X12_spend_56 (P : Int32 → zTs → Prop)  (st : zTs) (a1 : Int32) (a2 : Int32) : Prop := w_X12_shareOf st a1 (fun (r62 : Int32) => (∀ x73 : Int32, x73 = ((((a2 : Int32).toInt64) * ((100 - r62 : Int32).toInt64)) / 100 : Int64).toInt32 → ((x73 ≤ 0 → w_X12_spend_88 P st a1 x73) ∧ (¬ x73 ≤ 0 → w_X12_isFull st (fun (r79 : Int32) => ((r79 = 0 → w_X12_spend_88 P st a1 x73) ∧ (¬ r79 = 0 → P (-2) st)))))))
set_option maxHeartbeats 4000000 in
set_option maxRecDepth 100000 in
theorem j_X12_spend_56 {P : Int32 → zTs → Prop}  (hfl : l.stackTraces = false) (C : zC Z p s m args meth c cX12_spend 4 RX12) (hr : meth.sig.returnType = (some .int)) (hn9 : True)  (st : zTs) (a1 : Int32) (a2 : Int32) (h : w_X12_spend_56 P st a1 a2) : zG Z ad0 h0 p l e ({ frames := 2, cells := 0, slots := 0, locals := 35 } : Room) s m args below meth c (MQ below (zQ Z ad0 h0 (zWi Z P)) args s 0 0 (zA Z)) 0 0 (zh Z zm1 st) 4 56 [some (.ref 100), some (.int (a1)), some (.int (a2)), none] [] := by
  unfold w_X12_spend_56 at h
  refine z_iload_n C dX12_spend_56 (i := 2) rfl rfl ?_
  refine z_i2l C dX12_spend_57 ?_
  refine z_bipush C dX12_spend_58 (v := 100) (by decide) ?_
  refine z_aload_n C dX12_spend_60 (i := 0) rfl rfl ?_
  refine z_iload_n C dX12_spend_61 (i := 1) rfl rfl ?_
  refine t_callV C (rest := [.int (100), .long ((a2 : Int32).toInt64)]) (c2 := 0) (s2 := 0) (kd := 100) (i := 0) [.int (a1)] dX12_spend_62 lk_X12_405 li_X12_shareOf le_X12_shareOf (c_X12_shareOf hfl h) rfl rfl (by decide) rfl ⟨_, rfl⟩ rfl ⟨Nat.le_of_ble_eq_true rfl, Nat.le_of_ble_eq_true rfl⟩ (Nat.le_of_ble_eq_true rfl) ⟨Nat.le_of_ble_eq_true rfl, Nat.le_of_ble_eq_true rfl, Nat.le_of_ble_eq_true rfl, Nat.le_of_ble_eq_true rfl⟩ (k_Ri fun r62 h => ?_)
  refine z_isub C dX12_spend_65 ?_
  refine z_i2l C dX12_spend_66 ?_
  refine z_lmul C dX12_spend_67 ?_
  refine z_ldc2 C dX12_spend_68 kj_X12_457 ?_
  refine z_ldiv C dX12_spend_71 (by decide) ?_
  refine z_l2i C dX12_spend_72 ?_
  refine t_topi (fun x73 ex73 => ?_)
  have h := h x73 ex73
  refine z_istore_n C dX12_spend_73 (i := 3) (lc' := [some (.ref 100), some (.int (a1)), some (.int (a2)), some (.int (x73))]) rfl (by decide) rfl ?_
  refine z_iload_n C dX12_spend_74 (i := 3) rfl rfl ?_
  refine z_if_le C dX12_spend_75 (tgt := 88) (by decide) (fun c75 => ?_) (fun c75 => ?_)
  · have h := h.1 c75
    exact t_drop [true, true, false, true] rfl (j_X12_spend_88 hfl C hr hn9  st a1 x73 h)
  · have h := h.2 c75
    refine z_aload_n C dX12_spend_78 (i := 0) rfl rfl ?_
    refine t_callV C (rest := []) (c2 := 0) (s2 := 0) (kd := 100) (i := 0) [] dX12_spend_79 lk_X12_440 li_X12_isFull le_X12_isFull (c_X12_isFull hfl h) rfl rfl (by decide) rfl ⟨_, rfl⟩ rfl ⟨Nat.le_of_ble_eq_true rfl, Nat.le_of_ble_eq_true rfl⟩ (Nat.le_of_ble_eq_true rfl) ⟨Nat.le_of_ble_eq_true rfl, Nat.le_of_ble_eq_true rfl, Nat.le_of_ble_eq_true rfl, Nat.le_of_ble_eq_true rfl⟩ (k_Ri fun r79 h => ?_)
    refine z_if_eq C dX12_spend_82 (tgt := 88) (by decide) (fun c82 => ?_) (fun c82 => ?_)
    · have h := h.1 c82
      exact t_drop [true, true, false, true] rfl (j_X12_spend_88 hfl C hr hn9  st a1 x73 h)
    · have h := h.2 c82
      refine z_bipush C dX12_spend_85 (v := (-2)) (by decide) ?_
      exact z_iret C dX12_spend_87 hr rfl ⟨_, _, rfl, rfl, h⟩ (Nat.le_of_ble_eq_true rfl) (Nat.le_of_ble_eq_true rfl)
def w_X12_spend_24 (P : Int32 → zTs → Prop)  (st : zTs) (a1 : Int32) (a2 : Int32) (b0 : Int32) : Prop := w_X12_bad st b0 2 (fun (r25 : Int32) (s25 : zTs) => ((r25 = 0 → vp_in a1 30 ∧ (((zgA s25 126 0 (a1 : Int32).toNatClampNeg) = 5 → w_X12_spend_56 P s25 a1 a2) ∧ (¬ (zgA s25 126 0 (a1 : Int32).toNatClampNeg) = 5 → vp_in a1 30 ∧ (((zgA s25 126 0 (a1 : Int32).toNatClampNeg) = 7 → w_X12_spend_56 P s25 a1 a2) ∧ (¬ (zgA s25 126 0 (a1 : Int32).toNatClampNeg) = 7 → P (-1) s25))))) ∧ (¬ r25 = 0 → P 0 s25)))
set_option maxHeartbeats 4000000 in
set_option maxRecDepth 100000 in
theorem j_X12_spend_24 {P : Int32 → zTs → Prop}  (hfl : l.stackTraces = false) (C : zC Z p s m args meth c cX12_spend 4 RX12) (hr : meth.sig.returnType = (some .int)) (hn9 : True)  (st : zTs) (a1 : Int32) (a2 : Int32) (b0 : Int32) (h : w_X12_spend_24 P st a1 a2 b0) : zG Z ad0 h0 p l e ({ frames := 2, cells := 0, slots := 0, locals := 35 } : Room) s m args below meth c (MQ below (zQ Z ad0 h0 (zWi Z P)) args s 0 0 (zA Z)) 0 0 (zh Z zm1 st) 4 24 [some (.ref 100), some (.int (a1)), some (.int (a2)), none] [.int (b0), .ref 100] := by
  unfold w_X12_spend_24 at h
  refine z_iconst C dX12_spend_24 (v := 2) (by decide) ?_
  refine t_callV C (rest := []) (c2 := 0) (s2 := 0) (kd := 100) (i := 0) [.int (b0), .int (2)] dX12_spend_25 lk_X12_205 li_X12_bad le_X12_bad (c_X12_bad hfl h) rfl rfl (by decide) rfl ⟨_, rfl⟩ rfl ⟨Nat.le_of_ble_eq_true rfl, Nat.le_of_ble_eq_true rfl⟩ (Nat.le_of_ble_eq_true rfl) ⟨Nat.le_of_ble_eq_true rfl, Nat.le_of_ble_eq_true rfl, Nat.le_of_ble_eq_true rfl, Nat.le_of_ble_eq_true rfl⟩ (k_Wi fun r25 s25 h => ?_)
  refine z_if_eq C dX12_spend_28 (tgt := 33) (by decide) (fun c28 => ?_) (fun c28 => ?_)
  · have h := h.1 c28
    refine z_aload_n C dX12_spend_33 (i := 0) rfl rfl ?_
    refine t_get C dX12_spend_34 fl_X12_91 (k := 100) (i := 0) (by decide) rfl (fg_100_38 _ _ _) ?_
    refine z_iload_n C dX12_spend_37 (i := 1) rfl rfl ?_
    obtain ⟨g38, h⟩ := h
    refine t_iald C dX12_spend_38 (k := 126) (i := 0) (by decide) rfl (sh_126 _ _ _ _) g38 ?_
    refine z_iconst C dX12_spend_39 (v := 5) (by decide) ?_
    refine z_icmp_eq C dX12_spend_40 (tgt := 56) (by decide) (fun c40 => ?_) (fun c40 => ?_)
    · have h := h.1 c40
      exact t_drop [true, true, true, false] rfl (j_X12_spend_56 hfl C hr hn9  s25 a1 a2 h)
    · have h := h.2 c40
      refine z_aload_n C dX12_spend_43 (i := 0) rfl rfl ?_
      refine t_get C dX12_spend_44 fl_X12_91 (k := 100) (i := 0) (by decide) rfl (fg_100_38 _ _ _) ?_
      refine z_iload_n C dX12_spend_47 (i := 1) rfl rfl ?_
      obtain ⟨g48, h⟩ := h
      refine t_iald C dX12_spend_48 (k := 126) (i := 0) (by decide) rfl (sh_126 _ _ _ _) g48 ?_
      refine z_bipush C dX12_spend_49 (v := 7) (by decide) ?_
      refine z_icmp_eq C dX12_spend_51 (tgt := 56) (by decide) (fun c51 => ?_) (fun c51 => ?_)
      · have h := h.1 c51
        exact t_drop [true, true, true, false] rfl (j_X12_spend_56 hfl C hr hn9  s25 a1 a2 h)
      · have h := h.2 c51
        refine z_iconst C dX12_spend_54 (v := (-1)) (by decide) ?_
        exact z_iret C dX12_spend_55 hr rfl ⟨_, _, rfl, rfl, h⟩ (Nat.le_of_ble_eq_true rfl) (Nat.le_of_ble_eq_true rfl)
  · have h := h.2 c28
    refine z_iconst C dX12_spend_31 (v := 0) (by decide) ?_
    exact z_iret C dX12_spend_32 hr rfl ⟨_, _, rfl, rfl, h⟩ (Nat.le_of_ble_eq_true rfl) (Nat.le_of_ble_eq_true rfl)
def w_X12_spend (st : zTs) (a1 : Int32) (a2 : Int32) (P : Int32 → zTs → Prop) : Prop := w_X12_isWork st a1 (fun (r2 : Int32) (s2 : zTs) => ((r2 = 0 → P 0 s2) ∧ (¬ r2 = 0 → (a2 < 0 → w_X12_spend_24 P s2 a1 a2 (1)) ∧ (¬ a2 < 0 → (a2 ≤ 1000000 → w_X12_spend_24 P s2 a1 a2 (0)) ∧ (¬ a2 ≤ 1000000 → w_X12_spend_24 P s2 a1 a2 (1))))))
set_option maxHeartbeats 4000000 in
set_option maxRecDepth 100000 in
theorem c_X12_spend {Z : zZ} {l : Launch} (hfl : l.stackTraces = false) {st : zTs} {a1 : Int32} {a2 : Int32} {P : Int32 → zTs → Prop} (h : w_X12_spend st a1 a2 P) : zN Z l yX12_spend cX12_spend 4 (some .int) ({ frames := 2, cells := 0, slots := 0, locals := 35 } : Room) (zh Z zm1 st) [.ref 100, .int (a1), .int (a2)] (zWi Z P) := by
  unfold w_X12_spend at h
  refine z_enterN (by decide) (Nat.le_of_ble_eq_true rfl) (lc0 := [some (.ref 100), some (.int (a1)), some (.int (a2)), none]) rfl ?_
  intro p e s m args below meth c ad0 C hr _
  have hn9 : True := trivial
  replace C : zC Z p s m args meth c cX12_spend 4 RX12 := C
  refine z_aload_n C dX12_spend_0 (i := 0) rfl rfl ?_
  refine z_iload_n C dX12_spend_1 (i := 1) rfl rfl ?_
  refine t_callV C (rest := []) (c2 := 0) (s2 := 0) (kd := 100) (i := 0) [.int (a1)] dX12_spend_2 lk_X12_387 li_X12_isWork le_X12_isWork (c_X12_isWork hfl h) rfl rfl (by decide) rfl ⟨_, rfl⟩ rfl ⟨Nat.le_of_ble_eq_true rfl, Nat.le_of_ble_eq_true rfl⟩ (Nat.le_of_ble_eq_true rfl) ⟨Nat.le_of_ble_eq_true rfl, Nat.le_of_ble_eq_true rfl, Nat.le_of_ble_eq_true rfl, Nat.le_of_ble_eq_true rfl⟩ (k_Wi fun r2 s2 h => ?_)
  refine z_if_eq C dX12_spend_5 (tgt := 31) (by decide) (fun c5 => ?_) (fun c5 => ?_)
  · have h := h.1 c5
    refine z_iconst C dX12_spend_31 (v := 0) (by decide) ?_
    exact z_iret C dX12_spend_32 hr rfl ⟨_, _, rfl, rfl, h⟩ (Nat.le_of_ble_eq_true rfl) (Nat.le_of_ble_eq_true rfl)
  · have h := h.2 c5
    refine z_aload_n C dX12_spend_8 (i := 0) rfl rfl ?_
    refine z_iload_n C dX12_spend_9 (i := 2) rfl rfl ?_
    refine z_if_lt C dX12_spend_10 (tgt := 19) (by decide) (fun c10 => ?_) (fun c10 => ?_)
    · have h := h.1 c10
      refine z_iconst C dX12_spend_19 (v := 1) (by decide) ?_
      refine z_goto C dX12_spend_20 (tgt := 24) (by decide) ?_
      exact t_drop [true, true, true, false] rfl (j_X12_spend_24 hfl C hr hn9  s2 a1 a2 (1) h)
    · have h := h.2 c10
      refine z_iload_n C dX12_spend_13 (i := 2) rfl rfl ?_
      refine z_ldc C dX12_spend_14 kc_X12_225 ?_
      refine z_icmp_le C dX12_spend_16 (tgt := 23) (by decide) (fun c16 => ?_) (fun c16 => ?_)
      · have h := h.1 c16
        refine z_iconst C dX12_spend_23 (v := 0) (by decide) ?_
        exact t_drop [true, true, true, false] rfl (j_X12_spend_24 hfl C hr hn9  s2 a1 a2 (0) h)
      · have h := h.2 c16
        refine z_iconst C dX12_spend_19 (v := 1) (by decide) ?_
        refine z_goto C dX12_spend_20 (tgt := 24) (by decide) ?_
        exact t_drop [true, true, true, false] rfl (j_X12_spend_24 hfl C hr hn9  s2 a1 a2 (1) h)
def w_X12_secure_25 (P : Int32 → zTs → Prop)  (st : zTs) (a1 : Int32) (a2 : Int32) (b0 : Int32) : Prop := w_X12_bad st b0 2 (fun (r26 : Int32) (s26 : zTs) => ((r26 = 0 → vp_in a1 30 ∧ (((zgA s26 149 0 (a1 : Int32).toNatClampNeg) ≤ 0 → vp_in a1 30 ∧ (∀ s51 : zTs, s51 = zuA s26 149 0 (a1 : Int32).toNatClampNeg a2 → (P 1 s51))) ∧ (¬ (zgA s26 149 0 (a1 : Int32).toNatClampNeg) ≤ 0 → P (-1) s26))) ∧ (¬ r26 = 0 → P 0 s26)))
set_option maxHeartbeats 4000000 in
set_option maxRecDepth 100000 in
theorem j_X12_secure_25 {P : Int32 → zTs → Prop}  (hfl : l.stackTraces = false) (C : zC Z p s m args meth c cX12_secure 3 RX12) (hr : meth.sig.returnType = (some .int)) (hn9 : True)  (st : zTs) (a1 : Int32) (a2 : Int32) (b0 : Int32) (h : w_X12_secure_25 P st a1 a2 b0) : zG Z ad0 h0 p l e ({ frames := 2, cells := 0, slots := 0, locals := 34 } : Room) s m args below meth c (MQ below (zQ Z ad0 h0 (zWi Z P)) args s 0 0 (zA Z)) 0 0 (zh Z zm1 st) 3 25 [some (.ref 100), some (.int (a1)), some (.int (a2))] [.int (b0), .ref 100] := by
  unfold w_X12_secure_25 at h
  refine z_iconst C dX12_secure_25 (v := 2) (by decide) ?_
  refine t_callV C (rest := []) (c2 := 0) (s2 := 0) (kd := 100) (i := 0) [.int (b0), .int (2)] dX12_secure_26 lk_X12_205 li_X12_bad le_X12_bad (c_X12_bad hfl h) rfl rfl (by decide) rfl ⟨_, rfl⟩ rfl ⟨Nat.le_of_ble_eq_true rfl, Nat.le_of_ble_eq_true rfl⟩ (Nat.le_of_ble_eq_true rfl) ⟨Nat.le_of_ble_eq_true rfl, Nat.le_of_ble_eq_true rfl, Nat.le_of_ble_eq_true rfl, Nat.le_of_ble_eq_true rfl⟩ (k_Wi fun r26 s26 h => ?_)
  refine z_if_eq C dX12_secure_29 (tgt := 34) (by decide) (fun c29 => ?_) (fun c29 => ?_)
  · have h := h.1 c29
    refine z_aload_n C dX12_secure_34 (i := 0) rfl rfl ?_
    refine t_get C dX12_secure_35 fl_X12_160 (k := 100) (i := 0) (by decide) rfl (fg_100_64 _ _ _) ?_
    refine z_iload_n C dX12_secure_38 (i := 1) rfl rfl ?_
    obtain ⟨g39, h⟩ := h
    refine t_iald C dX12_secure_39 (k := 149) (i := 0) (by decide) rfl (sh_149 _ _ _ _) g39 ?_
    refine z_if_le C dX12_secure_40 (tgt := 45) (by decide) (fun c40 => ?_) (fun c40 => ?_)
    · have h := h.1 c40
      refine z_aload_n C dX12_secure_45 (i := 0) rfl rfl ?_
      refine t_get C dX12_secure_46 fl_X12_160 (k := 100) (i := 0) (by decide) rfl (fg_100_64 _ _ _) ?_
      refine z_iload_n C dX12_secure_49 (i := 1) rfl rfl ?_
      refine z_iload_n C dX12_secure_50 (i := 2) rfl rfl ?_
      obtain ⟨g51, h⟩ := h
      refine t_iast C dX12_secure_51 (k := 149) (i := 0) (by decide) rfl (fun s9 => sh_149 _ _ s9 _) g51 ?_
      refine t_tops (fun s51 es51 => ?_)
      have h := h s51 es51
      refine z_iconst C dX12_secure_52 (v := 1) (by decide) ?_
      exact z_iret C dX12_secure_53 hr rfl ⟨_, _, rfl, rfl, h⟩ (Nat.le_of_ble_eq_true rfl) (Nat.le_of_ble_eq_true rfl)
    · have h := h.2 c40
      refine z_iconst C dX12_secure_43 (v := (-1)) (by decide) ?_
      exact z_iret C dX12_secure_44 hr rfl ⟨_, _, rfl, rfl, h⟩ (Nat.le_of_ble_eq_true rfl) (Nat.le_of_ble_eq_true rfl)
  · have h := h.2 c29
    refine z_iconst C dX12_secure_32 (v := 0) (by decide) ?_
    exact z_iret C dX12_secure_33 hr rfl ⟨_, _, rfl, rfl, h⟩ (Nat.le_of_ble_eq_true rfl) (Nat.le_of_ble_eq_true rfl)
def w_X12_secure (st : zTs) (a1 : Int32) (a2 : Int32) (P : Int32 → zTs → Prop) : Prop := w_X12_isWork st a1 (fun (r2 : Int32) (s2 : zTs) => ((r2 = 0 → P 0 s2) ∧ (¬ r2 = 0 → (a2 < 1 → w_X12_secure_25 P s2 a1 a2 (1)) ∧ (¬ a2 < 1 → (a2 ≤ 1000000 → w_X12_secure_25 P s2 a1 a2 (0)) ∧ (¬ a2 ≤ 1000000 → w_X12_secure_25 P s2 a1 a2 (1))))))
set_option maxHeartbeats 4000000 in
set_option maxRecDepth 100000 in
theorem c_X12_secure {Z : zZ} {l : Launch} (hfl : l.stackTraces = false) {st : zTs} {a1 : Int32} {a2 : Int32} {P : Int32 → zTs → Prop} (h : w_X12_secure st a1 a2 P) : zN Z l yX12_secure cX12_secure 3 (some .int) ({ frames := 2, cells := 0, slots := 0, locals := 34 } : Room) (zh Z zm1 st) [.ref 100, .int (a1), .int (a2)] (zWi Z P) := by
  unfold w_X12_secure at h
  refine z_enterN (by decide) (Nat.le_of_ble_eq_true rfl) (lc0 := [some (.ref 100), some (.int (a1)), some (.int (a2))]) rfl ?_
  intro p e s m args below meth c ad0 C hr _
  have hn9 : True := trivial
  replace C : zC Z p s m args meth c cX12_secure 3 RX12 := C
  refine z_aload_n C dX12_secure_0 (i := 0) rfl rfl ?_
  refine z_iload_n C dX12_secure_1 (i := 1) rfl rfl ?_
  refine t_callV C (rest := []) (c2 := 0) (s2 := 0) (kd := 100) (i := 0) [.int (a1)] dX12_secure_2 lk_X12_387 li_X12_isWork le_X12_isWork (c_X12_isWork hfl h) rfl rfl (by decide) rfl ⟨_, rfl⟩ rfl ⟨Nat.le_of_ble_eq_true rfl, Nat.le_of_ble_eq_true rfl⟩ (Nat.le_of_ble_eq_true rfl) ⟨Nat.le_of_ble_eq_true rfl, Nat.le_of_ble_eq_true rfl, Nat.le_of_ble_eq_true rfl, Nat.le_of_ble_eq_true rfl⟩ (k_Wi fun r2 s2 h => ?_)
  refine z_if_eq C dX12_secure_5 (tgt := 32) (by decide) (fun c5 => ?_) (fun c5 => ?_)
  · have h := h.1 c5
    refine z_iconst C dX12_secure_32 (v := 0) (by decide) ?_
    exact z_iret C dX12_secure_33 hr rfl ⟨_, _, rfl, rfl, h⟩ (Nat.le_of_ble_eq_true rfl) (Nat.le_of_ble_eq_true rfl)
  · have h := h.2 c5
    refine z_aload_n C dX12_secure_8 (i := 0) rfl rfl ?_
    refine z_iload_n C dX12_secure_9 (i := 2) rfl rfl ?_
    refine z_iconst C dX12_secure_10 (v := 1) (by decide) ?_
    refine z_icmp_lt C dX12_secure_11 (tgt := 20) (by decide) (fun c11 => ?_) (fun c11 => ?_)
    · have h := h.1 c11
      refine z_iconst C dX12_secure_20 (v := 1) (by decide) ?_
      refine z_goto C dX12_secure_21 (tgt := 25) (by decide) ?_
      exact t_drop [true, true, true] rfl (j_X12_secure_25 hfl C hr hn9  s2 a1 a2 (1) h)
    · have h := h.2 c11
      refine z_iload_n C dX12_secure_14 (i := 2) rfl rfl ?_
      refine z_ldc C dX12_secure_15 kc_X12_225 ?_
      refine z_icmp_le C dX12_secure_17 (tgt := 24) (by decide) (fun c17 => ?_) (fun c17 => ?_)
      · have h := h.1 c17
        refine z_iconst C dX12_secure_24 (v := 0) (by decide) ?_
        exact t_drop [true, true, true] rfl (j_X12_secure_25 hfl C hr hn9  s2 a1 a2 (0) h)
      · have h := h.2 c17
        refine z_iconst C dX12_secure_20 (v := 1) (by decide) ?_
        refine z_goto C dX12_secure_21 (tgt := 25) (by decide) ?_
        exact t_drop [true, true, true] rfl (j_X12_secure_25 hfl C hr hn9  s2 a1 a2 (1) h)
def w_X12_settle_113 (P : Int32 → zTs → Prop)  (st : zTs) (a1 : Int32) (a3 : Int32) : Prop := vp_in a1 30 ∧ (∀ s119 : zTs, s119 = zuA st 150 0 (a1 : Int32).toNatClampNeg (vp_nar .boolean 1) → ((a3 ≤ 0 → P a3 s119) ∧ (¬ a3 ≤ 0 → w_X12_ownOwner s119 a1 (fun (r127 : Int32) => (w_X12_otherOwner s119 a1 (fun (r132 : Int32) => (w_X12_pays s119 r127 r132 a3 (fun (s136 : zTs) => (P a3 s136)))))))))
set_option maxHeartbeats 4000000 in
set_option maxRecDepth 100000 in
theorem j_X12_settle_113 {P : Int32 → zTs → Prop}  (hfl : l.stackTraces = false) (C : zC Z p s m args meth c cX12_settle 4 RX12) (hr : meth.sig.returnType = (some .int)) (hn9 : True)  (st : zTs) (a1 : Int32) (a3 : Int32) (h : w_X12_settle_113 P st a1 a3) : zG Z ad0 h0 p l e ({ frames := 2, cells := 0, slots := 0, locals := 35 } : Room) s m args below meth c (MQ below (zQ Z ad0 h0 (zWi Z P)) args s 0 0 (zA Z)) 0 0 (zh Z zm1 st) 4 113 [some (.ref 100), some (.int (a1)), none, some (.int (a3))] [] := by
  unfold w_X12_settle_113 at h
  refine z_aload_n C dX12_settle_113 (i := 0) rfl rfl ?_
  refine t_get C dX12_settle_114 fl_X12_163 (k := 100) (i := 0) (by decide) rfl (fg_100_65 _ _ _) ?_
  refine z_iload_n C dX12_settle_117 (i := 1) rfl rfl ?_
  refine z_iconst C dX12_settle_118 (v := 1) (by decide) ?_
  obtain ⟨g119, h⟩ := h
  refine t_zast C dX12_settle_119 (k := 150) (i := 0) (by decide) rfl (fun s9 => sh_150 _ _ s9 _) g119 ?_
  refine t_tops (fun s119 es119 => ?_)
  have h := h s119 es119
  refine z_iload_n C dX12_settle_120 (i := 3) rfl rfl ?_
  refine z_if_le C dX12_settle_121 (tgt := 139) (by decide) (fun c121 => ?_) (fun c121 => ?_)
  · have h := h.1 c121
    refine z_iload_n C dX12_settle_139 (i := 3) rfl rfl ?_
    exact z_iret C dX12_settle_140 hr rfl ⟨_, _, rfl, rfl, h⟩ (Nat.le_of_ble_eq_true rfl) (Nat.le_of_ble_eq_true rfl)
  · have h := h.2 c121
    refine z_aload_n C dX12_settle_124 (i := 0) rfl rfl ?_
    refine z_aload_n C dX12_settle_125 (i := 0) rfl rfl ?_
    refine z_iload_n C dX12_settle_126 (i := 1) rfl rfl ?_
    refine t_callV C (rest := [.ref 100]) (c2 := 0) (s2 := 0) (kd := 100) (i := 0) [.int (a1)] dX12_settle_127 lk_X12_444 li_X12_ownOwner le_X12_ownOwner (c_X12_ownOwner hfl h) rfl rfl (by decide) rfl ⟨_, rfl⟩ rfl ⟨Nat.le_of_ble_eq_true rfl, Nat.le_of_ble_eq_true rfl⟩ (Nat.le_of_ble_eq_true rfl) ⟨Nat.le_of_ble_eq_true rfl, Nat.le_of_ble_eq_true rfl, Nat.le_of_ble_eq_true rfl, Nat.le_of_ble_eq_true rfl⟩ (k_Ri fun r127 h => ?_)
    refine z_aload_n C dX12_settle_130 (i := 0) rfl rfl ?_
    refine z_iload_n C dX12_settle_131 (i := 1) rfl rfl ?_
    refine t_callV C (rest := [.int (r127), .ref 100]) (c2 := 0) (s2 := 0) (kd := 100) (i := 0) [.int (a1)] dX12_settle_132 lk_X12_447 li_X12_otherOwner le_X12_otherOwner (c_X12_otherOwner hfl h) rfl rfl (by decide) rfl ⟨_, rfl⟩ rfl ⟨Nat.le_of_ble_eq_true rfl, Nat.le_of_ble_eq_true rfl⟩ (Nat.le_of_ble_eq_true rfl) ⟨Nat.le_of_ble_eq_true rfl, Nat.le_of_ble_eq_true rfl, Nat.le_of_ble_eq_true rfl, Nat.le_of_ble_eq_true rfl⟩ (k_Ri fun r132 h => ?_)
    refine z_iload_n C dX12_settle_135 (i := 3) rfl rfl ?_
    refine t_callV C (rest := []) (c2 := 0) (s2 := 0) (kd := 100) (i := 0) [.int (r127), .int (r132), .int (a3)] dX12_settle_136 lk_X12_450 li_X12_pays le_X12_pays (c_X12_pays hfl h) rfl rfl (by decide) rfl ⟨_, rfl⟩ rfl ⟨Nat.le_of_ble_eq_true rfl, Nat.le_of_ble_eq_true rfl⟩ (Nat.le_of_ble_eq_true rfl) ⟨Nat.le_of_ble_eq_true rfl, Nat.le_of_ble_eq_true rfl, Nat.le_of_ble_eq_true rfl, Nat.le_of_ble_eq_true rfl⟩ (k_Wv fun s136 h => ?_)
    refine z_iload_n C dX12_settle_139 (i := 3) rfl rfl ?_
    exact z_iret C dX12_settle_140 hr rfl ⟨_, _, rfl, rfl, h⟩ (Nat.le_of_ble_eq_true rfl) (Nat.le_of_ble_eq_true rfl)
def w_X12_settle_98 (P : Int32 → zTs → Prop)  (st : zTs) (a1 : Int32) (b0 : Int32) : Prop := (b0 ≤ 0 → w_X12_settle_113 P st a1 b0) ∧ (¬ b0 ≤ 0 → w_X12_isFull st (fun (r104 : Int32) => ((r104 = 0 → w_X12_settle_113 P st a1 b0) ∧ (¬ r104 = 0 → P (-3) st))))
set_option maxHeartbeats 4000000 in
set_option maxRecDepth 100000 in
theorem j_X12_settle_98 {P : Int32 → zTs → Prop}  (hfl : l.stackTraces = false) (C : zC Z p s m args meth c cX12_settle 4 RX12) (hr : meth.sig.returnType = (some .int)) (hn9 : True)  (st : zTs) (a1 : Int32) (b0 : Int32) (h : w_X12_settle_98 P st a1 b0) : zG Z ad0 h0 p l e ({ frames := 2, cells := 0, slots := 0, locals := 35 } : Room) s m args below meth c (MQ below (zQ Z ad0 h0 (zWi Z P)) args s 0 0 (zA Z)) 0 0 (zh Z zm1 st) 4 98 [some (.ref 100), some (.int (a1)), none, none] [.int (b0)] := by
  unfold w_X12_settle_98 at h
  refine z_istore_n C dX12_settle_98 (i := 3) (lc' := [some (.ref 100), some (.int (a1)), none, some (.int (b0))]) rfl (by decide) rfl ?_
  refine z_iload_n C dX12_settle_99 (i := 3) rfl rfl ?_
  refine z_if_le C dX12_settle_100 (tgt := 113) (by decide) (fun c100 => ?_) (fun c100 => ?_)
  · have h := h.1 c100
    exact t_drop [true, true, false, true] rfl (j_X12_settle_113 hfl C hr hn9  st a1 b0 h)
  · have h := h.2 c100
    refine z_aload_n C dX12_settle_103 (i := 0) rfl rfl ?_
    refine t_callV C (rest := []) (c2 := 0) (s2 := 0) (kd := 100) (i := 0) [] dX12_settle_104 lk_X12_440 li_X12_isFull le_X12_isFull (c_X12_isFull hfl h) rfl rfl (by decide) rfl ⟨_, rfl⟩ rfl ⟨Nat.le_of_ble_eq_true rfl, Nat.le_of_ble_eq_true rfl⟩ (Nat.le_of_ble_eq_true rfl) ⟨Nat.le_of_ble_eq_true rfl, Nat.le_of_ble_eq_true rfl, Nat.le_of_ble_eq_true rfl, Nat.le_of_ble_eq_true rfl⟩ (k_Ri fun r104 h => ?_)
    refine z_if_eq C dX12_settle_107 (tgt := 113) (by decide) (fun c107 => ?_) (fun c107 => ?_)
    · have h := h.1 c107
      exact t_drop [true, true, false, true] rfl (j_X12_settle_113 hfl C hr hn9  st a1 b0 h)
    · have h := h.2 c107
      refine z_bipush C dX12_settle_110 (v := (-3)) (by decide) ?_
      exact z_iret C dX12_settle_112 hr rfl ⟨_, _, rfl, rfl, h⟩ (Nat.le_of_ble_eq_true rfl) (Nat.le_of_ble_eq_true rfl)
def w_X12_settle_57 (P : Int32 → zTs → Prop)  (st : zTs) (a1 : Int32) (a2 : Int32) : Prop := vp_in a1 30 ∧ (((zgA st 149 0 (a1 : Int32).toNatClampNeg) = 0 → P (-2) st) ∧ (¬ (zgA st 149 0 (a1 : Int32).toNatClampNeg) = 0 → vp_in a1 30 ∧ (((zgA st 150 0 (a1 : Int32).toNatClampNeg) = 0 → vp_in a1 30 ∧ (((zgA st 149 0 (a1 : Int32).toNatClampNeg) ≤ a2 → vp_in a1 30 ∧ (w_X12_settle_98 P st a1 (zgA st 149 0 (a1 : Int32).toNatClampNeg))) ∧ (¬ (zgA st 149 0 (a1 : Int32).toNatClampNeg) ≤ a2 → w_X12_settle_98 P st a1 a2))) ∧ (¬ (zgA st 150 0 (a1 : Int32).toNatClampNeg) = 0 → P (-2) st))))
set_option maxHeartbeats 4000000 in
set_option maxRecDepth 100000 in
theorem j_X12_settle_57 {P : Int32 → zTs → Prop}  (hfl : l.stackTraces = false) (C : zC Z p s m args meth c cX12_settle 4 RX12) (hr : meth.sig.returnType = (some .int)) (hn9 : True)  (st : zTs) (a1 : Int32) (a2 : Int32) (h : w_X12_settle_57 P st a1 a2) : zG Z ad0 h0 p l e ({ frames := 2, cells := 0, slots := 0, locals := 35 } : Room) s m args below meth c (MQ below (zQ Z ad0 h0 (zWi Z P)) args s 0 0 (zA Z)) 0 0 (zh Z zm1 st) 4 57 [some (.ref 100), some (.int (a1)), some (.int (a2)), none] [] := by
  unfold w_X12_settle_57 at h
  refine z_aload_n C dX12_settle_57 (i := 0) rfl rfl ?_
  refine t_get C dX12_settle_58 fl_X12_160 (k := 100) (i := 0) (by decide) rfl (fg_100_64 _ _ _) ?_
  refine z_iload_n C dX12_settle_61 (i := 1) rfl rfl ?_
  obtain ⟨g62, h⟩ := h
  refine t_iald C dX12_settle_62 (k := 149) (i := 0) (by decide) rfl (sh_149 _ _ _ _) g62 ?_
  refine z_if_eq C dX12_settle_63 (tgt := 75) (by decide) (fun c63 => ?_) (fun c63 => ?_)
  · have h := h.1 c63
    refine z_bipush C dX12_settle_75 (v := (-2)) (by decide) ?_
    exact z_iret C dX12_settle_77 hr rfl ⟨_, _, rfl, rfl, h⟩ (Nat.le_of_ble_eq_true rfl) (Nat.le_of_ble_eq_true rfl)
  · have h := h.2 c63
    refine z_aload_n C dX12_settle_66 (i := 0) rfl rfl ?_
    refine t_get C dX12_settle_67 fl_X12_163 (k := 100) (i := 0) (by decide) rfl (fg_100_65 _ _ _) ?_
    refine z_iload_n C dX12_settle_70 (i := 1) rfl rfl ?_
    obtain ⟨g71, h⟩ := h
    refine t_zald C dX12_settle_71 (k := 150) (i := 0) (by decide) rfl (sh_150 _ _ _ _) g71 ?_
    refine z_if_eq C dX12_settle_72 (tgt := 78) (by decide) (fun c72 => ?_) (fun c72 => ?_)
    · have h := h.1 c72
      refine z_iload_n C dX12_settle_78 (i := 2) rfl rfl ?_
      refine z_aload_n C dX12_settle_79 (i := 0) rfl rfl ?_
      refine t_get C dX12_settle_80 fl_X12_160 (k := 100) (i := 0) (by decide) rfl (fg_100_64 _ _ _) ?_
      refine z_iload_n C dX12_settle_83 (i := 1) rfl rfl ?_
      obtain ⟨g84, h⟩ := h
      refine t_iald C dX12_settle_84 (k := 149) (i := 0) (by decide) rfl (sh_149 _ _ _ _) g84 ?_
      refine z_icmp_ge C dX12_settle_85 (tgt := 92) (by decide) (fun c85 => ?_) (fun c85 => ?_)
      · have h := h.1 c85
        refine z_aload_n C dX12_settle_92 (i := 0) rfl rfl ?_
        refine t_get C dX12_settle_93 fl_X12_160 (k := 100) (i := 0) (by decide) rfl (fg_100_64 _ _ _) ?_
        refine z_iload_n C dX12_settle_96 (i := 1) rfl rfl ?_
        obtain ⟨g97, h⟩ := h
        refine t_iald C dX12_settle_97 (k := 149) (i := 0) (by decide) rfl (sh_149 _ _ _ _) g97 ?_
        exact t_drop [true, true, false, false] rfl (j_X12_settle_98 hfl C hr hn9  st a1 (zgA st 149 0 (a1 : Int32).toNatClampNeg) h)
      · have h := h.2 c85
        refine z_iload_n C dX12_settle_88 (i := 2) rfl rfl ?_
        refine z_goto C dX12_settle_89 (tgt := 98) (by decide) ?_
        exact t_drop [true, true, false, false] rfl (j_X12_settle_98 hfl C hr hn9  st a1 a2 h)
    · have h := h.2 c72
      refine z_bipush C dX12_settle_75 (v := (-2)) (by decide) ?_
      exact z_iret C dX12_settle_77 hr rfl ⟨_, _, rfl, rfl, h⟩ (Nat.le_of_ble_eq_true rfl) (Nat.le_of_ble_eq_true rfl)
def w_X12_settle_24 (P : Int32 → zTs → Prop)  (st : zTs) (a1 : Int32) (a2 : Int32) (b0 : Int32) : Prop := w_X12_bad st b0 2 (fun (r25 : Int32) (s25 : zTs) => ((r25 = 0 → vp_in a1 30 ∧ (((zgA s25 126 0 (a1 : Int32).toNatClampNeg) = 7 → w_X12_settle_57 P s25 a1 a2) ∧ (¬ (zgA s25 126 0 (a1 : Int32).toNatClampNeg) = 7 → vp_in a1 30 ∧ (((zgA s25 126 0 (a1 : Int32).toNatClampNeg) = 6 → w_X12_settle_57 P s25 a1 a2) ∧ (¬ (zgA s25 126 0 (a1 : Int32).toNatClampNeg) = 6 → P (-1) s25))))) ∧ (¬ r25 = 0 → P 0 s25)))
set_option maxHeartbeats 4000000 in
set_option maxRecDepth 100000 in
theorem j_X12_settle_24 {P : Int32 → zTs → Prop}  (hfl : l.stackTraces = false) (C : zC Z p s m args meth c cX12_settle 4 RX12) (hr : meth.sig.returnType = (some .int)) (hn9 : True)  (st : zTs) (a1 : Int32) (a2 : Int32) (b0 : Int32) (h : w_X12_settle_24 P st a1 a2 b0) : zG Z ad0 h0 p l e ({ frames := 2, cells := 0, slots := 0, locals := 35 } : Room) s m args below meth c (MQ below (zQ Z ad0 h0 (zWi Z P)) args s 0 0 (zA Z)) 0 0 (zh Z zm1 st) 4 24 [some (.ref 100), some (.int (a1)), some (.int (a2)), none] [.int (b0), .ref 100] := by
  unfold w_X12_settle_24 at h
  refine z_iconst C dX12_settle_24 (v := 2) (by decide) ?_
  refine t_callV C (rest := []) (c2 := 0) (s2 := 0) (kd := 100) (i := 0) [.int (b0), .int (2)] dX12_settle_25 lk_X12_205 li_X12_bad le_X12_bad (c_X12_bad hfl h) rfl rfl (by decide) rfl ⟨_, rfl⟩ rfl ⟨Nat.le_of_ble_eq_true rfl, Nat.le_of_ble_eq_true rfl⟩ (Nat.le_of_ble_eq_true rfl) ⟨Nat.le_of_ble_eq_true rfl, Nat.le_of_ble_eq_true rfl, Nat.le_of_ble_eq_true rfl, Nat.le_of_ble_eq_true rfl⟩ (k_Wi fun r25 s25 h => ?_)
  refine z_if_eq C dX12_settle_28 (tgt := 33) (by decide) (fun c28 => ?_) (fun c28 => ?_)
  · have h := h.1 c28
    refine z_aload_n C dX12_settle_33 (i := 0) rfl rfl ?_
    refine t_get C dX12_settle_34 fl_X12_91 (k := 100) (i := 0) (by decide) rfl (fg_100_38 _ _ _) ?_
    refine z_iload_n C dX12_settle_37 (i := 1) rfl rfl ?_
    obtain ⟨g38, h⟩ := h
    refine t_iald C dX12_settle_38 (k := 126) (i := 0) (by decide) rfl (sh_126 _ _ _ _) g38 ?_
    refine z_bipush C dX12_settle_39 (v := 7) (by decide) ?_
    refine z_icmp_eq C dX12_settle_41 (tgt := 57) (by decide) (fun c41 => ?_) (fun c41 => ?_)
    · have h := h.1 c41
      exact t_drop [true, true, true, false] rfl (j_X12_settle_57 hfl C hr hn9  s25 a1 a2 h)
    · have h := h.2 c41
      refine z_aload_n C dX12_settle_44 (i := 0) rfl rfl ?_
      refine t_get C dX12_settle_45 fl_X12_91 (k := 100) (i := 0) (by decide) rfl (fg_100_38 _ _ _) ?_
      refine z_iload_n C dX12_settle_48 (i := 1) rfl rfl ?_
      obtain ⟨g49, h⟩ := h
      refine t_iald C dX12_settle_49 (k := 126) (i := 0) (by decide) rfl (sh_126 _ _ _ _) g49 ?_
      refine z_bipush C dX12_settle_50 (v := 6) (by decide) ?_
      refine z_icmp_eq C dX12_settle_52 (tgt := 57) (by decide) (fun c52 => ?_) (fun c52 => ?_)
      · have h := h.1 c52
        exact t_drop [true, true, true, false] rfl (j_X12_settle_57 hfl C hr hn9  s25 a1 a2 h)
      · have h := h.2 c52
        refine z_iconst C dX12_settle_55 (v := (-1)) (by decide) ?_
        exact z_iret C dX12_settle_56 hr rfl ⟨_, _, rfl, rfl, h⟩ (Nat.le_of_ble_eq_true rfl) (Nat.le_of_ble_eq_true rfl)
  · have h := h.2 c28
    refine z_iconst C dX12_settle_31 (v := 0) (by decide) ?_
    exact z_iret C dX12_settle_32 hr rfl ⟨_, _, rfl, rfl, h⟩ (Nat.le_of_ble_eq_true rfl) (Nat.le_of_ble_eq_true rfl)
def w_X12_settle (st : zTs) (a1 : Int32) (a2 : Int32) (P : Int32 → zTs → Prop) : Prop := w_X12_isWork st a1 (fun (r2 : Int32) (s2 : zTs) => ((r2 = 0 → P 0 s2) ∧ (¬ r2 = 0 → (a2 < 0 → w_X12_settle_24 P s2 a1 a2 (1)) ∧ (¬ a2 < 0 → (a2 ≤ 1000000 → w_X12_settle_24 P s2 a1 a2 (0)) ∧ (¬ a2 ≤ 1000000 → w_X12_settle_24 P s2 a1 a2 (1))))))
set_option maxHeartbeats 4000000 in
set_option maxRecDepth 100000 in
theorem c_X12_settle {Z : zZ} {l : Launch} (hfl : l.stackTraces = false) {st : zTs} {a1 : Int32} {a2 : Int32} {P : Int32 → zTs → Prop} (h : w_X12_settle st a1 a2 P) : zN Z l yX12_settle cX12_settle 4 (some .int) ({ frames := 2, cells := 0, slots := 0, locals := 35 } : Room) (zh Z zm1 st) [.ref 100, .int (a1), .int (a2)] (zWi Z P) := by
  unfold w_X12_settle at h
  refine z_enterN (by decide) (Nat.le_of_ble_eq_true rfl) (lc0 := [some (.ref 100), some (.int (a1)), some (.int (a2)), none]) rfl ?_
  intro p e s m args below meth c ad0 C hr _
  have hn9 : True := trivial
  replace C : zC Z p s m args meth c cX12_settle 4 RX12 := C
  refine z_aload_n C dX12_settle_0 (i := 0) rfl rfl ?_
  refine z_iload_n C dX12_settle_1 (i := 1) rfl rfl ?_
  refine t_callV C (rest := []) (c2 := 0) (s2 := 0) (kd := 100) (i := 0) [.int (a1)] dX12_settle_2 lk_X12_387 li_X12_isWork le_X12_isWork (c_X12_isWork hfl h) rfl rfl (by decide) rfl ⟨_, rfl⟩ rfl ⟨Nat.le_of_ble_eq_true rfl, Nat.le_of_ble_eq_true rfl⟩ (Nat.le_of_ble_eq_true rfl) ⟨Nat.le_of_ble_eq_true rfl, Nat.le_of_ble_eq_true rfl, Nat.le_of_ble_eq_true rfl, Nat.le_of_ble_eq_true rfl⟩ (k_Wi fun r2 s2 h => ?_)
  refine z_if_eq C dX12_settle_5 (tgt := 31) (by decide) (fun c5 => ?_) (fun c5 => ?_)
  · have h := h.1 c5
    refine z_iconst C dX12_settle_31 (v := 0) (by decide) ?_
    exact z_iret C dX12_settle_32 hr rfl ⟨_, _, rfl, rfl, h⟩ (Nat.le_of_ble_eq_true rfl) (Nat.le_of_ble_eq_true rfl)
  · have h := h.2 c5
    refine z_aload_n C dX12_settle_8 (i := 0) rfl rfl ?_
    refine z_iload_n C dX12_settle_9 (i := 2) rfl rfl ?_
    refine z_if_lt C dX12_settle_10 (tgt := 19) (by decide) (fun c10 => ?_) (fun c10 => ?_)
    · have h := h.1 c10
      refine z_iconst C dX12_settle_19 (v := 1) (by decide) ?_
      refine z_goto C dX12_settle_20 (tgt := 24) (by decide) ?_
      exact t_drop [true, true, true, false] rfl (j_X12_settle_24 hfl C hr hn9  s2 a1 a2 (1) h)
    · have h := h.2 c10
      refine z_iload_n C dX12_settle_13 (i := 2) rfl rfl ?_
      refine z_ldc C dX12_settle_14 kc_X12_225 ?_
      refine z_icmp_le C dX12_settle_16 (tgt := 23) (by decide) (fun c16 => ?_) (fun c16 => ?_)
      · have h := h.1 c16
        refine z_iconst C dX12_settle_23 (v := 0) (by decide) ?_
        exact t_drop [true, true, true, false] rfl (j_X12_settle_24 hfl C hr hn9  s2 a1 a2 (0) h)
      · have h := h.2 c16
        refine z_iconst C dX12_settle_19 (v := 1) (by decide) ?_
        refine z_goto C dX12_settle_20 (tgt := 24) (by decide) ?_
        exact t_drop [true, true, true, false] rfl (j_X12_settle_24 hfl C hr hn9  s2 a1 a2 (1) h)
def w_X12_hand_44 (P : Int32 → zTs → Prop)  (st : zTs) (a1 : Int32) (b0 : Int32) : Prop := w_X12_bad st b0 2 (fun (r45 : Int32) (s45 : zTs) => ((r45 = 0 → vp_in (zgF s45 100 0 66) 5 ∧ (∀ s62 : zTs, s62 = zuA s45 151 0 (zgF s45 100 0 66 : Int32).toNatClampNeg a1 → (∀ s70 : zTs, s70 = zuF s62 100 0 66 ((zgF s62 100 0 66) + 1) → (P ((zgF s70 100 0 66) - 1) s70)))) ∧ (¬ r45 = 0 → P 0 s45)))
set_option maxHeartbeats 4000000 in
set_option maxRecDepth 100000 in
theorem j_X12_hand_44 {P : Int32 → zTs → Prop}  (hfl : l.stackTraces = false) (C : zC Z p s m args meth c cX12_hand 2 RX12) (hr : meth.sig.returnType = (some .int)) (hn9 : True)  (st : zTs) (a1 : Int32) (b0 : Int32) (h : w_X12_hand_44 P st a1 b0) : zG Z ad0 h0 p l e ({ frames := 2, cells := 0, slots := 0, locals := 34 } : Room) s m args below meth c (MQ below (zQ Z ad0 h0 (zWi Z P)) args s 0 0 (zA Z)) 0 0 (zh Z zm1 st) 2 44 [some (.ref 100), some (.int (a1))] [.int (b0), .ref 100] := by
  unfold w_X12_hand_44 at h
  refine z_iconst C dX12_hand_44 (v := 2) (by decide) ?_
  refine t_callV C (rest := []) (c2 := 0) (s2 := 0) (kd := 100) (i := 0) [.int (b0), .int (2)] dX12_hand_45 lk_X12_205 li_X12_bad le_X12_bad (c_X12_bad hfl h) rfl rfl (by decide) rfl ⟨_, rfl⟩ rfl ⟨Nat.le_of_ble_eq_true rfl, Nat.le_of_ble_eq_true rfl⟩ (Nat.le_of_ble_eq_true rfl) ⟨Nat.le_of_ble_eq_true rfl, Nat.le_of_ble_eq_true rfl, Nat.le_of_ble_eq_true rfl, Nat.le_of_ble_eq_true rfl⟩ (k_Wi fun r45 s45 h => ?_)
  refine z_if_eq C dX12_hand_48 (tgt := 53) (by decide) (fun c48 => ?_) (fun c48 => ?_)
  · have h := h.1 c48
    refine z_aload_n C dX12_hand_53 (i := 0) rfl rfl ?_
    refine t_get C dX12_hand_54 fl_X12_166 (k := 100) (i := 0) (by decide) rfl (fg_100_68 _ _ _) ?_
    refine z_aload_n C dX12_hand_57 (i := 0) rfl rfl ?_
    refine t_get C dX12_hand_58 fl_X12_465 (k := 100) (i := 0) (by decide) rfl (fg_100_66 _ _ _) ?_
    refine z_iload_n C dX12_hand_61 (i := 1) rfl rfl ?_
    obtain ⟨g62, h⟩ := h
    refine t_iast C dX12_hand_62 (k := 151) (i := 0) (by decide) rfl (fun s9 => sh_151 _ _ s9 _) g62 ?_
    refine t_tops (fun s62 es62 => ?_)
    have h := h s62 es62
    refine z_aload_n C dX12_hand_63 (i := 0) rfl rfl ?_
    refine z_dup C dX12_hand_64 rfl ?_
    refine t_get C dX12_hand_65 fl_X12_465 (k := 100) (i := 0) (by decide) rfl (fg_100_66 _ _ _) ?_
    refine z_iconst C dX12_hand_68 (v := 1) (by decide) ?_
    refine z_iadd C dX12_hand_69 ?_
    refine t_put C dX12_hand_70 fq_X12_465 (Or.inl rfl) (k := 100) (i := 0) (by decide) rfl ⟨rfl, rfl⟩ (fp_100_66 _ _ _ _ _) ?_
    refine t_tops (fun s70 es70 => ?_)
    have h := h s70 es70
    refine z_aload_n C dX12_hand_73 (i := 0) rfl rfl ?_
    refine t_get C dX12_hand_74 fl_X12_465 (k := 100) (i := 0) (by decide) rfl (fg_100_66 _ _ _) ?_
    refine z_iconst C dX12_hand_77 (v := 1) (by decide) ?_
    refine z_isub C dX12_hand_78 ?_
    exact z_iret C dX12_hand_79 hr rfl ⟨_, _, rfl, rfl, h⟩ (Nat.le_of_ble_eq_true rfl) (Nat.le_of_ble_eq_true rfl)
  · have h := h.2 c48
    refine z_iconst C dX12_hand_51 (v := 0) (by decide) ?_
    exact z_iret C dX12_hand_52 hr rfl ⟨_, _, rfl, rfl, h⟩ (Nat.le_of_ble_eq_true rfl) (Nat.le_of_ble_eq_true rfl)
def w_X12_hand_23 (P : Int32 → zTs → Prop)  (st : zTs) (a1 : Int32) (b0 : Int32) : Prop := w_X12_bad st b0 1 (fun (r24 : Int32) (s24 : zTs) => ((r24 = 0 → ((zgF s24 100 0 66) = 5 → w_X12_hand_44 P s24 a1 (1)) ∧ (¬ (zgF s24 100 0 66) = 5 → w_X12_hand_44 P s24 a1 (0))) ∧ (¬ r24 = 0 → P 0 s24)))
set_option maxHeartbeats 4000000 in
set_option maxRecDepth 100000 in
theorem j_X12_hand_23 {P : Int32 → zTs → Prop}  (hfl : l.stackTraces = false) (C : zC Z p s m args meth c cX12_hand 2 RX12) (hr : meth.sig.returnType = (some .int)) (hn9 : True)  (st : zTs) (a1 : Int32) (b0 : Int32) (h : w_X12_hand_23 P st a1 b0) : zG Z ad0 h0 p l e ({ frames := 2, cells := 0, slots := 0, locals := 34 } : Room) s m args below meth c (MQ below (zQ Z ad0 h0 (zWi Z P)) args s 0 0 (zA Z)) 0 0 (zh Z zm1 st) 2 23 [some (.ref 100), some (.int (a1))] [.int (b0), .ref 100] := by
  unfold w_X12_hand_23 at h
  refine z_iconst C dX12_hand_23 (v := 1) (by decide) ?_
  refine t_callV C (rest := []) (c2 := 0) (s2 := 0) (kd := 100) (i := 0) [.int (b0), .int (1)] dX12_hand_24 lk_X12_205 li_X12_bad le_X12_bad (c_X12_bad hfl h) rfl rfl (by decide) rfl ⟨_, rfl⟩ rfl ⟨Nat.le_of_ble_eq_true rfl, Nat.le_of_ble_eq_true rfl⟩ (Nat.le_of_ble_eq_true rfl) ⟨Nat.le_of_ble_eq_true rfl, Nat.le_of_ble_eq_true rfl, Nat.le_of_ble_eq_true rfl, Nat.le_of_ble_eq_true rfl⟩ (k_Wi fun r24 s24 h => ?_)
  refine z_if_ne C dX12_hand_27 (tgt := 51) (by decide) (fun c27 => ?_) (fun c27 => ?_)
  · have h := h.2 c27
    refine z_iconst C dX12_hand_51 (v := 0) (by decide) ?_
    exact z_iret C dX12_hand_52 hr rfl ⟨_, _, rfl, rfl, h⟩ (Nat.le_of_ble_eq_true rfl) (Nat.le_of_ble_eq_true rfl)
  · have h := h.1 c27
    refine z_aload_n C dX12_hand_30 (i := 0) rfl rfl ?_
    refine z_aload_n C dX12_hand_31 (i := 0) rfl rfl ?_
    refine t_get C dX12_hand_32 fl_X12_465 (k := 100) (i := 0) (by decide) rfl (fg_100_66 _ _ _) ?_
    refine z_iconst C dX12_hand_35 (v := 5) (by decide) ?_
    refine z_icmp_ne C dX12_hand_36 (tgt := 43) (by decide) (fun c36 => ?_) (fun c36 => ?_)
    · have h := h.2 c36
      refine z_iconst C dX12_hand_43 (v := 0) (by decide) ?_
      exact t_drop [true, true] rfl (j_X12_hand_44 hfl C hr hn9  s24 a1 (0) h)
    · have h := h.1 c36
      refine z_iconst C dX12_hand_39 (v := 1) (by decide) ?_
      refine z_goto C dX12_hand_40 (tgt := 44) (by decide) ?_
      exact t_drop [true, true] rfl (j_X12_hand_44 hfl C hr hn9  s24 a1 (1) h)
def w_X12_hand (st : zTs) (a1 : Int32) (P : Int32 → zTs → Prop) : Prop := ∀ s2 : zTs, s2 = zuF st 100 0 0 0 → ((a1 < (-50) → w_X12_hand_23 P s2 a1 (1)) ∧ (¬ a1 < (-50) → (a1 ≤ 50 → w_X12_hand_23 P s2 a1 (0)) ∧ (¬ a1 ≤ 50 → w_X12_hand_23 P s2 a1 (1))))
set_option maxHeartbeats 4000000 in
set_option maxRecDepth 100000 in
theorem c_X12_hand {Z : zZ} {l : Launch} (hfl : l.stackTraces = false) {st : zTs} {a1 : Int32} {P : Int32 → zTs → Prop} (h : w_X12_hand st a1 P) : zN Z l yX12_hand cX12_hand 2 (some .int) ({ frames := 2, cells := 0, slots := 0, locals := 34 } : Room) (zh Z zm1 st) [.ref 100, .int (a1)] (zWi Z P) := by
  unfold w_X12_hand at h
  refine z_enterN (by decide) (Nat.le_of_ble_eq_true rfl) (lc0 := [some (.ref 100), some (.int (a1))]) rfl ?_
  intro p e s m args below meth c ad0 C hr _
  have hn9 : True := trivial
  replace C : zC Z p s m args meth c cX12_hand 2 RX12 := C
  refine z_aload_n C dX12_hand_0 (i := 0) rfl rfl ?_
  refine z_iconst C dX12_hand_1 (v := 0) (by decide) ?_
  refine t_put C dX12_hand_2 fq_X12_199 (Or.inl rfl) (k := 100) (i := 0) (by decide) rfl ⟨rfl, rfl⟩ (fp_100_0 _ _ _ _ _) ?_
  refine t_tops (fun s2 es2 => ?_)
  have h := h s2 es2
  refine z_aload_n C dX12_hand_5 (i := 0) rfl rfl ?_
  refine z_iload_n C dX12_hand_6 (i := 1) rfl rfl ?_
  refine z_bipush C dX12_hand_7 (v := (-50)) (by decide) ?_
  refine z_icmp_lt C dX12_hand_9 (tgt := 18) (by decide) (fun c9 => ?_) (fun c9 => ?_)
  · have h := h.1 c9
    refine z_iconst C dX12_hand_18 (v := 1) (by decide) ?_
    refine z_goto C dX12_hand_19 (tgt := 23) (by decide) ?_
    exact t_drop [true, true] rfl (j_X12_hand_23 hfl C hr hn9  s2 a1 (1) h)
  · have h := h.2 c9
    refine z_iload_n C dX12_hand_12 (i := 1) rfl rfl ?_
    refine z_bipush C dX12_hand_13 (v := 50) (by decide) ?_
    refine z_icmp_le C dX12_hand_15 (tgt := 22) (by decide) (fun c15 => ?_) (fun c15 => ?_)
    · have h := h.1 c15
      refine z_iconst C dX12_hand_22 (v := 0) (by decide) ?_
      exact t_drop [true, true] rfl (j_X12_hand_23 hfl C hr hn9  s2 a1 (0) h)
    · have h := h.2 c15
      refine z_iconst C dX12_hand_18 (v := 1) (by decide) ?_
      refine z_goto C dX12_hand_19 (tgt := 23) (by decide) ?_
      exact t_drop [true, true] rfl (j_X12_hand_23 hfl C hr hn9  s2 a1 (1) h)
def w_X12_survey_45 (P : Int32 → zTs → Prop)  (st : zTs) (a1 : Int32) (b0 : Int32) : Prop := w_X12_bad st b0 2 (fun (r46 : Int32) (s46 : zTs) => ((r46 = 0 → vp_in (zgF s46 100 0 67) 10 ∧ (∀ s63 : zTs, s63 = zuA s46 152 0 (zgF s46 100 0 67 : Int32).toNatClampNeg a1 → (∀ s71 : zTs, s71 = zuF s63 100 0 67 ((zgF s63 100 0 67) + 1) → (P ((zgF s71 100 0 67) - 1) s71)))) ∧ (¬ r46 = 0 → P 0 s46)))
set_option maxHeartbeats 4000000 in
set_option maxRecDepth 100000 in
theorem j_X12_survey_45 {P : Int32 → zTs → Prop}  (hfl : l.stackTraces = false) (C : zC Z p s m args meth c cX12_survey 2 RX12) (hr : meth.sig.returnType = (some .int)) (hn9 : True)  (st : zTs) (a1 : Int32) (b0 : Int32) (h : w_X12_survey_45 P st a1 b0) : zG Z ad0 h0 p l e ({ frames := 2, cells := 0, slots := 0, locals := 34 } : Room) s m args below meth c (MQ below (zQ Z ad0 h0 (zWi Z P)) args s 0 0 (zA Z)) 0 0 (zh Z zm1 st) 2 45 [some (.ref 100), some (.int (a1))] [.int (b0), .ref 100] := by
  unfold w_X12_survey_45 at h
  refine z_iconst C dX12_survey_45 (v := 2) (by decide) ?_
  refine t_callV C (rest := []) (c2 := 0) (s2 := 0) (kd := 100) (i := 0) [.int (b0), .int (2)] dX12_survey_46 lk_X12_205 li_X12_bad le_X12_bad (c_X12_bad hfl h) rfl rfl (by decide) rfl ⟨_, rfl⟩ rfl ⟨Nat.le_of_ble_eq_true rfl, Nat.le_of_ble_eq_true rfl⟩ (Nat.le_of_ble_eq_true rfl) ⟨Nat.le_of_ble_eq_true rfl, Nat.le_of_ble_eq_true rfl, Nat.le_of_ble_eq_true rfl, Nat.le_of_ble_eq_true rfl⟩ (k_Wi fun r46 s46 h => ?_)
  refine z_if_eq C dX12_survey_49 (tgt := 54) (by decide) (fun c49 => ?_) (fun c49 => ?_)
  · have h := h.1 c49
    refine z_aload_n C dX12_survey_54 (i := 0) rfl rfl ?_
    refine t_get C dX12_survey_55 fl_X12_169 (k := 100) (i := 0) (by decide) rfl (fg_100_69 _ _ _) ?_
    refine z_aload_n C dX12_survey_58 (i := 0) rfl rfl ?_
    refine t_get C dX12_survey_59 fl_X12_468 (k := 100) (i := 0) (by decide) rfl (fg_100_67 _ _ _) ?_
    refine z_iload_n C dX12_survey_62 (i := 1) rfl rfl ?_
    obtain ⟨g63, h⟩ := h
    refine t_iast C dX12_survey_63 (k := 152) (i := 0) (by decide) rfl (fun s9 => sh_152 _ _ s9 _) g63 ?_
    refine t_tops (fun s63 es63 => ?_)
    have h := h s63 es63
    refine z_aload_n C dX12_survey_64 (i := 0) rfl rfl ?_
    refine z_dup C dX12_survey_65 rfl ?_
    refine t_get C dX12_survey_66 fl_X12_468 (k := 100) (i := 0) (by decide) rfl (fg_100_67 _ _ _) ?_
    refine z_iconst C dX12_survey_69 (v := 1) (by decide) ?_
    refine z_iadd C dX12_survey_70 ?_
    refine t_put C dX12_survey_71 fq_X12_468 (Or.inl rfl) (k := 100) (i := 0) (by decide) rfl ⟨rfl, rfl⟩ (fp_100_67 _ _ _ _ _) ?_
    refine t_tops (fun s71 es71 => ?_)
    have h := h s71 es71
    refine z_aload_n C dX12_survey_74 (i := 0) rfl rfl ?_
    refine t_get C dX12_survey_75 fl_X12_468 (k := 100) (i := 0) (by decide) rfl (fg_100_67 _ _ _) ?_
    refine z_iconst C dX12_survey_78 (v := 1) (by decide) ?_
    refine z_isub C dX12_survey_79 ?_
    exact z_iret C dX12_survey_80 hr rfl ⟨_, _, rfl, rfl, h⟩ (Nat.le_of_ble_eq_true rfl) (Nat.le_of_ble_eq_true rfl)
  · have h := h.2 c49
    refine z_iconst C dX12_survey_52 (v := 0) (by decide) ?_
    exact z_iret C dX12_survey_53 hr rfl ⟨_, _, rfl, rfl, h⟩ (Nat.le_of_ble_eq_true rfl) (Nat.le_of_ble_eq_true rfl)
def w_X12_survey_23 (P : Int32 → zTs → Prop)  (st : zTs) (a1 : Int32) (b0 : Int32) : Prop := w_X12_bad st b0 1 (fun (r24 : Int32) (s24 : zTs) => ((r24 = 0 → ((zgF s24 100 0 67) = 10 → w_X12_survey_45 P s24 a1 (1)) ∧ (¬ (zgF s24 100 0 67) = 10 → w_X12_survey_45 P s24 a1 (0))) ∧ (¬ r24 = 0 → P 0 s24)))
set_option maxHeartbeats 4000000 in
set_option maxRecDepth 100000 in
theorem j_X12_survey_23 {P : Int32 → zTs → Prop}  (hfl : l.stackTraces = false) (C : zC Z p s m args meth c cX12_survey 2 RX12) (hr : meth.sig.returnType = (some .int)) (hn9 : True)  (st : zTs) (a1 : Int32) (b0 : Int32) (h : w_X12_survey_23 P st a1 b0) : zG Z ad0 h0 p l e ({ frames := 2, cells := 0, slots := 0, locals := 34 } : Room) s m args below meth c (MQ below (zQ Z ad0 h0 (zWi Z P)) args s 0 0 (zA Z)) 0 0 (zh Z zm1 st) 2 23 [some (.ref 100), some (.int (a1))] [.int (b0), .ref 100] := by
  unfold w_X12_survey_23 at h
  refine z_iconst C dX12_survey_23 (v := 1) (by decide) ?_
  refine t_callV C (rest := []) (c2 := 0) (s2 := 0) (kd := 100) (i := 0) [.int (b0), .int (1)] dX12_survey_24 lk_X12_205 li_X12_bad le_X12_bad (c_X12_bad hfl h) rfl rfl (by decide) rfl ⟨_, rfl⟩ rfl ⟨Nat.le_of_ble_eq_true rfl, Nat.le_of_ble_eq_true rfl⟩ (Nat.le_of_ble_eq_true rfl) ⟨Nat.le_of_ble_eq_true rfl, Nat.le_of_ble_eq_true rfl, Nat.le_of_ble_eq_true rfl, Nat.le_of_ble_eq_true rfl⟩ (k_Wi fun r24 s24 h => ?_)
  refine z_if_ne C dX12_survey_27 (tgt := 52) (by decide) (fun c27 => ?_) (fun c27 => ?_)
  · have h := h.2 c27
    refine z_iconst C dX12_survey_52 (v := 0) (by decide) ?_
    exact z_iret C dX12_survey_53 hr rfl ⟨_, _, rfl, rfl, h⟩ (Nat.le_of_ble_eq_true rfl) (Nat.le_of_ble_eq_true rfl)
  · have h := h.1 c27
    refine z_aload_n C dX12_survey_30 (i := 0) rfl rfl ?_
    refine z_aload_n C dX12_survey_31 (i := 0) rfl rfl ?_
    refine t_get C dX12_survey_32 fl_X12_468 (k := 100) (i := 0) (by decide) rfl (fg_100_67 _ _ _) ?_
    refine z_bipush C dX12_survey_35 (v := 10) (by decide) ?_
    refine z_icmp_ne C dX12_survey_37 (tgt := 44) (by decide) (fun c37 => ?_) (fun c37 => ?_)
    · have h := h.2 c37
      refine z_iconst C dX12_survey_44 (v := 0) (by decide) ?_
      exact t_drop [true, true] rfl (j_X12_survey_45 hfl C hr hn9  s24 a1 (0) h)
    · have h := h.1 c37
      refine z_iconst C dX12_survey_40 (v := 1) (by decide) ?_
      refine z_goto C dX12_survey_41 (tgt := 45) (by decide) ?_
      exact t_drop [true, true] rfl (j_X12_survey_45 hfl C hr hn9  s24 a1 (1) h)
def w_X12_survey (st : zTs) (a1 : Int32) (P : Int32 → zTs → Prop) : Prop := ∀ s2 : zTs, s2 = zuF st 100 0 0 0 → ((a1 < 0 → w_X12_survey_23 P s2 a1 (1)) ∧ (¬ a1 < 0 → (a1 < (zgF s2 100 0 66) → w_X12_survey_23 P s2 a1 (0)) ∧ (¬ a1 < (zgF s2 100 0 66) → w_X12_survey_23 P s2 a1 (1))))
set_option maxHeartbeats 4000000 in
set_option maxRecDepth 100000 in
theorem c_X12_survey {Z : zZ} {l : Launch} (hfl : l.stackTraces = false) {st : zTs} {a1 : Int32} {P : Int32 → zTs → Prop} (h : w_X12_survey st a1 P) : zN Z l yX12_survey cX12_survey 2 (some .int) ({ frames := 2, cells := 0, slots := 0, locals := 34 } : Room) (zh Z zm1 st) [.ref 100, .int (a1)] (zWi Z P) := by
  unfold w_X12_survey at h
  refine z_enterN (by decide) (Nat.le_of_ble_eq_true rfl) (lc0 := [some (.ref 100), some (.int (a1))]) rfl ?_
  intro p e s m args below meth c ad0 C hr _
  have hn9 : True := trivial
  replace C : zC Z p s m args meth c cX12_survey 2 RX12 := C
  refine z_aload_n C dX12_survey_0 (i := 0) rfl rfl ?_
  refine z_iconst C dX12_survey_1 (v := 0) (by decide) ?_
  refine t_put C dX12_survey_2 fq_X12_199 (Or.inl rfl) (k := 100) (i := 0) (by decide) rfl ⟨rfl, rfl⟩ (fp_100_0 _ _ _ _ _) ?_
  refine t_tops (fun s2 es2 => ?_)
  have h := h s2 es2
  refine z_aload_n C dX12_survey_5 (i := 0) rfl rfl ?_
  refine z_iload_n C dX12_survey_6 (i := 1) rfl rfl ?_
  refine z_if_lt C dX12_survey_7 (tgt := 18) (by decide) (fun c7 => ?_) (fun c7 => ?_)
  · have h := h.1 c7
    refine z_iconst C dX12_survey_18 (v := 1) (by decide) ?_
    refine z_goto C dX12_survey_19 (tgt := 23) (by decide) ?_
    exact t_drop [true, true] rfl (j_X12_survey_23 hfl C hr hn9  s2 a1 (1) h)
  · have h := h.2 c7
    refine z_iload_n C dX12_survey_10 (i := 1) rfl rfl ?_
    refine z_aload_n C dX12_survey_11 (i := 0) rfl rfl ?_
    refine t_get C dX12_survey_12 fl_X12_465 (k := 100) (i := 0) (by decide) rfl (fg_100_66 _ _ _) ?_
    refine z_icmp_lt C dX12_survey_15 (tgt := 22) (by decide) (fun c15 => ?_) (fun c15 => ?_)
    · have h := h.1 c15
      refine z_iconst C dX12_survey_22 (v := 0) (by decide) ?_
      exact t_drop [true, true] rfl (j_X12_survey_23 hfl C hr hn9  s2 a1 (0) h)
    · have h := h.2 c15
      refine z_iconst C dX12_survey_18 (v := 1) (by decide) ?_
      refine z_goto C dX12_survey_19 (tgt := 23) (by decide) ?_
      exact t_drop [true, true] rfl (j_X12_survey_23 hfl C hr hn9  s2 a1 (1) h)
def w_X12_isSurvey (st : zTs) (a1 : Int32) (P : Int32 → Prop) : Prop := (a1 < 0 → P 0) ∧ (¬ a1 < 0 → ((zgF st 100 0 67) ≤ a1 → P 0) ∧ (¬ (zgF st 100 0 67) ≤ a1 → P 1))
set_option maxHeartbeats 4000000 in
set_option maxRecDepth 100000 in
theorem c_X12_isSurvey {Z : zZ} {l : Launch} (hfl : l.stackTraces = false) {st : zTs} {a1 : Int32} {P : Int32 → Prop} (h : w_X12_isSurvey st a1 P) : zN Z l yX12_isSurvey cX12_isSurvey 2 (some .boolean) ({ frames := 1, cells := 0, slots := 0, locals := 12 } : Room) (zh Z zm1 st) [.ref 100, .int (a1)] (zRi Z st P) := by
  unfold w_X12_isSurvey at h
  refine z_enterN (by decide) (Nat.le_of_ble_eq_true rfl) (lc0 := [some (.ref 100), some (.int (a1))]) rfl ?_
  intro p e s m args below meth c ad0 C hr _
  have hn9 : True := trivial
  replace C : zC Z p s m args meth c cX12_isSurvey 2 RX12 := C
  refine z_iload_n C dX12_isSurvey_0 (i := 1) rfl rfl ?_
  refine z_if_lt C dX12_isSurvey_1 (tgt := 16) (by decide) (fun c1 => ?_) (fun c1 => ?_)
  · have h := h.1 c1
    refine z_iconst C dX12_isSurvey_16 (v := 0) (by decide) ?_
    exact z_iret C dX12_isSurvey_17 hr rfl ⟨rfl, _, rfl, h⟩ (Nat.le_of_ble_eq_true rfl) (Nat.le_of_ble_eq_true rfl)
  · have h := h.2 c1
    refine z_iload_n C dX12_isSurvey_4 (i := 1) rfl rfl ?_
    refine z_aload_n C dX12_isSurvey_5 (i := 0) rfl rfl ?_
    refine t_get C dX12_isSurvey_6 fl_X12_468 (k := 100) (i := 0) (by decide) rfl (fg_100_67 _ _ _) ?_
    refine z_icmp_ge C dX12_isSurvey_9 (tgt := 16) (by decide) (fun c9 => ?_) (fun c9 => ?_)
    · have h := h.1 c9
      refine z_iconst C dX12_isSurvey_16 (v := 0) (by decide) ?_
      exact z_iret C dX12_isSurvey_17 hr rfl ⟨rfl, _, rfl, h⟩ (Nat.le_of_ble_eq_true rfl) (Nat.le_of_ble_eq_true rfl)
    · have h := h.2 c9
      refine z_iconst C dX12_isSurvey_12 (v := 1) (by decide) ?_
      refine z_goto C dX12_isSurvey_13 (tgt := 17) (by decide) ?_
      exact z_iret C dX12_isSurvey_17 hr rfl ⟨rfl, _, rfl, h⟩ (Nat.le_of_ble_eq_true rfl) (Nat.le_of_ble_eq_true rfl)
def w_X12_crack_106 (P : Int32 → zTs → Prop)  (st : zTs) (a1 : Int32) (a2 : Int32) (a3 : Int32) (a4 : Int32) : Prop := vp_in ((20 * a1) + a4) 200 ∧ (∀ s118 : zTs, s118 = zuA st 154 0 ((20 * a1) + a4 : Int32).toNatClampNeg a2 → (vp_in ((20 * a1) + a4) 200 ∧ (∀ s131 : zTs, s131 = zuA s118 155 0 ((20 * a1) + a4 : Int32).toNatClampNeg a3 → (vp_in a1 10 ∧ (vp_in a1 10 ∧ (∀ s141 : zTs, s141 = zuA s131 153 0 (a1 : Int32).toNatClampNeg ((zgA s131 153 0 (a1 : Int32).toNatClampNeg) + 1) → (P a4 s141)))))))
set_option maxHeartbeats 4000000 in
set_option maxRecDepth 100000 in
theorem j_X12_crack_106 {P : Int32 → zTs → Prop}  (hfl : l.stackTraces = false) (C : zC Z p s m args meth c cX12_crack 5 RX12) (hr : meth.sig.returnType = (some .int)) (hn9 : True)  (st : zTs) (a1 : Int32) (a2 : Int32) (a3 : Int32) (a4 : Int32) (h : w_X12_crack_106 P st a1 a2 a3 a4) : zG Z ad0 h0 p l e ({ frames := 2, cells := 0, slots := 0, locals := 34 } : Room) s m args below meth c (MQ below (zQ Z ad0 h0 (zWi Z P)) args s 0 0 (zA Z)) 0 0 (zh Z zm1 st) 5 106 [some (.ref 100), some (.int (a1)), some (.int (a2)), some (.int (a3)), some (.int (a4))] [] := by
  unfold w_X12_crack_106 at h
  refine z_aload_n C dX12_crack_106 (i := 0) rfl rfl ?_
  refine t_get C dX12_crack_107 fl_X12_175 (k := 100) (i := 0) (by decide) rfl (fg_100_71 _ _ _) ?_
  refine z_bipush C dX12_crack_110 (v := 20) (by decide) ?_
  refine z_iload_n C dX12_crack_112 (i := 1) rfl rfl ?_
  refine z_imul C dX12_crack_113 ?_
  refine z_iload C dX12_crack_114 rfl ?_
  refine z_iadd C dX12_crack_116 ?_
  refine z_iload_n C dX12_crack_117 (i := 2) rfl rfl ?_
  obtain ⟨g118, h⟩ := h
  refine t_iast C dX12_crack_118 (k := 154) (i := 0) (by decide) rfl (fun s9 => sh_154 _ _ s9 _) g118 ?_
  refine t_tops (fun s118 es118 => ?_)
  have h := h s118 es118
  refine z_aload_n C dX12_crack_119 (i := 0) rfl rfl ?_
  refine t_get C dX12_crack_120 fl_X12_178 (k := 100) (i := 0) (by decide) rfl (fg_100_72 _ _ _) ?_
  refine z_bipush C dX12_crack_123 (v := 20) (by decide) ?_
  refine z_iload_n C dX12_crack_125 (i := 1) rfl rfl ?_
  refine z_imul C dX12_crack_126 ?_
  refine z_iload C dX12_crack_127 rfl ?_
  refine z_iadd C dX12_crack_129 ?_
  refine z_iload_n C dX12_crack_130 (i := 3) rfl rfl ?_
  obtain ⟨g131, h⟩ := h
  refine t_iast C dX12_crack_131 (k := 155) (i := 0) (by decide) rfl (fun s9 => sh_155 _ _ s9 _) g131 ?_
  refine t_tops (fun s131 es131 => ?_)
  have h := h s131 es131
  refine z_aload_n C dX12_crack_132 (i := 0) rfl rfl ?_
  refine t_get C dX12_crack_133 fl_X12_172 (k := 100) (i := 0) (by decide) rfl (fg_100_70 _ _ _) ?_
  refine z_iload_n C dX12_crack_136 (i := 1) rfl rfl ?_
  refine z_dup2 C dX12_crack_137 rfl rfl ?_
  obtain ⟨g138, h⟩ := h
  refine t_iald C dX12_crack_138 (k := 153) (i := 0) (by decide) rfl (sh_153 _ _ _ _) g138 ?_
  refine z_iconst C dX12_crack_139 (v := 1) (by decide) ?_
  refine z_iadd C dX12_crack_140 ?_
  obtain ⟨g141, h⟩ := h
  refine t_iast C dX12_crack_141 (k := 153) (i := 0) (by decide) rfl (fun s9 => sh_153 _ _ s9 _) g141 ?_
  refine t_tops (fun s141 es141 => ?_)
  have h := h s141 es141
  refine z_iload C dX12_crack_142 rfl ?_
  exact z_iret C dX12_crack_144 hr rfl ⟨_, _, rfl, rfl, h⟩ (Nat.le_of_ble_eq_true rfl) (Nat.le_of_ble_eq_true rfl)
def w_X12_crack_54 (P : Int32 → zTs → Prop)  (st : zTs) (a1 : Int32) (a2 : Int32) (a3 : Int32) (b0 : Int32) : Prop := w_X12_bad st b0 2 (fun (r55 : Int32) (s55 : zTs) => ((r55 = 0 → vp_in a1 10 ∧ (∀ x69 : Int32, x69 = zgA s55 153 0 (a1 : Int32).toNatClampNeg → ((x69 = 20 → P (-1) s55) ∧ (¬ x69 = 20 → (x69 ≤ 0 → w_X12_crack_106 P s55 a1 a2 a3 x69) ∧ (¬ x69 ≤ 0 → vp_in (((20 * a1) + x69) - 1) 200 ∧ (((zgA s55 154 0 (((20 * a1) + x69) - 1 : Int32).toNatClampNeg) ≤ a2 → w_X12_crack_106 P s55 a1 a2 a3 x69) ∧ (¬ (zgA s55 154 0 (((20 * a1) + x69) - 1 : Int32).toNatClampNeg) ≤ a2 → P (-2) s55))))))) ∧ (¬ r55 = 0 → P 0 s55)))
set_option maxHeartbeats 4000000 in
set_option maxRecDepth 100000 in
theorem j_X12_crack_54 {P : Int32 → zTs → Prop}  (hfl : l.stackTraces = false) (C : zC Z p s m args meth c cX12_crack 5 RX12) (hr : meth.sig.returnType = (some .int)) (hn9 : True)  (st : zTs) (a1 : Int32) (a2 : Int32) (a3 : Int32) (b0 : Int32) (h : w_X12_crack_54 P st a1 a2 a3 b0) : zG Z ad0 h0 p l e ({ frames := 2, cells := 0, slots := 0, locals := 34 } : Room) s m args below meth c (MQ below (zQ Z ad0 h0 (zWi Z P)) args s 0 0 (zA Z)) 0 0 (zh Z zm1 st) 5 54 [some (.ref 100), some (.int (a1)), some (.int (a2)), some (.int (a3)), none] [.int (b0), .ref 100] := by
  unfold w_X12_crack_54 at h
  refine z_iconst C dX12_crack_54 (v := 2) (by decide) ?_
  refine t_callV C (rest := []) (c2 := 0) (s2 := 0) (kd := 100) (i := 0) [.int (b0), .int (2)] dX12_crack_55 lk_X12_205 li_X12_bad le_X12_bad (c_X12_bad hfl h) rfl rfl (by decide) rfl ⟨_, rfl⟩ rfl ⟨Nat.le_of_ble_eq_true rfl, Nat.le_of_ble_eq_true rfl⟩ (Nat.le_of_ble_eq_true rfl) ⟨Nat.le_of_ble_eq_true rfl, Nat.le_of_ble_eq_true rfl, Nat.le_of_ble_eq_true rfl, Nat.le_of_ble_eq_true rfl⟩ (k_Wi fun r55 s55 h => ?_)
  refine z_if_eq C dX12_crack_58 (tgt := 63) (by decide) (fun c58 => ?_) (fun c58 => ?_)
  · have h := h.1 c58
    refine z_aload_n C dX12_crack_63 (i := 0) rfl rfl ?_
    refine t_get C dX12_crack_64 fl_X12_172 (k := 100) (i := 0) (by decide) rfl (fg_100_70 _ _ _) ?_
    refine z_iload_n C dX12_crack_67 (i := 1) rfl rfl ?_
    obtain ⟨g68, h⟩ := h
    refine t_iald C dX12_crack_68 (k := 153) (i := 0) (by decide) rfl (sh_153 _ _ _ _) g68 ?_
    refine t_topi (fun x69 ex69 => ?_)
    have h := h x69 ex69
    refine z_istore C dX12_crack_69 (lc' := [some (.ref 100), some (.int (a1)), some (.int (a2)), some (.int (a3)), some (.int (x69))]) (by decide) rfl ?_
    refine z_iload C dX12_crack_71 rfl ?_
    refine z_bipush C dX12_crack_73 (v := 20) (by decide) ?_
    refine z_icmp_ne C dX12_crack_75 (tgt := 80) (by decide) (fun c75 => ?_) (fun c75 => ?_)
    · have h := h.2 c75
      refine z_iload C dX12_crack_80 rfl ?_
      refine z_if_le C dX12_crack_82 (tgt := 106) (by decide) (fun c82 => ?_) (fun c82 => ?_)
      · have h := h.1 c82
        exact t_drop [true, true, true, true, true] rfl (j_X12_crack_106 hfl C hr hn9  s55 a1 a2 a3 x69 h)
      · have h := h.2 c82
        refine z_aload_n C dX12_crack_85 (i := 0) rfl rfl ?_
        refine t_get C dX12_crack_86 fl_X12_175 (k := 100) (i := 0) (by decide) rfl (fg_100_71 _ _ _) ?_
        refine z_bipush C dX12_crack_89 (v := 20) (by decide) ?_
        refine z_iload_n C dX12_crack_91 (i := 1) rfl rfl ?_
        refine z_imul C dX12_crack_92 ?_
        refine z_iload C dX12_crack_93 rfl ?_
        refine z_iadd C dX12_crack_95 ?_
        refine z_iconst C dX12_crack_96 (v := 1) (by decide) ?_
        refine z_isub C dX12_crack_97 ?_
        obtain ⟨g98, h⟩ := h
        refine t_iald C dX12_crack_98 (k := 154) (i := 0) (by decide) rfl (sh_154 _ _ _ _) g98 ?_
        refine z_iload_n C dX12_crack_99 (i := 2) rfl rfl ?_
        refine z_icmp_le C dX12_crack_100 (tgt := 106) (by decide) (fun c100 => ?_) (fun c100 => ?_)
        · have h := h.1 c100
          exact t_drop [true, true, true, true, true] rfl (j_X12_crack_106 hfl C hr hn9  s55 a1 a2 a3 x69 h)
        · have h := h.2 c100
          refine z_bipush C dX12_crack_103 (v := (-2)) (by decide) ?_
          exact z_iret C dX12_crack_105 hr rfl ⟨_, _, rfl, rfl, h⟩ (Nat.le_of_ble_eq_true rfl) (Nat.le_of_ble_eq_true rfl)
    · have h := h.1 c75
      refine z_iconst C dX12_crack_78 (v := (-1)) (by decide) ?_
      exact z_iret C dX12_crack_79 hr rfl ⟨_, _, rfl, rfl, h⟩ (Nat.le_of_ble_eq_true rfl) (Nat.le_of_ble_eq_true rfl)
  · have h := h.2 c58
    refine z_iconst C dX12_crack_61 (v := 0) (by decide) ?_
    exact z_iret C dX12_crack_62 hr rfl ⟨_, _, rfl, rfl, h⟩ (Nat.le_of_ble_eq_true rfl) (Nat.le_of_ble_eq_true rfl)
def w_X12_crack_19 (P : Int32 → zTs → Prop)  (st : zTs) (a1 : Int32) (a2 : Int32) (a3 : Int32) (b0 : Int32) : Prop := w_X12_bad st b0 1 (fun (r20 : Int32) (s20 : zTs) => ((r20 = 0 → (a2 < 0 → w_X12_crack_54 P s20 a1 a2 a3 (1)) ∧ (¬ a2 < 0 → (100000 < a2 → w_X12_crack_54 P s20 a1 a2 a3 (1)) ∧ (¬ 100000 < a2 → (a3 < 0 → w_X12_crack_54 P s20 a1 a2 a3 (1)) ∧ (¬ a3 < 0 → (a3 ≤ 10000 → w_X12_crack_54 P s20 a1 a2 a3 (0)) ∧ (¬ a3 ≤ 10000 → w_X12_crack_54 P s20 a1 a2 a3 (1)))))) ∧ (¬ r20 = 0 → P 0 s20)))
set_option maxHeartbeats 4000000 in
set_option maxRecDepth 100000 in
theorem j_X12_crack_19 {P : Int32 → zTs → Prop}  (hfl : l.stackTraces = false) (C : zC Z p s m args meth c cX12_crack 5 RX12) (hr : meth.sig.returnType = (some .int)) (hn9 : True)  (st : zTs) (a1 : Int32) (a2 : Int32) (a3 : Int32) (b0 : Int32) (h : w_X12_crack_19 P st a1 a2 a3 b0) : zG Z ad0 h0 p l e ({ frames := 2, cells := 0, slots := 0, locals := 34 } : Room) s m args below meth c (MQ below (zQ Z ad0 h0 (zWi Z P)) args s 0 0 (zA Z)) 0 0 (zh Z zm1 st) 5 19 [some (.ref 100), some (.int (a1)), some (.int (a2)), some (.int (a3)), none] [.int (b0), .ref 100] := by
  unfold w_X12_crack_19 at h
  refine z_iconst C dX12_crack_19 (v := 1) (by decide) ?_
  refine t_callV C (rest := []) (c2 := 0) (s2 := 0) (kd := 100) (i := 0) [.int (b0), .int (1)] dX12_crack_20 lk_X12_205 li_X12_bad le_X12_bad (c_X12_bad hfl h) rfl rfl (by decide) rfl ⟨_, rfl⟩ rfl ⟨Nat.le_of_ble_eq_true rfl, Nat.le_of_ble_eq_true rfl⟩ (Nat.le_of_ble_eq_true rfl) ⟨Nat.le_of_ble_eq_true rfl, Nat.le_of_ble_eq_true rfl, Nat.le_of_ble_eq_true rfl, Nat.le_of_ble_eq_true rfl⟩ (k_Wi fun r20 s20 h => ?_)
  refine z_if_ne C dX12_crack_23 (tgt := 61) (by decide) (fun c23 => ?_) (fun c23 => ?_)
  · have h := h.2 c23
    refine z_iconst C dX12_crack_61 (v := 0) (by decide) ?_
    exact z_iret C dX12_crack_62 hr rfl ⟨_, _, rfl, rfl, h⟩ (Nat.le_of_ble_eq_true rfl) (Nat.le_of_ble_eq_true rfl)
  · have h := h.1 c23
    refine z_aload_n C dX12_crack_26 (i := 0) rfl rfl ?_
    refine z_iload_n C dX12_crack_27 (i := 2) rfl rfl ?_
    refine z_if_lt C dX12_crack_28 (tgt := 49) (by decide) (fun c28 => ?_) (fun c28 => ?_)
    · have h := h.1 c28
      refine z_iconst C dX12_crack_49 (v := 1) (by decide) ?_
      refine z_goto C dX12_crack_50 (tgt := 54) (by decide) ?_
      exact t_drop [true, true, true, true, false] rfl (j_X12_crack_54 hfl C hr hn9  s20 a1 a2 a3 (1) h)
    · have h := h.2 c28
      refine z_iload_n C dX12_crack_31 (i := 2) rfl rfl ?_
      refine z_ldc_w C dX12_crack_32 kc_X12_304 ?_
      refine z_icmp_gt C dX12_crack_35 (tgt := 49) (by decide) (fun c35 => ?_) (fun c35 => ?_)
      · have h := h.1 c35
        refine z_iconst C dX12_crack_49 (v := 1) (by decide) ?_
        refine z_goto C dX12_crack_50 (tgt := 54) (by decide) ?_
        exact t_drop [true, true, true, true, false] rfl (j_X12_crack_54 hfl C hr hn9  s20 a1 a2 a3 (1) h)
      · have h := h.2 c35
        refine z_iload_n C dX12_crack_38 (i := 3) rfl rfl ?_
        refine z_if_lt C dX12_crack_39 (tgt := 49) (by decide) (fun c39 => ?_) (fun c39 => ?_)
        · have h := h.1 c39
          refine z_iconst C dX12_crack_49 (v := 1) (by decide) ?_
          refine z_goto C dX12_crack_50 (tgt := 54) (by decide) ?_
          exact t_drop [true, true, true, true, false] rfl (j_X12_crack_54 hfl C hr hn9  s20 a1 a2 a3 (1) h)
        · have h := h.2 c39
          refine z_iload_n C dX12_crack_42 (i := 3) rfl rfl ?_
          refine z_sipush C dX12_crack_43 (v := 10000) (by decide) ?_
          refine z_icmp_le C dX12_crack_46 (tgt := 53) (by decide) (fun c46 => ?_) (fun c46 => ?_)
          · have h := h.1 c46
            refine z_iconst C dX12_crack_53 (v := 0) (by decide) ?_
            exact t_drop [true, true, true, true, false] rfl (j_X12_crack_54 hfl C hr hn9  s20 a1 a2 a3 (0) h)
          · have h := h.2 c46
            refine z_iconst C dX12_crack_49 (v := 1) (by decide) ?_
            refine z_goto C dX12_crack_50 (tgt := 54) (by decide) ?_
            exact t_drop [true, true, true, true, false] rfl (j_X12_crack_54 hfl C hr hn9  s20 a1 a2 a3 (1) h)
def w_X12_crack (st : zTs) (a1 : Int32) (a2 : Int32) (a3 : Int32) (P : Int32 → zTs → Prop) : Prop := ∀ s2 : zTs, s2 = zuF st 100 0 0 0 → (w_X12_isSurvey s2 a1 (fun (r8 : Int32) => ((r8 = 0 → w_X12_crack_19 P s2 a1 a2 a3 (1)) ∧ (¬ r8 = 0 → w_X12_crack_19 P s2 a1 a2 a3 (0)))))
set_option maxHeartbeats 4000000 in
set_option maxRecDepth 100000 in
theorem c_X12_crack {Z : zZ} {l : Launch} (hfl : l.stackTraces = false) {st : zTs} {a1 : Int32} {a2 : Int32} {a3 : Int32} {P : Int32 → zTs → Prop} (h : w_X12_crack st a1 a2 a3 P) : zN Z l yX12_crack cX12_crack 5 (some .int) ({ frames := 2, cells := 0, slots := 0, locals := 34 } : Room) (zh Z zm1 st) [.ref 100, .int (a1), .int (a2), .int (a3)] (zWi Z P) := by
  unfold w_X12_crack at h
  refine z_enterN (by decide) (Nat.le_of_ble_eq_true rfl) (lc0 := [some (.ref 100), some (.int (a1)), some (.int (a2)), some (.int (a3)), none]) rfl ?_
  intro p e s m args below meth c ad0 C hr _
  have hn9 : True := trivial
  replace C : zC Z p s m args meth c cX12_crack 5 RX12 := C
  refine z_aload_n C dX12_crack_0 (i := 0) rfl rfl ?_
  refine z_iconst C dX12_crack_1 (v := 0) (by decide) ?_
  refine t_put C dX12_crack_2 fq_X12_199 (Or.inl rfl) (k := 100) (i := 0) (by decide) rfl ⟨rfl, rfl⟩ (fp_100_0 _ _ _ _ _) ?_
  refine t_tops (fun s2 es2 => ?_)
  have h := h s2 es2
  refine z_aload_n C dX12_crack_5 (i := 0) rfl rfl ?_
  refine z_aload_n C dX12_crack_6 (i := 0) rfl rfl ?_
  refine z_iload_n C dX12_crack_7 (i := 1) rfl rfl ?_
  refine t_callV C (rest := [.ref 100]) (c2 := 0) (s2 := 0) (kd := 100) (i := 0) [.int (a1)] dX12_crack_8 lk_X12_471 li_X12_isSurvey le_X12_isSurvey (c_X12_isSurvey hfl h) rfl rfl (by decide) rfl ⟨_, rfl⟩ rfl ⟨Nat.le_of_ble_eq_true rfl, Nat.le_of_ble_eq_true rfl⟩ (Nat.le_of_ble_eq_true rfl) ⟨Nat.le_of_ble_eq_true rfl, Nat.le_of_ble_eq_true rfl, Nat.le_of_ble_eq_true rfl, Nat.le_of_ble_eq_true rfl⟩ (k_Ri fun r8 h => ?_)
  refine z_if_ne C dX12_crack_11 (tgt := 18) (by decide) (fun c11 => ?_) (fun c11 => ?_)
  · have h := h.2 c11
    refine z_iconst C dX12_crack_18 (v := 0) (by decide) ?_
    exact t_drop [true, true, true, true, false] rfl (j_X12_crack_19 hfl C hr hn9  s2 a1 a2 a3 (0) h)
  · have h := h.1 c11
    refine z_iconst C dX12_crack_14 (v := 1) (by decide) ?_
    refine z_goto C dX12_crack_15 (tgt := 19) (by decide) ?_
    exact t_drop [true, true, true, true, false] rfl (j_X12_crack_19 hfl C hr hn9  s2 a1 a2 a3 (1) h)
def w_X12_cellOf (st : zTs) (a0 : Int32) (a1 : Int32) (P : Int32 → Prop) : Prop := P ((21 * a0) + a1)
set_option maxHeartbeats 4000000 in
set_option maxRecDepth 100000 in
theorem c_X12_cellOf {Z : zZ} {l : Launch} (hfl : l.stackTraces = false) {st : zTs} {a0 : Int32} {a1 : Int32} {P : Int32 → Prop} (h : w_X12_cellOf st a0 a1 P) : zN Z l yX12_cellOf cX12_cellOf 2 (some .int) ({ frames := 1, cells := 0, slots := 0, locals := 12 } : Room) (zh Z zm1 st) [.int (a0), .int (a1)] (zRi Z st P) := by
  unfold w_X12_cellOf at h
  refine z_enterN (by decide) (Nat.le_of_ble_eq_true rfl) (lc0 := [some (.int (a0)), some (.int (a1))]) rfl ?_
  intro p e s m args below meth c ad0 C hr _
  have hn9 : True := trivial
  replace C : zC Z p s m args meth c cX12_cellOf 2 RX12 := C
  refine z_bipush C dX12_cellOf_0 (v := 21) (by decide) ?_
  refine z_iload_n C dX12_cellOf_2 (i := 0) rfl rfl ?_
  refine z_imul C dX12_cellOf_3 ?_
  refine z_iload_n C dX12_cellOf_4 (i := 1) rfl rfl ?_
  refine z_iadd C dX12_cellOf_5 ?_
  exact z_iret C dX12_cellOf_6 hr rfl ⟨rfl, _, rfl, h⟩ (Nat.le_of_ble_eq_true rfl) (Nat.le_of_ble_eq_true rfl)
def w_X12_far (st : zTs) (a1 : Int32) (a2 : Int32) (a3 : Int32) (a4 : Int32) (P : Int32 → Prop) : Prop := vp_in ((20 * a1) + a2) 200 ∧ (vp_in ((20 * a3) + a4) 200 ∧ (∀ x24 : Int32, x24 = (zgA st 154 0 ((20 * a1) + a2 : Int32).toNatClampNeg) - (zgA st 154 0 ((20 * a3) + a4 : Int32).toNatClampNeg) → ((0 ≤ x24 → P x24) ∧ (¬ 0 ≤ x24 → P (-x24)))))
set_option maxHeartbeats 4000000 in
set_option maxRecDepth 100000 in
theorem c_X12_far {Z : zZ} {l : Launch} (hfl : l.stackTraces = false) {st : zTs} {a1 : Int32} {a2 : Int32} {a3 : Int32} {a4 : Int32} {P : Int32 → Prop} (h : w_X12_far st a1 a2 a3 a4 P) : zN Z l yX12_far cX12_far 6 (some .int) ({ frames := 1, cells := 0, slots := 0, locals := 12 } : Room) (zh Z zm1 st) [.ref 100, .int (a1), .int (a2), .int (a3), .int (a4)] (zRi Z st P) := by
  unfold w_X12_far at h
  refine z_enterN (by decide) (Nat.le_of_ble_eq_true rfl) (lc0 := [some (.ref 100), some (.int (a1)), some (.int (a2)), some (.int (a3)), some (.int (a4)), none]) rfl ?_
  intro p e s m args below meth c ad0 C hr _
  have hn9 : True := trivial
  replace C : zC Z p s m args meth c cX12_far 6 RX12 := C
  refine z_aload_n C dX12_far_0 (i := 0) rfl rfl ?_
  refine t_get C dX12_far_1 fl_X12_175 (k := 100) (i := 0) (by decide) rfl (fg_100_71 _ _ _) ?_
  refine z_bipush C dX12_far_4 (v := 20) (by decide) ?_
  refine z_iload_n C dX12_far_6 (i := 1) rfl rfl ?_
  refine z_imul C dX12_far_7 ?_
  refine z_iload_n C dX12_far_8 (i := 2) rfl rfl ?_
  refine z_iadd C dX12_far_9 ?_
  obtain ⟨g10, h⟩ := h
  refine t_iald C dX12_far_10 (k := 154) (i := 0) (by decide) rfl (sh_154 _ _ _ _) g10 ?_
  refine z_aload_n C dX12_far_11 (i := 0) rfl rfl ?_
  refine t_get C dX12_far_12 fl_X12_175 (k := 100) (i := 0) (by decide) rfl (fg_100_71 _ _ _) ?_
  refine z_bipush C dX12_far_15 (v := 20) (by decide) ?_
  refine z_iload_n C dX12_far_17 (i := 3) rfl rfl ?_
  refine z_imul C dX12_far_18 ?_
  refine z_iload C dX12_far_19 rfl ?_
  refine z_iadd C dX12_far_21 ?_
  obtain ⟨g22, h⟩ := h
  refine t_iald C dX12_far_22 (k := 154) (i := 0) (by decide) rfl (sh_154 _ _ _ _) g22 ?_
  refine z_isub C dX12_far_23 ?_
  refine t_topi (fun x24 ex24 => ?_)
  have h := h x24 ex24
  refine z_istore C dX12_far_24 (lc' := [some (.ref 100), some (.int (a1)), some (.int (a2)), some (.int (a3)), some (.int (a4)), some (.int (x24))]) (by decide) rfl ?_
  refine z_iload C dX12_far_26 rfl ?_
  refine z_if_ge C dX12_far_28 (tgt := 37) (by decide) (fun c28 => ?_) (fun c28 => ?_)
  · have h := h.1 c28
    refine z_iload C dX12_far_37 rfl ?_
    exact z_iret C dX12_far_39 hr rfl ⟨rfl, _, rfl, h⟩ (Nat.le_of_ble_eq_true rfl) (Nat.le_of_ble_eq_true rfl)
  · have h := h.2 c28
    refine z_iload C dX12_far_31 rfl ?_
    refine z_ineg C dX12_far_33 ?_
    refine z_goto C dX12_far_34 (tgt := 39) (by decide) ?_
    exact z_iret C dX12_far_39 hr rfl ⟨rfl, _, rfl, h⟩ (Nat.le_of_ble_eq_true rfl) (Nat.le_of_ble_eq_true rfl)
def w_X12_takes_31 (P : zTs → Prop)  (st : zTs) (a1 : Int32) (a2 : Int32) (a3 : Int32) : Prop := vp_in a1 441 ∧ (∀ s37 : zTs, s37 = zuA st 156 0 (a1 : Int32).toNatClampNeg a2 → (vp_in a1 441 ∧ (∀ s44 : zTs, s44 = zuA s37 157 0 (a1 : Int32).toNatClampNeg a3 → (P s44))))
set_option maxHeartbeats 4000000 in
set_option maxRecDepth 100000 in
theorem j_X12_takes_31 {P : zTs → Prop}  (hfl : l.stackTraces = false) (C : zC Z p s m args meth c cX12_takes 4 RX12) (hr : meth.sig.returnType = none) (hn9 : True)  (st : zTs) (a1 : Int32) (a2 : Int32) (a3 : Int32) (h : w_X12_takes_31 P st a1 a2 a3) : zG Z ad0 h0 p l e ({ frames := 1, cells := 0, slots := 0, locals := 12 } : Room) s m args below meth c (MQ below (zQ Z ad0 h0 (zWv Z zm1 P)) args s 0 0 (zA Z)) 0 0 (zh Z zm1 st) 4 31 [some (.ref 100), some (.int (a1)), some (.int (a2)), some (.int (a3))] [] := by
  unfold w_X12_takes_31 at h
  refine z_aload_n C dX12_takes_31 (i := 0) rfl rfl ?_
  refine t_get C dX12_takes_32 fl_X12_181 (k := 100) (i := 0) (by decide) rfl (fg_100_73 _ _ _) ?_
  refine z_iload_n C dX12_takes_35 (i := 1) rfl rfl ?_
  refine z_iload_n C dX12_takes_36 (i := 2) rfl rfl ?_
  obtain ⟨g37, h⟩ := h
  refine t_iast C dX12_takes_37 (k := 156) (i := 0) (by decide) rfl (fun s9 => sh_156 _ _ s9 _) g37 ?_
  refine t_tops (fun s37 es37 => ?_)
  have h := h s37 es37
  refine z_aload_n C dX12_takes_38 (i := 0) rfl rfl ?_
  refine t_get C dX12_takes_39 fl_X12_184 (k := 100) (i := 0) (by decide) rfl (fg_100_74 _ _ _) ?_
  refine z_iload_n C dX12_takes_42 (i := 1) rfl rfl ?_
  refine z_iload_n C dX12_takes_43 (i := 3) rfl rfl ?_
  obtain ⟨g44, h⟩ := h
  refine t_iast C dX12_takes_44 (k := 157) (i := 0) (by decide) rfl (fun s9 => sh_157 _ _ s9 _) g44 ?_
  refine t_tops (fun s44 es44 => ?_)
  have h := h s44 es44
  exact z_vret C dX12_takes_45 hr ⟨_, rfl, rfl, h⟩ (Nat.le_of_ble_eq_true rfl) (Nat.le_of_ble_eq_true rfl)
def w_X12_takes (st : zTs) (a1 : Int32) (a2 : Int32) (a3 : Int32) (P : zTs → Prop) : Prop := vp_in a1 441 ∧ ((a2 < (zgA st 156 0 (a1 : Int32).toNatClampNeg) → P st) ∧ (¬ a2 < (zgA st 156 0 (a1 : Int32).toNatClampNeg) → vp_in a1 441 ∧ ((a2 = (zgA st 156 0 (a1 : Int32).toNatClampNeg) → vp_in a1 441 ∧ ((a3 < (zgA st 157 0 (a1 : Int32).toNatClampNeg) → w_X12_takes_31 P st a1 a2 a3) ∧ (¬ a3 < (zgA st 157 0 (a1 : Int32).toNatClampNeg) → P st))) ∧ (¬ a2 = (zgA st 156 0 (a1 : Int32).toNatClampNeg) → w_X12_takes_31 P st a1 a2 a3))))
set_option maxHeartbeats 4000000 in
set_option maxRecDepth 100000 in
theorem c_X12_takes {Z : zZ} {l : Launch} (hfl : l.stackTraces = false) {st : zTs} {a1 : Int32} {a2 : Int32} {a3 : Int32} {P : zTs → Prop} (h : w_X12_takes st a1 a2 a3 P) : zN Z l yX12_takes cX12_takes 4 none ({ frames := 1, cells := 0, slots := 0, locals := 12 } : Room) (zh Z zm1 st) [.ref 100, .int (a1), .int (a2), .int (a3)] (zWv Z zm1 P) := by
  unfold w_X12_takes at h
  refine z_enterN (by decide) (Nat.le_of_ble_eq_true rfl) (lc0 := [some (.ref 100), some (.int (a1)), some (.int (a2)), some (.int (a3))]) rfl ?_
  intro p e s m args below meth c ad0 C hr _
  have hn9 : True := trivial
  replace C : zC Z p s m args meth c cX12_takes 4 RX12 := C
  refine z_iload_n C dX12_takes_0 (i := 2) rfl rfl ?_
  refine z_aload_n C dX12_takes_1 (i := 0) rfl rfl ?_
  refine t_get C dX12_takes_2 fl_X12_181 (k := 100) (i := 0) (by decide) rfl (fg_100_73 _ _ _) ?_
  refine z_iload_n C dX12_takes_5 (i := 1) rfl rfl ?_
  obtain ⟨g6, h⟩ := h
  refine t_iald C dX12_takes_6 (k := 156) (i := 0) (by decide) rfl (sh_156 _ _ _ _) g6 ?_
  refine z_icmp_lt C dX12_takes_7 (tgt := 30) (by decide) (fun c7 => ?_) (fun c7 => ?_)
  · have h := h.1 c7
    exact z_vret C dX12_takes_30 hr ⟨_, rfl, rfl, h⟩ (Nat.le_of_ble_eq_true rfl) (Nat.le_of_ble_eq_true rfl)
  · have h := h.2 c7
    refine z_iload_n C dX12_takes_10 (i := 2) rfl rfl ?_
    refine z_aload_n C dX12_takes_11 (i := 0) rfl rfl ?_
    refine t_get C dX12_takes_12 fl_X12_181 (k := 100) (i := 0) (by decide) rfl (fg_100_73 _ _ _) ?_
    refine z_iload_n C dX12_takes_15 (i := 1) rfl rfl ?_
    obtain ⟨g16, h⟩ := h
    refine t_iald C dX12_takes_16 (k := 156) (i := 0) (by decide) rfl (sh_156 _ _ _ _) g16 ?_
    refine z_icmp_ne C dX12_takes_17 (tgt := 31) (by decide) (fun c17 => ?_) (fun c17 => ?_)
    · have h := h.2 c17
      exact t_drop [true, true, true, true] rfl (j_X12_takes_31 hfl C hr hn9  st a1 a2 a3 h)
    · have h := h.1 c17
      refine z_iload_n C dX12_takes_20 (i := 3) rfl rfl ?_
      refine z_aload_n C dX12_takes_21 (i := 0) rfl rfl ?_
      refine t_get C dX12_takes_22 fl_X12_184 (k := 100) (i := 0) (by decide) rfl (fg_100_74 _ _ _) ?_
      refine z_iload_n C dX12_takes_25 (i := 1) rfl rfl ?_
      obtain ⟨g26, h⟩ := h
      refine t_iald C dX12_takes_26 (k := 157) (i := 0) (by decide) rfl (sh_157 _ _ _ _) g26 ?_
      refine z_icmp_lt C dX12_takes_27 (tgt := 31) (by decide) (fun c27 => ?_) (fun c27 => ?_)
      · have h := h.1 c27
        exact t_drop [true, true, true, true] rfl (j_X12_takes_31 hfl C hr hn9  st a1 a2 a3 h)
      · have h := h.2 c27
        exact z_vret C dX12_takes_30 hr ⟨_, rfl, rfl, h⟩ (Nat.le_of_ble_eq_true rfl) (Nat.le_of_ble_eq_true rfl)
def w_X12_joins_385 (P : zTs → Prop) (K229 : zTs → Int32 → Int32 → Int32 → Int32 → Int32 → Int32 → Prop) (st : zTs) (a1 : Int32) (a2 : Int32) (a3 : Int32) (a4 : Int32) (a5 : Int32) (a6 : Int32) : Prop := ∀ x385 : Int32, x385 = a6 + 1 → (K229 st a1 a2 a3 a4 a5 x385)
set_option maxHeartbeats 4000000 in
set_option maxRecDepth 100000 in
theorem j_X12_joins_385 {P : zTs → Prop} {K229 : zTs → Int32 → Int32 → Int32 → Int32 → Int32 → Int32 → Prop} (hfl : l.stackTraces = false) (C : zC Z p s m args meth c cX12_joins 11 RX12) (hr : meth.sig.returnType = none) (hn9 : True) (hK229 : ∀ (st : zTs) (a1 : Int32) (a2 : Int32) (a3 : Int32) (a4 : Int32) (a5 : Int32) (a6 : Int32), K229 st a1 a2 a3 a4 a5 a6 → zG Z ad0 h0 p l e ({ frames := 2, cells := 0, slots := 0, locals := 37 } : Room) s m args below meth c (MQ below (zQ Z ad0 h0 (zWv Z zm1 P)) args s 0 0 (zA Z)) 0 0 (zh Z zm1 st) 11 229 [some (.ref 100), some (.int (a1)), some (.int (a2)), some (.int (a3)), some (.int (a4)), some (.int (a5)), some (.int (a6)), none, none, none, none] []) (st : zTs) (a1 : Int32) (a2 : Int32) (a3 : Int32) (a4 : Int32) (a5 : Int32) (a6 : Int32) (h : w_X12_joins_385 P K229 st a1 a2 a3 a4 a5 a6) : zG Z ad0 h0 p l e ({ frames := 2, cells := 0, slots := 0, locals := 37 } : Room) s m args below meth c (MQ below (zQ Z ad0 h0 (zWv Z zm1 P)) args s 0 0 (zA Z)) 0 0 (zh Z zm1 st) 11 385 [some (.ref 100), some (.int (a1)), some (.int (a2)), some (.int (a3)), some (.int (a4)), some (.int (a5)), some (.int (a6)), none, none, none, none] [] := by
  unfold w_X12_joins_385 at h
  obtain ⟨x385, ex385⟩ : ∃ z : Int32, z = a6 + 1 := ⟨_, rfl⟩
  have h := h x385 ex385
  refine z_iinc C dX12_joins_385 (v := x385) (lc' := [some (.ref 100), some (.int (a1)), some (.int (a2)), some (.int (a3)), some (.int (a4)), some (.int (a5)), some (.int (x385)), none, none, none, none]) rfl (by decide) (by rw [ex385]; rfl) rfl ?_
  refine z_goto C dX12_joins_388 (tgt := 229) (by decide) ?_
  exact t_drop [true, true, true, true, true, true, true, false, false, false, false] rfl (hK229 st a1 a2 a3 a4 a5 x385 h)
def w_X12_joins_364 (P : zTs → Prop) (K229 : zTs → Int32 → Int32 → Int32 → Int32 → Int32 → Int32 → Prop) (st : zTs) (a1 : Int32) (a2 : Int32) (a3 : Int32) (a4 : Int32) (a5 : Int32) (a6 : Int32) : Prop := vp_in a6 20 ∧ (((zgA st 158 0 (a6 : Int32).toNatClampNeg) < 0 → w_X12_joins_385 P K229 st a1 a2 a3 a4 a5 a6) ∧ (¬ (zgA st 158 0 (a6 : Int32).toNatClampNeg) < 0 → vp_in a6 20 ∧ (∀ x383 : Int32, x383 = (zgA st 158 0 (a6 : Int32).toNatClampNeg) + 1 → (w_X12_joins_385 P K229 st a1 a2 a3 a4 x383 a6))))
set_option maxHeartbeats 4000000 in
set_option maxRecDepth 100000 in
theorem j_X12_joins_364 {P : zTs → Prop} {K229 : zTs → Int32 → Int32 → Int32 → Int32 → Int32 → Int32 → Prop} (hfl : l.stackTraces = false) (C : zC Z p s m args meth c cX12_joins 11 RX12) (hr : meth.sig.returnType = none) (hn9 : True) (hK229 : ∀ (st : zTs) (a1 : Int32) (a2 : Int32) (a3 : Int32) (a4 : Int32) (a5 : Int32) (a6 : Int32), K229 st a1 a2 a3 a4 a5 a6 → zG Z ad0 h0 p l e ({ frames := 2, cells := 0, slots := 0, locals := 37 } : Room) s m args below meth c (MQ below (zQ Z ad0 h0 (zWv Z zm1 P)) args s 0 0 (zA Z)) 0 0 (zh Z zm1 st) 11 229 [some (.ref 100), some (.int (a1)), some (.int (a2)), some (.int (a3)), some (.int (a4)), some (.int (a5)), some (.int (a6)), none, none, none, none] []) (st : zTs) (a1 : Int32) (a2 : Int32) (a3 : Int32) (a4 : Int32) (a5 : Int32) (a6 : Int32) (h : w_X12_joins_364 P K229 st a1 a2 a3 a4 a5 a6) : zG Z ad0 h0 p l e ({ frames := 2, cells := 0, slots := 0, locals := 37 } : Room) s m args below meth c (MQ below (zQ Z ad0 h0 (zWv Z zm1 P)) args s 0 0 (zA Z)) 0 0 (zh Z zm1 st) 11 364 [some (.ref 100), some (.int (a1)), some (.int (a2)), some (.int (a3)), some (.int (a4)), some (.int (a5)), some (.int (a6)), none, none, none, none] [] := by
  unfold w_X12_joins_364 at h
  refine z_aload_n C dX12_joins_364 (i := 0) rfl rfl ?_
  refine t_get C dX12_joins_365 fl_X12_187 (k := 100) (i := 0) (by decide) rfl (fg_100_75 _ _ _) ?_
  refine z_iload C dX12_joins_368 rfl ?_
  obtain ⟨g370, h⟩ := h
  refine t_iald C dX12_joins_370 (k := 158) (i := 0) (by decide) rfl (sh_158 _ _ _ _) g370 ?_
  refine z_if_lt C dX12_joins_371 (tgt := 385) (by decide) (fun c371 => ?_) (fun c371 => ?_)
  · have h := h.1 c371
    exact t_drop [true, true, true, true, true, true, true, false, false, false, false] rfl (j_X12_joins_385 hfl C hr hn9 hK229 st a1 a2 a3 a4 a5 a6 h)
  · have h := h.2 c371
    refine z_aload_n C dX12_joins_374 (i := 0) rfl rfl ?_
    refine t_get C dX12_joins_375 fl_X12_187 (k := 100) (i := 0) (by decide) rfl (fg_100_75 _ _ _) ?_
    refine z_iload C dX12_joins_378 rfl ?_
    obtain ⟨g380, h⟩ := h
    refine t_iald C dX12_joins_380 (k := 158) (i := 0) (by decide) rfl (sh_158 _ _ _ _) g380 ?_
    refine z_iconst C dX12_joins_381 (v := 1) (by decide) ?_
    refine z_iadd C dX12_joins_382 ?_
    refine t_topi (fun x383 ex383 => ?_)
    have h := h x383 ex383
    refine z_istore C dX12_joins_383 (lc' := [some (.ref 100), some (.int (a1)), some (.int (a2)), some (.int (a3)), some (.int (a4)), some (.int (x383)), some (.int (a6)), none, none, none, none]) (by decide) rfl ?_
    exact t_drop [true, true, true, true, true, true, true, false, false, false, false] rfl (j_X12_joins_385 hfl C hr hn9 hK229 st a1 a2 a3 a4 x383 a6 h)
def w_X12_joins_358 (P : zTs → Prop) (K229 : zTs → Int32 → Int32 → Int32 → Int32 → Int32 → Int32 → Prop) (K256 : zTs → Int32 → Int32 → Int32 → Int32 → Int32 → Int32 → Int32 → Int32 → Prop) (st : zTs) (a1 : Int32) (a2 : Int32) (a3 : Int32) (a4 : Int32) (a5 : Int32) (a6 : Int32) (a7 : Int32) (a8 : Int32) : Prop := ∀ x358 : Int32, x358 = a8 + 1 → (K256 st a1 a2 a3 a4 a5 a6 a7 x358)
set_option maxHeartbeats 4000000 in
set_option maxRecDepth 100000 in
theorem j_X12_joins_358 {P : zTs → Prop} {K229 : zTs → Int32 → Int32 → Int32 → Int32 → Int32 → Int32 → Prop} {K256 : zTs → Int32 → Int32 → Int32 → Int32 → Int32 → Int32 → Int32 → Int32 → Prop} (hfl : l.stackTraces = false) (C : zC Z p s m args meth c cX12_joins 11 RX12) (hr : meth.sig.returnType = none) (hn9 : True) (hK229 : ∀ (st : zTs) (a1 : Int32) (a2 : Int32) (a3 : Int32) (a4 : Int32) (a5 : Int32) (a6 : Int32), K229 st a1 a2 a3 a4 a5 a6 → zG Z ad0 h0 p l e ({ frames := 2, cells := 0, slots := 0, locals := 37 } : Room) s m args below meth c (MQ below (zQ Z ad0 h0 (zWv Z zm1 P)) args s 0 0 (zA Z)) 0 0 (zh Z zm1 st) 11 229 [some (.ref 100), some (.int (a1)), some (.int (a2)), some (.int (a3)), some (.int (a4)), some (.int (a5)), some (.int (a6)), none, none, none, none] []) (hK256 : ∀ (st : zTs) (a1 : Int32) (a2 : Int32) (a3 : Int32) (a4 : Int32) (a5 : Int32) (a6 : Int32) (a7 : Int32) (a8 : Int32), K256 st a1 a2 a3 a4 a5 a6 a7 a8 → zG Z ad0 h0 p l e ({ frames := 2, cells := 0, slots := 0, locals := 37 } : Room) s m args below meth c (MQ below (zQ Z ad0 h0 (zWv Z zm1 P)) args s 0 0 (zA Z)) 0 0 (zh Z zm1 st) 11 256 [some (.ref 100), some (.int (a1)), some (.int (a2)), some (.int (a3)), some (.int (a4)), some (.int (a5)), some (.int (a6)), some (.int (a7)), some (.int (a8)), none, none] []) (st : zTs) (a1 : Int32) (a2 : Int32) (a3 : Int32) (a4 : Int32) (a5 : Int32) (a6 : Int32) (a7 : Int32) (a8 : Int32) (h : w_X12_joins_358 P K229 K256 st a1 a2 a3 a4 a5 a6 a7 a8) : zG Z ad0 h0 p l e ({ frames := 2, cells := 0, slots := 0, locals := 37 } : Room) s m args below meth c (MQ below (zQ Z ad0 h0 (zWv Z zm1 P)) args s 0 0 (zA Z)) 0 0 (zh Z zm1 st) 11 358 [some (.ref 100), some (.int (a1)), some (.int (a2)), some (.int (a3)), some (.int (a4)), some (.int (a5)), some (.int (a6)), some (.int (a7)), some (.int (a8)), none, none] [] := by
  unfold w_X12_joins_358 at h
  obtain ⟨x358, ex358⟩ : ∃ z : Int32, z = a8 + 1 := ⟨_, rfl⟩
  have h := h x358 ex358
  refine z_iinc C dX12_joins_358 (v := x358) (lc' := [some (.ref 100), some (.int (a1)), some (.int (a2)), some (.int (a3)), some (.int (a4)), some (.int (a5)), some (.int (a6)), some (.int (a7)), some (.int (x358)), none, none]) rfl (by decide) (by rw [ex358]; rfl) rfl ?_
  refine z_goto C dX12_joins_361 (tgt := 256) (by decide) ?_
  exact t_drop [true, true, true, true, true, true, true, true, true, false, false] rfl (hK256 st a1 a2 a3 a4 a5 a6 a7 x358 h)
def w_X12_joins_256 (P : zTs → Prop) (K229 : zTs → Int32 → Int32 → Int32 → Int32 → Int32 → Int32 → Prop) : Nat → zTs → Int32 → Int32 → Int32 → Int32 → Int32 → Int32 → Int32 → Int32 → Prop
  | 0, _, _, _, _, _, _, _, _, _ => False
  | n9 + 1, st, a1, a2, a3, a4, a5, a6, a7, a8 => (a4 ≤ a8 → w_X12_joins_364 P K229 st a1 a2 a3 a4 a5 a6) ∧ (¬ a4 ≤ a8 → vp_in a6 20 ∧ ((0 ≤ (zgA st 158 0 (a6 : Int32).toNatClampNeg) → w_X12_joins_364 P K229 st a1 a2 a3 a4 a5 a6) ∧ (¬ 0 ≤ (zgA st 158 0 (a6 : Int32).toNatClampNeg) → w_X12_far st a1 a6 a2 a8 (fun (r280 : Int32) => (w_X12_cellOf st (a6 + 1) (a8 + 1) (fun (r293 : Int32) => (vp_in 12 15 ∧ (((zgA st 103 0 (12 : Int32).toNatClampNeg) < r280 → w_X12_joins_358 P K229 (w_X12_joins_256 P K229 n9) st a1 a2 a3 a4 a5 a6 a7 a8) ∧ (¬ (zgA st 103 0 (12 : Int32).toNatClampNeg) < r280 → vp_in r293 441 ∧ (vp_in a7 441 ∧ ((((zgA st 156 0 (r293 : Int32).toNatClampNeg) + 1) = (zgA st 156 0 (a7 : Int32).toNatClampNeg) → vp_in r293 441 ∧ (vp_in a7 441 ∧ ((((zgA st 157 0 (r293 : Int32).toNatClampNeg) + r280) = (zgA st 157 0 (a7 : Int32).toNatClampNeg) → vp_in a6 20 ∧ (∀ s357 : zTs, s357 = zuA st 158 0 (a6 : Int32).toNatClampNeg a8 → (w_X12_joins_358 P K229 (w_X12_joins_256 P K229 n9) s357 a1 a2 a3 a4 a5 a6 a7 a8))) ∧ (¬ ((zgA st 157 0 (r293 : Int32).toNatClampNeg) + r280) = (zgA st 157 0 (a7 : Int32).toNatClampNeg) → w_X12_joins_358 P K229 (w_X12_joins_256 P K229 n9) st a1 a2 a3 a4 a5 a6 a7 a8)))) ∧ (¬ ((zgA st 156 0 (r293 : Int32).toNatClampNeg) + 1) = (zgA st 156 0 (a7 : Int32).toNatClampNeg) → w_X12_joins_358 P K229 (w_X12_joins_256 P K229 n9) st a1 a2 a3 a4 a5 a6 a7 a8))))))))))))
set_option maxHeartbeats 4000000 in
set_option maxRecDepth 100000 in
theorem j_X12_joins_256 {P : zTs → Prop} {K229 : zTs → Int32 → Int32 → Int32 → Int32 → Int32 → Int32 → Prop} (hfl : l.stackTraces = false) (C : zC Z p s m args meth c cX12_joins 11 RX12) (hr : meth.sig.returnType = none) (hn9 : True) (hK229 : ∀ (st : zTs) (a1 : Int32) (a2 : Int32) (a3 : Int32) (a4 : Int32) (a5 : Int32) (a6 : Int32), K229 st a1 a2 a3 a4 a5 a6 → zG Z ad0 h0 p l e ({ frames := 2, cells := 0, slots := 0, locals := 37 } : Room) s m args below meth c (MQ below (zQ Z ad0 h0 (zWv Z zm1 P)) args s 0 0 (zA Z)) 0 0 (zh Z zm1 st) 11 229 [some (.ref 100), some (.int (a1)), some (.int (a2)), some (.int (a3)), some (.int (a4)), some (.int (a5)), some (.int (a6)), none, none, none, none] []) : ∀ (n9 : Nat) (st : zTs) (a1 : Int32) (a2 : Int32) (a3 : Int32) (a4 : Int32) (a5 : Int32) (a6 : Int32) (a7 : Int32) (a8 : Int32), w_X12_joins_256 P K229 n9 st a1 a2 a3 a4 a5 a6 a7 a8 → zG Z ad0 h0 p l e ({ frames := 2, cells := 0, slots := 0, locals := 37 } : Room) s m args below meth c (MQ below (zQ Z ad0 h0 (zWv Z zm1 P)) args s 0 0 (zA Z)) 0 0 (zh Z zm1 st) 11 256 [some (.ref 100), some (.int (a1)), some (.int (a2)), some (.int (a3)), some (.int (a4)), some (.int (a5)), some (.int (a6)), some (.int (a7)), some (.int (a8)), none, none] [] := by
  intro n9
  induction n9 with
  | zero => intro st a1 a2 a3 a4 a5 a6 a7 a8 h; exact h.elim
  | succ n9 hK256 =>
    intro st a1 a2 a3 a4 a5 a6 a7 a8 h
    rw [w_X12_joins_256] at h
    refine z_iload C dX12_joins_256 rfl ?_
    refine z_iload C dX12_joins_258 rfl ?_
    refine z_icmp_ge C dX12_joins_260 (tgt := 364) (by decide) (fun c260 => ?_) (fun c260 => ?_)
    · have h := h.1 c260
      exact t_drop [true, true, true, true, true, true, true, false, false, false, false] rfl (j_X12_joins_364 hfl C hr hn9 hK229 st a1 a2 a3 a4 a5 a6 h)
    · have h := h.2 c260
      refine z_aload_n C dX12_joins_263 (i := 0) rfl rfl ?_
      refine t_get C dX12_joins_264 fl_X12_187 (k := 100) (i := 0) (by decide) rfl (fg_100_75 _ _ _) ?_
      refine z_iload C dX12_joins_267 rfl ?_
      obtain ⟨g269, h⟩ := h
      refine t_iald C dX12_joins_269 (k := 158) (i := 0) (by decide) rfl (sh_158 _ _ _ _) g269 ?_
      refine z_if_ge C dX12_joins_270 (tgt := 364) (by decide) (fun c270 => ?_) (fun c270 => ?_)
      · have h := h.1 c270
        exact t_drop [true, true, true, true, true, true, true, false, false, false, false] rfl (j_X12_joins_364 hfl C hr hn9 hK229 st a1 a2 a3 a4 a5 a6 h)
      · have h := h.2 c270
        refine z_aload_n C dX12_joins_273 (i := 0) rfl rfl ?_
        refine z_iload_n C dX12_joins_274 (i := 1) rfl rfl ?_
        refine z_iload C dX12_joins_275 rfl ?_
        refine z_iload_n C dX12_joins_277 (i := 2) rfl rfl ?_
        refine z_iload C dX12_joins_278 rfl ?_
        refine t_callV C (rest := []) (c2 := 0) (s2 := 0) (kd := 100) (i := 0) [.int (a1), .int (a6), .int (a2), .int (a8)] dX12_joins_280 lk_X12_480 li_X12_far le_X12_far (c_X12_far hfl h) rfl rfl (by decide) rfl ⟨_, rfl⟩ rfl ⟨Nat.le_of_ble_eq_true rfl, Nat.le_of_ble_eq_true rfl⟩ (Nat.le_of_ble_eq_true rfl) ⟨Nat.le_of_ble_eq_true rfl, Nat.le_of_ble_eq_true rfl, Nat.le_of_ble_eq_true rfl, Nat.le_of_ble_eq_true rfl⟩ (k_Ri fun r280 h => ?_)
        refine z_istore C dX12_joins_283 (lc' := [some (.ref 100), some (.int (a1)), some (.int (a2)), some (.int (a3)), some (.int (a4)), some (.int (a5)), some (.int (a6)), some (.int (a7)), some (.int (a8)), some (.int (r280)), none]) (by decide) rfl ?_
        refine z_iload C dX12_joins_285 rfl ?_
        refine z_iconst C dX12_joins_287 (v := 1) (by decide) ?_
        refine z_iadd C dX12_joins_288 ?_
        refine z_iload C dX12_joins_289 rfl ?_
        refine z_iconst C dX12_joins_291 (v := 1) (by decide) ?_
        refine z_iadd C dX12_joins_292 ?_
        refine t_callS C (rest := []) (c2 := 0) (s2 := 0) [.int (a6 + 1), .int (a8 + 1)] dX12_joins_293 lk_X12_474 ls_X12_cellOf (c_X12_cellOf hfl h) rfl rfl ⟨Nat.le_of_ble_eq_true rfl, Nat.le_of_ble_eq_true rfl⟩ (Nat.le_of_ble_eq_true rfl) ⟨Nat.le_of_ble_eq_true rfl, Nat.le_of_ble_eq_true rfl, Nat.le_of_ble_eq_true rfl, Nat.le_of_ble_eq_true rfl⟩ (k_Ri fun r293 h => ?_)
        refine z_istore C dX12_joins_296 (lc' := [some (.ref 100), some (.int (a1)), some (.int (a2)), some (.int (a3)), some (.int (a4)), some (.int (a5)), some (.int (a6)), some (.int (a7)), some (.int (a8)), some (.int (r280)), some (.int (r293))]) (by decide) rfl ?_
        refine z_iload C dX12_joins_298 rfl ?_
        refine z_aload_n C dX12_joins_300 (i := 0) rfl rfl ?_
        refine t_get C dX12_joins_301 fl_X12_21 (k := 100) (i := 0) (by decide) rfl (fg_100_13 _ _ _) ?_
        refine z_bipush C dX12_joins_304 (v := 12) (by decide) ?_
        obtain ⟨g306, h⟩ := h
        refine t_iald C dX12_joins_306 (k := 103) (i := 0) (by decide) rfl (sh_103 _ _ _ _) g306 ?_
        refine z_icmp_gt C dX12_joins_307 (tgt := 358) (by decide) (fun c307 => ?_) (fun c307 => ?_)
        · have h := h.1 c307
          exact t_drop [true, true, true, true, true, true, true, true, true, false, false] rfl (j_X12_joins_358 hfl C hr hn9 hK229 hK256 st a1 a2 a3 a4 a5 a6 a7 a8 h)
        · have h := h.2 c307
          refine z_aload_n C dX12_joins_310 (i := 0) rfl rfl ?_
          refine t_get C dX12_joins_311 fl_X12_181 (k := 100) (i := 0) (by decide) rfl (fg_100_73 _ _ _) ?_
          refine z_iload C dX12_joins_314 rfl ?_
          obtain ⟨g316, h⟩ := h
          refine t_iald C dX12_joins_316 (k := 156) (i := 0) (by decide) rfl (sh_156 _ _ _ _) g316 ?_
          refine z_iconst C dX12_joins_317 (v := 1) (by decide) ?_
          refine z_iadd C dX12_joins_318 ?_
          refine z_aload_n C dX12_joins_319 (i := 0) rfl rfl ?_
          refine t_get C dX12_joins_320 fl_X12_181 (k := 100) (i := 0) (by decide) rfl (fg_100_73 _ _ _) ?_
          refine z_iload C dX12_joins_323 rfl ?_
          obtain ⟨g325, h⟩ := h
          refine t_iald C dX12_joins_325 (k := 156) (i := 0) (by decide) rfl (sh_156 _ _ _ _) g325 ?_
          refine z_icmp_ne C dX12_joins_326 (tgt := 358) (by decide) (fun c326 => ?_) (fun c326 => ?_)
          · have h := h.2 c326
            exact t_drop [true, true, true, true, true, true, true, true, true, false, false] rfl (j_X12_joins_358 hfl C hr hn9 hK229 hK256 st a1 a2 a3 a4 a5 a6 a7 a8 h)
          · have h := h.1 c326
            refine z_aload_n C dX12_joins_329 (i := 0) rfl rfl ?_
            refine t_get C dX12_joins_330 fl_X12_184 (k := 100) (i := 0) (by decide) rfl (fg_100_74 _ _ _) ?_
            refine z_iload C dX12_joins_333 rfl ?_
            obtain ⟨g335, h⟩ := h
            refine t_iald C dX12_joins_335 (k := 157) (i := 0) (by decide) rfl (sh_157 _ _ _ _) g335 ?_
            refine z_iload C dX12_joins_336 rfl ?_
            refine z_iadd C dX12_joins_338 ?_
            refine z_aload_n C dX12_joins_339 (i := 0) rfl rfl ?_
            refine t_get C dX12_joins_340 fl_X12_184 (k := 100) (i := 0) (by decide) rfl (fg_100_74 _ _ _) ?_
            refine z_iload C dX12_joins_343 rfl ?_
            obtain ⟨g345, h⟩ := h
            refine t_iald C dX12_joins_345 (k := 157) (i := 0) (by decide) rfl (sh_157 _ _ _ _) g345 ?_
            refine z_icmp_ne C dX12_joins_346 (tgt := 358) (by decide) (fun c346 => ?_) (fun c346 => ?_)
            · have h := h.2 c346
              exact t_drop [true, true, true, true, true, true, true, true, true, false, false] rfl (j_X12_joins_358 hfl C hr hn9 hK229 hK256 st a1 a2 a3 a4 a5 a6 a7 a8 h)
            · have h := h.1 c346
              refine z_aload_n C dX12_joins_349 (i := 0) rfl rfl ?_
              refine t_get C dX12_joins_350 fl_X12_187 (k := 100) (i := 0) (by decide) rfl (fg_100_75 _ _ _) ?_
              refine z_iload C dX12_joins_353 rfl ?_
              refine z_iload C dX12_joins_355 rfl ?_
              obtain ⟨g357, h⟩ := h
              refine t_iast C dX12_joins_357 (k := 158) (i := 0) (by decide) rfl (fun s9 => sh_158 _ _ s9 _) g357 ?_
              refine t_tops (fun s357 es357 => ?_)
              have h := h s357 es357
              exact t_drop [true, true, true, true, true, true, true, true, true, false, false] rfl (j_X12_joins_358 hfl C hr hn9 hK229 hK256 s357 a1 a2 a3 a4 a5 a6 a7 a8 h)
def w_X12_joins_229 (P : zTs → Prop)  : Nat → zTs → Int32 → Int32 → Int32 → Int32 → Int32 → Int32 → Prop
  | 0, _, _, _, _, _, _, _ => False
  | n9 + 1, st, a1, a2, a3, a4, a5, a6 => (a3 ≤ a6 → P st) ∧ (¬ a3 ≤ a6 → vp_in a6 20 ∧ (∀ s242 : zTs, s242 = zuA st 158 0 (a6 : Int32).toNatClampNeg (-1) → (w_X12_cellOf s242 a6 a5 (fun (r247 : Int32) => (w_X12_joins_256 P (w_X12_joins_229 P n9) zfu s242 a1 a2 a3 a4 a5 a6 r247 a5)))))
set_option maxHeartbeats 4000000 in
set_option maxRecDepth 100000 in
theorem j_X12_joins_229 {P : zTs → Prop}  (hfl : l.stackTraces = false) (C : zC Z p s m args meth c cX12_joins 11 RX12) (hr : meth.sig.returnType = none) (hn9 : True)  : ∀ (n9 : Nat) (st : zTs) (a1 : Int32) (a2 : Int32) (a3 : Int32) (a4 : Int32) (a5 : Int32) (a6 : Int32), w_X12_joins_229 P n9 st a1 a2 a3 a4 a5 a6 → zG Z ad0 h0 p l e ({ frames := 2, cells := 0, slots := 0, locals := 37 } : Room) s m args below meth c (MQ below (zQ Z ad0 h0 (zWv Z zm1 P)) args s 0 0 (zA Z)) 0 0 (zh Z zm1 st) 11 229 [some (.ref 100), some (.int (a1)), some (.int (a2)), some (.int (a3)), some (.int (a4)), some (.int (a5)), some (.int (a6)), none, none, none, none] [] := by
  intro n9
  induction n9 with
  | zero => intro st a1 a2 a3 a4 a5 a6 h; exact h.elim
  | succ n9 hK229 =>
    intro st a1 a2 a3 a4 a5 a6 h
    rw [w_X12_joins_229] at h
    refine z_iload C dX12_joins_229 rfl ?_
    refine z_iload_n C dX12_joins_231 (i := 3) rfl rfl ?_
    refine z_icmp_ge C dX12_joins_232 (tgt := 391) (by decide) (fun c232 => ?_) (fun c232 => ?_)
    · have h := h.1 c232
      exact z_vret C dX12_joins_391 hr ⟨_, rfl, rfl, h⟩ (Nat.le_of_ble_eq_true rfl) (Nat.le_of_ble_eq_true rfl)
    · have h := h.2 c232
      refine z_aload_n C dX12_joins_235 (i := 0) rfl rfl ?_
      refine t_get C dX12_joins_236 fl_X12_187 (k := 100) (i := 0) (by decide) rfl (fg_100_75 _ _ _) ?_
      refine z_iload C dX12_joins_239 rfl ?_
      refine z_iconst C dX12_joins_241 (v := (-1)) (by decide) ?_
      obtain ⟨g242, h⟩ := h
      refine t_iast C dX12_joins_242 (k := 158) (i := 0) (by decide) rfl (fun s9 => sh_158 _ _ s9 _) g242 ?_
      refine t_tops (fun s242 es242 => ?_)
      have h := h s242 es242
      refine z_iload C dX12_joins_243 rfl ?_
      refine z_iload C dX12_joins_245 rfl ?_
      refine t_callS C (rest := []) (c2 := 0) (s2 := 0) [.int (a6), .int (a5)] dX12_joins_247 lk_X12_474 ls_X12_cellOf (c_X12_cellOf hfl h) rfl rfl ⟨Nat.le_of_ble_eq_true rfl, Nat.le_of_ble_eq_true rfl⟩ (Nat.le_of_ble_eq_true rfl) ⟨Nat.le_of_ble_eq_true rfl, Nat.le_of_ble_eq_true rfl, Nat.le_of_ble_eq_true rfl, Nat.le_of_ble_eq_true rfl⟩ (k_Ri fun r247 h => ?_)
      refine z_istore C dX12_joins_250 (lc' := [some (.ref 100), some (.int (a1)), some (.int (a2)), some (.int (a3)), some (.int (a4)), some (.int (a5)), some (.int (a6)), some (.int (r247)), none, none, none]) (by decide) rfl ?_
      refine z_iload C dX12_joins_252 rfl ?_
      refine z_istore C dX12_joins_254 (lc' := [some (.ref 100), some (.int (a1)), some (.int (a2)), some (.int (a3)), some (.int (a4)), some (.int (a5)), some (.int (a6)), some (.int (r247)), some (.int (a5)), none, none]) (by decide) rfl ?_
      exact t_drop [true, true, true, true, true, true, true, true, true, false, false] rfl (j_X12_joins_256 hfl C hr hn9 hK229 zfu s242 a1 a2 a3 a4 a5 a6 r247 a5 h)
def w_X12_joins_211 (P : zTs → Prop) (K18 : zTs → Int32 → Int32 → Int32 → Int32 → Int32 → Prop) (K27 : zTs → Int32 → Int32 → Int32 → Int32 → Int32 → Int32 → Prop) (st : zTs) (a1 : Int32) (a2 : Int32) (a3 : Int32) (a4 : Int32) (a5 : Int32) (a6 : Int32) : Prop := ∀ x211 : Int32, x211 = a6 + (-1) → (K27 st a1 a2 a3 a4 a5 x211)
set_option maxHeartbeats 4000000 in
set_option maxRecDepth 100000 in
theorem j_X12_joins_211 {P : zTs → Prop} {K18 : zTs → Int32 → Int32 → Int32 → Int32 → Int32 → Prop} {K27 : zTs → Int32 → Int32 → Int32 → Int32 → Int32 → Int32 → Prop} (hfl : l.stackTraces = false) (C : zC Z p s m args meth c cX12_joins 11 RX12) (hr : meth.sig.returnType = none) (hn9 : True) (hK18 : ∀ (st : zTs) (a1 : Int32) (a2 : Int32) (a3 : Int32) (a4 : Int32) (a5 : Int32), K18 st a1 a2 a3 a4 a5 → zG Z ad0 h0 p l e ({ frames := 2, cells := 0, slots := 0, locals := 37 } : Room) s m args below meth c (MQ below (zQ Z ad0 h0 (zWv Z zm1 P)) args s 0 0 (zA Z)) 0 0 (zh Z zm1 st) 11 18 [some (.ref 100), some (.int (a1)), some (.int (a2)), some (.int (a3)), some (.int (a4)), some (.int (a5)), none, none, none, none, none] []) (hK27 : ∀ (st : zTs) (a1 : Int32) (a2 : Int32) (a3 : Int32) (a4 : Int32) (a5 : Int32) (a6 : Int32), K27 st a1 a2 a3 a4 a5 a6 → zG Z ad0 h0 p l e ({ frames := 2, cells := 0, slots := 0, locals := 37 } : Room) s m args below meth c (MQ below (zQ Z ad0 h0 (zWv Z zm1 P)) args s 0 0 (zA Z)) 0 0 (zh Z zm1 st) 11 27 [some (.ref 100), some (.int (a1)), some (.int (a2)), some (.int (a3)), some (.int (a4)), some (.int (a5)), some (.int (a6)), none, none, none, none] []) (st : zTs) (a1 : Int32) (a2 : Int32) (a3 : Int32) (a4 : Int32) (a5 : Int32) (a6 : Int32) (h : w_X12_joins_211 P K18 K27 st a1 a2 a3 a4 a5 a6) : zG Z ad0 h0 p l e ({ frames := 2, cells := 0, slots := 0, locals := 37 } : Room) s m args below meth c (MQ below (zQ Z ad0 h0 (zWv Z zm1 P)) args s 0 0 (zA Z)) 0 0 (zh Z zm1 st) 11 211 [some (.ref 100), some (.int (a1)), some (.int (a2)), some (.int (a3)), some (.int (a4)), some (.int (a5)), some (.int (a6)), none, none, none, none] [] := by
  unfold w_X12_joins_211 at h
  obtain ⟨x211, ex211⟩ : ∃ z : Int32, z = a6 + (-1) := ⟨_, rfl⟩
  have h := h x211 ex211
  refine z_iinc C dX12_joins_211 (v := x211) (lc' := [some (.ref 100), some (.int (a1)), some (.int (a2)), some (.int (a3)), some (.int (a4)), some (.int (a5)), some (.int (x211)), none, none, none, none]) rfl (by decide) (by rw [ex211]; rfl) rfl ?_
  refine z_goto C dX12_joins_214 (tgt := 27) (by decide) ?_
  exact t_drop [true, true, true, true, true, true, true, false, false, false, false] rfl (hK27 st a1 a2 a3 a4 a5 x211 h)
def w_X12_joins_27 (P : zTs → Prop) (K18 : zTs → Int32 → Int32 → Int32 → Int32 → Int32 → Prop) : Nat → zTs → Int32 → Int32 → Int32 → Int32 → Int32 → Int32 → Prop
  | 0, _, _, _, _, _, _, _ => False
  | n9 + 1, st, a1, a2, a3, a4, a5, a6 => (a6 < 0 → ∀ x217 : Int32, x217 = a5 + (-1) → (K18 st a1 a2 a3 a4 x217)) ∧ (¬ a6 < 0 → w_X12_cellOf st a5 a6 (fun (r36 : Int32) => (vp_in r36 441 ∧ (∀ s48 : zTs, s48 = zuA st 156 0 (r36 : Int32).toNatClampNeg 0 → (vp_in r36 441 ∧ (∀ s56 : zTs, s56 = zuA s48 157 0 (r36 : Int32).toNatClampNeg 0 → ((a5 = a3 → w_X12_joins_211 P K18 (w_X12_joins_27 P K18 n9) s56 a1 a2 a3 a4 a5 a6) ∧ (¬ a5 = a3 → (a6 = a4 → w_X12_joins_211 P K18 (w_X12_joins_27 P K18 n9) s56 a1 a2 a3 a4 a5 a6) ∧ (¬ a6 = a4 → vp_in r36 441 ∧ (∀ s80 : zTs, s80 = zuA s56 156 0 (r36 : Int32).toNatClampNeg (-1) → (w_X12_cellOf s80 (a5 + 1) a6 (fun (r94 : Int32) => (vp_in r94 441 ∧ (w_X12_cellOf s80 (a5 + 1) a6 (fun (r108 : Int32) => (vp_in r108 441 ∧ (w_X12_takes s80 r36 (zgA s80 156 0 (r94 : Int32).toNatClampNeg) (zgA s80 157 0 (r108 : Int32).toNatClampNeg) (fun (s112 : zTs) => (w_X12_cellOf s112 a5 (a6 + 1) (fun (r128 : Int32) => (vp_in r128 441 ∧ (w_X12_cellOf s112 a5 (a6 + 1) (fun (r142 : Int32) => (vp_in r142 441 ∧ (w_X12_takes s112 r36 (zgA s112 156 0 (r128 : Int32).toNatClampNeg) (zgA s112 157 0 (r142 : Int32).toNatClampNeg) (fun (s146 : zTs) => (w_X12_far s146 a1 a5 a2 a6 (fun (r156 : Int32) => (w_X12_cellOf s146 (a5 + 1) (a6 + 1) (fun (r169 : Int32) => (vp_in 12 15 ∧ (((zgA s146 103 0 (12 : Int32).toNatClampNeg) < r156 → w_X12_joins_211 P K18 (w_X12_joins_27 P K18 n9) s146 a1 a2 a3 a4 a5 a6) ∧ (¬ (zgA s146 103 0 (12 : Int32).toNatClampNeg) < r156 → vp_in r169 441 ∧ (vp_in r169 441 ∧ (w_X12_takes s146 r36 ((zgA s146 156 0 (r169 : Int32).toNatClampNeg) + 1) ((zgA s146 157 0 (r169 : Int32).toNatClampNeg) + r156) (fun (s208 : zTs) => (w_X12_joins_211 P K18 (w_X12_joins_27 P K18 n9) s208 a1 a2 a3 a4 a5 a6)))))))))))))))))))))))))))))))))))))
set_option maxHeartbeats 4000000 in
set_option maxRecDepth 100000 in
theorem j_X12_joins_27 {P : zTs → Prop} {K18 : zTs → Int32 → Int32 → Int32 → Int32 → Int32 → Prop} (hfl : l.stackTraces = false) (C : zC Z p s m args meth c cX12_joins 11 RX12) (hr : meth.sig.returnType = none) (hn9 : True) (hK18 : ∀ (st : zTs) (a1 : Int32) (a2 : Int32) (a3 : Int32) (a4 : Int32) (a5 : Int32), K18 st a1 a2 a3 a4 a5 → zG Z ad0 h0 p l e ({ frames := 2, cells := 0, slots := 0, locals := 37 } : Room) s m args below meth c (MQ below (zQ Z ad0 h0 (zWv Z zm1 P)) args s 0 0 (zA Z)) 0 0 (zh Z zm1 st) 11 18 [some (.ref 100), some (.int (a1)), some (.int (a2)), some (.int (a3)), some (.int (a4)), some (.int (a5)), none, none, none, none, none] []) : ∀ (n9 : Nat) (st : zTs) (a1 : Int32) (a2 : Int32) (a3 : Int32) (a4 : Int32) (a5 : Int32) (a6 : Int32), w_X12_joins_27 P K18 n9 st a1 a2 a3 a4 a5 a6 → zG Z ad0 h0 p l e ({ frames := 2, cells := 0, slots := 0, locals := 37 } : Room) s m args below meth c (MQ below (zQ Z ad0 h0 (zWv Z zm1 P)) args s 0 0 (zA Z)) 0 0 (zh Z zm1 st) 11 27 [some (.ref 100), some (.int (a1)), some (.int (a2)), some (.int (a3)), some (.int (a4)), some (.int (a5)), some (.int (a6)), none, none, none, none] [] := by
  intro n9
  induction n9 with
  | zero => intro st a1 a2 a3 a4 a5 a6 h; exact h.elim
  | succ n9 hK27 =>
    intro st a1 a2 a3 a4 a5 a6 h
    rw [w_X12_joins_27] at h
    refine z_iload C dX12_joins_27 rfl ?_
    refine z_if_lt C dX12_joins_29 (tgt := 217) (by decide) (fun c29 => ?_) (fun c29 => ?_)
    · have h := h.1 c29
      obtain ⟨x217, ex217⟩ : ∃ z : Int32, z = a5 + (-1) := ⟨_, rfl⟩
      have h := h x217 ex217
      refine z_iinc C dX12_joins_217 (v := x217) (lc' := [some (.ref 100), some (.int (a1)), some (.int (a2)), some (.int (a3)), some (.int (a4)), some (.int (x217)), some (.int (a6)), none, none, none, none]) rfl (by decide) (by rw [ex217]; rfl) rfl ?_
      refine z_goto C dX12_joins_220 (tgt := 18) (by decide) ?_
      exact t_drop [true, true, true, true, true, true, false, false, false, false, false] rfl (hK18 st a1 a2 a3 a4 x217 h)
    · have h := h.2 c29
      refine z_iload C dX12_joins_32 rfl ?_
      refine z_iload C dX12_joins_34 rfl ?_
      refine t_callS C (rest := []) (c2 := 0) (s2 := 0) [.int (a5), .int (a6)] dX12_joins_36 lk_X12_474 ls_X12_cellOf (c_X12_cellOf hfl h) rfl rfl ⟨Nat.le_of_ble_eq_true rfl, Nat.le_of_ble_eq_true rfl⟩ (Nat.le_of_ble_eq_true rfl) ⟨Nat.le_of_ble_eq_true rfl, Nat.le_of_ble_eq_true rfl, Nat.le_of_ble_eq_true rfl, Nat.le_of_ble_eq_true rfl⟩ (k_Ri fun r36 h => ?_)
      refine z_istore C dX12_joins_39 (lc' := [some (.ref 100), some (.int (a1)), some (.int (a2)), some (.int (a3)), some (.int (a4)), some (.int (a5)), some (.int (a6)), some (.int (r36)), none, none, none]) (by decide) rfl ?_
      refine z_aload_n C dX12_joins_41 (i := 0) rfl rfl ?_
      refine t_get C dX12_joins_42 fl_X12_181 (k := 100) (i := 0) (by decide) rfl (fg_100_73 _ _ _) ?_
      refine z_iload C dX12_joins_45 rfl ?_
      refine z_iconst C dX12_joins_47 (v := 0) (by decide) ?_
      obtain ⟨g48, h⟩ := h
      refine t_iast C dX12_joins_48 (k := 156) (i := 0) (by decide) rfl (fun s9 => sh_156 _ _ s9 _) g48 ?_
      refine t_tops (fun s48 es48 => ?_)
      have h := h s48 es48
      refine z_aload_n C dX12_joins_49 (i := 0) rfl rfl ?_
      refine t_get C dX12_joins_50 fl_X12_184 (k := 100) (i := 0) (by decide) rfl (fg_100_74 _ _ _) ?_
      refine z_iload C dX12_joins_53 rfl ?_
      refine z_iconst C dX12_joins_55 (v := 0) (by decide) ?_
      obtain ⟨g56, h⟩ := h
      refine t_iast C dX12_joins_56 (k := 157) (i := 0) (by decide) rfl (fun s9 => sh_157 _ _ s9 _) g56 ?_
      refine t_tops (fun s56 es56 => ?_)
      have h := h s56 es56
      refine z_iload C dX12_joins_57 rfl ?_
      refine z_iload_n C dX12_joins_59 (i := 3) rfl rfl ?_
      refine z_icmp_eq C dX12_joins_60 (tgt := 211) (by decide) (fun c60 => ?_) (fun c60 => ?_)
      · have h := h.1 c60
        exact t_drop [true, true, true, true, true, true, true, false, false, false, false] rfl (j_X12_joins_211 hfl C hr hn9 hK18 hK27 s56 a1 a2 a3 a4 a5 a6 h)
      · have h := h.2 c60
        refine z_iload C dX12_joins_63 rfl ?_
        refine z_iload C dX12_joins_65 rfl ?_
        refine z_icmp_ne C dX12_joins_67 (tgt := 73) (by decide) (fun c67 => ?_) (fun c67 => ?_)
        · have h := h.2 c67
          refine z_aload_n C dX12_joins_73 (i := 0) rfl rfl ?_
          refine t_get C dX12_joins_74 fl_X12_181 (k := 100) (i := 0) (by decide) rfl (fg_100_73 _ _ _) ?_
          refine z_iload C dX12_joins_77 rfl ?_
          refine z_iconst C dX12_joins_79 (v := (-1)) (by decide) ?_
          obtain ⟨g80, h⟩ := h
          refine t_iast C dX12_joins_80 (k := 156) (i := 0) (by decide) rfl (fun s9 => sh_156 _ _ s9 _) g80 ?_
          refine t_tops (fun s80 es80 => ?_)
          have h := h s80 es80
          refine z_aload_n C dX12_joins_81 (i := 0) rfl rfl ?_
          refine z_iload C dX12_joins_82 rfl ?_
          refine z_aload_n C dX12_joins_84 (i := 0) rfl rfl ?_
          refine t_get C dX12_joins_85 fl_X12_181 (k := 100) (i := 0) (by decide) rfl (fg_100_73 _ _ _) ?_
          refine z_iload C dX12_joins_88 rfl ?_
          refine z_iconst C dX12_joins_90 (v := 1) (by decide) ?_
          refine z_iadd C dX12_joins_91 ?_
          refine z_iload C dX12_joins_92 rfl ?_
          refine t_callS C (rest := [.ref 156, .int (r36), .ref 100]) (c2 := 0) (s2 := 0) [.int (a5 + 1), .int (a6)] dX12_joins_94 lk_X12_474 ls_X12_cellOf (c_X12_cellOf hfl h) rfl rfl ⟨Nat.le_of_ble_eq_true rfl, Nat.le_of_ble_eq_true rfl⟩ (Nat.le_of_ble_eq_true rfl) ⟨Nat.le_of_ble_eq_true rfl, Nat.le_of_ble_eq_true rfl, Nat.le_of_ble_eq_true rfl, Nat.le_of_ble_eq_true rfl⟩ (k_Ri fun r94 h => ?_)
          obtain ⟨g97, h⟩ := h
          refine t_iald C dX12_joins_97 (k := 156) (i := 0) (by decide) rfl (sh_156 _ _ _ _) g97 ?_
          refine z_aload_n C dX12_joins_98 (i := 0) rfl rfl ?_
          refine t_get C dX12_joins_99 fl_X12_184 (k := 100) (i := 0) (by decide) rfl (fg_100_74 _ _ _) ?_
          refine z_iload C dX12_joins_102 rfl ?_
          refine z_iconst C dX12_joins_104 (v := 1) (by decide) ?_
          refine z_iadd C dX12_joins_105 ?_
          refine z_iload C dX12_joins_106 rfl ?_
          refine t_callS C (rest := [.ref 157, .int (zgA s80 156 0 (r94 : Int32).toNatClampNeg), .int (r36), .ref 100]) (c2 := 0) (s2 := 0) [.int (a5 + 1), .int (a6)] dX12_joins_108 lk_X12_474 ls_X12_cellOf (c_X12_cellOf hfl h) rfl rfl ⟨Nat.le_of_ble_eq_true rfl, Nat.le_of_ble_eq_true rfl⟩ (Nat.le_of_ble_eq_true rfl) ⟨Nat.le_of_ble_eq_true rfl, Nat.le_of_ble_eq_true rfl, Nat.le_of_ble_eq_true rfl, Nat.le_of_ble_eq_true rfl⟩ (k_Ri fun r108 h => ?_)
          obtain ⟨g111, h⟩ := h
          refine t_iald C dX12_joins_111 (k := 157) (i := 0) (by decide) rfl (sh_157 _ _ _ _) g111 ?_
          refine t_callV C (rest := []) (c2 := 0) (s2 := 0) (kd := 100) (i := 0) [.int (r36), .int (zgA s80 156 0 (r94 : Int32).toNatClampNeg), .int (zgA s80 157 0 (r108 : Int32).toNatClampNeg)] dX12_joins_112 lk_X12_477 li_X12_takes le_X12_takes (c_X12_takes hfl h) rfl rfl (by decide) rfl ⟨_, rfl⟩ rfl ⟨Nat.le_of_ble_eq_true rfl, Nat.le_of_ble_eq_true rfl⟩ (Nat.le_of_ble_eq_true rfl) ⟨Nat.le_of_ble_eq_true rfl, Nat.le_of_ble_eq_true rfl, Nat.le_of_ble_eq_true rfl, Nat.le_of_ble_eq_true rfl⟩ (k_Wv fun s112 h => ?_)
          refine z_aload_n C dX12_joins_115 (i := 0) rfl rfl ?_
          refine z_iload C dX12_joins_116 rfl ?_
          refine z_aload_n C dX12_joins_118 (i := 0) rfl rfl ?_
          refine t_get C dX12_joins_119 fl_X12_181 (k := 100) (i := 0) (by decide) rfl (fg_100_73 _ _ _) ?_
          refine z_iload C dX12_joins_122 rfl ?_
          refine z_iload C dX12_joins_124 rfl ?_
          refine z_iconst C dX12_joins_126 (v := 1) (by decide) ?_
          refine z_iadd C dX12_joins_127 ?_
          refine t_callS C (rest := [.ref 156, .int (r36), .ref 100]) (c2 := 0) (s2 := 0) [.int (a5), .int (a6 + 1)] dX12_joins_128 lk_X12_474 ls_X12_cellOf (c_X12_cellOf hfl h) rfl rfl ⟨Nat.le_of_ble_eq_true rfl, Nat.le_of_ble_eq_true rfl⟩ (Nat.le_of_ble_eq_true rfl) ⟨Nat.le_of_ble_eq_true rfl, Nat.le_of_ble_eq_true rfl, Nat.le_of_ble_eq_true rfl, Nat.le_of_ble_eq_true rfl⟩ (k_Ri fun r128 h => ?_)
          obtain ⟨g131, h⟩ := h
          refine t_iald C dX12_joins_131 (k := 156) (i := 0) (by decide) rfl (sh_156 _ _ _ _) g131 ?_
          refine z_aload_n C dX12_joins_132 (i := 0) rfl rfl ?_
          refine t_get C dX12_joins_133 fl_X12_184 (k := 100) (i := 0) (by decide) rfl (fg_100_74 _ _ _) ?_
          refine z_iload C dX12_joins_136 rfl ?_
          refine z_iload C dX12_joins_138 rfl ?_
          refine z_iconst C dX12_joins_140 (v := 1) (by decide) ?_
          refine z_iadd C dX12_joins_141 ?_
          refine t_callS C (rest := [.ref 157, .int (zgA s112 156 0 (r128 : Int32).toNatClampNeg), .int (r36), .ref 100]) (c2 := 0) (s2 := 0) [.int (a5), .int (a6 + 1)] dX12_joins_142 lk_X12_474 ls_X12_cellOf (c_X12_cellOf hfl h) rfl rfl ⟨Nat.le_of_ble_eq_true rfl, Nat.le_of_ble_eq_true rfl⟩ (Nat.le_of_ble_eq_true rfl) ⟨Nat.le_of_ble_eq_true rfl, Nat.le_of_ble_eq_true rfl, Nat.le_of_ble_eq_true rfl, Nat.le_of_ble_eq_true rfl⟩ (k_Ri fun r142 h => ?_)
          obtain ⟨g145, h⟩ := h
          refine t_iald C dX12_joins_145 (k := 157) (i := 0) (by decide) rfl (sh_157 _ _ _ _) g145 ?_
          refine t_callV C (rest := []) (c2 := 0) (s2 := 0) (kd := 100) (i := 0) [.int (r36), .int (zgA s112 156 0 (r128 : Int32).toNatClampNeg), .int (zgA s112 157 0 (r142 : Int32).toNatClampNeg)] dX12_joins_146 lk_X12_477 li_X12_takes le_X12_takes (c_X12_takes hfl h) rfl rfl (by decide) rfl ⟨_, rfl⟩ rfl ⟨Nat.le_of_ble_eq_true rfl, Nat.le_of_ble_eq_true rfl⟩ (Nat.le_of_ble_eq_true rfl) ⟨Nat.le_of_ble_eq_true rfl, Nat.le_of_ble_eq_true rfl, Nat.le_of_ble_eq_true rfl, Nat.le_of_ble_eq_true rfl⟩ (k_Wv fun s146 h => ?_)
          refine z_aload_n C dX12_joins_149 (i := 0) rfl rfl ?_
          refine z_iload_n C dX12_joins_150 (i := 1) rfl rfl ?_
          refine z_iload C dX12_joins_151 rfl ?_
          refine z_iload_n C dX12_joins_153 (i := 2) rfl rfl ?_
          refine z_iload C dX12_joins_154 rfl ?_
          refine t_callV C (rest := []) (c2 := 0) (s2 := 0) (kd := 100) (i := 0) [.int (a1), .int (a5), .int (a2), .int (a6)] dX12_joins_156 lk_X12_480 li_X12_far le_X12_far (c_X12_far hfl h) rfl rfl (by decide) rfl ⟨_, rfl⟩ rfl ⟨Nat.le_of_ble_eq_true rfl, Nat.le_of_ble_eq_true rfl⟩ (Nat.le_of_ble_eq_true rfl) ⟨Nat.le_of_ble_eq_true rfl, Nat.le_of_ble_eq_true rfl, Nat.le_of_ble_eq_true rfl, Nat.le_of_ble_eq_true rfl⟩ (k_Ri fun r156 h => ?_)
          refine z_istore C dX12_joins_159 (lc' := [some (.ref 100), some (.int (a1)), some (.int (a2)), some (.int (a3)), some (.int (a4)), some (.int (a5)), some (.int (a6)), some (.int (r36)), some (.int (r156)), none, none]) (by decide) rfl ?_
          refine z_iload C dX12_joins_161 rfl ?_
          refine z_iconst C dX12_joins_163 (v := 1) (by decide) ?_
          refine z_iadd C dX12_joins_164 ?_
          refine z_iload C dX12_joins_165 rfl ?_
          refine z_iconst C dX12_joins_167 (v := 1) (by decide) ?_
          refine z_iadd C dX12_joins_168 ?_
          refine t_callS C (rest := []) (c2 := 0) (s2 := 0) [.int (a5 + 1), .int (a6 + 1)] dX12_joins_169 lk_X12_474 ls_X12_cellOf (c_X12_cellOf hfl h) rfl rfl ⟨Nat.le_of_ble_eq_true rfl, Nat.le_of_ble_eq_true rfl⟩ (Nat.le_of_ble_eq_true rfl) ⟨Nat.le_of_ble_eq_true rfl, Nat.le_of_ble_eq_true rfl, Nat.le_of_ble_eq_true rfl, Nat.le_of_ble_eq_true rfl⟩ (k_Ri fun r169 h => ?_)
          refine z_istore C dX12_joins_172 (lc' := [some (.ref 100), some (.int (a1)), some (.int (a2)), some (.int (a3)), some (.int (a4)), some (.int (a5)), some (.int (a6)), some (.int (r36)), some (.int (r156)), some (.int (r169)), none]) (by decide) rfl ?_
          refine z_iload C dX12_joins_174 rfl ?_
          refine z_aload_n C dX12_joins_176 (i := 0) rfl rfl ?_
          refine t_get C dX12_joins_177 fl_X12_21 (k := 100) (i := 0) (by decide) rfl (fg_100_13 _ _ _) ?_
          refine z_bipush C dX12_joins_180 (v := 12) (by decide) ?_
          obtain ⟨g182, h⟩ := h
          refine t_iald C dX12_joins_182 (k := 103) (i := 0) (by decide) rfl (sh_103 _ _ _ _) g182 ?_
          refine z_icmp_gt C dX12_joins_183 (tgt := 211) (by decide) (fun c183 => ?_) (fun c183 => ?_)
          · have h := h.1 c183
            exact t_drop [true, true, true, true, true, true, true, false, false, false, false] rfl (j_X12_joins_211 hfl C hr hn9 hK18 hK27 s146 a1 a2 a3 a4 a5 a6 h)
          · have h := h.2 c183
            refine z_aload_n C dX12_joins_186 (i := 0) rfl rfl ?_
            refine z_iload C dX12_joins_187 rfl ?_
            refine z_aload_n C dX12_joins_189 (i := 0) rfl rfl ?_
            refine t_get C dX12_joins_190 fl_X12_181 (k := 100) (i := 0) (by decide) rfl (fg_100_73 _ _ _) ?_
            refine z_iload C dX12_joins_193 rfl ?_
            obtain ⟨g195, h⟩ := h
            refine t_iald C dX12_joins_195 (k := 156) (i := 0) (by decide) rfl (sh_156 _ _ _ _) g195 ?_
            refine z_iconst C dX12_joins_196 (v := 1) (by decide) ?_
            refine z_iadd C dX12_joins_197 ?_
            refine z_aload_n C dX12_joins_198 (i := 0) rfl rfl ?_
            refine t_get C dX12_joins_199 fl_X12_184 (k := 100) (i := 0) (by decide) rfl (fg_100_74 _ _ _) ?_
            refine z_iload C dX12_joins_202 rfl ?_
            obtain ⟨g204, h⟩ := h
            refine t_iald C dX12_joins_204 (k := 157) (i := 0) (by decide) rfl (sh_157 _ _ _ _) g204 ?_
            refine z_iload C dX12_joins_205 rfl ?_
            refine z_iadd C dX12_joins_207 ?_
            refine t_callV C (rest := []) (c2 := 0) (s2 := 0) (kd := 100) (i := 0) [.int (r36), .int ((zgA s146 156 0 (r169 : Int32).toNatClampNeg) + 1), .int ((zgA s146 157 0 (r169 : Int32).toNatClampNeg) + r156)] dX12_joins_208 lk_X12_477 li_X12_takes le_X12_takes (c_X12_takes hfl h) rfl rfl (by decide) rfl ⟨_, rfl⟩ rfl ⟨Nat.le_of_ble_eq_true rfl, Nat.le_of_ble_eq_true rfl⟩ (Nat.le_of_ble_eq_true rfl) ⟨Nat.le_of_ble_eq_true rfl, Nat.le_of_ble_eq_true rfl, Nat.le_of_ble_eq_true rfl, Nat.le_of_ble_eq_true rfl⟩ (k_Wv fun s208 h => ?_)
            exact t_drop [true, true, true, true, true, true, true, false, false, false, false] rfl (j_X12_joins_211 hfl C hr hn9 hK18 hK27 s208 a1 a2 a3 a4 a5 a6 h)
        · have h := h.1 c67
          refine z_goto C dX12_joins_70 (tgt := 211) (by decide) ?_
          exact t_drop [true, true, true, true, true, true, true, false, false, false, false] rfl (j_X12_joins_211 hfl C hr hn9 hK18 hK27 s56 a1 a2 a3 a4 a5 a6 h)
def w_X12_joins_18 (P : zTs → Prop)  : Nat → zTs → Int32 → Int32 → Int32 → Int32 → Int32 → Prop
  | 0, _, _, _, _, _, _ => False
  | n9 + 1, st, a1, a2, a3, a4, a5 => (a5 < 0 → w_X12_joins_229 P zfu st a1 a2 a3 a4 (0) (0)) ∧ (¬ a5 < 0 → w_X12_joins_27 P (w_X12_joins_18 P n9) zfu st a1 a2 a3 a4 a5 a4)
set_option maxHeartbeats 4000000 in
set_option maxRecDepth 100000 in
theorem j_X12_joins_18 {P : zTs → Prop}  (hfl : l.stackTraces = false) (C : zC Z p s m args meth c cX12_joins 11 RX12) (hr : meth.sig.returnType = none) (hn9 : True)  : ∀ (n9 : Nat) (st : zTs) (a1 : Int32) (a2 : Int32) (a3 : Int32) (a4 : Int32) (a5 : Int32), w_X12_joins_18 P n9 st a1 a2 a3 a4 a5 → zG Z ad0 h0 p l e ({ frames := 2, cells := 0, slots := 0, locals := 37 } : Room) s m args below meth c (MQ below (zQ Z ad0 h0 (zWv Z zm1 P)) args s 0 0 (zA Z)) 0 0 (zh Z zm1 st) 11 18 [some (.ref 100), some (.int (a1)), some (.int (a2)), some (.int (a3)), some (.int (a4)), some (.int (a5)), none, none, none, none, none] [] := by
  intro n9
  induction n9 with
  | zero => intro st a1 a2 a3 a4 a5 h; exact h.elim
  | succ n9 hK18 =>
    intro st a1 a2 a3 a4 a5 h
    rw [w_X12_joins_18] at h
    refine z_iload C dX12_joins_18 rfl ?_
    refine z_if_lt C dX12_joins_20 (tgt := 223) (by decide) (fun c20 => ?_) (fun c20 => ?_)
    · have h := h.1 c20
      refine z_iconst C dX12_joins_223 (v := 0) (by decide) ?_
      refine z_istore C dX12_joins_224 (lc' := [some (.ref 100), some (.int (a1)), some (.int (a2)), some (.int (a3)), some (.int (a4)), some (.int (0)), none, none, none, none, none]) (by decide) rfl ?_
      refine z_iconst C dX12_joins_226 (v := 0) (by decide) ?_
      refine z_istore C dX12_joins_227 (lc' := [some (.ref 100), some (.int (a1)), some (.int (a2)), some (.int (a3)), some (.int (a4)), some (.int (0)), some (.int (0)), none, none, none, none]) (by decide) rfl ?_
      exact t_drop [true, true, true, true, true, true, true, false, false, false, false] rfl (j_X12_joins_229 hfl C hr hn9  zfu st a1 a2 a3 a4 (0) (0) h)
    · have h := h.2 c20
      refine z_iload C dX12_joins_23 rfl ?_
      refine z_istore C dX12_joins_25 (lc' := [some (.ref 100), some (.int (a1)), some (.int (a2)), some (.int (a3)), some (.int (a4)), some (.int (a5)), some (.int (a4)), none, none, none, none]) (by decide) rfl ?_
      exact t_drop [true, true, true, true, true, true, true, false, false, false, false] rfl (j_X12_joins_27 hfl C hr hn9 hK18 zfu st a1 a2 a3 a4 a5 a4 h)
def w_X12_joins (st : zTs) (a1 : Int32) (a2 : Int32) (P : zTs → Prop) : Prop := vp_in a1 10 ∧ (∀ x6 : Int32, x6 = zgA st 153 0 (a1 : Int32).toNatClampNeg → (vp_in a2 10 ∧ (∀ x13 : Int32, x13 = zgA st 153 0 (a2 : Int32).toNatClampNeg → (w_X12_joins_18 P zfu st a1 a2 x6 x13 x6))))
set_option maxHeartbeats 4000000 in
set_option maxRecDepth 100000 in
theorem c_X12_joins {Z : zZ} {l : Launch} (hfl : l.stackTraces = false) {st : zTs} {a1 : Int32} {a2 : Int32} {P : zTs → Prop} (h : w_X12_joins st a1 a2 P) : zN Z l yX12_joins cX12_joins 11 none ({ frames := 2, cells := 0, slots := 0, locals := 37 } : Room) (zh Z zm1 st) [.ref 100, .int (a1), .int (a2)] (zWv Z zm1 P) := by
  unfold w_X12_joins at h
  refine z_enterN (by decide) (Nat.le_of_ble_eq_true rfl) (lc0 := [some (.ref 100), some (.int (a1)), some (.int (a2)), none, none, none, none, none, none, none, none]) rfl ?_
  intro p e s m args below meth c ad0 C hr _
  have hn9 : True := trivial
  replace C : zC Z p s m args meth c cX12_joins 11 RX12 := C
  refine z_aload_n C dX12_joins_0 (i := 0) rfl rfl ?_
  refine t_get C dX12_joins_1 fl_X12_172 (k := 100) (i := 0) (by decide) rfl (fg_100_70 _ _ _) ?_
  refine z_iload_n C dX12_joins_4 (i := 1) rfl rfl ?_
  obtain ⟨g5, h⟩ := h
  refine t_iald C dX12_joins_5 (k := 153) (i := 0) (by decide) rfl (sh_153 _ _ _ _) g5 ?_
  refine t_topi (fun x6 ex6 => ?_)
  have h := h x6 ex6
  refine z_istore_n C dX12_joins_6 (i := 3) (lc' := [some (.ref 100), some (.int (a1)), some (.int (a2)), some (.int (x6)), none, none, none, none, none, none, none]) rfl (by decide) rfl ?_
  refine z_aload_n C dX12_joins_7 (i := 0) rfl rfl ?_
  refine t_get C dX12_joins_8 fl_X12_172 (k := 100) (i := 0) (by decide) rfl (fg_100_70 _ _ _) ?_
  refine z_iload_n C dX12_joins_11 (i := 2) rfl rfl ?_
  obtain ⟨g12, h⟩ := h
  refine t_iald C dX12_joins_12 (k := 153) (i := 0) (by decide) rfl (sh_153 _ _ _ _) g12 ?_
  refine t_topi (fun x13 ex13 => ?_)
  have h := h x13 ex13
  refine z_istore C dX12_joins_13 (lc' := [some (.ref 100), some (.int (a1)), some (.int (a2)), some (.int (x6)), some (.int (x13)), none, none, none, none, none, none]) (by decide) rfl ?_
  refine z_iload_n C dX12_joins_15 (i := 3) rfl rfl ?_
  refine z_istore C dX12_joins_16 (lc' := [some (.ref 100), some (.int (a1)), some (.int (a2)), some (.int (x6)), some (.int (x13)), some (.int (x6)), none, none, none, none, none]) (by decide) rfl ?_
  exact t_drop [true, true, true, true, true, true, false, false, false, false, false] rfl (j_X12_joins_18 hfl C hr hn9  zfu st a1 a2 x6 x13 x6 h)
def w_X12_trueOf (st : zTs) (a1 : Int32) (a2 : Int32) (P : Int32 → Prop) : Prop := vp_in ((20 * a1) + a2) 200 ∧ (vp_in a1 10 ∧ (vp_in (zgA st 152 0 (a1 : Int32).toNatClampNeg) 5 ∧ (P ((zgA st 155 0 ((20 * a1) + a2 : Int32).toNatClampNeg) - (zgA st 151 0 (zgA st 152 0 (a1 : Int32).toNatClampNeg : Int32).toNatClampNeg)))))
set_option maxHeartbeats 4000000 in
set_option maxRecDepth 100000 in
theorem c_X12_trueOf {Z : zZ} {l : Launch} (hfl : l.stackTraces = false) {st : zTs} {a1 : Int32} {a2 : Int32} {P : Int32 → Prop} (h : w_X12_trueOf st a1 a2 P) : zN Z l yX12_trueOf cX12_trueOf 3 (some .int) ({ frames := 1, cells := 0, slots := 0, locals := 12 } : Room) (zh Z zm1 st) [.ref 100, .int (a1), .int (a2)] (zRi Z st P) := by
  unfold w_X12_trueOf at h
  refine z_enterN (by decide) (Nat.le_of_ble_eq_true rfl) (lc0 := [some (.ref 100), some (.int (a1)), some (.int (a2))]) rfl ?_
  intro p e s m args below meth c ad0 C hr _
  have hn9 : True := trivial
  replace C : zC Z p s m args meth c cX12_trueOf 3 RX12 := C
  refine z_aload_n C dX12_trueOf_0 (i := 0) rfl rfl ?_
  refine t_get C dX12_trueOf_1 fl_X12_178 (k := 100) (i := 0) (by decide) rfl (fg_100_72 _ _ _) ?_
  refine z_bipush C dX12_trueOf_4 (v := 20) (by decide) ?_
  refine z_iload_n C dX12_trueOf_6 (i := 1) rfl rfl ?_
  refine z_imul C dX12_trueOf_7 ?_
  refine z_iload_n C dX12_trueOf_8 (i := 2) rfl rfl ?_
  refine z_iadd C dX12_trueOf_9 ?_
  obtain ⟨g10, h⟩ := h
  refine t_iald C dX12_trueOf_10 (k := 155) (i := 0) (by decide) rfl (sh_155 _ _ _ _) g10 ?_
  refine z_aload_n C dX12_trueOf_11 (i := 0) rfl rfl ?_
  refine t_get C dX12_trueOf_12 fl_X12_166 (k := 100) (i := 0) (by decide) rfl (fg_100_68 _ _ _) ?_
  refine z_aload_n C dX12_trueOf_15 (i := 0) rfl rfl ?_
  refine t_get C dX12_trueOf_16 fl_X12_169 (k := 100) (i := 0) (by decide) rfl (fg_100_69 _ _ _) ?_
  refine z_iload_n C dX12_trueOf_19 (i := 1) rfl rfl ?_
  obtain ⟨g20, h⟩ := h
  refine t_iald C dX12_trueOf_20 (k := 152) (i := 0) (by decide) rfl (sh_152 _ _ _ _) g20 ?_
  obtain ⟨g21, h⟩ := h
  refine t_iald C dX12_trueOf_21 (k := 151) (i := 0) (by decide) rfl (sh_151 _ _ _ _) g21 ?_
  refine z_isub C dX12_trueOf_22 ?_
  exact z_iret C dX12_trueOf_23 hr rfl ⟨rfl, _, rfl, h⟩ (Nat.le_of_ble_eq_true rfl) (Nat.le_of_ble_eq_true rfl)
def w_X12_joined_136 (P : Int32 → zTs → Prop) (K78 : zTs → Int32 → Int32 → Int32 → Int32 → Int32 → Int32 → Prop) (st : zTs) (a1 : Int32) (a2 : Int32) (a3 : Int32) (a5 : Int32) (a6 : Int32) (b0 : Int32) (b1 : Int32) : Prop := ∀ x137 : Int32, x137 = b1 + b0 → (∀ x139 : Int32, x139 = a6 + 1 → (K78 st a1 a2 a3 x137 a5 x139))
set_option maxHeartbeats 4000000 in
set_option maxRecDepth 100000 in
theorem j_X12_joined_136 {P : Int32 → zTs → Prop} {K78 : zTs → Int32 → Int32 → Int32 → Int32 → Int32 → Int32 → Prop} (hfl : l.stackTraces = false) (C : zC Z p s m args meth c cX12_joined 7 RX12) (hr : meth.sig.returnType = (some .int)) (hn9 : True) (hK78 : ∀ (st : zTs) (a1 : Int32) (a2 : Int32) (a3 : Int32) (a4 : Int32) (a5 : Int32) (a6 : Int32), K78 st a1 a2 a3 a4 a5 a6 → zG Z ad0 h0 p l e ({ frames := 3, cells := 0, slots := 0, locals := 67 } : Room) s m args below meth c (MQ below (zQ Z ad0 h0 (zWi Z P)) args s 0 0 (zA Z)) 0 0 (zh Z zm1 st) 7 78 [some (.ref 100), some (.int (a1)), some (.int (a2)), some (.int (a3)), some (.int (a4)), some (.int (a5)), some (.int (a6))] []) (st : zTs) (a1 : Int32) (a2 : Int32) (a3 : Int32) (a5 : Int32) (a6 : Int32) (b0 : Int32) (b1 : Int32) (h : w_X12_joined_136 P K78 st a1 a2 a3 a5 a6 b0 b1) : zG Z ad0 h0 p l e ({ frames := 3, cells := 0, slots := 0, locals := 67 } : Room) s m args below meth c (MQ below (zQ Z ad0 h0 (zWi Z P)) args s 0 0 (zA Z)) 0 0 (zh Z zm1 st) 7 136 [some (.ref 100), some (.int (a1)), some (.int (a2)), some (.int (a3)), none, some (.int (a5)), some (.int (a6))] [.int (b0), .int (b1)] := by
  unfold w_X12_joined_136 at h
  refine z_iadd C dX12_joined_136 ?_
  refine t_topi (fun x137 ex137 => ?_)
  have h := h x137 ex137
  refine z_istore C dX12_joined_137 (lc' := [some (.ref 100), some (.int (a1)), some (.int (a2)), some (.int (a3)), some (.int (x137)), some (.int (a5)), some (.int (a6))]) (by decide) rfl ?_
  obtain ⟨x139, ex139⟩ : ∃ z : Int32, z = a6 + 1 := ⟨_, rfl⟩
  have h := h x139 ex139
  refine z_iinc C dX12_joined_139 (v := x139) (lc' := [some (.ref 100), some (.int (a1)), some (.int (a2)), some (.int (a3)), some (.int (x137)), some (.int (a5)), some (.int (x139))]) rfl (by decide) (by rw [ex139]; rfl) rfl ?_
  refine z_goto C dX12_joined_142 (tgt := 78) (by decide) ?_
  exact t_drop [true, true, true, true, true, true, true] rfl (hK78 st a1 a2 a3 x137 a5 x139 h)
def w_X12_joined_135 (P : Int32 → zTs → Prop) (K78 : zTs → Int32 → Int32 → Int32 → Int32 → Int32 → Int32 → Prop) (st : zTs) (a1 : Int32) (a2 : Int32) (a3 : Int32) (a5 : Int32) (a6 : Int32) (b0 : Int32) : Prop := w_X12_joined_136 P K78 st a1 a2 a3 a5 a6 (0) b0
set_option maxHeartbeats 4000000 in
set_option maxRecDepth 100000 in
theorem j_X12_joined_135 {P : Int32 → zTs → Prop} {K78 : zTs → Int32 → Int32 → Int32 → Int32 → Int32 → Int32 → Prop} (hfl : l.stackTraces = false) (C : zC Z p s m args meth c cX12_joined 7 RX12) (hr : meth.sig.returnType = (some .int)) (hn9 : True) (hK78 : ∀ (st : zTs) (a1 : Int32) (a2 : Int32) (a3 : Int32) (a4 : Int32) (a5 : Int32) (a6 : Int32), K78 st a1 a2 a3 a4 a5 a6 → zG Z ad0 h0 p l e ({ frames := 3, cells := 0, slots := 0, locals := 67 } : Room) s m args below meth c (MQ below (zQ Z ad0 h0 (zWi Z P)) args s 0 0 (zA Z)) 0 0 (zh Z zm1 st) 7 78 [some (.ref 100), some (.int (a1)), some (.int (a2)), some (.int (a3)), some (.int (a4)), some (.int (a5)), some (.int (a6))] []) (st : zTs) (a1 : Int32) (a2 : Int32) (a3 : Int32) (a5 : Int32) (a6 : Int32) (b0 : Int32) (h : w_X12_joined_135 P K78 st a1 a2 a3 a5 a6 b0) : zG Z ad0 h0 p l e ({ frames := 3, cells := 0, slots := 0, locals := 67 } : Room) s m args below meth c (MQ below (zQ Z ad0 h0 (zWi Z P)) args s 0 0 (zA Z)) 0 0 (zh Z zm1 st) 7 135 [some (.ref 100), some (.int (a1)), some (.int (a2)), some (.int (a3)), none, some (.int (a5)), some (.int (a6))] [.int (b0)] := by
  unfold w_X12_joined_135 at h
  refine z_iconst C dX12_joined_135 (v := 0) (by decide) ?_
  exact t_drop [true, true, true, true, false, true, true] rfl (j_X12_joined_136 hfl C hr hn9 hK78 st a1 a2 a3 a5 a6 (0) b0 h)
def w_X12_joined_78 (P : Int32 → zTs → Prop)  : Nat → zTs → Int32 → Int32 → Int32 → Int32 → Int32 → Int32 → Prop
  | 0, _, _, _, _, _, _, _ => False
  | n9 + 1, st, a1, a2, a3, a4, a5, a6 => vp_in a1 10 ∧ (((zgA st 153 0 (a1 : Int32).toNatClampNeg) ≤ a6 → (a3 = 0 → P (a5 - a4) st) ∧ (a3 = 1 → P a4 st) ∧ (a3 = 2 → vp_in a2 10 ∧ (P ((zgA st 153 0 (a2 : Int32).toNatClampNeg) - a5) st)) ∧ (a3 = 3 → vp_in a1 10 ∧ (P ((zgA st 153 0 (a1 : Int32).toNatClampNeg) - a5) st)) ∧ (¬ a3 = 0 ∧ ¬ a3 = 1 ∧ ¬ a3 = 2 ∧ ¬ a3 = 3 → vp_in 0 441 ∧ (P (zgA st 157 0 (0 : Int32).toNatClampNeg) st))) ∧ (¬ (zgA st 153 0 (a1 : Int32).toNatClampNeg) ≤ a6 → vp_in a6 20 ∧ (((zgA st 158 0 (a6 : Int32).toNatClampNeg) < 0 → w_X12_joined_135 P (w_X12_joined_78 P n9) st a1 a2 a3 a5 a6 a4) ∧ (¬ (zgA st 158 0 (a6 : Int32).toNatClampNeg) < 0 → vp_in a6 20 ∧ (w_X12_trueOf st a2 (zgA st 158 0 (a6 : Int32).toNatClampNeg) (fun (r110 : Int32) => (w_X12_trueOf st a1 a6 (fun (r117 : Int32) => (vp_in 11 15 ∧ (((r110 - r117) ≤ (zgA st 103 0 (11 : Int32).toNatClampNeg) → w_X12_joined_135 P (w_X12_joined_78 P n9) st a1 a2 a3 a5 a6 a4) ∧ (¬ (r110 - r117) ≤ (zgA st 103 0 (11 : Int32).toNatClampNeg) → w_X12_joined_136 P (w_X12_joined_78 P n9) st a1 a2 a3 a5 a6 (1) a4)))))))))))
set_option maxHeartbeats 4000000 in
set_option maxRecDepth 100000 in
theorem j_X12_joined_78 {P : Int32 → zTs → Prop}  (hfl : l.stackTraces = false) (C : zC Z p s m args meth c cX12_joined 7 RX12) (hr : meth.sig.returnType = (some .int)) (hn9 : True)  : ∀ (n9 : Nat) (st : zTs) (a1 : Int32) (a2 : Int32) (a3 : Int32) (a4 : Int32) (a5 : Int32) (a6 : Int32), w_X12_joined_78 P n9 st a1 a2 a3 a4 a5 a6 → zG Z ad0 h0 p l e ({ frames := 3, cells := 0, slots := 0, locals := 67 } : Room) s m args below meth c (MQ below (zQ Z ad0 h0 (zWi Z P)) args s 0 0 (zA Z)) 0 0 (zh Z zm1 st) 7 78 [some (.ref 100), some (.int (a1)), some (.int (a2)), some (.int (a3)), some (.int (a4)), some (.int (a5)), some (.int (a6))] [] := by
  intro n9
  induction n9 with
  | zero => intro st a1 a2 a3 a4 a5 a6 h; exact h.elim
  | succ n9 hK78 =>
    intro st a1 a2 a3 a4 a5 a6 h
    rw [w_X12_joined_78] at h
    refine z_iload C dX12_joined_78 rfl ?_
    refine z_aload_n C dX12_joined_80 (i := 0) rfl rfl ?_
    refine t_get C dX12_joined_81 fl_X12_172 (k := 100) (i := 0) (by decide) rfl (fg_100_70 _ _ _) ?_
    refine z_iload_n C dX12_joined_84 (i := 1) rfl rfl ?_
    obtain ⟨g85, h⟩ := h
    refine t_iald C dX12_joined_85 (k := 153) (i := 0) (by decide) rfl (sh_153 _ _ _ _) g85 ?_
    refine z_icmp_ge C dX12_joined_86 (tgt := 145) (by decide) (fun c86 => ?_) (fun c86 => ?_)
    · have h := h.1 c86
      refine z_iload_n C dX12_joined_145 (i := 3) rfl rfl ?_
      by_cases c146_0 : a3 = 0
      · have h := h.1 c146_0
        refine z_tableIn C dX12_joined_146 (off := 30) (tgt := 176) (by rw [c146_0]; decide) (by rw [c146_0]; decide) (by rw [c146_0]; rfl) (by decide) ?_
        refine z_iload C dX12_joined_176 rfl ?_
        refine z_iload C dX12_joined_178 rfl ?_
        refine z_isub C dX12_joined_180 ?_
        exact z_iret C dX12_joined_181 hr rfl ⟨_, _, rfl, rfl, h⟩ (Nat.le_of_ble_eq_true rfl) (Nat.le_of_ble_eq_true rfl)
      · by_cases c146_1 : a3 = 1
        · have h := h.2.1 c146_1
          refine z_tableIn C dX12_joined_146 (off := 36) (tgt := 182) (by rw [c146_1]; decide) (by rw [c146_1]; decide) (by rw [c146_1]; rfl) (by decide) ?_
          refine z_iload C dX12_joined_182 rfl ?_
          exact z_iret C dX12_joined_184 hr rfl ⟨_, _, rfl, rfl, h⟩ (Nat.le_of_ble_eq_true rfl) (Nat.le_of_ble_eq_true rfl)
        · by_cases c146_2 : a3 = 2
          · have h := h.2.2.1 c146_2
            refine z_tableIn C dX12_joined_146 (off := 39) (tgt := 185) (by rw [c146_2]; decide) (by rw [c146_2]; decide) (by rw [c146_2]; rfl) (by decide) ?_
            refine z_aload_n C dX12_joined_185 (i := 0) rfl rfl ?_
            refine t_get C dX12_joined_186 fl_X12_172 (k := 100) (i := 0) (by decide) rfl (fg_100_70 _ _ _) ?_
            refine z_iload_n C dX12_joined_189 (i := 2) rfl rfl ?_
            obtain ⟨g190, h⟩ := h
            refine t_iald C dX12_joined_190 (k := 153) (i := 0) (by decide) rfl (sh_153 _ _ _ _) g190 ?_
            refine z_iload C dX12_joined_191 rfl ?_
            refine z_isub C dX12_joined_193 ?_
            exact z_iret C dX12_joined_194 hr rfl ⟨_, _, rfl, rfl, h⟩ (Nat.le_of_ble_eq_true rfl) (Nat.le_of_ble_eq_true rfl)
          · by_cases c146_3 : a3 = 3
            · have h := h.2.2.2.1 c146_3
              refine z_tableIn C dX12_joined_146 (off := 49) (tgt := 195) (by rw [c146_3]; decide) (by rw [c146_3]; decide) (by rw [c146_3]; rfl) (by decide) ?_
              refine z_aload_n C dX12_joined_195 (i := 0) rfl rfl ?_
              refine t_get C dX12_joined_196 fl_X12_172 (k := 100) (i := 0) (by decide) rfl (fg_100_70 _ _ _) ?_
              refine z_iload_n C dX12_joined_199 (i := 1) rfl rfl ?_
              obtain ⟨g200, h⟩ := h
              refine t_iald C dX12_joined_200 (k := 153) (i := 0) (by decide) rfl (sh_153 _ _ _ _) g200 ?_
              refine z_iload C dX12_joined_201 rfl ?_
              refine z_isub C dX12_joined_203 ?_
              exact z_iret C dX12_joined_204 hr rfl ⟨_, _, rfl, rfl, h⟩ (Nat.le_of_ble_eq_true rfl) (Nat.le_of_ble_eq_true rfl)
            · have h := h.2.2.2.2 ⟨c146_0, c146_1, c146_2, c146_3⟩
              refine z_tableOut C dX12_joined_146 (tgt := 205) (zsw_out (lt_s (p := fun a => ¬ a3 = nI a) (lt_s (p := fun a => ¬ a3 = nI a) (lt_s (p := fun a => ¬ a3 = nI a) (lt_s (p := fun a => ¬ a3 = nI a) lt_0 c146_0) c146_1) c146_2) c146_3)) (by decide) ?_
              refine z_aload_n C dX12_joined_205 (i := 0) rfl rfl ?_
              refine t_get C dX12_joined_206 fl_X12_184 (k := 100) (i := 0) (by decide) rfl (fg_100_74 _ _ _) ?_
              refine z_iconst C dX12_joined_209 (v := 0) (by decide) ?_
              obtain ⟨g210, h⟩ := h
              refine t_iald C dX12_joined_210 (k := 157) (i := 0) (by decide) rfl (sh_157 _ _ _ _) g210 ?_
              exact z_iret C dX12_joined_211 hr rfl ⟨_, _, rfl, rfl, h⟩ (Nat.le_of_ble_eq_true rfl) (Nat.le_of_ble_eq_true rfl)
    · have h := h.2 c86
      refine z_iload C dX12_joined_89 rfl ?_
      refine z_aload_n C dX12_joined_91 (i := 0) rfl rfl ?_
      refine t_get C dX12_joined_92 fl_X12_187 (k := 100) (i := 0) (by decide) rfl (fg_100_75 _ _ _) ?_
      refine z_iload C dX12_joined_95 rfl ?_
      obtain ⟨g97, h⟩ := h
      refine t_iald C dX12_joined_97 (k := 158) (i := 0) (by decide) rfl (sh_158 _ _ _ _) g97 ?_
      refine z_if_lt C dX12_joined_98 (tgt := 135) (by decide) (fun c98 => ?_) (fun c98 => ?_)
      · have h := h.1 c98
        exact t_drop [true, true, true, true, false, true, true] rfl (j_X12_joined_135 hfl C hr hn9 hK78 st a1 a2 a3 a5 a6 a4 h)
      · have h := h.2 c98
        refine z_aload_n C dX12_joined_101 (i := 0) rfl rfl ?_
        refine z_iload_n C dX12_joined_102 (i := 2) rfl rfl ?_
        refine z_aload_n C dX12_joined_103 (i := 0) rfl rfl ?_
        refine t_get C dX12_joined_104 fl_X12_187 (k := 100) (i := 0) (by decide) rfl (fg_100_75 _ _ _) ?_
        refine z_iload C dX12_joined_107 rfl ?_
        obtain ⟨g109, h⟩ := h
        refine t_iald C dX12_joined_109 (k := 158) (i := 0) (by decide) rfl (sh_158 _ _ _ _) g109 ?_
        refine t_callV C (rest := [.int (a4)]) (c2 := 0) (s2 := 0) (kd := 100) (i := 0) [.int (a2), .int (zgA st 158 0 (a6 : Int32).toNatClampNeg)] dX12_joined_110 lk_X12_487 li_X12_trueOf le_X12_trueOf (c_X12_trueOf hfl h) rfl rfl (by decide) rfl ⟨_, rfl⟩ rfl ⟨Nat.le_of_ble_eq_true rfl, Nat.le_of_ble_eq_true rfl⟩ (Nat.le_of_ble_eq_true rfl) ⟨Nat.le_of_ble_eq_true rfl, Nat.le_of_ble_eq_true rfl, Nat.le_of_ble_eq_true rfl, Nat.le_of_ble_eq_true rfl⟩ (k_Ri fun r110 h => ?_)
        refine z_aload_n C dX12_joined_113 (i := 0) rfl rfl ?_
        refine z_iload_n C dX12_joined_114 (i := 1) rfl rfl ?_
        refine z_iload C dX12_joined_115 rfl ?_
        refine t_callV C (rest := [.int (r110), .int (a4)]) (c2 := 0) (s2 := 0) (kd := 100) (i := 0) [.int (a1), .int (a6)] dX12_joined_117 lk_X12_487 li_X12_trueOf le_X12_trueOf (c_X12_trueOf hfl h) rfl rfl (by decide) rfl ⟨_, rfl⟩ rfl ⟨Nat.le_of_ble_eq_true rfl, Nat.le_of_ble_eq_true rfl⟩ (Nat.le_of_ble_eq_true rfl) ⟨Nat.le_of_ble_eq_true rfl, Nat.le_of_ble_eq_true rfl, Nat.le_of_ble_eq_true rfl, Nat.le_of_ble_eq_true rfl⟩ (k_Ri fun r117 h => ?_)
        refine z_isub C dX12_joined_120 ?_
        refine z_aload_n C dX12_joined_121 (i := 0) rfl rfl ?_
        refine t_get C dX12_joined_122 fl_X12_21 (k := 100) (i := 0) (by decide) rfl (fg_100_13 _ _ _) ?_
        refine z_bipush C dX12_joined_125 (v := 11) (by decide) ?_
        obtain ⟨g127, h⟩ := h
        refine t_iald C dX12_joined_127 (k := 103) (i := 0) (by decide) rfl (sh_103 _ _ _ _) g127 ?_
        refine z_icmp_le C dX12_joined_128 (tgt := 135) (by decide) (fun c128 => ?_) (fun c128 => ?_)
        · have h := h.1 c128
          exact t_drop [true, true, true, true, false, true, true] rfl (j_X12_joined_135 hfl C hr hn9 hK78 st a1 a2 a3 a5 a6 a4 h)
        · have h := h.2 c128
          refine z_iconst C dX12_joined_131 (v := 1) (by decide) ?_
          refine z_goto C dX12_joined_132 (tgt := 136) (by decide) ?_
          exact t_drop [true, true, true, true, false, true, true] rfl (j_X12_joined_136 hfl C hr hn9 hK78 st a1 a2 a3 a5 a6 (1) a4 h)
def w_X12_joined_49 (P : Int32 → zTs → Prop)  (st : zTs) (a1 : Int32) (a2 : Int32) (a3 : Int32) (b0 : Int32) : Prop := w_X12_bad st b0 2 (fun (r50 : Int32) (s50 : zTs) => ((r50 = 0 → w_X12_joins s50 a1 a2 (fun (s61 : zTs) => (vp_in 0 441 ∧ (∀ x73 : Int32, x73 = zgA s61 156 0 (0 : Int32).toNatClampNeg → (w_X12_joined_78 P zfu s61 a1 a2 a3 (0) x73 (0)))))) ∧ (¬ r50 = 0 → P 0 s50)))
set_option maxHeartbeats 4000000 in
set_option maxRecDepth 100000 in
theorem j_X12_joined_49 {P : Int32 → zTs → Prop}  (hfl : l.stackTraces = false) (C : zC Z p s m args meth c cX12_joined 7 RX12) (hr : meth.sig.returnType = (some .int)) (hn9 : True)  (st : zTs) (a1 : Int32) (a2 : Int32) (a3 : Int32) (b0 : Int32) (h : w_X12_joined_49 P st a1 a2 a3 b0) : zG Z ad0 h0 p l e ({ frames := 3, cells := 0, slots := 0, locals := 67 } : Room) s m args below meth c (MQ below (zQ Z ad0 h0 (zWi Z P)) args s 0 0 (zA Z)) 0 0 (zh Z zm1 st) 7 49 [some (.ref 100), some (.int (a1)), some (.int (a2)), some (.int (a3)), none, none, none] [.int (b0), .ref 100] := by
  unfold w_X12_joined_49 at h
  refine z_iconst C dX12_joined_49 (v := 2) (by decide) ?_
  refine t_callV C (rest := []) (c2 := 0) (s2 := 0) (kd := 100) (i := 0) [.int (b0), .int (2)] dX12_joined_50 lk_X12_205 li_X12_bad le_X12_bad (c_X12_bad hfl h) rfl rfl (by decide) rfl ⟨_, rfl⟩ rfl ⟨Nat.le_of_ble_eq_true rfl, Nat.le_of_ble_eq_true rfl⟩ (Nat.le_of_ble_eq_true rfl) ⟨Nat.le_of_ble_eq_true rfl, Nat.le_of_ble_eq_true rfl, Nat.le_of_ble_eq_true rfl, Nat.le_of_ble_eq_true rfl⟩ (k_Wi fun r50 s50 h => ?_)
  refine z_if_eq C dX12_joined_53 (tgt := 58) (by decide) (fun c53 => ?_) (fun c53 => ?_)
  · have h := h.1 c53
    refine z_aload_n C dX12_joined_58 (i := 0) rfl rfl ?_
    refine z_iload_n C dX12_joined_59 (i := 1) rfl rfl ?_
    refine z_iload_n C dX12_joined_60 (i := 2) rfl rfl ?_
    refine t_callV C (rest := []) (c2 := 0) (s2 := 0) (kd := 100) (i := 0) [.int (a1), .int (a2)] dX12_joined_61 lk_X12_484 li_X12_joins le_X12_joins (c_X12_joins hfl h) rfl rfl (by decide) rfl ⟨_, rfl⟩ rfl ⟨Nat.le_of_ble_eq_true rfl, Nat.le_of_ble_eq_true rfl⟩ (Nat.le_of_ble_eq_true rfl) ⟨Nat.le_of_ble_eq_true rfl, Nat.le_of_ble_eq_true rfl, Nat.le_of_ble_eq_true rfl, Nat.le_of_ble_eq_true rfl⟩ (k_Wv fun s61 h => ?_)
    refine z_iconst C dX12_joined_64 (v := 0) (by decide) ?_
    refine z_istore C dX12_joined_65 (lc' := [some (.ref 100), some (.int (a1)), some (.int (a2)), some (.int (a3)), some (.int (0)), none, none]) (by decide) rfl ?_
    refine z_aload_n C dX12_joined_67 (i := 0) rfl rfl ?_
    refine t_get C dX12_joined_68 fl_X12_181 (k := 100) (i := 0) (by decide) rfl (fg_100_73 _ _ _) ?_
    refine z_iconst C dX12_joined_71 (v := 0) (by decide) ?_
    obtain ⟨g72, h⟩ := h
    refine t_iald C dX12_joined_72 (k := 156) (i := 0) (by decide) rfl (sh_156 _ _ _ _) g72 ?_
    refine t_topi (fun x73 ex73 => ?_)
    have h := h x73 ex73
    refine z_istore C dX12_joined_73 (lc' := [some (.ref 100), some (.int (a1)), some (.int (a2)), some (.int (a3)), some (.int (0)), some (.int (x73)), none]) (by decide) rfl ?_
    refine z_iconst C dX12_joined_75 (v := 0) (by decide) ?_
    refine z_istore C dX12_joined_76 (lc' := [some (.ref 100), some (.int (a1)), some (.int (a2)), some (.int (a3)), some (.int (0)), some (.int (x73)), some (.int (0))]) (by decide) rfl ?_
    exact t_drop [true, true, true, true, true, true, true] rfl (j_X12_joined_78 hfl C hr hn9  zfu s61 a1 a2 a3 (0) x73 (0) h)
  · have h := h.2 c53
    refine z_iconst C dX12_joined_56 (v := 0) (by decide) ?_
    exact z_iret C dX12_joined_57 hr rfl ⟨_, _, rfl, rfl, h⟩ (Nat.le_of_ble_eq_true rfl) (Nat.le_of_ble_eq_true rfl)
def w_X12_joined_27 (P : Int32 → zTs → Prop)  (st : zTs) (a1 : Int32) (a2 : Int32) (a3 : Int32) (b0 : Int32) : Prop := w_X12_bad st b0 1 (fun (r28 : Int32) (s28 : zTs) => ((r28 = 0 → (a3 < 0 → w_X12_joined_49 P s28 a1 a2 a3 (1)) ∧ (¬ a3 < 0 → (a3 ≤ 4 → w_X12_joined_49 P s28 a1 a2 a3 (0)) ∧ (¬ a3 ≤ 4 → w_X12_joined_49 P s28 a1 a2 a3 (1)))) ∧ (¬ r28 = 0 → P 0 s28)))
set_option maxHeartbeats 4000000 in
set_option maxRecDepth 100000 in
theorem j_X12_joined_27 {P : Int32 → zTs → Prop}  (hfl : l.stackTraces = false) (C : zC Z p s m args meth c cX12_joined 7 RX12) (hr : meth.sig.returnType = (some .int)) (hn9 : True)  (st : zTs) (a1 : Int32) (a2 : Int32) (a3 : Int32) (b0 : Int32) (h : w_X12_joined_27 P st a1 a2 a3 b0) : zG Z ad0 h0 p l e ({ frames := 3, cells := 0, slots := 0, locals := 67 } : Room) s m args below meth c (MQ below (zQ Z ad0 h0 (zWi Z P)) args s 0 0 (zA Z)) 0 0 (zh Z zm1 st) 7 27 [some (.ref 100), some (.int (a1)), some (.int (a2)), some (.int (a3)), none, none, none] [.int (b0), .ref 100] := by
  unfold w_X12_joined_27 at h
  refine z_iconst C dX12_joined_27 (v := 1) (by decide) ?_
  refine t_callV C (rest := []) (c2 := 0) (s2 := 0) (kd := 100) (i := 0) [.int (b0), .int (1)] dX12_joined_28 lk_X12_205 li_X12_bad le_X12_bad (c_X12_bad hfl h) rfl rfl (by decide) rfl ⟨_, rfl⟩ rfl ⟨Nat.le_of_ble_eq_true rfl, Nat.le_of_ble_eq_true rfl⟩ (Nat.le_of_ble_eq_true rfl) ⟨Nat.le_of_ble_eq_true rfl, Nat.le_of_ble_eq_true rfl, Nat.le_of_ble_eq_true rfl, Nat.le_of_ble_eq_true rfl⟩ (k_Wi fun r28 s28 h => ?_)
  refine z_if_ne C dX12_joined_31 (tgt := 56) (by decide) (fun c31 => ?_) (fun c31 => ?_)
  · have h := h.2 c31
    refine z_iconst C dX12_joined_56 (v := 0) (by decide) ?_
    exact z_iret C dX12_joined_57 hr rfl ⟨_, _, rfl, rfl, h⟩ (Nat.le_of_ble_eq_true rfl) (Nat.le_of_ble_eq_true rfl)
  · have h := h.1 c31
    refine z_aload_n C dX12_joined_34 (i := 0) rfl rfl ?_
    refine z_iload_n C dX12_joined_35 (i := 3) rfl rfl ?_
    refine z_if_lt C dX12_joined_36 (tgt := 44) (by decide) (fun c36 => ?_) (fun c36 => ?_)
    · have h := h.1 c36
      refine z_iconst C dX12_joined_44 (v := 1) (by decide) ?_
      refine z_goto C dX12_joined_45 (tgt := 49) (by decide) ?_
      exact t_drop [true, true, true, true, false, false, false] rfl (j_X12_joined_49 hfl C hr hn9  s28 a1 a2 a3 (1) h)
    · have h := h.2 c36
      refine z_iload_n C dX12_joined_39 (i := 3) rfl rfl ?_
      refine z_iconst C dX12_joined_40 (v := 4) (by decide) ?_
      refine z_icmp_le C dX12_joined_41 (tgt := 48) (by decide) (fun c41 => ?_) (fun c41 => ?_)
      · have h := h.1 c41
        refine z_iconst C dX12_joined_48 (v := 0) (by decide) ?_
        exact t_drop [true, true, true, true, false, false, false] rfl (j_X12_joined_49 hfl C hr hn9  s28 a1 a2 a3 (0) h)
      · have h := h.2 c41
        refine z_iconst C dX12_joined_44 (v := 1) (by decide) ?_
        refine z_goto C dX12_joined_45 (tgt := 49) (by decide) ?_
        exact t_drop [true, true, true, true, false, false, false] rfl (j_X12_joined_49 hfl C hr hn9  s28 a1 a2 a3 (1) h)
def w_X12_joined (st : zTs) (a1 : Int32) (a2 : Int32) (a3 : Int32) (P : Int32 → zTs → Prop) : Prop := ∀ s2 : zTs, s2 = zuF st 100 0 0 0 → (w_X12_isSurvey s2 a1 (fun (r8 : Int32) => ((r8 = 0 → w_X12_joined_27 P s2 a1 a2 a3 (1)) ∧ (¬ r8 = 0 → w_X12_isSurvey s2 a2 (fun (r16 : Int32) => ((r16 = 0 → w_X12_joined_27 P s2 a1 a2 a3 (1)) ∧ (¬ r16 = 0 → w_X12_joined_27 P s2 a1 a2 a3 (0))))))))
set_option maxHeartbeats 4000000 in
set_option maxRecDepth 100000 in
theorem c_X12_joined {Z : zZ} {l : Launch} (hfl : l.stackTraces = false) {st : zTs} {a1 : Int32} {a2 : Int32} {a3 : Int32} {P : Int32 → zTs → Prop} (h : w_X12_joined st a1 a2 a3 P) : zN Z l yX12_joined cX12_joined 7 (some .int) ({ frames := 3, cells := 0, slots := 0, locals := 67 } : Room) (zh Z zm1 st) [.ref 100, .int (a1), .int (a2), .int (a3)] (zWi Z P) := by
  unfold w_X12_joined at h
  refine z_enterN (by decide) (Nat.le_of_ble_eq_true rfl) (lc0 := [some (.ref 100), some (.int (a1)), some (.int (a2)), some (.int (a3)), none, none, none]) rfl ?_
  intro p e s m args below meth c ad0 C hr _
  have hn9 : True := trivial
  replace C : zC Z p s m args meth c cX12_joined 7 RX12 := C
  refine z_aload_n C dX12_joined_0 (i := 0) rfl rfl ?_
  refine z_iconst C dX12_joined_1 (v := 0) (by decide) ?_
  refine t_put C dX12_joined_2 fq_X12_199 (Or.inl rfl) (k := 100) (i := 0) (by decide) rfl ⟨rfl, rfl⟩ (fp_100_0 _ _ _ _ _) ?_
  refine t_tops (fun s2 es2 => ?_)
  have h := h s2 es2
  refine z_aload_n C dX12_joined_5 (i := 0) rfl rfl ?_
  refine z_aload_n C dX12_joined_6 (i := 0) rfl rfl ?_
  refine z_iload_n C dX12_joined_7 (i := 1) rfl rfl ?_
  refine t_callV C (rest := [.ref 100]) (c2 := 0) (s2 := 0) (kd := 100) (i := 0) [.int (a1)] dX12_joined_8 lk_X12_471 li_X12_isSurvey le_X12_isSurvey (c_X12_isSurvey hfl h) rfl rfl (by decide) rfl ⟨_, rfl⟩ rfl ⟨Nat.le_of_ble_eq_true rfl, Nat.le_of_ble_eq_true rfl⟩ (Nat.le_of_ble_eq_true rfl) ⟨Nat.le_of_ble_eq_true rfl, Nat.le_of_ble_eq_true rfl, Nat.le_of_ble_eq_true rfl, Nat.le_of_ble_eq_true rfl⟩ (k_Ri fun r8 h => ?_)
  refine z_if_eq C dX12_joined_11 (tgt := 22) (by decide) (fun c11 => ?_) (fun c11 => ?_)
  · have h := h.1 c11
    refine z_iconst C dX12_joined_22 (v := 1) (by decide) ?_
    refine z_goto C dX12_joined_23 (tgt := 27) (by decide) ?_
    exact t_drop [true, true, true, true, false, false, false] rfl (j_X12_joined_27 hfl C hr hn9  s2 a1 a2 a3 (1) h)
  · have h := h.2 c11
    refine z_aload_n C dX12_joined_14 (i := 0) rfl rfl ?_
    refine z_iload_n C dX12_joined_15 (i := 2) rfl rfl ?_
    refine t_callV C (rest := [.ref 100]) (c2 := 0) (s2 := 0) (kd := 100) (i := 0) [.int (a2)] dX12_joined_16 lk_X12_471 li_X12_isSurvey le_X12_isSurvey (c_X12_isSurvey hfl h) rfl rfl (by decide) rfl ⟨_, rfl⟩ rfl ⟨Nat.le_of_ble_eq_true rfl, Nat.le_of_ble_eq_true rfl⟩ (Nat.le_of_ble_eq_true rfl) ⟨Nat.le_of_ble_eq_true rfl, Nat.le_of_ble_eq_true rfl, Nat.le_of_ble_eq_true rfl, Nat.le_of_ble_eq_true rfl⟩ (k_Ri fun r16 h => ?_)
    refine z_if_ne C dX12_joined_19 (tgt := 26) (by decide) (fun c19 => ?_) (fun c19 => ?_)
    · have h := h.2 c19
      refine z_iconst C dX12_joined_26 (v := 0) (by decide) ?_
      exact t_drop [true, true, true, true, false, false, false] rfl (j_X12_joined_27 hfl C hr hn9  s2 a1 a2 a3 (0) h)
    · have h := h.1 c19
      refine z_iconst C dX12_joined_22 (v := 1) (by decide) ?_
      refine z_goto C dX12_joined_23 (tgt := 27) (by decide) ?_
      exact t_drop [true, true, true, true, false, false, false] rfl (j_X12_joined_27 hfl C hr hn9  s2 a1 a2 a3 (1) h)
def w_X12_pair_27 (P : Int32 → zTs → Prop)  (st : zTs) (a1 : Int32) (a2 : Int32) (a3 : Int32) (b0 : Int32) : Prop := w_X12_bad st b0 1 (fun (r28 : Int32) (s28 : zTs) => ((r28 = 0 → w_X12_joins s28 a1 a2 (fun (s39 : zTs) => ((a3 < 0 → P (-1) s39) ∧ (¬ a3 < 0 → vp_in a1 10 ∧ (((zgA s39 153 0 (a1 : Int32).toNatClampNeg) ≤ a3 → P (-1) s39) ∧ (¬ (zgA s39 153 0 (a1 : Int32).toNatClampNeg) ≤ a3 → vp_in a3 20 ∧ (P (zgA s39 158 0 (a3 : Int32).toNatClampNeg) s39))))))) ∧ (¬ r28 = 0 → P 0 s28)))
set_option maxHeartbeats 4000000 in
set_option maxRecDepth 100000 in
theorem j_X12_pair_27 {P : Int32 → zTs → Prop}  (hfl : l.stackTraces = false) (C : zC Z p s m args meth c cX12_pair 4 RX12) (hr : meth.sig.returnType = (some .int)) (hn9 : True)  (st : zTs) (a1 : Int32) (a2 : Int32) (a3 : Int32) (b0 : Int32) (h : w_X12_pair_27 P st a1 a2 a3 b0) : zG Z ad0 h0 p l e ({ frames := 3, cells := 0, slots := 0, locals := 67 } : Room) s m args below meth c (MQ below (zQ Z ad0 h0 (zWi Z P)) args s 0 0 (zA Z)) 0 0 (zh Z zm1 st) 4 27 [some (.ref 100), some (.int (a1)), some (.int (a2)), some (.int (a3))] [.int (b0), .ref 100] := by
  unfold w_X12_pair_27 at h
  refine z_iconst C dX12_pair_27 (v := 1) (by decide) ?_
  refine t_callV C (rest := []) (c2 := 0) (s2 := 0) (kd := 100) (i := 0) [.int (b0), .int (1)] dX12_pair_28 lk_X12_205 li_X12_bad le_X12_bad (c_X12_bad hfl h) rfl rfl (by decide) rfl ⟨_, rfl⟩ rfl ⟨Nat.le_of_ble_eq_true rfl, Nat.le_of_ble_eq_true rfl⟩ (Nat.le_of_ble_eq_true rfl) ⟨Nat.le_of_ble_eq_true rfl, Nat.le_of_ble_eq_true rfl, Nat.le_of_ble_eq_true rfl, Nat.le_of_ble_eq_true rfl⟩ (k_Wi fun r28 s28 h => ?_)
  refine z_if_eq C dX12_pair_31 (tgt := 36) (by decide) (fun c31 => ?_) (fun c31 => ?_)
  · have h := h.1 c31
    refine z_aload_n C dX12_pair_36 (i := 0) rfl rfl ?_
    refine z_iload_n C dX12_pair_37 (i := 1) rfl rfl ?_
    refine z_iload_n C dX12_pair_38 (i := 2) rfl rfl ?_
    refine t_callV C (rest := []) (c2 := 0) (s2 := 0) (kd := 100) (i := 0) [.int (a1), .int (a2)] dX12_pair_39 lk_X12_484 li_X12_joins le_X12_joins (c_X12_joins hfl h) rfl rfl (by decide) rfl ⟨_, rfl⟩ rfl ⟨Nat.le_of_ble_eq_true rfl, Nat.le_of_ble_eq_true rfl⟩ (Nat.le_of_ble_eq_true rfl) ⟨Nat.le_of_ble_eq_true rfl, Nat.le_of_ble_eq_true rfl, Nat.le_of_ble_eq_true rfl, Nat.le_of_ble_eq_true rfl⟩ (k_Wv fun s39 h => ?_)
    refine z_iload_n C dX12_pair_42 (i := 3) rfl rfl ?_
    refine z_if_lt C dX12_pair_43 (tgt := 65) (by decide) (fun c43 => ?_) (fun c43 => ?_)
    · have h := h.1 c43
      refine z_iconst C dX12_pair_65 (v := (-1)) (by decide) ?_
      exact z_iret C dX12_pair_66 hr rfl ⟨_, _, rfl, rfl, h⟩ (Nat.le_of_ble_eq_true rfl) (Nat.le_of_ble_eq_true rfl)
    · have h := h.2 c43
      refine z_iload_n C dX12_pair_46 (i := 3) rfl rfl ?_
      refine z_aload_n C dX12_pair_47 (i := 0) rfl rfl ?_
      refine t_get C dX12_pair_48 fl_X12_172 (k := 100) (i := 0) (by decide) rfl (fg_100_70 _ _ _) ?_
      refine z_iload_n C dX12_pair_51 (i := 1) rfl rfl ?_
      obtain ⟨g52, h⟩ := h
      refine t_iald C dX12_pair_52 (k := 153) (i := 0) (by decide) rfl (sh_153 _ _ _ _) g52 ?_
      refine z_icmp_ge C dX12_pair_53 (tgt := 65) (by decide) (fun c53 => ?_) (fun c53 => ?_)
      · have h := h.1 c53
        refine z_iconst C dX12_pair_65 (v := (-1)) (by decide) ?_
        exact z_iret C dX12_pair_66 hr rfl ⟨_, _, rfl, rfl, h⟩ (Nat.le_of_ble_eq_true rfl) (Nat.le_of_ble_eq_true rfl)
      · have h := h.2 c53
        refine z_aload_n C dX12_pair_56 (i := 0) rfl rfl ?_
        refine t_get C dX12_pair_57 fl_X12_187 (k := 100) (i := 0) (by decide) rfl (fg_100_75 _ _ _) ?_
        refine z_iload_n C dX12_pair_60 (i := 3) rfl rfl ?_
        obtain ⟨g61, h⟩ := h
        refine t_iald C dX12_pair_61 (k := 158) (i := 0) (by decide) rfl (sh_158 _ _ _ _) g61 ?_
        refine z_goto C dX12_pair_62 (tgt := 66) (by decide) ?_
        exact z_iret C dX12_pair_66 hr rfl ⟨_, _, rfl, rfl, h⟩ (Nat.le_of_ble_eq_true rfl) (Nat.le_of_ble_eq_true rfl)
  · have h := h.2 c31
    refine z_iconst C dX12_pair_34 (v := 0) (by decide) ?_
    exact z_iret C dX12_pair_35 hr rfl ⟨_, _, rfl, rfl, h⟩ (Nat.le_of_ble_eq_true rfl) (Nat.le_of_ble_eq_true rfl)
def w_X12_pair (st : zTs) (a1 : Int32) (a2 : Int32) (a3 : Int32) (P : Int32 → zTs → Prop) : Prop := ∀ s2 : zTs, s2 = zuF st 100 0 0 0 → (w_X12_isSurvey s2 a1 (fun (r8 : Int32) => ((r8 = 0 → w_X12_pair_27 P s2 a1 a2 a3 (1)) ∧ (¬ r8 = 0 → w_X12_isSurvey s2 a2 (fun (r16 : Int32) => ((r16 = 0 → w_X12_pair_27 P s2 a1 a2 a3 (1)) ∧ (¬ r16 = 0 → w_X12_pair_27 P s2 a1 a2 a3 (0))))))))
set_option maxHeartbeats 4000000 in
set_option maxRecDepth 100000 in
theorem c_X12_pair {Z : zZ} {l : Launch} (hfl : l.stackTraces = false) {st : zTs} {a1 : Int32} {a2 : Int32} {a3 : Int32} {P : Int32 → zTs → Prop} (h : w_X12_pair st a1 a2 a3 P) : zN Z l yX12_pair cX12_pair 4 (some .int) ({ frames := 3, cells := 0, slots := 0, locals := 67 } : Room) (zh Z zm1 st) [.ref 100, .int (a1), .int (a2), .int (a3)] (zWi Z P) := by
  unfold w_X12_pair at h
  refine z_enterN (by decide) (Nat.le_of_ble_eq_true rfl) (lc0 := [some (.ref 100), some (.int (a1)), some (.int (a2)), some (.int (a3))]) rfl ?_
  intro p e s m args below meth c ad0 C hr _
  have hn9 : True := trivial
  replace C : zC Z p s m args meth c cX12_pair 4 RX12 := C
  refine z_aload_n C dX12_pair_0 (i := 0) rfl rfl ?_
  refine z_iconst C dX12_pair_1 (v := 0) (by decide) ?_
  refine t_put C dX12_pair_2 fq_X12_199 (Or.inl rfl) (k := 100) (i := 0) (by decide) rfl ⟨rfl, rfl⟩ (fp_100_0 _ _ _ _ _) ?_
  refine t_tops (fun s2 es2 => ?_)
  have h := h s2 es2
  refine z_aload_n C dX12_pair_5 (i := 0) rfl rfl ?_
  refine z_aload_n C dX12_pair_6 (i := 0) rfl rfl ?_
  refine z_iload_n C dX12_pair_7 (i := 1) rfl rfl ?_
  refine t_callV C (rest := [.ref 100]) (c2 := 0) (s2 := 0) (kd := 100) (i := 0) [.int (a1)] dX12_pair_8 lk_X12_471 li_X12_isSurvey le_X12_isSurvey (c_X12_isSurvey hfl h) rfl rfl (by decide) rfl ⟨_, rfl⟩ rfl ⟨Nat.le_of_ble_eq_true rfl, Nat.le_of_ble_eq_true rfl⟩ (Nat.le_of_ble_eq_true rfl) ⟨Nat.le_of_ble_eq_true rfl, Nat.le_of_ble_eq_true rfl, Nat.le_of_ble_eq_true rfl, Nat.le_of_ble_eq_true rfl⟩ (k_Ri fun r8 h => ?_)
  refine z_if_eq C dX12_pair_11 (tgt := 22) (by decide) (fun c11 => ?_) (fun c11 => ?_)
  · have h := h.1 c11
    refine z_iconst C dX12_pair_22 (v := 1) (by decide) ?_
    refine z_goto C dX12_pair_23 (tgt := 27) (by decide) ?_
    exact t_drop [true, true, true, true] rfl (j_X12_pair_27 hfl C hr hn9  s2 a1 a2 a3 (1) h)
  · have h := h.2 c11
    refine z_aload_n C dX12_pair_14 (i := 0) rfl rfl ?_
    refine z_iload_n C dX12_pair_15 (i := 2) rfl rfl ?_
    refine t_callV C (rest := [.ref 100]) (c2 := 0) (s2 := 0) (kd := 100) (i := 0) [.int (a2)] dX12_pair_16 lk_X12_471 li_X12_isSurvey le_X12_isSurvey (c_X12_isSurvey hfl h) rfl rfl (by decide) rfl ⟨_, rfl⟩ rfl ⟨Nat.le_of_ble_eq_true rfl, Nat.le_of_ble_eq_true rfl⟩ (Nat.le_of_ble_eq_true rfl) ⟨Nat.le_of_ble_eq_true rfl, Nat.le_of_ble_eq_true rfl, Nat.le_of_ble_eq_true rfl, Nat.le_of_ble_eq_true rfl⟩ (k_Ri fun r16 h => ?_)
    refine z_if_ne C dX12_pair_19 (tgt := 26) (by decide) (fun c19 => ?_) (fun c19 => ?_)
    · have h := h.2 c19
      refine z_iconst C dX12_pair_26 (v := 0) (by decide) ?_
      exact t_drop [true, true, true, true] rfl (j_X12_pair_27 hfl C hr hn9  s2 a1 a2 a3 (0) h)
    · have h := h.1 c19
      refine z_iconst C dX12_pair_22 (v := 1) (by decide) ?_
      refine z_goto C dX12_pair_23 (tgt := 27) (by decide) ?_
      exact t_drop [true, true, true, true] rfl (j_X12_pair_27 hfl C hr hn9  s2 a1 a2 a3 (1) h)
def w_X12_gauge_20 (P : Int32 → zTs → Prop)  (st : zTs) (b0 : Int32) : Prop := w_X12_bad st b0 1 (fun (r21 : Int32) (s21 : zTs) => ((r21 = 0 → ∀ s36 : zTs, s36 = zuF s21 100 0 76 ((zgF s21 100 0 76) + 1) → (P ((zgF s36 100 0 76) - 1) s36)) ∧ (¬ r21 = 0 → P 0 s21)))
set_option maxHeartbeats 4000000 in
set_option maxRecDepth 100000 in
theorem j_X12_gauge_20 {P : Int32 → zTs → Prop}  (hfl : l.stackTraces = false) (C : zC Z p s m args meth c cX12_gauge 1 RX12) (hr : meth.sig.returnType = (some .int)) (hn9 : True)  (st : zTs) (b0 : Int32) (h : w_X12_gauge_20 P st b0) : zG Z ad0 h0 p l e ({ frames := 2, cells := 0, slots := 0, locals := 34 } : Room) s m args below meth c (MQ below (zQ Z ad0 h0 (zWi Z P)) args s 0 0 (zA Z)) 0 0 (zh Z zm1 st) 1 20 [some (.ref 100)] [.int (b0), .ref 100] := by
  unfold w_X12_gauge_20 at h
  refine z_iconst C dX12_gauge_20 (v := 1) (by decide) ?_
  refine t_callV C (rest := []) (c2 := 0) (s2 := 0) (kd := 100) (i := 0) [.int (b0), .int (1)] dX12_gauge_21 lk_X12_205 li_X12_bad le_X12_bad (c_X12_bad hfl h) rfl rfl (by decide) rfl ⟨_, rfl⟩ rfl ⟨Nat.le_of_ble_eq_true rfl, Nat.le_of_ble_eq_true rfl⟩ (Nat.le_of_ble_eq_true rfl) ⟨Nat.le_of_ble_eq_true rfl, Nat.le_of_ble_eq_true rfl, Nat.le_of_ble_eq_true rfl, Nat.le_of_ble_eq_true rfl⟩ (k_Wi fun r21 s21 h => ?_)
  refine z_if_eq C dX12_gauge_24 (tgt := 29) (by decide) (fun c24 => ?_) (fun c24 => ?_)
  · have h := h.1 c24
    refine z_aload_n C dX12_gauge_29 (i := 0) rfl rfl ?_
    refine z_dup C dX12_gauge_30 rfl ?_
    refine t_get C dX12_gauge_31 fl_X12_490 (k := 100) (i := 0) (by decide) rfl (fg_100_76 _ _ _) ?_
    refine z_iconst C dX12_gauge_34 (v := 1) (by decide) ?_
    refine z_iadd C dX12_gauge_35 ?_
    refine t_put C dX12_gauge_36 fq_X12_490 (Or.inl rfl) (k := 100) (i := 0) (by decide) rfl ⟨rfl, rfl⟩ (fp_100_76 _ _ _ _ _) ?_
    refine t_tops (fun s36 es36 => ?_)
    have h := h s36 es36
    refine z_aload_n C dX12_gauge_39 (i := 0) rfl rfl ?_
    refine t_get C dX12_gauge_40 fl_X12_490 (k := 100) (i := 0) (by decide) rfl (fg_100_76 _ _ _) ?_
    refine z_iconst C dX12_gauge_43 (v := 1) (by decide) ?_
    refine z_isub C dX12_gauge_44 ?_
    exact z_iret C dX12_gauge_45 hr rfl ⟨_, _, rfl, rfl, h⟩ (Nat.le_of_ble_eq_true rfl) (Nat.le_of_ble_eq_true rfl)
  · have h := h.2 c24
    refine z_iconst C dX12_gauge_27 (v := 0) (by decide) ?_
    exact z_iret C dX12_gauge_28 hr rfl ⟨_, _, rfl, rfl, h⟩ (Nat.le_of_ble_eq_true rfl) (Nat.le_of_ble_eq_true rfl)
def w_X12_gauge (st : zTs)  (P : Int32 → zTs → Prop) : Prop := ∀ s2 : zTs, s2 = zuF st 100 0 0 0 → (((zgF s2 100 0 76) = 10 → w_X12_gauge_20 P s2 (1)) ∧ (¬ (zgF s2 100 0 76) = 10 → w_X12_gauge_20 P s2 (0)))
set_option maxHeartbeats 4000000 in
set_option maxRecDepth 100000 in
theorem c_X12_gauge {Z : zZ} {l : Launch} (hfl : l.stackTraces = false) {st : zTs}  {P : Int32 → zTs → Prop} (h : w_X12_gauge st  P) : zN Z l yX12_gauge cX12_gauge 1 (some .int) ({ frames := 2, cells := 0, slots := 0, locals := 34 } : Room) (zh Z zm1 st) [.ref 100] (zWi Z P) := by
  unfold w_X12_gauge at h
  refine z_enterN (by decide) (Nat.le_of_ble_eq_true rfl) (lc0 := [some (.ref 100)]) rfl ?_
  intro p e s m args below meth c ad0 C hr _
  have hn9 : True := trivial
  replace C : zC Z p s m args meth c cX12_gauge 1 RX12 := C
  refine z_aload_n C dX12_gauge_0 (i := 0) rfl rfl ?_
  refine z_iconst C dX12_gauge_1 (v := 0) (by decide) ?_
  refine t_put C dX12_gauge_2 fq_X12_199 (Or.inl rfl) (k := 100) (i := 0) (by decide) rfl ⟨rfl, rfl⟩ (fp_100_0 _ _ _ _ _) ?_
  refine t_tops (fun s2 es2 => ?_)
  have h := h s2 es2
  refine z_aload_n C dX12_gauge_5 (i := 0) rfl rfl ?_
  refine z_aload_n C dX12_gauge_6 (i := 0) rfl rfl ?_
  refine t_get C dX12_gauge_7 fl_X12_490 (k := 100) (i := 0) (by decide) rfl (fg_100_76 _ _ _) ?_
  refine z_bipush C dX12_gauge_10 (v := 10) (by decide) ?_
  refine z_icmp_ne C dX12_gauge_12 (tgt := 19) (by decide) (fun c12 => ?_) (fun c12 => ?_)
  · have h := h.2 c12
    refine z_iconst C dX12_gauge_19 (v := 0) (by decide) ?_
    exact t_drop [true] rfl (j_X12_gauge_20 hfl C hr hn9  s2 (0) h)
  · have h := h.1 c12
    refine z_iconst C dX12_gauge_15 (v := 1) (by decide) ?_
    refine z_goto C dX12_gauge_16 (tgt := 20) (by decide) ?_
    exact t_drop [true] rfl (j_X12_gauge_20 hfl C hr hn9  s2 (1) h)
def w_X12_isGauge (st : zTs) (a1 : Int32) (P : Int32 → Prop) : Prop := (a1 < 0 → P 0) ∧ (¬ a1 < 0 → ((zgF st 100 0 76) ≤ a1 → P 0) ∧ (¬ (zgF st 100 0 76) ≤ a1 → P 1))
set_option maxHeartbeats 4000000 in
set_option maxRecDepth 100000 in
theorem c_X12_isGauge {Z : zZ} {l : Launch} (hfl : l.stackTraces = false) {st : zTs} {a1 : Int32} {P : Int32 → Prop} (h : w_X12_isGauge st a1 P) : zN Z l yX12_isGauge cX12_isGauge 2 (some .boolean) ({ frames := 1, cells := 0, slots := 0, locals := 12 } : Room) (zh Z zm1 st) [.ref 100, .int (a1)] (zRi Z st P) := by
  unfold w_X12_isGauge at h
  refine z_enterN (by decide) (Nat.le_of_ble_eq_true rfl) (lc0 := [some (.ref 100), some (.int (a1))]) rfl ?_
  intro p e s m args below meth c ad0 C hr _
  have hn9 : True := trivial
  replace C : zC Z p s m args meth c cX12_isGauge 2 RX12 := C
  refine z_iload_n C dX12_isGauge_0 (i := 1) rfl rfl ?_
  refine z_if_lt C dX12_isGauge_1 (tgt := 16) (by decide) (fun c1 => ?_) (fun c1 => ?_)
  · have h := h.1 c1
    refine z_iconst C dX12_isGauge_16 (v := 0) (by decide) ?_
    exact z_iret C dX12_isGauge_17 hr rfl ⟨rfl, _, rfl, h⟩ (Nat.le_of_ble_eq_true rfl) (Nat.le_of_ble_eq_true rfl)
  · have h := h.2 c1
    refine z_iload_n C dX12_isGauge_4 (i := 1) rfl rfl ?_
    refine z_aload_n C dX12_isGauge_5 (i := 0) rfl rfl ?_
    refine t_get C dX12_isGauge_6 fl_X12_490 (k := 100) (i := 0) (by decide) rfl (fg_100_76 _ _ _) ?_
    refine z_icmp_ge C dX12_isGauge_9 (tgt := 16) (by decide) (fun c9 => ?_) (fun c9 => ?_)
    · have h := h.1 c9
      refine z_iconst C dX12_isGauge_16 (v := 0) (by decide) ?_
      exact z_iret C dX12_isGauge_17 hr rfl ⟨rfl, _, rfl, h⟩ (Nat.le_of_ble_eq_true rfl) (Nat.le_of_ble_eq_true rfl)
    · have h := h.2 c9
      refine z_iconst C dX12_isGauge_12 (v := 1) (by decide) ?_
      refine z_goto C dX12_isGauge_13 (tgt := 17) (by decide) ?_
      exact z_iret C dX12_isGauge_17 hr rfl ⟨rfl, _, rfl, h⟩ (Nat.le_of_ble_eq_true rfl) (Nat.le_of_ble_eq_true rfl)
def w_X12_read_110 (P : Int32 → zTs → Prop)  (st : zTs) (a1 : Int32) (a2 : Int32) (a3 : Int32) (a4 : Int32) : Prop := vp_in ((40 * a1) + a4) 400 ∧ (∀ s122 : zTs, s122 = zuA st 160 0 ((40 * a1) + a4 : Int32).toNatClampNeg a2 → (vp_in ((40 * a1) + a4) 400 ∧ (∀ s135 : zTs, s135 = zuA s122 161 0 ((40 * a1) + a4 : Int32).toNatClampNeg a3 → (vp_in a1 10 ∧ (vp_in a1 10 ∧ (∀ s145 : zTs, s145 = zuA s135 159 0 (a1 : Int32).toNatClampNeg ((zgA s135 159 0 (a1 : Int32).toNatClampNeg) + 1) → (P (a4 + 1) s145)))))))
set_option maxHeartbeats 4000000 in
set_option maxRecDepth 100000 in
theorem j_X12_read_110 {P : Int32 → zTs → Prop}  (hfl : l.stackTraces = false) (C : zC Z p s m args meth c cX12_read 5 RX12) (hr : meth.sig.returnType = (some .int)) (hn9 : True)  (st : zTs) (a1 : Int32) (a2 : Int32) (a3 : Int32) (a4 : Int32) (h : w_X12_read_110 P st a1 a2 a3 a4) : zG Z ad0 h0 p l e ({ frames := 2, cells := 0, slots := 0, locals := 34 } : Room) s m args below meth c (MQ below (zQ Z ad0 h0 (zWi Z P)) args s 0 0 (zA Z)) 0 0 (zh Z zm1 st) 5 110 [some (.ref 100), some (.int (a1)), some (.int (a2)), some (.int (a3)), some (.int (a4))] [] := by
  unfold w_X12_read_110 at h
  refine z_aload_n C dX12_read_110 (i := 0) rfl rfl ?_
  refine t_get C dX12_read_111 fl_X12_193 (k := 100) (i := 0) (by decide) rfl (fg_100_78 _ _ _) ?_
  refine z_bipush C dX12_read_114 (v := 40) (by decide) ?_
  refine z_iload_n C dX12_read_116 (i := 1) rfl rfl ?_
  refine z_imul C dX12_read_117 ?_
  refine z_iload C dX12_read_118 rfl ?_
  refine z_iadd C dX12_read_120 ?_
  refine z_iload_n C dX12_read_121 (i := 2) rfl rfl ?_
  obtain ⟨g122, h⟩ := h
  refine t_iast C dX12_read_122 (k := 160) (i := 0) (by decide) rfl (fun s9 => sh_160 _ _ s9 _) g122 ?_
  refine t_tops (fun s122 es122 => ?_)
  have h := h s122 es122
  refine z_aload_n C dX12_read_123 (i := 0) rfl rfl ?_
  refine t_get C dX12_read_124 fl_X12_196 (k := 100) (i := 0) (by decide) rfl (fg_100_79 _ _ _) ?_
  refine z_bipush C dX12_read_127 (v := 40) (by decide) ?_
  refine z_iload_n C dX12_read_129 (i := 1) rfl rfl ?_
  refine z_imul C dX12_read_130 ?_
  refine z_iload C dX12_read_131 rfl ?_
  refine z_iadd C dX12_read_133 ?_
  refine z_iload_n C dX12_read_134 (i := 3) rfl rfl ?_
  obtain ⟨g135, h⟩ := h
  refine t_iast C dX12_read_135 (k := 161) (i := 0) (by decide) rfl (fun s9 => sh_161 _ _ s9 _) g135 ?_
  refine t_tops (fun s135 es135 => ?_)
  have h := h s135 es135
  refine z_aload_n C dX12_read_136 (i := 0) rfl rfl ?_
  refine t_get C dX12_read_137 fl_X12_190 (k := 100) (i := 0) (by decide) rfl (fg_100_77 _ _ _) ?_
  refine z_iload_n C dX12_read_140 (i := 1) rfl rfl ?_
  refine z_dup2 C dX12_read_141 rfl rfl ?_
  obtain ⟨g142, h⟩ := h
  refine t_iald C dX12_read_142 (k := 159) (i := 0) (by decide) rfl (sh_159 _ _ _ _) g142 ?_
  refine z_iconst C dX12_read_143 (v := 1) (by decide) ?_
  refine z_iadd C dX12_read_144 ?_
  obtain ⟨g145, h⟩ := h
  refine t_iast C dX12_read_145 (k := 159) (i := 0) (by decide) rfl (fun s9 => sh_159 _ _ s9 _) g145 ?_
  refine t_tops (fun s145 es145 => ?_)
  have h := h s145 es145
  refine z_iload C dX12_read_146 rfl ?_
  refine z_iconst C dX12_read_148 (v := 1) (by decide) ?_
  refine z_iadd C dX12_read_149 ?_
  exact z_iret C dX12_read_150 hr rfl ⟨_, _, rfl, rfl, h⟩ (Nat.le_of_ble_eq_true rfl) (Nat.le_of_ble_eq_true rfl)
def w_X12_read_50 (P : Int32 → zTs → Prop)  (st : zTs) (a1 : Int32) (a2 : Int32) (a3 : Int32) (b0 : Int32) : Prop := w_X12_bad st b0 2 (fun (r51 : Int32) (s51 : zTs) => ((r51 = 0 → vp_in a1 10 ∧ (∀ x65 : Int32, x65 = zgA s51 159 0 (a1 : Int32).toNatClampNeg → ((x65 = 40 → P (-1) s51) ∧ (¬ x65 = 40 → ((zgF s51 100 0 3) < a2 → P (-2) s51) ∧ (¬ (zgF s51 100 0 3) < a2 → (x65 ≤ 0 → w_X12_read_110 P s51 a1 a2 a3 x65) ∧ (¬ x65 ≤ 0 → vp_in (((40 * a1) + x65) - 1) 400 ∧ (((zgA s51 160 0 (((40 * a1) + x65) - 1 : Int32).toNatClampNeg) < a2 → w_X12_read_110 P s51 a1 a2 a3 x65) ∧ (¬ (zgA s51 160 0 (((40 * a1) + x65) - 1 : Int32).toNatClampNeg) < a2 → P (-2) s51)))))))) ∧ (¬ r51 = 0 → P 0 s51)))
set_option maxHeartbeats 4000000 in
set_option maxRecDepth 100000 in
theorem j_X12_read_50 {P : Int32 → zTs → Prop}  (hfl : l.stackTraces = false) (C : zC Z p s m args meth c cX12_read 5 RX12) (hr : meth.sig.returnType = (some .int)) (hn9 : True)  (st : zTs) (a1 : Int32) (a2 : Int32) (a3 : Int32) (b0 : Int32) (h : w_X12_read_50 P st a1 a2 a3 b0) : zG Z ad0 h0 p l e ({ frames := 2, cells := 0, slots := 0, locals := 34 } : Room) s m args below meth c (MQ below (zQ Z ad0 h0 (zWi Z P)) args s 0 0 (zA Z)) 0 0 (zh Z zm1 st) 5 50 [some (.ref 100), some (.int (a1)), some (.int (a2)), some (.int (a3)), none] [.int (b0), .ref 100] := by
  unfold w_X12_read_50 at h
  refine z_iconst C dX12_read_50 (v := 2) (by decide) ?_
  refine t_callV C (rest := []) (c2 := 0) (s2 := 0) (kd := 100) (i := 0) [.int (b0), .int (2)] dX12_read_51 lk_X12_205 li_X12_bad le_X12_bad (c_X12_bad hfl h) rfl rfl (by decide) rfl ⟨_, rfl⟩ rfl ⟨Nat.le_of_ble_eq_true rfl, Nat.le_of_ble_eq_true rfl⟩ (Nat.le_of_ble_eq_true rfl) ⟨Nat.le_of_ble_eq_true rfl, Nat.le_of_ble_eq_true rfl, Nat.le_of_ble_eq_true rfl, Nat.le_of_ble_eq_true rfl⟩ (k_Wi fun r51 s51 h => ?_)
  refine z_if_eq C dX12_read_54 (tgt := 59) (by decide) (fun c54 => ?_) (fun c54 => ?_)
  · have h := h.1 c54
    refine z_aload_n C dX12_read_59 (i := 0) rfl rfl ?_
    refine t_get C dX12_read_60 fl_X12_190 (k := 100) (i := 0) (by decide) rfl (fg_100_77 _ _ _) ?_
    refine z_iload_n C dX12_read_63 (i := 1) rfl rfl ?_
    obtain ⟨g64, h⟩ := h
    refine t_iald C dX12_read_64 (k := 159) (i := 0) (by decide) rfl (sh_159 _ _ _ _) g64 ?_
    refine t_topi (fun x65 ex65 => ?_)
    have h := h x65 ex65
    refine z_istore C dX12_read_65 (lc' := [some (.ref 100), some (.int (a1)), some (.int (a2)), some (.int (a3)), some (.int (x65))]) (by decide) rfl ?_
    refine z_iload C dX12_read_67 rfl ?_
    refine z_bipush C dX12_read_69 (v := 40) (by decide) ?_
    refine z_icmp_ne C dX12_read_71 (tgt := 76) (by decide) (fun c71 => ?_) (fun c71 => ?_)
    · have h := h.2 c71
      refine z_iload_n C dX12_read_76 (i := 2) rfl rfl ?_
      refine z_aload_n C dX12_read_77 (i := 0) rfl rfl ?_
      refine t_get C dX12_read_78 fl_X12_222 (k := 100) (i := 0) (by decide) rfl (fg_100_3 _ _ _) ?_
      refine z_icmp_gt C dX12_read_81 (tgt := 107) (by decide) (fun c81 => ?_) (fun c81 => ?_)
      · have h := h.1 c81
        refine z_bipush C dX12_read_107 (v := (-2)) (by decide) ?_
        exact z_iret C dX12_read_109 hr rfl ⟨_, _, rfl, rfl, h⟩ (Nat.le_of_ble_eq_true rfl) (Nat.le_of_ble_eq_true rfl)
      · have h := h.2 c81
        refine z_iload C dX12_read_84 rfl ?_
        refine z_if_le C dX12_read_86 (tgt := 110) (by decide) (fun c86 => ?_) (fun c86 => ?_)
        · have h := h.1 c86
          exact t_drop [true, true, true, true, true] rfl (j_X12_read_110 hfl C hr hn9  s51 a1 a2 a3 x65 h)
        · have h := h.2 c86
          refine z_aload_n C dX12_read_89 (i := 0) rfl rfl ?_
          refine t_get C dX12_read_90 fl_X12_193 (k := 100) (i := 0) (by decide) rfl (fg_100_78 _ _ _) ?_
          refine z_bipush C dX12_read_93 (v := 40) (by decide) ?_
          refine z_iload_n C dX12_read_95 (i := 1) rfl rfl ?_
          refine z_imul C dX12_read_96 ?_
          refine z_iload C dX12_read_97 rfl ?_
          refine z_iadd C dX12_read_99 ?_
          refine z_iconst C dX12_read_100 (v := 1) (by decide) ?_
          refine z_isub C dX12_read_101 ?_
          obtain ⟨g102, h⟩ := h
          refine t_iald C dX12_read_102 (k := 160) (i := 0) (by decide) rfl (sh_160 _ _ _ _) g102 ?_
          refine z_iload_n C dX12_read_103 (i := 2) rfl rfl ?_
          refine z_icmp_lt C dX12_read_104 (tgt := 110) (by decide) (fun c104 => ?_) (fun c104 => ?_)
          · have h := h.1 c104
            exact t_drop [true, true, true, true, true] rfl (j_X12_read_110 hfl C hr hn9  s51 a1 a2 a3 x65 h)
          · have h := h.2 c104
            refine z_bipush C dX12_read_107 (v := (-2)) (by decide) ?_
            exact z_iret C dX12_read_109 hr rfl ⟨_, _, rfl, rfl, h⟩ (Nat.le_of_ble_eq_true rfl) (Nat.le_of_ble_eq_true rfl)
    · have h := h.1 c71
      refine z_iconst C dX12_read_74 (v := (-1)) (by decide) ?_
      exact z_iret C dX12_read_75 hr rfl ⟨_, _, rfl, rfl, h⟩ (Nat.le_of_ble_eq_true rfl) (Nat.le_of_ble_eq_true rfl)
  · have h := h.2 c54
    refine z_iconst C dX12_read_57 (v := 0) (by decide) ?_
    exact z_iret C dX12_read_58 hr rfl ⟨_, _, rfl, rfl, h⟩ (Nat.le_of_ble_eq_true rfl) (Nat.le_of_ble_eq_true rfl)
def w_X12_read_19 (P : Int32 → zTs → Prop)  (st : zTs) (a1 : Int32) (a2 : Int32) (a3 : Int32) (b0 : Int32) : Prop := w_X12_bad st b0 1 (fun (r20 : Int32) (s20 : zTs) => ((r20 = 0 → (a2 < 0 → w_X12_read_50 P s20 a1 a2 a3 (1)) ∧ (¬ a2 < 0 → (a3 < (-10000) → w_X12_read_50 P s20 a1 a2 a3 (1)) ∧ (¬ a3 < (-10000) → (a3 ≤ 10000 → w_X12_read_50 P s20 a1 a2 a3 (0)) ∧ (¬ a3 ≤ 10000 → w_X12_read_50 P s20 a1 a2 a3 (1))))) ∧ (¬ r20 = 0 → P 0 s20)))
set_option maxHeartbeats 4000000 in
set_option maxRecDepth 100000 in
theorem j_X12_read_19 {P : Int32 → zTs → Prop}  (hfl : l.stackTraces = false) (C : zC Z p s m args meth c cX12_read 5 RX12) (hr : meth.sig.returnType = (some .int)) (hn9 : True)  (st : zTs) (a1 : Int32) (a2 : Int32) (a3 : Int32) (b0 : Int32) (h : w_X12_read_19 P st a1 a2 a3 b0) : zG Z ad0 h0 p l e ({ frames := 2, cells := 0, slots := 0, locals := 34 } : Room) s m args below meth c (MQ below (zQ Z ad0 h0 (zWi Z P)) args s 0 0 (zA Z)) 0 0 (zh Z zm1 st) 5 19 [some (.ref 100), some (.int (a1)), some (.int (a2)), some (.int (a3)), none] [.int (b0), .ref 100] := by
  unfold w_X12_read_19 at h
  refine z_iconst C dX12_read_19 (v := 1) (by decide) ?_
  refine t_callV C (rest := []) (c2 := 0) (s2 := 0) (kd := 100) (i := 0) [.int (b0), .int (1)] dX12_read_20 lk_X12_205 li_X12_bad le_X12_bad (c_X12_bad hfl h) rfl rfl (by decide) rfl ⟨_, rfl⟩ rfl ⟨Nat.le_of_ble_eq_true rfl, Nat.le_of_ble_eq_true rfl⟩ (Nat.le_of_ble_eq_true rfl) ⟨Nat.le_of_ble_eq_true rfl, Nat.le_of_ble_eq_true rfl, Nat.le_of_ble_eq_true rfl, Nat.le_of_ble_eq_true rfl⟩ (k_Wi fun r20 s20 h => ?_)
  refine z_if_ne C dX12_read_23 (tgt := 57) (by decide) (fun c23 => ?_) (fun c23 => ?_)
  · have h := h.2 c23
    refine z_iconst C dX12_read_57 (v := 0) (by decide) ?_
    exact z_iret C dX12_read_58 hr rfl ⟨_, _, rfl, rfl, h⟩ (Nat.le_of_ble_eq_true rfl) (Nat.le_of_ble_eq_true rfl)
  · have h := h.1 c23
    refine z_aload_n C dX12_read_26 (i := 0) rfl rfl ?_
    refine z_iload_n C dX12_read_27 (i := 2) rfl rfl ?_
    refine z_if_lt C dX12_read_28 (tgt := 45) (by decide) (fun c28 => ?_) (fun c28 => ?_)
    · have h := h.1 c28
      refine z_iconst C dX12_read_45 (v := 1) (by decide) ?_
      refine z_goto C dX12_read_46 (tgt := 50) (by decide) ?_
      exact t_drop [true, true, true, true, false] rfl (j_X12_read_50 hfl C hr hn9  s20 a1 a2 a3 (1) h)
    · have h := h.2 c28
      refine z_iload_n C dX12_read_31 (i := 3) rfl rfl ?_
      refine z_sipush C dX12_read_32 (v := (-10000)) (by decide) ?_
      refine z_icmp_lt C dX12_read_35 (tgt := 45) (by decide) (fun c35 => ?_) (fun c35 => ?_)
      · have h := h.1 c35
        refine z_iconst C dX12_read_45 (v := 1) (by decide) ?_
        refine z_goto C dX12_read_46 (tgt := 50) (by decide) ?_
        exact t_drop [true, true, true, true, false] rfl (j_X12_read_50 hfl C hr hn9  s20 a1 a2 a3 (1) h)
      · have h := h.2 c35
        refine z_iload_n C dX12_read_38 (i := 3) rfl rfl ?_
        refine z_sipush C dX12_read_39 (v := 10000) (by decide) ?_
        refine z_icmp_le C dX12_read_42 (tgt := 49) (by decide) (fun c42 => ?_) (fun c42 => ?_)
        · have h := h.1 c42
          refine z_iconst C dX12_read_49 (v := 0) (by decide) ?_
          exact t_drop [true, true, true, true, false] rfl (j_X12_read_50 hfl C hr hn9  s20 a1 a2 a3 (0) h)
        · have h := h.2 c42
          refine z_iconst C dX12_read_45 (v := 1) (by decide) ?_
          refine z_goto C dX12_read_46 (tgt := 50) (by decide) ?_
          exact t_drop [true, true, true, true, false] rfl (j_X12_read_50 hfl C hr hn9  s20 a1 a2 a3 (1) h)
def w_X12_read (st : zTs) (a1 : Int32) (a2 : Int32) (a3 : Int32) (P : Int32 → zTs → Prop) : Prop := ∀ s2 : zTs, s2 = zuF st 100 0 0 0 → (w_X12_isGauge s2 a1 (fun (r8 : Int32) => ((r8 = 0 → w_X12_read_19 P s2 a1 a2 a3 (1)) ∧ (¬ r8 = 0 → w_X12_read_19 P s2 a1 a2 a3 (0)))))
set_option maxHeartbeats 4000000 in
set_option maxRecDepth 100000 in
theorem c_X12_read {Z : zZ} {l : Launch} (hfl : l.stackTraces = false) {st : zTs} {a1 : Int32} {a2 : Int32} {a3 : Int32} {P : Int32 → zTs → Prop} (h : w_X12_read st a1 a2 a3 P) : zN Z l yX12_read cX12_read 5 (some .int) ({ frames := 2, cells := 0, slots := 0, locals := 34 } : Room) (zh Z zm1 st) [.ref 100, .int (a1), .int (a2), .int (a3)] (zWi Z P) := by
  unfold w_X12_read at h
  refine z_enterN (by decide) (Nat.le_of_ble_eq_true rfl) (lc0 := [some (.ref 100), some (.int (a1)), some (.int (a2)), some (.int (a3)), none]) rfl ?_
  intro p e s m args below meth c ad0 C hr _
  have hn9 : True := trivial
  replace C : zC Z p s m args meth c cX12_read 5 RX12 := C
  refine z_aload_n C dX12_read_0 (i := 0) rfl rfl ?_
  refine z_iconst C dX12_read_1 (v := 0) (by decide) ?_
  refine t_put C dX12_read_2 fq_X12_199 (Or.inl rfl) (k := 100) (i := 0) (by decide) rfl ⟨rfl, rfl⟩ (fp_100_0 _ _ _ _ _) ?_
  refine t_tops (fun s2 es2 => ?_)
  have h := h s2 es2
  refine z_aload_n C dX12_read_5 (i := 0) rfl rfl ?_
  refine z_aload_n C dX12_read_6 (i := 0) rfl rfl ?_
  refine z_iload_n C dX12_read_7 (i := 1) rfl rfl ?_
  refine t_callV C (rest := [.ref 100]) (c2 := 0) (s2 := 0) (kd := 100) (i := 0) [.int (a1)] dX12_read_8 lk_X12_493 li_X12_isGauge le_X12_isGauge (c_X12_isGauge hfl h) rfl rfl (by decide) rfl ⟨_, rfl⟩ rfl ⟨Nat.le_of_ble_eq_true rfl, Nat.le_of_ble_eq_true rfl⟩ (Nat.le_of_ble_eq_true rfl) ⟨Nat.le_of_ble_eq_true rfl, Nat.le_of_ble_eq_true rfl, Nat.le_of_ble_eq_true rfl, Nat.le_of_ble_eq_true rfl⟩ (k_Ri fun r8 h => ?_)
  refine z_if_ne C dX12_read_11 (tgt := 18) (by decide) (fun c11 => ?_) (fun c11 => ?_)
  · have h := h.2 c11
    refine z_iconst C dX12_read_18 (v := 0) (by decide) ?_
    exact t_drop [true, true, true, true, false] rfl (j_X12_read_19 hfl C hr hn9  s2 a1 a2 a3 (0) h)
  · have h := h.1 c11
    refine z_iconst C dX12_read_14 (v := 1) (by decide) ?_
    refine z_goto C dX12_read_15 (tgt := 19) (by decide) ?_
    exact t_drop [true, true, true, true, false] rfl (j_X12_read_19 hfl C hr hn9  s2 a1 a2 a3 (1) h)
def w_X12_floor (st : zTs) (a0 : Int64) (a2 : Int64) (P : Int64 → Prop) : Prop := (¬ a2 = 0) ∧ (∀ x3 : Int64, x3 = a0 / a2 → ((¬ a2 = 0) ∧ ((0 ≤ (lg_cmp (a0 - a0 / a2 * a2) 0) → P x3) ∧ (¬ 0 ≤ (lg_cmp (a0 - a0 / a2 * a2) 0) → P (x3 - 1)))))
set_option maxHeartbeats 4000000 in
set_option maxRecDepth 100000 in
theorem c_X12_floor {Z : zZ} {l : Launch} (hfl : l.stackTraces = false) {st : zTs} {a0 : Int64} {a2 : Int64} {P : Int64 → Prop} (h : w_X12_floor st a0 a2 P) : zN Z l yX12_floor cX12_floor 6 (some .long) ({ frames := 1, cells := 0, slots := 0, locals := 12 } : Room) (zh Z zm1 st) [.long (a0), .long (a2)] (zRl Z st P) := by
  unfold w_X12_floor at h
  refine z_enterN (by decide) (Nat.le_of_ble_eq_true rfl) (lc0 := [some (.long (a0)), none, some (.long (a2)), none, none, none]) rfl ?_
  intro p e s m args below meth c ad0 C hr _
  have hn9 : True := trivial
  replace C : zC Z p s m args meth c cX12_floor 6 RX12 := C
  refine z_lload_n C dX12_floor_0 (i := 0) rfl rfl ?_
  refine z_lload_n C dX12_floor_1 (i := 2) rfl rfl ?_
  obtain ⟨g2, h⟩ := h
  refine z_ldiv C dX12_floor_2 g2 ?_
  refine t_topl (fun x3 ex3 => ?_)
  have h := h x3 ex3
  refine z_lstore C dX12_floor_3 (lc' := [some (.long (a0)), none, some (.long (a2)), none, some (.long (x3)), none]) (by decide) rfl ?_
  refine z_lload_n C dX12_floor_5 (i := 0) rfl rfl ?_
  refine z_lload_n C dX12_floor_6 (i := 2) rfl rfl ?_
  obtain ⟨g7, h⟩ := h
  refine z_lrem C dX12_floor_7 g7 ?_
  refine z_lconst C dX12_floor_8 (v := 0) (by decide) ?_
  refine z_lcmp C dX12_floor_9 ?_
  refine z_if_ge C dX12_floor_10 (tgt := 20) (by decide) (fun c10 => ?_) (fun c10 => ?_)
  · have h := h.1 c10
    refine z_lload C dX12_floor_20 rfl ?_
    exact z_lret C dX12_floor_22 hr ⟨rfl, _, rfl, h⟩ (Nat.le_of_ble_eq_true rfl) (Nat.le_of_ble_eq_true rfl)
  · have h := h.2 c10
    refine z_lload C dX12_floor_13 rfl ?_
    refine z_lconst C dX12_floor_15 (v := 1) (by decide) ?_
    refine z_lsub C dX12_floor_16 ?_
    refine z_goto C dX12_floor_17 (tgt := 22) (by decide) ?_
    exact z_lret C dX12_floor_22 hr ⟨rfl, _, rfl, h⟩ (Nat.le_of_ble_eq_true rfl) (Nat.le_of_ble_eq_true rfl)
def w_X12_atDay_138 (P : Int32 → Prop) (st : zTs) (K2 : Int32 → Int32 → Int32 → Prop) (a1 : Int32) (a2 : Int32) (a3 : Int32) : Prop := ∀ x138 : Int32, x138 = a3 + 1 → (K2 a1 a2 x138)
set_option maxHeartbeats 4000000 in
set_option maxRecDepth 100000 in
theorem j_X12_atDay_138 {P : Int32 → Prop} {st : zTs} {K2 : Int32 → Int32 → Int32 → Prop} (hfl : l.stackTraces = false) (C : zC Z p s m args meth c cX12_atDay 5 RX12) (hr : meth.sig.returnType = (some .int)) (hn9 : True) (hK2 : ∀ (a1 : Int32) (a2 : Int32) (a3 : Int32), K2 a1 a2 a3 → zG Z ad0 h0 p l e ({ frames := 2, cells := 0, slots := 0, locals := 37 } : Room) s m args below meth c (MQ below (zQ Z ad0 h0 (zRi Z st P)) args s 0 0 (zA Z)) 0 0 (zh Z zm1 st) 5 2 [some (.ref 100), some (.int (a1)), some (.int (a2)), some (.int (a3)), none] []) (a1 : Int32) (a2 : Int32) (a3 : Int32) (h : w_X12_atDay_138 P st K2 a1 a2 a3) : zG Z ad0 h0 p l e ({ frames := 2, cells := 0, slots := 0, locals := 37 } : Room) s m args below meth c (MQ below (zQ Z ad0 h0 (zRi Z st P)) args s 0 0 (zA Z)) 0 0 (zh Z zm1 st) 5 138 [some (.ref 100), some (.int (a1)), some (.int (a2)), some (.int (a3)), none] [] := by
  unfold w_X12_atDay_138 at h
  obtain ⟨x138, ex138⟩ : ∃ z : Int32, z = a3 + 1 := ⟨_, rfl⟩
  have h := h x138 ex138
  refine z_iinc C dX12_atDay_138 (v := x138) (lc' := [some (.ref 100), some (.int (a1)), some (.int (a2)), some (.int (x138)), none]) rfl (by decide) (by rw [ex138]; rfl) rfl ?_
  refine z_goto C dX12_atDay_141 (tgt := 2) (by decide) ?_
  exact t_drop [true, true, true, true, false] rfl (hK2 a1 a2 x138 h)
def w_X12_atDay_2 (P : Int32 → Prop) (st : zTs)  : Nat → Int32 → Int32 → Int32 → Prop
  | 0, _, _, _ => False
  | n9 + 1, a1, a2, a3 => vp_in a1 10 ∧ (((zgA st 159 0 (a1 : Int32).toNatClampNeg) ≤ a3 → P (-2000000000)) ∧ (¬ (zgA st 159 0 (a1 : Int32).toNatClampNeg) ≤ a3 → ∀ x18 : Int32, x18 = (40 * a1) + a3 → (vp_in x18 400 ∧ (((zgA st 160 0 (x18 : Int32).toNatClampNeg) = a2 → vp_in x18 400 ∧ (P (zgA st 161 0 (x18 : Int32).toNatClampNeg))) ∧ (¬ (zgA st 160 0 (x18 : Int32).toNatClampNeg) = a2 → vp_in a1 10 ∧ (((a3 + 1) = (zgA st 159 0 (a1 : Int32).toNatClampNeg) → w_X12_atDay_138 P st (w_X12_atDay_2 P st n9) a1 a2 a3) ∧ (¬ (a3 + 1) = (zgA st 159 0 (a1 : Int32).toNatClampNeg) → vp_in x18 400 ∧ ((a2 < (zgA st 160 0 (x18 : Int32).toNatClampNeg) → w_X12_atDay_138 P st (w_X12_atDay_2 P st n9) a1 a2 a3) ∧ (¬ a2 < (zgA st 160 0 (x18 : Int32).toNatClampNeg) → vp_in (x18 + 1) 400 ∧ ((a2 < (zgA st 160 0 (x18 + 1 : Int32).toNatClampNeg) → vp_in x18 400 ∧ (vp_in (x18 + 1) 400 ∧ (vp_in x18 400 ∧ (vp_in x18 400 ∧ (vp_in (x18 + 1) 400 ∧ (vp_in x18 400 ∧ (w_X12_floor st ((((zgA st 161 0 (x18 + 1 : Int32).toNatClampNeg) - (zgA st 161 0 (x18 : Int32).toNatClampNeg) : Int32).toInt64) * ((a2 - (zgA st 160 0 (x18 : Int32).toNatClampNeg) : Int32).toInt64)) (((zgA st 160 0 (x18 + 1 : Int32).toNatClampNeg) - (zgA st 160 0 (x18 : Int32).toNatClampNeg) : Int32).toInt64) (fun (r132 : Int64) => (P ((zgA st 161 0 (x18 : Int32).toNatClampNeg) + ((r132 : Int64).toInt32))))))))))) ∧ (¬ a2 < (zgA st 160 0 (x18 + 1 : Int32).toNatClampNeg) → w_X12_atDay_138 P st (w_X12_atDay_2 P st n9) a1 a2 a3)))))))))))
set_option maxHeartbeats 4000000 in
set_option maxRecDepth 100000 in
theorem j_X12_atDay_2 {P : Int32 → Prop} {st : zTs}  (hfl : l.stackTraces = false) (C : zC Z p s m args meth c cX12_atDay 5 RX12) (hr : meth.sig.returnType = (some .int)) (hn9 : True)  : ∀ (n9 : Nat) (a1 : Int32) (a2 : Int32) (a3 : Int32), w_X12_atDay_2 P st n9 a1 a2 a3 → zG Z ad0 h0 p l e ({ frames := 2, cells := 0, slots := 0, locals := 37 } : Room) s m args below meth c (MQ below (zQ Z ad0 h0 (zRi Z st P)) args s 0 0 (zA Z)) 0 0 (zh Z zm1 st) 5 2 [some (.ref 100), some (.int (a1)), some (.int (a2)), some (.int (a3)), none] [] := by
  intro n9
  induction n9 with
  | zero => intro a1 a2 a3 h; exact h.elim
  | succ n9 hK2 =>
    intro a1 a2 a3 h
    rw [w_X12_atDay_2] at h
    refine z_iload_n C dX12_atDay_2 (i := 3) rfl rfl ?_
    refine z_aload_n C dX12_atDay_3 (i := 0) rfl rfl ?_
    refine t_get C dX12_atDay_4 fl_X12_190 (k := 100) (i := 0) (by decide) rfl (fg_100_77 _ _ _) ?_
    refine z_iload_n C dX12_atDay_7 (i := 1) rfl rfl ?_
    obtain ⟨g8, h⟩ := h
    refine t_iald C dX12_atDay_8 (k := 159) (i := 0) (by decide) rfl (sh_159 _ _ _ _) g8 ?_
    refine z_icmp_ge C dX12_atDay_9 (tgt := 144) (by decide) (fun c9 => ?_) (fun c9 => ?_)
    · have h := h.1 c9
      refine z_ldc_w C dX12_atDay_144 kc_X12_500 ?_
      exact z_iret C dX12_atDay_147 hr rfl ⟨rfl, _, rfl, h⟩ (Nat.le_of_ble_eq_true rfl) (Nat.le_of_ble_eq_true rfl)
    · have h := h.2 c9
      refine z_bipush C dX12_atDay_12 (v := 40) (by decide) ?_
      refine z_iload_n C dX12_atDay_14 (i := 1) rfl rfl ?_
      refine z_imul C dX12_atDay_15 ?_
      refine z_iload_n C dX12_atDay_16 (i := 3) rfl rfl ?_
      refine z_iadd C dX12_atDay_17 ?_
      refine t_topi (fun x18 ex18 => ?_)
      have h := h x18 ex18
      refine z_istore C dX12_atDay_18 (lc' := [some (.ref 100), some (.int (a1)), some (.int (a2)), some (.int (a3)), some (.int (x18))]) (by decide) rfl ?_
      refine z_aload_n C dX12_atDay_20 (i := 0) rfl rfl ?_
      refine t_get C dX12_atDay_21 fl_X12_193 (k := 100) (i := 0) (by decide) rfl (fg_100_78 _ _ _) ?_
      refine z_iload C dX12_atDay_24 rfl ?_
      obtain ⟨g26, h⟩ := h
      refine t_iald C dX12_atDay_26 (k := 160) (i := 0) (by decide) rfl (sh_160 _ _ _ _) g26 ?_
      refine z_iload_n C dX12_atDay_27 (i := 2) rfl rfl ?_
      refine z_icmp_ne C dX12_atDay_28 (tgt := 39) (by decide) (fun c28 => ?_) (fun c28 => ?_)
      · have h := h.2 c28
        refine z_iload_n C dX12_atDay_39 (i := 3) rfl rfl ?_
        refine z_iconst C dX12_atDay_40 (v := 1) (by decide) ?_
        refine z_iadd C dX12_atDay_41 ?_
        refine z_aload_n C dX12_atDay_42 (i := 0) rfl rfl ?_
        refine t_get C dX12_atDay_43 fl_X12_190 (k := 100) (i := 0) (by decide) rfl (fg_100_77 _ _ _) ?_
        refine z_iload_n C dX12_atDay_46 (i := 1) rfl rfl ?_
        obtain ⟨g47, h⟩ := h
        refine t_iald C dX12_atDay_47 (k := 159) (i := 0) (by decide) rfl (sh_159 _ _ _ _) g47 ?_
        refine z_icmp_eq C dX12_atDay_48 (tgt := 138) (by decide) (fun c48 => ?_) (fun c48 => ?_)
        · have h := h.1 c48
          exact t_drop [true, true, true, true, false] rfl (j_X12_atDay_138 hfl C hr hn9 hK2 a1 a2 a3 h)
        · have h := h.2 c48
          refine z_aload_n C dX12_atDay_51 (i := 0) rfl rfl ?_
          refine t_get C dX12_atDay_52 fl_X12_193 (k := 100) (i := 0) (by decide) rfl (fg_100_78 _ _ _) ?_
          refine z_iload C dX12_atDay_55 rfl ?_
          obtain ⟨g57, h⟩ := h
          refine t_iald C dX12_atDay_57 (k := 160) (i := 0) (by decide) rfl (sh_160 _ _ _ _) g57 ?_
          refine z_iload_n C dX12_atDay_58 (i := 2) rfl rfl ?_
          refine z_icmp_gt C dX12_atDay_59 (tgt := 138) (by decide) (fun c59 => ?_) (fun c59 => ?_)
          · have h := h.1 c59
            exact t_drop [true, true, true, true, false] rfl (j_X12_atDay_138 hfl C hr hn9 hK2 a1 a2 a3 h)
          · have h := h.2 c59
            refine z_aload_n C dX12_atDay_62 (i := 0) rfl rfl ?_
            refine t_get C dX12_atDay_63 fl_X12_193 (k := 100) (i := 0) (by decide) rfl (fg_100_78 _ _ _) ?_
            refine z_iload C dX12_atDay_66 rfl ?_
            refine z_iconst C dX12_atDay_68 (v := 1) (by decide) ?_
            refine z_iadd C dX12_atDay_69 ?_
            obtain ⟨g70, h⟩ := h
            refine t_iald C dX12_atDay_70 (k := 160) (i := 0) (by decide) rfl (sh_160 _ _ _ _) g70 ?_
            refine z_iload_n C dX12_atDay_71 (i := 2) rfl rfl ?_
            refine z_icmp_gt C dX12_atDay_72 (tgt := 78) (by decide) (fun c72 => ?_) (fun c72 => ?_)
            · have h := h.1 c72
              refine z_aload_n C dX12_atDay_78 (i := 0) rfl rfl ?_
              refine t_get C dX12_atDay_79 fl_X12_196 (k := 100) (i := 0) (by decide) rfl (fg_100_79 _ _ _) ?_
              refine z_iload C dX12_atDay_82 rfl ?_
              obtain ⟨g84, h⟩ := h
              refine t_iald C dX12_atDay_84 (k := 161) (i := 0) (by decide) rfl (sh_161 _ _ _ _) g84 ?_
              refine z_aload_n C dX12_atDay_85 (i := 0) rfl rfl ?_
              refine t_get C dX12_atDay_86 fl_X12_196 (k := 100) (i := 0) (by decide) rfl (fg_100_79 _ _ _) ?_
              refine z_iload C dX12_atDay_89 rfl ?_
              refine z_iconst C dX12_atDay_91 (v := 1) (by decide) ?_
              refine z_iadd C dX12_atDay_92 ?_
              obtain ⟨g93, h⟩ := h
              refine t_iald C dX12_atDay_93 (k := 161) (i := 0) (by decide) rfl (sh_161 _ _ _ _) g93 ?_
              refine z_aload_n C dX12_atDay_94 (i := 0) rfl rfl ?_
              refine t_get C dX12_atDay_95 fl_X12_196 (k := 100) (i := 0) (by decide) rfl (fg_100_79 _ _ _) ?_
              refine z_iload C dX12_atDay_98 rfl ?_
              obtain ⟨g100, h⟩ := h
              refine t_iald C dX12_atDay_100 (k := 161) (i := 0) (by decide) rfl (sh_161 _ _ _ _) g100 ?_
              refine z_isub C dX12_atDay_101 ?_
              refine z_i2l C dX12_atDay_102 ?_
              refine z_iload_n C dX12_atDay_103 (i := 2) rfl rfl ?_
              refine z_aload_n C dX12_atDay_104 (i := 0) rfl rfl ?_
              refine t_get C dX12_atDay_105 fl_X12_193 (k := 100) (i := 0) (by decide) rfl (fg_100_78 _ _ _) ?_
              refine z_iload C dX12_atDay_108 rfl ?_
              obtain ⟨g110, h⟩ := h
              refine t_iald C dX12_atDay_110 (k := 160) (i := 0) (by decide) rfl (sh_160 _ _ _ _) g110 ?_
              refine z_isub C dX12_atDay_111 ?_
              refine z_i2l C dX12_atDay_112 ?_
              refine z_lmul C dX12_atDay_113 ?_
              refine z_aload_n C dX12_atDay_114 (i := 0) rfl rfl ?_
              refine t_get C dX12_atDay_115 fl_X12_193 (k := 100) (i := 0) (by decide) rfl (fg_100_78 _ _ _) ?_
              refine z_iload C dX12_atDay_118 rfl ?_
              refine z_iconst C dX12_atDay_120 (v := 1) (by decide) ?_
              refine z_iadd C dX12_atDay_121 ?_
              obtain ⟨g122, h⟩ := h
              refine t_iald C dX12_atDay_122 (k := 160) (i := 0) (by decide) rfl (sh_160 _ _ _ _) g122 ?_
              refine z_aload_n C dX12_atDay_123 (i := 0) rfl rfl ?_
              refine t_get C dX12_atDay_124 fl_X12_193 (k := 100) (i := 0) (by decide) rfl (fg_100_78 _ _ _) ?_
              refine z_iload C dX12_atDay_127 rfl ?_
              obtain ⟨g129, h⟩ := h
              refine t_iald C dX12_atDay_129 (k := 160) (i := 0) (by decide) rfl (sh_160 _ _ _ _) g129 ?_
              refine z_isub C dX12_atDay_130 ?_
              refine z_i2l C dX12_atDay_131 ?_
              refine t_callS C (rest := [.int (zgA st 161 0 (x18 : Int32).toNatClampNeg)]) (c2 := 0) (s2 := 0) [.long ((((zgA st 161 0 (x18 + 1 : Int32).toNatClampNeg) - (zgA st 161 0 (x18 : Int32).toNatClampNeg) : Int32).toInt64) * ((a2 - (zgA st 160 0 (x18 : Int32).toNatClampNeg) : Int32).toInt64)), .long (((zgA st 160 0 (x18 + 1 : Int32).toNatClampNeg) - (zgA st 160 0 (x18 : Int32).toNatClampNeg) : Int32).toInt64)] dX12_atDay_132 lk_X12_496 ls_X12_floor (c_X12_floor hfl h) rfl rfl ⟨Nat.le_of_ble_eq_true rfl, Nat.le_of_ble_eq_true rfl⟩ (Nat.le_of_ble_eq_true rfl) ⟨Nat.le_of_ble_eq_true rfl, Nat.le_of_ble_eq_true rfl, Nat.le_of_ble_eq_true rfl, Nat.le_of_ble_eq_true rfl⟩ (k_Rl fun r132 h => ?_)
              refine z_l2i C dX12_atDay_135 ?_
              refine z_iadd C dX12_atDay_136 ?_
              exact z_iret C dX12_atDay_137 hr rfl ⟨rfl, _, rfl, h⟩ (Nat.le_of_ble_eq_true rfl) (Nat.le_of_ble_eq_true rfl)
            · have h := h.2 c72
              refine z_goto C dX12_atDay_75 (tgt := 138) (by decide) ?_
              exact t_drop [true, true, true, true, false] rfl (j_X12_atDay_138 hfl C hr hn9 hK2 a1 a2 a3 h)
      · have h := h.1 c28
        refine z_aload_n C dX12_atDay_31 (i := 0) rfl rfl ?_
        refine t_get C dX12_atDay_32 fl_X12_196 (k := 100) (i := 0) (by decide) rfl (fg_100_79 _ _ _) ?_
        refine z_iload C dX12_atDay_35 rfl ?_
        obtain ⟨g37, h⟩ := h
        refine t_iald C dX12_atDay_37 (k := 161) (i := 0) (by decide) rfl (sh_161 _ _ _ _) g37 ?_
        exact z_iret C dX12_atDay_38 hr rfl ⟨rfl, _, rfl, h⟩ (Nat.le_of_ble_eq_true rfl) (Nat.le_of_ble_eq_true rfl)
def w_X12_atDay (st : zTs) (a1 : Int32) (a2 : Int32) (P : Int32 → Prop) : Prop := w_X12_atDay_2 P st zfu a1 a2 (0)
set_option maxHeartbeats 4000000 in
set_option maxRecDepth 100000 in
theorem c_X12_atDay {Z : zZ} {l : Launch} (hfl : l.stackTraces = false) {st : zTs} {a1 : Int32} {a2 : Int32} {P : Int32 → Prop} (h : w_X12_atDay st a1 a2 P) : zN Z l yX12_atDay cX12_atDay 5 (some .int) ({ frames := 2, cells := 0, slots := 0, locals := 37 } : Room) (zh Z zm1 st) [.ref 100, .int (a1), .int (a2)] (zRi Z st P) := by
  unfold w_X12_atDay at h
  refine z_enterN (by decide) (Nat.le_of_ble_eq_true rfl) (lc0 := [some (.ref 100), some (.int (a1)), some (.int (a2)), none, none]) rfl ?_
  intro p e s m args below meth c ad0 C hr _
  have hn9 : True := trivial
  replace C : zC Z p s m args meth c cX12_atDay 5 RX12 := C
  refine z_iconst C dX12_atDay_0 (v := 0) (by decide) ?_
  refine z_istore_n C dX12_atDay_1 (i := 3) (lc' := [some (.ref 100), some (.int (a1)), some (.int (a2)), some (.int (0)), none]) rfl (by decide) rfl ?_
  exact t_drop [true, true, true, true, false] rfl (j_X12_atDay_2 hfl C hr hn9  zfu a1 a2 (0) h)
def w_X12_at_19 (P : Int32 → zTs → Prop)  (st : zTs) (a1 : Int32) (a2 : Int32) (b0 : Int32) : Prop := w_X12_bad st b0 1 (fun (r20 : Int32) (s20 : zTs) => ((r20 = 0 → w_X12_atDay s20 a1 a2 (fun (r33 : Int32) => (P r33 s20))) ∧ (¬ r20 = 0 → P 0 s20)))
set_option maxHeartbeats 4000000 in
set_option maxRecDepth 100000 in
theorem j_X12_at_19 {P : Int32 → zTs → Prop}  (hfl : l.stackTraces = false) (C : zC Z p s m args meth c cX12_at 3 RX12) (hr : meth.sig.returnType = (some .int)) (hn9 : True)  (st : zTs) (a1 : Int32) (a2 : Int32) (b0 : Int32) (h : w_X12_at_19 P st a1 a2 b0) : zG Z ad0 h0 p l e ({ frames := 3, cells := 0, slots := 0, locals := 61 } : Room) s m args below meth c (MQ below (zQ Z ad0 h0 (zWi Z P)) args s 0 0 (zA Z)) 0 0 (zh Z zm1 st) 3 19 [some (.ref 100), some (.int (a1)), some (.int (a2))] [.int (b0), .ref 100] := by
  unfold w_X12_at_19 at h
  refine z_iconst C dX12_at_19 (v := 1) (by decide) ?_
  refine t_callV C (rest := []) (c2 := 0) (s2 := 0) (kd := 100) (i := 0) [.int (b0), .int (1)] dX12_at_20 lk_X12_205 li_X12_bad le_X12_bad (c_X12_bad hfl h) rfl rfl (by decide) rfl ⟨_, rfl⟩ rfl ⟨Nat.le_of_ble_eq_true rfl, Nat.le_of_ble_eq_true rfl⟩ (Nat.le_of_ble_eq_true rfl) ⟨Nat.le_of_ble_eq_true rfl, Nat.le_of_ble_eq_true rfl, Nat.le_of_ble_eq_true rfl, Nat.le_of_ble_eq_true rfl⟩ (k_Wi fun r20 s20 h => ?_)
  refine z_if_eq C dX12_at_23 (tgt := 30) (by decide) (fun c23 => ?_) (fun c23 => ?_)
  · have h := h.1 c23
    refine z_aload_n C dX12_at_30 (i := 0) rfl rfl ?_
    refine z_iload_n C dX12_at_31 (i := 1) rfl rfl ?_
    refine z_iload_n C dX12_at_32 (i := 2) rfl rfl ?_
    refine t_callV C (rest := []) (c2 := 0) (s2 := 0) (kd := 100) (i := 0) [.int (a1), .int (a2)] dX12_at_33 lk_X12_501 li_X12_atDay le_X12_atDay (c_X12_atDay hfl h) rfl rfl (by decide) rfl ⟨_, rfl⟩ rfl ⟨Nat.le_of_ble_eq_true rfl, Nat.le_of_ble_eq_true rfl⟩ (Nat.le_of_ble_eq_true rfl) ⟨Nat.le_of_ble_eq_true rfl, Nat.le_of_ble_eq_true rfl, Nat.le_of_ble_eq_true rfl, Nat.le_of_ble_eq_true rfl⟩ (k_Ri fun r33 h => ?_)
    exact z_iret C dX12_at_36 hr rfl ⟨_, _, rfl, rfl, h⟩ (Nat.le_of_ble_eq_true rfl) (Nat.le_of_ble_eq_true rfl)
  · have h := h.2 c23
    refine z_iconst C dX12_at_26 (v := 0) (by decide) ?_
    refine z_goto C dX12_at_27 (tgt := 36) (by decide) ?_
    exact z_iret C dX12_at_36 hr rfl ⟨_, _, rfl, rfl, h⟩ (Nat.le_of_ble_eq_true rfl) (Nat.le_of_ble_eq_true rfl)
def w_X12_at (st : zTs) (a1 : Int32) (a2 : Int32) (P : Int32 → zTs → Prop) : Prop := ∀ s2 : zTs, s2 = zuF st 100 0 0 0 → (w_X12_isGauge s2 a1 (fun (r8 : Int32) => ((r8 = 0 → w_X12_at_19 P s2 a1 a2 (1)) ∧ (¬ r8 = 0 → w_X12_at_19 P s2 a1 a2 (0)))))
set_option maxHeartbeats 4000000 in
set_option maxRecDepth 100000 in
theorem c_X12_at {Z : zZ} {l : Launch} (hfl : l.stackTraces = false) {st : zTs} {a1 : Int32} {a2 : Int32} {P : Int32 → zTs → Prop} (h : w_X12_at st a1 a2 P) : zN Z l yX12_at cX12_at 3 (some .int) ({ frames := 3, cells := 0, slots := 0, locals := 61 } : Room) (zh Z zm1 st) [.ref 100, .int (a1), .int (a2)] (zWi Z P) := by
  unfold w_X12_at at h
  refine z_enterN (by decide) (Nat.le_of_ble_eq_true rfl) (lc0 := [some (.ref 100), some (.int (a1)), some (.int (a2))]) rfl ?_
  intro p e s m args below meth c ad0 C hr _
  have hn9 : True := trivial
  replace C : zC Z p s m args meth c cX12_at 3 RX12 := C
  refine z_aload_n C dX12_at_0 (i := 0) rfl rfl ?_
  refine z_iconst C dX12_at_1 (v := 0) (by decide) ?_
  refine t_put C dX12_at_2 fq_X12_199 (Or.inl rfl) (k := 100) (i := 0) (by decide) rfl ⟨rfl, rfl⟩ (fp_100_0 _ _ _ _ _) ?_
  refine t_tops (fun s2 es2 => ?_)
  have h := h s2 es2
  refine z_aload_n C dX12_at_5 (i := 0) rfl rfl ?_
  refine z_aload_n C dX12_at_6 (i := 0) rfl rfl ?_
  refine z_iload_n C dX12_at_7 (i := 1) rfl rfl ?_
  refine t_callV C (rest := [.ref 100]) (c2 := 0) (s2 := 0) (kd := 100) (i := 0) [.int (a1)] dX12_at_8 lk_X12_493 li_X12_isGauge le_X12_isGauge (c_X12_isGauge hfl h) rfl rfl (by decide) rfl ⟨_, rfl⟩ rfl ⟨Nat.le_of_ble_eq_true rfl, Nat.le_of_ble_eq_true rfl⟩ (Nat.le_of_ble_eq_true rfl) ⟨Nat.le_of_ble_eq_true rfl, Nat.le_of_ble_eq_true rfl, Nat.le_of_ble_eq_true rfl, Nat.le_of_ble_eq_true rfl⟩ (k_Ri fun r8 h => ?_)
  refine z_if_ne C dX12_at_11 (tgt := 18) (by decide) (fun c11 => ?_) (fun c11 => ?_)
  · have h := h.2 c11
    refine z_iconst C dX12_at_18 (v := 0) (by decide) ?_
    exact t_drop [true, true, true] rfl (j_X12_at_19 hfl C hr hn9  s2 a1 a2 (0) h)
  · have h := h.1 c11
    refine z_iconst C dX12_at_14 (v := 1) (by decide) ?_
    refine z_goto C dX12_at_15 (tgt := 19) (by decide) ?_
    exact t_drop [true, true, true] rfl (j_X12_at_19 hfl C hr hn9  s2 a1 a2 (1) h)
def w_X12_isToldCause_37 (P : Int32 → Prop) (st : zTs)  (a1 : Int32) (a2 : Int32) (a3 : Int32) (a4 : Int32) (b0 : Int32) : Prop := (b0 = 0 → P 0) ∧ (¬ b0 = 0 → w_X12_atDay st a1 a4 (fun (r48 : Int32) => ((r48 = (-2000000000) → P 0) ∧ (¬ r48 = (-2000000000) → vp_in a3 30 ∧ (w_X12_atDay st a1 (zgA st 127 0 (a3 : Int32).toNatClampNeg) (fun (r65 : Int32) => ((r65 = (-2000000000) → P 0) ∧ (¬ r65 = (-2000000000) → w_X12_atDay st a2 a4 (fun (r78 : Int32) => ((r78 = (-2000000000) → P 0) ∧ (¬ r78 = (-2000000000) → vp_in a3 30 ∧ (w_X12_atDay st a2 (zgA st 127 0 (a3 : Int32).toNatClampNeg) (fun (r95 : Int32) => ((r95 = (-2000000000) → P 0) ∧ (¬ r95 = (-2000000000) → P 1)))))))))))))))
set_option maxHeartbeats 4000000 in
set_option maxRecDepth 100000 in
theorem j_X12_isToldCause_37 {P : Int32 → Prop} {st : zTs}  (hfl : l.stackTraces = false) (C : zC Z p s m args meth c cX12_isToldCause 6 RX12) (hr : meth.sig.returnType = (some .boolean)) (hn9 : True)  (a1 : Int32) (a2 : Int32) (a3 : Int32) (a4 : Int32) (b0 : Int32) (h : w_X12_isToldCause_37 P st a1 a2 a3 a4 b0) : zG Z ad0 h0 p l e ({ frames := 3, cells := 0, slots := 0, locals := 61 } : Room) s m args below meth c (MQ below (zQ Z ad0 h0 (zRi Z st P)) args s 0 0 (zA Z)) 0 0 (zh Z zm1 st) 6 37 [some (.ref 100), some (.int (a1)), some (.int (a2)), some (.int (a3)), some (.int (a4)), none] [.int (b0)] := by
  unfold w_X12_isToldCause_37 at h
  refine z_istore C dX12_isToldCause_37 (lc' := [some (.ref 100), some (.int (a1)), some (.int (a2)), some (.int (a3)), some (.int (a4)), some (.int (b0))]) (by decide) rfl ?_
  refine z_iload C dX12_isToldCause_39 rfl ?_
  refine z_if_eq C dX12_isToldCause_41 (tgt := 108) (by decide) (fun c41 => ?_) (fun c41 => ?_)
  · have h := h.1 c41
    refine z_iconst C dX12_isToldCause_108 (v := 0) (by decide) ?_
    exact z_iret C dX12_isToldCause_109 hr rfl ⟨rfl, _, rfl, h⟩ (Nat.le_of_ble_eq_true rfl) (Nat.le_of_ble_eq_true rfl)
  · have h := h.2 c41
    refine z_aload_n C dX12_isToldCause_44 (i := 0) rfl rfl ?_
    refine z_iload_n C dX12_isToldCause_45 (i := 1) rfl rfl ?_
    refine z_iload C dX12_isToldCause_46 rfl ?_
    refine t_callV C (rest := []) (c2 := 0) (s2 := 0) (kd := 100) (i := 0) [.int (a1), .int (a4)] dX12_isToldCause_48 lk_X12_501 li_X12_atDay le_X12_atDay (c_X12_atDay hfl h) rfl rfl (by decide) rfl ⟨_, rfl⟩ rfl ⟨Nat.le_of_ble_eq_true rfl, Nat.le_of_ble_eq_true rfl⟩ (Nat.le_of_ble_eq_true rfl) ⟨Nat.le_of_ble_eq_true rfl, Nat.le_of_ble_eq_true rfl, Nat.le_of_ble_eq_true rfl, Nat.le_of_ble_eq_true rfl⟩ (k_Ri fun r48 h => ?_)
    refine z_ldc_w C dX12_isToldCause_51 kc_X12_500 ?_
    refine z_icmp_eq C dX12_isToldCause_54 (tgt := 108) (by decide) (fun c54 => ?_) (fun c54 => ?_)
    · have h := h.1 c54
      refine z_iconst C dX12_isToldCause_108 (v := 0) (by decide) ?_
      exact z_iret C dX12_isToldCause_109 hr rfl ⟨rfl, _, rfl, h⟩ (Nat.le_of_ble_eq_true rfl) (Nat.le_of_ble_eq_true rfl)
    · have h := h.2 c54
      refine z_aload_n C dX12_isToldCause_57 (i := 0) rfl rfl ?_
      refine z_iload_n C dX12_isToldCause_58 (i := 1) rfl rfl ?_
      refine z_aload_n C dX12_isToldCause_59 (i := 0) rfl rfl ?_
      refine t_get C dX12_isToldCause_60 fl_X12_94 (k := 100) (i := 0) (by decide) rfl (fg_100_39 _ _ _) ?_
      refine z_iload_n C dX12_isToldCause_63 (i := 3) rfl rfl ?_
      obtain ⟨g64, h⟩ := h
      refine t_iald C dX12_isToldCause_64 (k := 127) (i := 0) (by decide) rfl (sh_127 _ _ _ _) g64 ?_
      refine t_callV C (rest := []) (c2 := 0) (s2 := 0) (kd := 100) (i := 0) [.int (a1), .int (zgA st 127 0 (a3 : Int32).toNatClampNeg)] dX12_isToldCause_65 lk_X12_501 li_X12_atDay le_X12_atDay (c_X12_atDay hfl h) rfl rfl (by decide) rfl ⟨_, rfl⟩ rfl ⟨Nat.le_of_ble_eq_true rfl, Nat.le_of_ble_eq_true rfl⟩ (Nat.le_of_ble_eq_true rfl) ⟨Nat.le_of_ble_eq_true rfl, Nat.le_of_ble_eq_true rfl, Nat.le_of_ble_eq_true rfl, Nat.le_of_ble_eq_true rfl⟩ (k_Ri fun r65 h => ?_)
      refine z_ldc_w C dX12_isToldCause_68 kc_X12_500 ?_
      refine z_icmp_eq C dX12_isToldCause_71 (tgt := 108) (by decide) (fun c71 => ?_) (fun c71 => ?_)
      · have h := h.1 c71
        refine z_iconst C dX12_isToldCause_108 (v := 0) (by decide) ?_
        exact z_iret C dX12_isToldCause_109 hr rfl ⟨rfl, _, rfl, h⟩ (Nat.le_of_ble_eq_true rfl) (Nat.le_of_ble_eq_true rfl)
      · have h := h.2 c71
        refine z_aload_n C dX12_isToldCause_74 (i := 0) rfl rfl ?_
        refine z_iload_n C dX12_isToldCause_75 (i := 2) rfl rfl ?_
        refine z_iload C dX12_isToldCause_76 rfl ?_
        refine t_callV C (rest := []) (c2 := 0) (s2 := 0) (kd := 100) (i := 0) [.int (a2), .int (a4)] dX12_isToldCause_78 lk_X12_501 li_X12_atDay le_X12_atDay (c_X12_atDay hfl h) rfl rfl (by decide) rfl ⟨_, rfl⟩ rfl ⟨Nat.le_of_ble_eq_true rfl, Nat.le_of_ble_eq_true rfl⟩ (Nat.le_of_ble_eq_true rfl) ⟨Nat.le_of_ble_eq_true rfl, Nat.le_of_ble_eq_true rfl, Nat.le_of_ble_eq_true rfl, Nat.le_of_ble_eq_true rfl⟩ (k_Ri fun r78 h => ?_)
        refine z_ldc_w C dX12_isToldCause_81 kc_X12_500 ?_
        refine z_icmp_eq C dX12_isToldCause_84 (tgt := 108) (by decide) (fun c84 => ?_) (fun c84 => ?_)
        · have h := h.1 c84
          refine z_iconst C dX12_isToldCause_108 (v := 0) (by decide) ?_
          exact z_iret C dX12_isToldCause_109 hr rfl ⟨rfl, _, rfl, h⟩ (Nat.le_of_ble_eq_true rfl) (Nat.le_of_ble_eq_true rfl)
        · have h := h.2 c84
          refine z_aload_n C dX12_isToldCause_87 (i := 0) rfl rfl ?_
          refine z_iload_n C dX12_isToldCause_88 (i := 2) rfl rfl ?_
          refine z_aload_n C dX12_isToldCause_89 (i := 0) rfl rfl ?_
          refine t_get C dX12_isToldCause_90 fl_X12_94 (k := 100) (i := 0) (by decide) rfl (fg_100_39 _ _ _) ?_
          refine z_iload_n C dX12_isToldCause_93 (i := 3) rfl rfl ?_
          obtain ⟨g94, h⟩ := h
          refine t_iald C dX12_isToldCause_94 (k := 127) (i := 0) (by decide) rfl (sh_127 _ _ _ _) g94 ?_
          refine t_callV C (rest := []) (c2 := 0) (s2 := 0) (kd := 100) (i := 0) [.int (a2), .int (zgA st 127 0 (a3 : Int32).toNatClampNeg)] dX12_isToldCause_95 lk_X12_501 li_X12_atDay le_X12_atDay (c_X12_atDay hfl h) rfl rfl (by decide) rfl ⟨_, rfl⟩ rfl ⟨Nat.le_of_ble_eq_true rfl, Nat.le_of_ble_eq_true rfl⟩ (Nat.le_of_ble_eq_true rfl) ⟨Nat.le_of_ble_eq_true rfl, Nat.le_of_ble_eq_true rfl, Nat.le_of_ble_eq_true rfl, Nat.le_of_ble_eq_true rfl⟩ (k_Ri fun r95 h => ?_)
          refine z_ldc_w C dX12_isToldCause_98 kc_X12_500 ?_
          refine z_icmp_eq C dX12_isToldCause_101 (tgt := 108) (by decide) (fun c101 => ?_) (fun c101 => ?_)
          · have h := h.1 c101
            refine z_iconst C dX12_isToldCause_108 (v := 0) (by decide) ?_
            exact z_iret C dX12_isToldCause_109 hr rfl ⟨rfl, _, rfl, h⟩ (Nat.le_of_ble_eq_true rfl) (Nat.le_of_ble_eq_true rfl)
          · have h := h.2 c101
            refine z_iconst C dX12_isToldCause_104 (v := 1) (by decide) ?_
            refine z_goto C dX12_isToldCause_105 (tgt := 109) (by decide) ?_
            exact z_iret C dX12_isToldCause_109 hr rfl ⟨rfl, _, rfl, h⟩ (Nat.le_of_ble_eq_true rfl) (Nat.le_of_ble_eq_true rfl)
def w_X12_isToldCause_36 (P : Int32 → Prop) (st : zTs)  (a1 : Int32) (a2 : Int32) (a3 : Int32) (a4 : Int32) : Prop := w_X12_isToldCause_37 P st a1 a2 a3 a4 (0)
set_option maxHeartbeats 4000000 in
set_option maxRecDepth 100000 in
theorem j_X12_isToldCause_36 {P : Int32 → Prop} {st : zTs}  (hfl : l.stackTraces = false) (C : zC Z p s m args meth c cX12_isToldCause 6 RX12) (hr : meth.sig.returnType = (some .boolean)) (hn9 : True)  (a1 : Int32) (a2 : Int32) (a3 : Int32) (a4 : Int32) (h : w_X12_isToldCause_36 P st a1 a2 a3 a4) : zG Z ad0 h0 p l e ({ frames := 3, cells := 0, slots := 0, locals := 61 } : Room) s m args below meth c (MQ below (zQ Z ad0 h0 (zRi Z st P)) args s 0 0 (zA Z)) 0 0 (zh Z zm1 st) 6 36 [some (.ref 100), some (.int (a1)), some (.int (a2)), some (.int (a3)), some (.int (a4)), none] [] := by
  unfold w_X12_isToldCause_36 at h
  refine z_iconst C dX12_isToldCause_36 (v := 0) (by decide) ?_
  exact t_drop [true, true, true, true, true, false] rfl (j_X12_isToldCause_37 hfl C hr hn9  a1 a2 a3 a4 (0) h)
def w_X12_isToldCause_21 (P : Int32 → Prop) (st : zTs)  (a1 : Int32) (a2 : Int32) (a3 : Int32) (a4 : Int32) : Prop := vp_in a3 30 ∧ ((a4 ≤ (zgA st 127 0 (a3 : Int32).toNatClampNeg) → w_X12_isToldCause_36 P st a1 a2 a3 a4) ∧ (¬ a4 ≤ (zgA st 127 0 (a3 : Int32).toNatClampNeg) → w_X12_isToldCause_37 P st a1 a2 a3 a4 (1)))
set_option maxHeartbeats 4000000 in
set_option maxRecDepth 100000 in
theorem j_X12_isToldCause_21 {P : Int32 → Prop} {st : zTs}  (hfl : l.stackTraces = false) (C : zC Z p s m args meth c cX12_isToldCause 6 RX12) (hr : meth.sig.returnType = (some .boolean)) (hn9 : True)  (a1 : Int32) (a2 : Int32) (a3 : Int32) (a4 : Int32) (h : w_X12_isToldCause_21 P st a1 a2 a3 a4) : zG Z ad0 h0 p l e ({ frames := 3, cells := 0, slots := 0, locals := 61 } : Room) s m args below meth c (MQ below (zQ Z ad0 h0 (zRi Z st P)) args s 0 0 (zA Z)) 0 0 (zh Z zm1 st) 6 21 [some (.ref 100), some (.int (a1)), some (.int (a2)), some (.int (a3)), some (.int (a4)), none] [] := by
  unfold w_X12_isToldCause_21 at h
  refine z_iload C dX12_isToldCause_21 rfl ?_
  refine z_aload_n C dX12_isToldCause_23 (i := 0) rfl rfl ?_
  refine t_get C dX12_isToldCause_24 fl_X12_94 (k := 100) (i := 0) (by decide) rfl (fg_100_39 _ _ _) ?_
  refine z_iload_n C dX12_isToldCause_27 (i := 3) rfl rfl ?_
  obtain ⟨g28, h⟩ := h
  refine t_iald C dX12_isToldCause_28 (k := 127) (i := 0) (by decide) rfl (sh_127 _ _ _ _) g28 ?_
  refine z_icmp_le C dX12_isToldCause_29 (tgt := 36) (by decide) (fun c29 => ?_) (fun c29 => ?_)
  · have h := h.1 c29
    exact t_drop [true, true, true, true, true, false] rfl (j_X12_isToldCause_36 hfl C hr hn9  a1 a2 a3 a4 h)
  · have h := h.2 c29
    refine z_iconst C dX12_isToldCause_32 (v := 1) (by decide) ?_
    refine z_goto C dX12_isToldCause_33 (tgt := 37) (by decide) ?_
    exact t_drop [true, true, true, true, true, false] rfl (j_X12_isToldCause_37 hfl C hr hn9  a1 a2 a3 a4 (1) h)
def w_X12_isToldCause (st : zTs) (a1 : Int32) (a2 : Int32) (a3 : Int32) (a4 : Int32) (P : Int32 → Prop) : Prop := vp_in a3 30 ∧ (((zgA st 126 0 (a3 : Int32).toNatClampNeg) = 5 → w_X12_isToldCause_21 P st a1 a2 a3 a4) ∧ (¬ (zgA st 126 0 (a3 : Int32).toNatClampNeg) = 5 → vp_in a3 30 ∧ (((zgA st 126 0 (a3 : Int32).toNatClampNeg) = 7 → w_X12_isToldCause_21 P st a1 a2 a3 a4) ∧ (¬ (zgA st 126 0 (a3 : Int32).toNatClampNeg) = 7 → w_X12_isToldCause_36 P st a1 a2 a3 a4))))
set_option maxHeartbeats 4000000 in
set_option maxRecDepth 100000 in
theorem c_X12_isToldCause {Z : zZ} {l : Launch} (hfl : l.stackTraces = false) {st : zTs} {a1 : Int32} {a2 : Int32} {a3 : Int32} {a4 : Int32} {P : Int32 → Prop} (h : w_X12_isToldCause st a1 a2 a3 a4 P) : zN Z l yX12_isToldCause cX12_isToldCause 6 (some .boolean) ({ frames := 3, cells := 0, slots := 0, locals := 61 } : Room) (zh Z zm1 st) [.ref 100, .int (a1), .int (a2), .int (a3), .int (a4)] (zRi Z st P) := by
  unfold w_X12_isToldCause at h
  refine z_enterN (by decide) (Nat.le_of_ble_eq_true rfl) (lc0 := [some (.ref 100), some (.int (a1)), some (.int (a2)), some (.int (a3)), some (.int (a4)), none]) rfl ?_
  intro p e s m args below meth c ad0 C hr _
  have hn9 : True := trivial
  replace C : zC Z p s m args meth c cX12_isToldCause 6 RX12 := C
  refine z_aload_n C dX12_isToldCause_0 (i := 0) rfl rfl ?_
  refine t_get C dX12_isToldCause_1 fl_X12_91 (k := 100) (i := 0) (by decide) rfl (fg_100_38 _ _ _) ?_
  refine z_iload_n C dX12_isToldCause_4 (i := 3) rfl rfl ?_
  obtain ⟨g5, h⟩ := h
  refine t_iald C dX12_isToldCause_5 (k := 126) (i := 0) (by decide) rfl (sh_126 _ _ _ _) g5 ?_
  refine z_iconst C dX12_isToldCause_6 (v := 5) (by decide) ?_
  refine z_icmp_eq C dX12_isToldCause_7 (tgt := 21) (by decide) (fun c7 => ?_) (fun c7 => ?_)
  · have h := h.1 c7
    exact t_drop [true, true, true, true, true, false] rfl (j_X12_isToldCause_21 hfl C hr hn9  a1 a2 a3 a4 h)
  · have h := h.2 c7
    refine z_aload_n C dX12_isToldCause_10 (i := 0) rfl rfl ?_
    refine t_get C dX12_isToldCause_11 fl_X12_91 (k := 100) (i := 0) (by decide) rfl (fg_100_38 _ _ _) ?_
    refine z_iload_n C dX12_isToldCause_14 (i := 3) rfl rfl ?_
    obtain ⟨g15, h⟩ := h
    refine t_iald C dX12_isToldCause_15 (k := 126) (i := 0) (by decide) rfl (sh_126 _ _ _ _) g15 ?_
    refine z_bipush C dX12_isToldCause_16 (v := 7) (by decide) ?_
    refine z_icmp_ne C dX12_isToldCause_18 (tgt := 36) (by decide) (fun c18 => ?_) (fun c18 => ?_)
    · have h := h.2 c18
      exact t_drop [true, true, true, true, true, false] rfl (j_X12_isToldCause_36 hfl C hr hn9  a1 a2 a3 a4 h)
    · have h := h.1 c18
      exact t_drop [true, true, true, true, true, false] rfl (j_X12_isToldCause_21 hfl C hr hn9  a1 a2 a3 a4 h)
def w_X12_grewOf (st : zTs) (a1 : Int32) (a2 : Int32) (a3 : Int32) (P : Int64 → Prop) : Prop := w_X12_atDay st a1 a3 (fun (r3 : Int32) => (vp_in a2 30 ∧ (w_X12_atDay st a1 (zgA st 127 0 (a2 : Int32).toNatClampNeg) (fun (r14 : Int32) => (P ((r3 - r14 : Int32).toInt64))))))
set_option maxHeartbeats 4000000 in
set_option maxRecDepth 100000 in
theorem c_X12_grewOf {Z : zZ} {l : Launch} (hfl : l.stackTraces = false) {st : zTs} {a1 : Int32} {a2 : Int32} {a3 : Int32} {P : Int64 → Prop} (h : w_X12_grewOf st a1 a2 a3 P) : zN Z l yX12_grewOf cX12_grewOf 4 (some .long) ({ frames := 3, cells := 0, slots := 0, locals := 61 } : Room) (zh Z zm1 st) [.ref 100, .int (a1), .int (a2), .int (a3)] (zRl Z st P) := by
  unfold w_X12_grewOf at h
  refine z_enterN (by decide) (Nat.le_of_ble_eq_true rfl) (lc0 := [some (.ref 100), some (.int (a1)), some (.int (a2)), some (.int (a3))]) rfl ?_
  intro p e s m args below meth c ad0 C hr _
  have hn9 : True := trivial
  replace C : zC Z p s m args meth c cX12_grewOf 4 RX12 := C
  refine z_aload_n C dX12_grewOf_0 (i := 0) rfl rfl ?_
  refine z_iload_n C dX12_grewOf_1 (i := 1) rfl rfl ?_
  refine z_iload_n C dX12_grewOf_2 (i := 3) rfl rfl ?_
  refine t_callV C (rest := []) (c2 := 0) (s2 := 0) (kd := 100) (i := 0) [.int (a1), .int (a3)] dX12_grewOf_3 lk_X12_501 li_X12_atDay le_X12_atDay (c_X12_atDay hfl h) rfl rfl (by decide) rfl ⟨_, rfl⟩ rfl ⟨Nat.le_of_ble_eq_true rfl, Nat.le_of_ble_eq_true rfl⟩ (Nat.le_of_ble_eq_true rfl) ⟨Nat.le_of_ble_eq_true rfl, Nat.le_of_ble_eq_true rfl, Nat.le_of_ble_eq_true rfl, Nat.le_of_ble_eq_true rfl⟩ (k_Ri fun r3 h => ?_)
  refine z_aload_n C dX12_grewOf_6 (i := 0) rfl rfl ?_
  refine z_iload_n C dX12_grewOf_7 (i := 1) rfl rfl ?_
  refine z_aload_n C dX12_grewOf_8 (i := 0) rfl rfl ?_
  refine t_get C dX12_grewOf_9 fl_X12_94 (k := 100) (i := 0) (by decide) rfl (fg_100_39 _ _ _) ?_
  refine z_iload_n C dX12_grewOf_12 (i := 2) rfl rfl ?_
  obtain ⟨g13, h⟩ := h
  refine t_iald C dX12_grewOf_13 (k := 127) (i := 0) (by decide) rfl (sh_127 _ _ _ _) g13 ?_
  refine t_callV C (rest := [.int (r3)]) (c2 := 0) (s2 := 0) (kd := 100) (i := 0) [.int (a1), .int (zgA st 127 0 (a2 : Int32).toNatClampNeg)] dX12_grewOf_14 lk_X12_501 li_X12_atDay le_X12_atDay (c_X12_atDay hfl h) rfl rfl (by decide) rfl ⟨_, rfl⟩ rfl ⟨Nat.le_of_ble_eq_true rfl, Nat.le_of_ble_eq_true rfl⟩ (Nat.le_of_ble_eq_true rfl) ⟨Nat.le_of_ble_eq_true rfl, Nat.le_of_ble_eq_true rfl, Nat.le_of_ble_eq_true rfl, Nat.le_of_ble_eq_true rfl⟩ (k_Ri fun r14 h => ?_)
  refine z_isub C dX12_grewOf_17 ?_
  refine z_i2l C dX12_grewOf_18 ?_
  exact z_lret C dX12_grewOf_19 hr ⟨rfl, _, rfl, h⟩ (Nat.le_of_ble_eq_true rfl) (Nat.le_of_ble_eq_true rfl)
def w_X12_ageOf (st : zTs) (a1 : Int32) (a2 : Int32) (a3 : Int32) (P : Int64 → Prop) : Prop := vp_in (40 * a1) 400 ∧ (∀ x9 : Int32, x9 = zgA st 160 0 (40 * a1 : Int32).toNatClampNeg → (vp_in a2 30 ∧ (∀ x17 : Int32, x17 = zgA st 127 0 (a2 : Int32).toNatClampNeg → ((x17 = x9 → P 0) ∧ (¬ x17 = x9 → w_X12_atDay st a1 x17 (fun (r32 : Int32) => (vp_in (40 * a1) 400 ∧ (w_X12_floor st (((r32 - (zgA st 161 0 (40 * a1 : Int32).toNatClampNeg) : Int32).toInt64) * ((a3 - x17 : Int32).toInt64)) ((x17 - x9 : Int32).toInt64) (fun (r58 : Int64) => (P r58))))))))))
set_option maxHeartbeats 4000000 in
set_option maxRecDepth 100000 in
theorem c_X12_ageOf {Z : zZ} {l : Launch} (hfl : l.stackTraces = false) {st : zTs} {a1 : Int32} {a2 : Int32} {a3 : Int32} {P : Int64 → Prop} (h : w_X12_ageOf st a1 a2 a3 P) : zN Z l yX12_ageOf cX12_ageOf 6 (some .long) ({ frames := 3, cells := 0, slots := 0, locals := 61 } : Room) (zh Z zm1 st) [.ref 100, .int (a1), .int (a2), .int (a3)] (zRl Z st P) := by
  unfold w_X12_ageOf at h
  refine z_enterN (by decide) (Nat.le_of_ble_eq_true rfl) (lc0 := [some (.ref 100), some (.int (a1)), some (.int (a2)), some (.int (a3)), none, none]) rfl ?_
  intro p e s m args below meth c ad0 C hr _
  have hn9 : True := trivial
  replace C : zC Z p s m args meth c cX12_ageOf 6 RX12 := C
  refine z_aload_n C dX12_ageOf_0 (i := 0) rfl rfl ?_
  refine t_get C dX12_ageOf_1 fl_X12_193 (k := 100) (i := 0) (by decide) rfl (fg_100_78 _ _ _) ?_
  refine z_bipush C dX12_ageOf_4 (v := 40) (by decide) ?_
  refine z_iload_n C dX12_ageOf_6 (i := 1) rfl rfl ?_
  refine z_imul C dX12_ageOf_7 ?_
  obtain ⟨g8, h⟩ := h
  refine t_iald C dX12_ageOf_8 (k := 160) (i := 0) (by decide) rfl (sh_160 _ _ _ _) g8 ?_
  refine t_topi (fun x9 ex9 => ?_)
  have h := h x9 ex9
  refine z_istore C dX12_ageOf_9 (lc' := [some (.ref 100), some (.int (a1)), some (.int (a2)), some (.int (a3)), some (.int (x9)), none]) (by decide) rfl ?_
  refine z_aload_n C dX12_ageOf_11 (i := 0) rfl rfl ?_
  refine t_get C dX12_ageOf_12 fl_X12_94 (k := 100) (i := 0) (by decide) rfl (fg_100_39 _ _ _) ?_
  refine z_iload_n C dX12_ageOf_15 (i := 2) rfl rfl ?_
  obtain ⟨g16, h⟩ := h
  refine t_iald C dX12_ageOf_16 (k := 127) (i := 0) (by decide) rfl (sh_127 _ _ _ _) g16 ?_
  refine t_topi (fun x17 ex17 => ?_)
  have h := h x17 ex17
  refine z_istore C dX12_ageOf_17 (lc' := [some (.ref 100), some (.int (a1)), some (.int (a2)), some (.int (a3)), some (.int (x9)), some (.int (x17))]) (by decide) rfl ?_
  refine z_iload C dX12_ageOf_19 rfl ?_
  refine z_iload C dX12_ageOf_21 rfl ?_
  refine z_icmp_ne C dX12_ageOf_23 (tgt := 28) (by decide) (fun c23 => ?_) (fun c23 => ?_)
  · have h := h.2 c23
    refine z_aload_n C dX12_ageOf_28 (i := 0) rfl rfl ?_
    refine z_iload_n C dX12_ageOf_29 (i := 1) rfl rfl ?_
    refine z_iload C dX12_ageOf_30 rfl ?_
    refine t_callV C (rest := []) (c2 := 0) (s2 := 0) (kd := 100) (i := 0) [.int (a1), .int (x17)] dX12_ageOf_32 lk_X12_501 li_X12_atDay le_X12_atDay (c_X12_atDay hfl h) rfl rfl (by decide) rfl ⟨_, rfl⟩ rfl ⟨Nat.le_of_ble_eq_true rfl, Nat.le_of_ble_eq_true rfl⟩ (Nat.le_of_ble_eq_true rfl) ⟨Nat.le_of_ble_eq_true rfl, Nat.le_of_ble_eq_true rfl, Nat.le_of_ble_eq_true rfl, Nat.le_of_ble_eq_true rfl⟩ (k_Ri fun r32 h => ?_)
    refine z_aload_n C dX12_ageOf_35 (i := 0) rfl rfl ?_
    refine t_get C dX12_ageOf_36 fl_X12_196 (k := 100) (i := 0) (by decide) rfl (fg_100_79 _ _ _) ?_
    refine z_bipush C dX12_ageOf_39 (v := 40) (by decide) ?_
    refine z_iload_n C dX12_ageOf_41 (i := 1) rfl rfl ?_
    refine z_imul C dX12_ageOf_42 ?_
    obtain ⟨g43, h⟩ := h
    refine t_iald C dX12_ageOf_43 (k := 161) (i := 0) (by decide) rfl (sh_161 _ _ _ _) g43 ?_
    refine z_isub C dX12_ageOf_44 ?_
    refine z_i2l C dX12_ageOf_45 ?_
    refine z_iload_n C dX12_ageOf_46 (i := 3) rfl rfl ?_
    refine z_iload C dX12_ageOf_47 rfl ?_
    refine z_isub C dX12_ageOf_49 ?_
    refine z_i2l C dX12_ageOf_50 ?_
    refine z_lmul C dX12_ageOf_51 ?_
    refine z_iload C dX12_ageOf_52 rfl ?_
    refine z_iload C dX12_ageOf_54 rfl ?_
    refine z_isub C dX12_ageOf_56 ?_
    refine z_i2l C dX12_ageOf_57 ?_
    refine t_callS C (rest := []) (c2 := 0) (s2 := 0) [.long (((r32 - (zgA st 161 0 (40 * a1 : Int32).toNatClampNeg) : Int32).toInt64) * ((a3 - x17 : Int32).toInt64)), .long ((x17 - x9 : Int32).toInt64)] dX12_ageOf_58 lk_X12_496 ls_X12_floor (c_X12_floor hfl h) rfl rfl ⟨Nat.le_of_ble_eq_true rfl, Nat.le_of_ble_eq_true rfl⟩ (Nat.le_of_ble_eq_true rfl) ⟨Nat.le_of_ble_eq_true rfl, Nat.le_of_ble_eq_true rfl, Nat.le_of_ble_eq_true rfl, Nat.le_of_ble_eq_true rfl⟩ (k_Rl fun r58 h => ?_)
    exact z_lret C dX12_ageOf_61 hr ⟨rfl, _, rfl, h⟩ (Nat.le_of_ble_eq_true rfl) (Nat.le_of_ble_eq_true rfl)
  · have h := h.1 c23
    refine z_lconst C dX12_ageOf_26 (v := 0) (by decide) ?_
    exact z_lret C dX12_ageOf_27 hr ⟨rfl, _, rfl, h⟩ (Nat.le_of_ble_eq_true rfl) (Nat.le_of_ble_eq_true rfl)
def w_X12_worksOf (st : zTs) (a1 : Int32) (a2 : Int32) (a3 : Int32) (a4 : Int32) (P : Int64 → Prop) : Prop := w_X12_grewOf st a1 a3 a4 (fun (r5 : Int64) => (w_X12_grewOf st a2 a3 a4 (fun (r13 : Int64) => (w_X12_ageOf st a1 a3 a4 (fun (r22 : Int64) => (P ((r5 - r13) - r22)))))))
set_option maxHeartbeats 4000000 in
set_option maxRecDepth 100000 in
theorem c_X12_worksOf {Z : zZ} {l : Launch} (hfl : l.stackTraces = false) {st : zTs} {a1 : Int32} {a2 : Int32} {a3 : Int32} {a4 : Int32} {P : Int64 → Prop} (h : w_X12_worksOf st a1 a2 a3 a4 P) : zN Z l yX12_worksOf cX12_worksOf 5 (some .long) ({ frames := 4, cells := 0, slots := 0, locals := 86 } : Room) (zh Z zm1 st) [.ref 100, .int (a1), .int (a2), .int (a3), .int (a4)] (zRl Z st P) := by
  unfold w_X12_worksOf at h
  refine z_enterN (by decide) (Nat.le_of_ble_eq_true rfl) (lc0 := [some (.ref 100), some (.int (a1)), some (.int (a2)), some (.int (a3)), some (.int (a4))]) rfl ?_
  intro p e s m args below meth c ad0 C hr _
  have hn9 : True := trivial
  replace C : zC Z p s m args meth c cX12_worksOf 5 RX12 := C
  refine z_aload_n C dX12_worksOf_0 (i := 0) rfl rfl ?_
  refine z_iload_n C dX12_worksOf_1 (i := 1) rfl rfl ?_
  refine z_iload_n C dX12_worksOf_2 (i := 3) rfl rfl ?_
  refine z_iload C dX12_worksOf_3 rfl ?_
  refine t_callV C (rest := []) (c2 := 0) (s2 := 0) (kd := 100) (i := 0) [.int (a1), .int (a3), .int (a4)] dX12_worksOf_5 lk_X12_504 li_X12_grewOf le_X12_grewOf (c_X12_grewOf hfl h) rfl rfl (by decide) rfl ⟨_, rfl⟩ rfl ⟨Nat.le_of_ble_eq_true rfl, Nat.le_of_ble_eq_true rfl⟩ (Nat.le_of_ble_eq_true rfl) ⟨Nat.le_of_ble_eq_true rfl, Nat.le_of_ble_eq_true rfl, Nat.le_of_ble_eq_true rfl, Nat.le_of_ble_eq_true rfl⟩ (k_Rl fun r5 h => ?_)
  refine z_aload_n C dX12_worksOf_8 (i := 0) rfl rfl ?_
  refine z_iload_n C dX12_worksOf_9 (i := 2) rfl rfl ?_
  refine z_iload_n C dX12_worksOf_10 (i := 3) rfl rfl ?_
  refine z_iload C dX12_worksOf_11 rfl ?_
  refine t_callV C (rest := [.long (r5)]) (c2 := 0) (s2 := 0) (kd := 100) (i := 0) [.int (a2), .int (a3), .int (a4)] dX12_worksOf_13 lk_X12_504 li_X12_grewOf le_X12_grewOf (c_X12_grewOf hfl h) rfl rfl (by decide) rfl ⟨_, rfl⟩ rfl ⟨Nat.le_of_ble_eq_true rfl, Nat.le_of_ble_eq_true rfl⟩ (Nat.le_of_ble_eq_true rfl) ⟨Nat.le_of_ble_eq_true rfl, Nat.le_of_ble_eq_true rfl, Nat.le_of_ble_eq_true rfl, Nat.le_of_ble_eq_true rfl⟩ (k_Rl fun r13 h => ?_)
  refine z_lsub C dX12_worksOf_16 ?_
  refine z_aload_n C dX12_worksOf_17 (i := 0) rfl rfl ?_
  refine z_iload_n C dX12_worksOf_18 (i := 1) rfl rfl ?_
  refine z_iload_n C dX12_worksOf_19 (i := 3) rfl rfl ?_
  refine z_iload C dX12_worksOf_20 rfl ?_
  refine t_callV C (rest := [.long (r5 - r13)]) (c2 := 0) (s2 := 0) (kd := 100) (i := 0) [.int (a1), .int (a3), .int (a4)] dX12_worksOf_22 lk_X12_508 li_X12_ageOf le_X12_ageOf (c_X12_ageOf hfl h) rfl rfl (by decide) rfl ⟨_, rfl⟩ rfl ⟨Nat.le_of_ble_eq_true rfl, Nat.le_of_ble_eq_true rfl⟩ (Nat.le_of_ble_eq_true rfl) ⟨Nat.le_of_ble_eq_true rfl, Nat.le_of_ble_eq_true rfl, Nat.le_of_ble_eq_true rfl, Nat.le_of_ble_eq_true rfl⟩ (k_Rl fun r22 h => ?_)
  refine z_lsub C dX12_worksOf_25 ?_
  exact z_lret C dX12_worksOf_26 hr ⟨rfl, _, rfl, h⟩ (Nat.le_of_ble_eq_true rfl) (Nat.le_of_ble_eq_true rfl)
def w_X12_isAsked_34 (P : Int32 → zTs → Prop)  (st : zTs) (b0 : Int32) : Prop := ∀ s34 : zTs, s34 = zuF st 100 0 0 b0 → (((zgF s34 100 0 0) = 0 → P 1 s34) ∧ (¬ (zgF s34 100 0 0) = 0 → P 0 s34))
set_option maxHeartbeats 4000000 in
set_option maxRecDepth 100000 in
theorem j_X12_isAsked_34 {P : Int32 → zTs → Prop}  (hfl : l.stackTraces = false) (C : zC Z p s m args meth c cX12_isAsked 4 RX12) (hr : meth.sig.returnType = (some .boolean)) (hn9 : True)  (st : zTs) (b0 : Int32) (h : w_X12_isAsked_34 P st b0) : zG Z ad0 h0 p l e ({ frames := 2, cells := 0, slots := 0, locals := 33 } : Room) s m args below meth c (MQ below (zQ Z ad0 h0 (zWi Z P)) args s 0 0 (zA Z)) 0 0 (zh Z zm1 st) 4 34 [some (.ref 100), none, none, none] [.int (b0), .ref 100] := by
  unfold w_X12_isAsked_34 at h
  refine t_put C dX12_isAsked_34 fq_X12_199 (Or.inl rfl) (k := 100) (i := 0) (by decide) rfl ⟨rfl, rfl⟩ (fp_100_0 _ _ _ _ _) ?_
  refine t_tops (fun s34 es34 => ?_)
  have h := h s34 es34
  refine z_aload_n C dX12_isAsked_37 (i := 0) rfl rfl ?_
  refine t_get C dX12_isAsked_38 fl_X12_199 (k := 100) (i := 0) (by decide) rfl (fg_100_0 _ _ _) ?_
  refine z_if_ne C dX12_isAsked_41 (tgt := 48) (by decide) (fun c41 => ?_) (fun c41 => ?_)
  · have h := h.2 c41
    refine z_iconst C dX12_isAsked_48 (v := 0) (by decide) ?_
    exact z_iret C dX12_isAsked_49 hr rfl ⟨_, _, rfl, rfl, h⟩ (Nat.le_of_ble_eq_true rfl) (Nat.le_of_ble_eq_true rfl)
  · have h := h.1 c41
    refine z_iconst C dX12_isAsked_44 (v := 1) (by decide) ?_
    refine z_goto C dX12_isAsked_45 (tgt := 49) (by decide) ?_
    exact z_iret C dX12_isAsked_49 hr rfl ⟨_, _, rfl, rfl, h⟩ (Nat.le_of_ble_eq_true rfl) (Nat.le_of_ble_eq_true rfl)
def w_X12_isAsked (st : zTs) (a1 : Int32) (a2 : Int32) (a3 : Int32) (P : Int32 → zTs → Prop) : Prop := w_X12_isGauge st a1 (fun (r3 : Int32) => ((r3 = 0 → w_X12_isAsked_34 P st (1)) ∧ (¬ r3 = 0 → w_X12_isGauge st a2 (fun (r11 : Int32) => ((r11 = 0 → w_X12_isAsked_34 P st (1)) ∧ (¬ r11 = 0 → (a3 < 0 → w_X12_isAsked_34 P st (1)) ∧ (¬ a3 < 0 → (a3 < (zgF st 100 0 23) → w_X12_isAsked_34 P st (0)) ∧ (¬ a3 < (zgF st 100 0 23) → w_X12_isAsked_34 P st (1)))))))))
set_option maxHeartbeats 4000000 in
set_option maxRecDepth 100000 in
theorem c_X12_isAsked {Z : zZ} {l : Launch} (hfl : l.stackTraces = false) {st : zTs} {a1 : Int32} {a2 : Int32} {a3 : Int32} {P : Int32 → zTs → Prop} (h : w_X12_isAsked st a1 a2 a3 P) : zN Z l yX12_isAsked cX12_isAsked 4 (some .boolean) ({ frames := 2, cells := 0, slots := 0, locals := 33 } : Room) (zh Z zm1 st) [.ref 100, .int (a1), .int (a2), .int (a3)] (zWi Z P) := by
  unfold w_X12_isAsked at h
  refine z_enterN (by decide) (Nat.le_of_ble_eq_true rfl) (lc0 := [some (.ref 100), some (.int (a1)), some (.int (a2)), some (.int (a3))]) rfl ?_
  intro p e s m args below meth c ad0 C hr _
  have hn9 : True := trivial
  replace C : zC Z p s m args meth c cX12_isAsked 4 RX12 := C
  refine z_aload_n C dX12_isAsked_0 (i := 0) rfl rfl ?_
  refine z_aload_n C dX12_isAsked_1 (i := 0) rfl rfl ?_
  refine z_iload_n C dX12_isAsked_2 (i := 1) rfl rfl ?_
  refine t_callV C (rest := [.ref 100]) (c2 := 0) (s2 := 0) (kd := 100) (i := 0) [.int (a1)] dX12_isAsked_3 lk_X12_493 li_X12_isGauge le_X12_isGauge (c_X12_isGauge hfl h) rfl rfl (by decide) rfl ⟨_, rfl⟩ rfl ⟨Nat.le_of_ble_eq_true rfl, Nat.le_of_ble_eq_true rfl⟩ (Nat.le_of_ble_eq_true rfl) ⟨Nat.le_of_ble_eq_true rfl, Nat.le_of_ble_eq_true rfl, Nat.le_of_ble_eq_true rfl, Nat.le_of_ble_eq_true rfl⟩ (k_Ri fun r3 h => ?_)
  refine z_if_eq C dX12_isAsked_6 (tgt := 29) (by decide) (fun c6 => ?_) (fun c6 => ?_)
  · have h := h.1 c6
    refine z_iconst C dX12_isAsked_29 (v := 1) (by decide) ?_
    refine z_goto C dX12_isAsked_30 (tgt := 34) (by decide) ?_
    exact t_drop [true, false, false, false] rfl (j_X12_isAsked_34 hfl C hr hn9  st (1) h)
  · have h := h.2 c6
    refine z_aload_n C dX12_isAsked_9 (i := 0) rfl rfl ?_
    refine z_iload_n C dX12_isAsked_10 (i := 2) rfl rfl ?_
    refine t_callV C (rest := [.ref 100]) (c2 := 0) (s2 := 0) (kd := 100) (i := 0) [.int (a2)] dX12_isAsked_11 lk_X12_493 li_X12_isGauge le_X12_isGauge (c_X12_isGauge hfl h) rfl rfl (by decide) rfl ⟨_, rfl⟩ rfl ⟨Nat.le_of_ble_eq_true rfl, Nat.le_of_ble_eq_true rfl⟩ (Nat.le_of_ble_eq_true rfl) ⟨Nat.le_of_ble_eq_true rfl, Nat.le_of_ble_eq_true rfl, Nat.le_of_ble_eq_true rfl, Nat.le_of_ble_eq_true rfl⟩ (k_Ri fun r11 h => ?_)
    refine z_if_eq C dX12_isAsked_14 (tgt := 29) (by decide) (fun c14 => ?_) (fun c14 => ?_)
    · have h := h.1 c14
      refine z_iconst C dX12_isAsked_29 (v := 1) (by decide) ?_
      refine z_goto C dX12_isAsked_30 (tgt := 34) (by decide) ?_
      exact t_drop [true, false, false, false] rfl (j_X12_isAsked_34 hfl C hr hn9  st (1) h)
    · have h := h.2 c14
      refine z_iload_n C dX12_isAsked_17 (i := 3) rfl rfl ?_
      refine z_if_lt C dX12_isAsked_18 (tgt := 29) (by decide) (fun c18 => ?_) (fun c18 => ?_)
      · have h := h.1 c18
        refine z_iconst C dX12_isAsked_29 (v := 1) (by decide) ?_
        refine z_goto C dX12_isAsked_30 (tgt := 34) (by decide) ?_
        exact t_drop [true, false, false, false] rfl (j_X12_isAsked_34 hfl C hr hn9  st (1) h)
      · have h := h.2 c18
        refine z_iload_n C dX12_isAsked_21 (i := 3) rfl rfl ?_
        refine z_aload_n C dX12_isAsked_22 (i := 0) rfl rfl ?_
        refine t_get C dX12_isAsked_23 fl_X12_368 (k := 100) (i := 0) (by decide) rfl (fg_100_23 _ _ _) ?_
        refine z_icmp_lt C dX12_isAsked_26 (tgt := 33) (by decide) (fun c26 => ?_) (fun c26 => ?_)
        · have h := h.1 c26
          refine z_iconst C dX12_isAsked_33 (v := 0) (by decide) ?_
          exact t_drop [true, false, false, false] rfl (j_X12_isAsked_34 hfl C hr hn9  st (0) h)
        · have h := h.2 c26
          refine z_iconst C dX12_isAsked_29 (v := 1) (by decide) ?_
          refine z_goto C dX12_isAsked_30 (tgt := 34) (by decide) ?_
          exact t_drop [true, false, false, false] rfl (j_X12_isAsked_34 hfl C hr hn9  st (1) h)
def w_X12_cause_34 (P : Int64 → zTs → Prop)  (st : zTs) : Prop := P 0 st
set_option maxHeartbeats 4000000 in
set_option maxRecDepth 100000 in
theorem j_X12_cause_34 {P : Int64 → zTs → Prop}  (hfl : l.stackTraces = false) (C : zC Z p s m args meth c cX12_cause 6 RX12) (hr : meth.sig.returnType = (some .long)) (hn9 : True)  (st : zTs) (h : w_X12_cause_34 P st) : zG Z ad0 h0 p l e ({ frames := 5, cells := 0, slots := 0, locals := 110 } : Room) s m args below meth c (MQ below (zQ Z ad0 h0 (zWl Z P)) args s 0 0 (zA Z)) 0 0 (zh Z zm1 st) 6 34 [none, none, none, none, none, none] [] := by
  unfold w_X12_cause_34 at h
  refine z_lconst C dX12_cause_34 (v := 0) (by decide) ?_
  exact z_lret C dX12_cause_35 hr ⟨_, _, rfl, rfl, h⟩ (Nat.le_of_ble_eq_true rfl) (Nat.le_of_ble_eq_true rfl)
def w_X12_cause_27 (P : Int64 → zTs → Prop)  (st : zTs) (a1 : Int32) (a2 : Int32) (a3 : Int32) (a4 : Int32) (a5 : Int32) (b0 : Int32) : Prop := w_X12_bad st b0 2 (fun (r28 : Int32) (s28 : zTs) => ((r28 = 0 → w_X12_isToldCause s28 a1 a2 a3 a4 (fun (r42 : Int32) => ((r42 = 0 → P (-2000000000) s28) ∧ (¬ r42 = 0 → (a5 = 0 → w_X12_grewOf s28 a1 a3 a4 (fun (r62 : Int64) => (P r62 s28))) ∧ (¬ a5 = 0 → (a5 = 1 → w_X12_grewOf s28 a2 a3 a4 (fun (r79 : Int64) => (P r79 s28))) ∧ (¬ a5 = 1 → (a5 = 2 → w_X12_ageOf s28 a1 a3 a4 (fun (r96 : Int64) => (P r96 s28))) ∧ (¬ a5 = 2 → w_X12_worksOf s28 a1 a2 a3 a4 (fun (r108 : Int64) => (P r108 s28))))))))) ∧ (¬ r28 = 0 → w_X12_cause_34 P s28)))
set_option maxHeartbeats 4000000 in
set_option maxRecDepth 100000 in
theorem j_X12_cause_27 {P : Int64 → zTs → Prop}  (hfl : l.stackTraces = false) (C : zC Z p s m args meth c cX12_cause 6 RX12) (hr : meth.sig.returnType = (some .long)) (hn9 : True)  (st : zTs) (a1 : Int32) (a2 : Int32) (a3 : Int32) (a4 : Int32) (a5 : Int32) (b0 : Int32) (h : w_X12_cause_27 P st a1 a2 a3 a4 a5 b0) : zG Z ad0 h0 p l e ({ frames := 5, cells := 0, slots := 0, locals := 110 } : Room) s m args below meth c (MQ below (zQ Z ad0 h0 (zWl Z P)) args s 0 0 (zA Z)) 0 0 (zh Z zm1 st) 6 27 [some (.ref 100), some (.int (a1)), some (.int (a2)), some (.int (a3)), some (.int (a4)), some (.int (a5))] [.int (b0), .ref 100] := by
  unfold w_X12_cause_27 at h
  refine z_iconst C dX12_cause_27 (v := 2) (by decide) ?_
  refine t_callV C (rest := []) (c2 := 0) (s2 := 0) (kd := 100) (i := 0) [.int (b0), .int (2)] dX12_cause_28 lk_X12_205 li_X12_bad le_X12_bad (c_X12_bad hfl h) rfl rfl (by decide) rfl ⟨_, rfl⟩ rfl ⟨Nat.le_of_ble_eq_true rfl, Nat.le_of_ble_eq_true rfl⟩ (Nat.le_of_ble_eq_true rfl) ⟨Nat.le_of_ble_eq_true rfl, Nat.le_of_ble_eq_true rfl, Nat.le_of_ble_eq_true rfl, Nat.le_of_ble_eq_true rfl⟩ (k_Wi fun r28 s28 h => ?_)
  refine z_if_eq C dX12_cause_31 (tgt := 36) (by decide) (fun c31 => ?_) (fun c31 => ?_)
  · have h := h.1 c31
    refine z_aload_n C dX12_cause_36 (i := 0) rfl rfl ?_
    refine z_iload_n C dX12_cause_37 (i := 1) rfl rfl ?_
    refine z_iload_n C dX12_cause_38 (i := 2) rfl rfl ?_
    refine z_iload_n C dX12_cause_39 (i := 3) rfl rfl ?_
    refine z_iload C dX12_cause_40 rfl ?_
    refine t_callV C (rest := []) (c2 := 0) (s2 := 0) (kd := 100) (i := 0) [.int (a1), .int (a2), .int (a3), .int (a4)] dX12_cause_42 lk_X12_515 li_X12_isToldCause le_X12_isToldCause (c_X12_isToldCause hfl h) rfl rfl (by decide) rfl ⟨_, rfl⟩ rfl ⟨Nat.le_of_ble_eq_true rfl, Nat.le_of_ble_eq_true rfl⟩ (Nat.le_of_ble_eq_true rfl) ⟨Nat.le_of_ble_eq_true rfl, Nat.le_of_ble_eq_true rfl, Nat.le_of_ble_eq_true rfl, Nat.le_of_ble_eq_true rfl⟩ (k_Ri fun r42 h => ?_)
    refine z_if_ne C dX12_cause_45 (tgt := 52) (by decide) (fun c45 => ?_) (fun c45 => ?_)
    · have h := h.2 c45
      refine z_iload C dX12_cause_52 rfl ?_
      refine z_if_ne C dX12_cause_54 (tgt := 68) (by decide) (fun c54 => ?_) (fun c54 => ?_)
      · have h := h.2 c54
        refine z_iload C dX12_cause_68 rfl ?_
        refine z_iconst C dX12_cause_70 (v := 1) (by decide) ?_
        refine z_icmp_ne C dX12_cause_71 (tgt := 85) (by decide) (fun c71 => ?_) (fun c71 => ?_)
        · have h := h.2 c71
          refine z_iload C dX12_cause_85 rfl ?_
          refine z_iconst C dX12_cause_87 (v := 2) (by decide) ?_
          refine z_icmp_ne C dX12_cause_88 (tgt := 102) (by decide) (fun c88 => ?_) (fun c88 => ?_)
          · have h := h.2 c88
            refine z_aload_n C dX12_cause_102 (i := 0) rfl rfl ?_
            refine z_iload_n C dX12_cause_103 (i := 1) rfl rfl ?_
            refine z_iload_n C dX12_cause_104 (i := 2) rfl rfl ?_
            refine z_iload_n C dX12_cause_105 (i := 3) rfl rfl ?_
            refine z_iload C dX12_cause_106 rfl ?_
            refine t_callV C (rest := []) (c2 := 0) (s2 := 0) (kd := 100) (i := 0) [.int (a1), .int (a2), .int (a3), .int (a4)] dX12_cause_108 lk_X12_520 li_X12_worksOf le_X12_worksOf (c_X12_worksOf hfl h) rfl rfl (by decide) rfl ⟨_, rfl⟩ rfl ⟨Nat.le_of_ble_eq_true rfl, Nat.le_of_ble_eq_true rfl⟩ (Nat.le_of_ble_eq_true rfl) ⟨Nat.le_of_ble_eq_true rfl, Nat.le_of_ble_eq_true rfl, Nat.le_of_ble_eq_true rfl, Nat.le_of_ble_eq_true rfl⟩ (k_Rl fun r108 h => ?_)
            exact z_lret C dX12_cause_111 hr ⟨_, _, rfl, rfl, h⟩ (Nat.le_of_ble_eq_true rfl) (Nat.le_of_ble_eq_true rfl)
          · have h := h.1 c88
            refine z_aload_n C dX12_cause_91 (i := 0) rfl rfl ?_
            refine z_iload_n C dX12_cause_92 (i := 1) rfl rfl ?_
            refine z_iload_n C dX12_cause_93 (i := 3) rfl rfl ?_
            refine z_iload C dX12_cause_94 rfl ?_
            refine t_callV C (rest := []) (c2 := 0) (s2 := 0) (kd := 100) (i := 0) [.int (a1), .int (a3), .int (a4)] dX12_cause_96 lk_X12_508 li_X12_ageOf le_X12_ageOf (c_X12_ageOf hfl h) rfl rfl (by decide) rfl ⟨_, rfl⟩ rfl ⟨Nat.le_of_ble_eq_true rfl, Nat.le_of_ble_eq_true rfl⟩ (Nat.le_of_ble_eq_true rfl) ⟨Nat.le_of_ble_eq_true rfl, Nat.le_of_ble_eq_true rfl, Nat.le_of_ble_eq_true rfl, Nat.le_of_ble_eq_true rfl⟩ (k_Rl fun r96 h => ?_)
            refine z_goto C dX12_cause_99 (tgt := 111) (by decide) ?_
            exact z_lret C dX12_cause_111 hr ⟨_, _, rfl, rfl, h⟩ (Nat.le_of_ble_eq_true rfl) (Nat.le_of_ble_eq_true rfl)
        · have h := h.1 c71
          refine z_aload_n C dX12_cause_74 (i := 0) rfl rfl ?_
          refine z_iload_n C dX12_cause_75 (i := 2) rfl rfl ?_
          refine z_iload_n C dX12_cause_76 (i := 3) rfl rfl ?_
          refine z_iload C dX12_cause_77 rfl ?_
          refine t_callV C (rest := []) (c2 := 0) (s2 := 0) (kd := 100) (i := 0) [.int (a2), .int (a3), .int (a4)] dX12_cause_79 lk_X12_504 li_X12_grewOf le_X12_grewOf (c_X12_grewOf hfl h) rfl rfl (by decide) rfl ⟨_, rfl⟩ rfl ⟨Nat.le_of_ble_eq_true rfl, Nat.le_of_ble_eq_true rfl⟩ (Nat.le_of_ble_eq_true rfl) ⟨Nat.le_of_ble_eq_true rfl, Nat.le_of_ble_eq_true rfl, Nat.le_of_ble_eq_true rfl, Nat.le_of_ble_eq_true rfl⟩ (k_Rl fun r79 h => ?_)
          refine z_goto C dX12_cause_82 (tgt := 111) (by decide) ?_
          exact z_lret C dX12_cause_111 hr ⟨_, _, rfl, rfl, h⟩ (Nat.le_of_ble_eq_true rfl) (Nat.le_of_ble_eq_true rfl)
      · have h := h.1 c54
        refine z_aload_n C dX12_cause_57 (i := 0) rfl rfl ?_
        refine z_iload_n C dX12_cause_58 (i := 1) rfl rfl ?_
        refine z_iload_n C dX12_cause_59 (i := 3) rfl rfl ?_
        refine z_iload C dX12_cause_60 rfl ?_
        refine t_callV C (rest := []) (c2 := 0) (s2 := 0) (kd := 100) (i := 0) [.int (a1), .int (a3), .int (a4)] dX12_cause_62 lk_X12_504 li_X12_grewOf le_X12_grewOf (c_X12_grewOf hfl h) rfl rfl (by decide) rfl ⟨_, rfl⟩ rfl ⟨Nat.le_of_ble_eq_true rfl, Nat.le_of_ble_eq_true rfl⟩ (Nat.le_of_ble_eq_true rfl) ⟨Nat.le_of_ble_eq_true rfl, Nat.le_of_ble_eq_true rfl, Nat.le_of_ble_eq_true rfl, Nat.le_of_ble_eq_true rfl⟩ (k_Rl fun r62 h => ?_)
        refine z_goto C dX12_cause_65 (tgt := 111) (by decide) ?_
        exact z_lret C dX12_cause_111 hr ⟨_, _, rfl, rfl, h⟩ (Nat.le_of_ble_eq_true rfl) (Nat.le_of_ble_eq_true rfl)
    · have h := h.1 c45
      refine z_ldc2 C dX12_cause_48 kj_X12_518 ?_
      exact z_lret C dX12_cause_51 hr ⟨_, _, rfl, rfl, h⟩ (Nat.le_of_ble_eq_true rfl) (Nat.le_of_ble_eq_true rfl)
  · have h := h.2 c31
    exact t_drop [false, false, false, false, false, false] rfl (j_X12_cause_34 hfl C hr hn9  s28 h)
def w_X12_cause (st : zTs) (a1 : Int32) (a2 : Int32) (a3 : Int32) (a4 : Int32) (a5 : Int32) (P : Int64 → zTs → Prop) : Prop := w_X12_isAsked st a1 a2 a3 (fun (r4 : Int32) (s4 : zTs) => ((r4 = 0 → w_X12_cause_34 P s4) ∧ (¬ r4 = 0 → (a5 < 0 → w_X12_cause_27 P s4 a1 a2 a3 a4 a5 (1)) ∧ (¬ a5 < 0 → (a5 ≤ 3 → w_X12_cause_27 P s4 a1 a2 a3 a4 a5 (0)) ∧ (¬ a5 ≤ 3 → w_X12_cause_27 P s4 a1 a2 a3 a4 a5 (1))))))
set_option maxHeartbeats 4000000 in
set_option maxRecDepth 100000 in
theorem c_X12_cause {Z : zZ} {l : Launch} (hfl : l.stackTraces = false) {st : zTs} {a1 : Int32} {a2 : Int32} {a3 : Int32} {a4 : Int32} {a5 : Int32} {P : Int64 → zTs → Prop} (h : w_X12_cause st a1 a2 a3 a4 a5 P) : zN Z l yX12_cause cX12_cause 6 (some .long) ({ frames := 5, cells := 0, slots := 0, locals := 110 } : Room) (zh Z zm1 st) [.ref 100, .int (a1), .int (a2), .int (a3), .int (a4), .int (a5)] (zWl Z P) := by
  unfold w_X12_cause at h
  refine z_enterN (by decide) (Nat.le_of_ble_eq_true rfl) (lc0 := [some (.ref 100), some (.int (a1)), some (.int (a2)), some (.int (a3)), some (.int (a4)), some (.int (a5))]) rfl ?_
  intro p e s m args below meth c ad0 C hr _
  have hn9 : True := trivial
  replace C : zC Z p s m args meth c cX12_cause 6 RX12 := C
  refine z_aload_n C dX12_cause_0 (i := 0) rfl rfl ?_
  refine z_iload_n C dX12_cause_1 (i := 1) rfl rfl ?_
  refine z_iload_n C dX12_cause_2 (i := 2) rfl rfl ?_
  refine z_iload_n C dX12_cause_3 (i := 3) rfl rfl ?_
  refine t_callV C (rest := []) (c2 := 0) (s2 := 0) (kd := 100) (i := 0) [.int (a1), .int (a2), .int (a3)] dX12_cause_4 lk_X12_511 li_X12_isAsked le_X12_isAsked (c_X12_isAsked hfl h) rfl rfl (by decide) rfl ⟨_, rfl⟩ rfl ⟨Nat.le_of_ble_eq_true rfl, Nat.le_of_ble_eq_true rfl⟩ (Nat.le_of_ble_eq_true rfl) ⟨Nat.le_of_ble_eq_true rfl, Nat.le_of_ble_eq_true rfl, Nat.le_of_ble_eq_true rfl, Nat.le_of_ble_eq_true rfl⟩ (k_Wi fun r4 s4 h => ?_)
  refine z_if_eq C dX12_cause_7 (tgt := 34) (by decide) (fun c7 => ?_) (fun c7 => ?_)
  · have h := h.1 c7
    exact t_drop [false, false, false, false, false, false] rfl (j_X12_cause_34 hfl C hr hn9  s4 h)
  · have h := h.2 c7
    refine z_aload_n C dX12_cause_10 (i := 0) rfl rfl ?_
    refine z_iload C dX12_cause_11 rfl ?_
    refine z_if_lt C dX12_cause_13 (tgt := 22) (by decide) (fun c13 => ?_) (fun c13 => ?_)
    · have h := h.1 c13
      refine z_iconst C dX12_cause_22 (v := 1) (by decide) ?_
      refine z_goto C dX12_cause_23 (tgt := 27) (by decide) ?_
      exact t_drop [true, true, true, true, true, true] rfl (j_X12_cause_27 hfl C hr hn9  s4 a1 a2 a3 a4 a5 (1) h)
    · have h := h.2 c13
      refine z_iload C dX12_cause_16 rfl ?_
      refine z_iconst C dX12_cause_18 (v := 3) (by decide) ?_
      refine z_icmp_le C dX12_cause_19 (tgt := 26) (by decide) (fun c19 => ?_) (fun c19 => ?_)
      · have h := h.1 c19
        refine z_iconst C dX12_cause_26 (v := 0) (by decide) ?_
        exact t_drop [true, true, true, true, true, true] rfl (j_X12_cause_27 hfl C hr hn9  s4 a1 a2 a3 a4 a5 (0) h)
      · have h := h.2 c19
        refine z_iconst C dX12_cause_22 (v := 1) (by decide) ?_
        refine z_goto C dX12_cause_23 (tgt := 27) (by decide) ?_
        exact t_drop [true, true, true, true, true, true] rfl (j_X12_cause_27 hfl C hr hn9  s4 a1 a2 a3 a4 a5 (1) h)
def w_X12_blamed (st : zTs) (a1 : Int32) (a2 : Int32) (a3 : Int32) (a4 : Int32) (P : Int32 → zTs → Prop) : Prop := w_X12_isAsked st a1 a2 a3 (fun (r4 : Int32) (s4 : zTs) => ((r4 = 0 → P 0 s4) ∧ (¬ r4 = 0 → w_X12_isToldCause s4 a1 a2 a3 a4 (fun (r16 : Int32) => ((r16 = 0 → P 0 s4) ∧ (¬ r16 = 0 → w_X12_worksOf s4 a1 a2 a3 a4 (fun (r28 : Int64) => (vp_in 11 15 ∧ (((lg_cmp r28 ((zgA s4 103 0 (11 : Int32).toNatClampNeg : Int32).toInt64)) ≤ 0 → P 0 s4) ∧ (¬ (lg_cmp r28 ((zgA s4 103 0 (11 : Int32).toNatClampNeg : Int32).toInt64)) ≤ 0 → P 1 s4))))))))))
set_option maxHeartbeats 4000000 in
set_option maxRecDepth 100000 in
theorem c_X12_blamed {Z : zZ} {l : Launch} (hfl : l.stackTraces = false) {st : zTs} {a1 : Int32} {a2 : Int32} {a3 : Int32} {a4 : Int32} {P : Int32 → zTs → Prop} (h : w_X12_blamed st a1 a2 a3 a4 P) : zN Z l yX12_blamed cX12_blamed 5 (some .boolean) ({ frames := 5, cells := 0, slots := 0, locals := 110 } : Room) (zh Z zm1 st) [.ref 100, .int (a1), .int (a2), .int (a3), .int (a4)] (zWi Z P) := by
  unfold w_X12_blamed at h
  refine z_enterN (by decide) (Nat.le_of_ble_eq_true rfl) (lc0 := [some (.ref 100), some (.int (a1)), some (.int (a2)), some (.int (a3)), some (.int (a4))]) rfl ?_
  intro p e s m args below meth c ad0 C hr _
  have hn9 : True := trivial
  replace C : zC Z p s m args meth c cX12_blamed 5 RX12 := C
  refine z_aload_n C dX12_blamed_0 (i := 0) rfl rfl ?_
  refine z_iload_n C dX12_blamed_1 (i := 1) rfl rfl ?_
  refine z_iload_n C dX12_blamed_2 (i := 2) rfl rfl ?_
  refine z_iload_n C dX12_blamed_3 (i := 3) rfl rfl ?_
  refine t_callV C (rest := []) (c2 := 0) (s2 := 0) (kd := 100) (i := 0) [.int (a1), .int (a2), .int (a3)] dX12_blamed_4 lk_X12_511 li_X12_isAsked le_X12_isAsked (c_X12_isAsked hfl h) rfl rfl (by decide) rfl ⟨_, rfl⟩ rfl ⟨Nat.le_of_ble_eq_true rfl, Nat.le_of_ble_eq_true rfl⟩ (Nat.le_of_ble_eq_true rfl) ⟨Nat.le_of_ble_eq_true rfl, Nat.le_of_ble_eq_true rfl, Nat.le_of_ble_eq_true rfl, Nat.le_of_ble_eq_true rfl⟩ (k_Wi fun r4 s4 h => ?_)
  refine z_if_eq C dX12_blamed_7 (tgt := 47) (by decide) (fun c7 => ?_) (fun c7 => ?_)
  · have h := h.1 c7
    refine z_iconst C dX12_blamed_47 (v := 0) (by decide) ?_
    exact z_iret C dX12_blamed_48 hr rfl ⟨_, _, rfl, rfl, h⟩ (Nat.le_of_ble_eq_true rfl) (Nat.le_of_ble_eq_true rfl)
  · have h := h.2 c7
    refine z_aload_n C dX12_blamed_10 (i := 0) rfl rfl ?_
    refine z_iload_n C dX12_blamed_11 (i := 1) rfl rfl ?_
    refine z_iload_n C dX12_blamed_12 (i := 2) rfl rfl ?_
    refine z_iload_n C dX12_blamed_13 (i := 3) rfl rfl ?_
    refine z_iload C dX12_blamed_14 rfl ?_
    refine t_callV C (rest := []) (c2 := 0) (s2 := 0) (kd := 100) (i := 0) [.int (a1), .int (a2), .int (a3), .int (a4)] dX12_blamed_16 lk_X12_515 li_X12_isToldCause le_X12_isToldCause (c_X12_isToldCause hfl h) rfl rfl (by decide) rfl ⟨_, rfl⟩ rfl ⟨Nat.le_of_ble_eq_true rfl, Nat.le_of_ble_eq_true rfl⟩ (Nat.le_of_ble_eq_true rfl) ⟨Nat.le_of_ble_eq_true rfl, Nat.le_of_ble_eq_true rfl, Nat.le_of_ble_eq_true rfl, Nat.le_of_ble_eq_true rfl⟩ (k_Ri fun r16 h => ?_)
    refine z_if_eq C dX12_blamed_19 (tgt := 47) (by decide) (fun c19 => ?_) (fun c19 => ?_)
    · have h := h.1 c19
      refine z_iconst C dX12_blamed_47 (v := 0) (by decide) ?_
      exact z_iret C dX12_blamed_48 hr rfl ⟨_, _, rfl, rfl, h⟩ (Nat.le_of_ble_eq_true rfl) (Nat.le_of_ble_eq_true rfl)
    · have h := h.2 c19
      refine z_aload_n C dX12_blamed_22 (i := 0) rfl rfl ?_
      refine z_iload_n C dX12_blamed_23 (i := 1) rfl rfl ?_
      refine z_iload_n C dX12_blamed_24 (i := 2) rfl rfl ?_
      refine z_iload_n C dX12_blamed_25 (i := 3) rfl rfl ?_
      refine z_iload C dX12_blamed_26 rfl ?_
      refine t_callV C (rest := []) (c2 := 0) (s2 := 0) (kd := 100) (i := 0) [.int (a1), .int (a2), .int (a3), .int (a4)] dX12_blamed_28 lk_X12_520 li_X12_worksOf le_X12_worksOf (c_X12_worksOf hfl h) rfl rfl (by decide) rfl ⟨_, rfl⟩ rfl ⟨Nat.le_of_ble_eq_true rfl, Nat.le_of_ble_eq_true rfl⟩ (Nat.le_of_ble_eq_true rfl) ⟨Nat.le_of_ble_eq_true rfl, Nat.le_of_ble_eq_true rfl, Nat.le_of_ble_eq_true rfl, Nat.le_of_ble_eq_true rfl⟩ (k_Rl fun r28 h => ?_)
      refine z_aload_n C dX12_blamed_31 (i := 0) rfl rfl ?_
      refine t_get C dX12_blamed_32 fl_X12_21 (k := 100) (i := 0) (by decide) rfl (fg_100_13 _ _ _) ?_
      refine z_bipush C dX12_blamed_35 (v := 11) (by decide) ?_
      obtain ⟨g37, h⟩ := h
      refine t_iald C dX12_blamed_37 (k := 103) (i := 0) (by decide) rfl (sh_103 _ _ _ _) g37 ?_
      refine z_i2l C dX12_blamed_38 ?_
      refine z_lcmp C dX12_blamed_39 ?_
      refine z_if_le C dX12_blamed_40 (tgt := 47) (by decide) (fun c40 => ?_) (fun c40 => ?_)
      · have h := h.1 c40
        refine z_iconst C dX12_blamed_47 (v := 0) (by decide) ?_
        exact z_iret C dX12_blamed_48 hr rfl ⟨_, _, rfl, rfl, h⟩ (Nat.le_of_ble_eq_true rfl) (Nat.le_of_ble_eq_true rfl)
      · have h := h.2 c40
        refine z_iconst C dX12_blamed_43 (v := 1) (by decide) ?_
        refine z_goto C dX12_blamed_44 (tgt := 48) (by decide) ?_
        exact z_iret C dX12_blamed_48 hr rfl ⟨_, _, rfl, rfl, h⟩ (Nat.le_of_ble_eq_true rfl) (Nat.le_of_ble_eq_true rfl)
def w_X12_count (st : zTs) (a1 : Int32) (P : Int32 → zTs → Prop) : Prop := ∀ s2 : zTs, s2 = zuF st 100 0 0 0 → ((a1 = 0 → P (zgF s2 100 0 1) s2) ∧ (a1 = 1 → P (zgF s2 100 0 2) s2) ∧ (a1 = 2 → P (zgF s2 100 0 23) s2) ∧ (a1 = 3 → P (zgF s2 100 0 3) s2) ∧ (a1 = 4 → P (zgF s2 100 0 11) s2) ∧ (a1 = 5 → P (zgF s2 100 0 6) s2) ∧ (a1 = 6 → P (zgF s2 100 0 66) s2) ∧ (a1 = 7 → P (zgF s2 100 0 67) s2) ∧ (a1 = 8 → P (zgF s2 100 0 41) s2) ∧ (a1 = 9 → P (zgF s2 100 0 48) s2) ∧ (a1 = 10 → P (zgF s2 100 0 76) s2) ∧ (a1 = 11 → P (zgF s2 100 0 49) s2) ∧ (¬ a1 = 0 ∧ ¬ a1 = 1 ∧ ¬ a1 = 2 ∧ ¬ a1 = 3 ∧ ¬ a1 = 4 ∧ ¬ a1 = 5 ∧ ¬ a1 = 6 ∧ ¬ a1 = 7 ∧ ¬ a1 = 8 ∧ ¬ a1 = 9 ∧ ¬ a1 = 10 ∧ ¬ a1 = 11 → P (-1) s2))
set_option maxHeartbeats 4000000 in
set_option maxRecDepth 100000 in
theorem c_X12_count {Z : zZ} {l : Launch} (hfl : l.stackTraces = false) {st : zTs} {a1 : Int32} {P : Int32 → zTs → Prop} (h : w_X12_count st a1 P) : zN Z l yX12_count cX12_count 2 (some .int) ({ frames := 1, cells := 0, slots := 0, locals := 12 } : Room) (zh Z zm1 st) [.ref 100, .int (a1)] (zWi Z P) := by
  unfold w_X12_count at h
  refine z_enterN (by decide) (Nat.le_of_ble_eq_true rfl) (lc0 := [some (.ref 100), some (.int (a1))]) rfl ?_
  intro p e s m args below meth c ad0 C hr _
  have hn9 : True := trivial
  replace C : zC Z p s m args meth c cX12_count 2 RX12 := C
  refine z_aload_n C dX12_count_0 (i := 0) rfl rfl ?_
  refine z_iconst C dX12_count_1 (v := 0) (by decide) ?_
  refine t_put C dX12_count_2 fq_X12_199 (Or.inl rfl) (k := 100) (i := 0) (by decide) rfl ⟨rfl, rfl⟩ (fp_100_0 _ _ _ _ _) ?_
  refine t_tops (fun s2 es2 => ?_)
  have h := h s2 es2
  refine z_iload_n C dX12_count_5 (i := 1) rfl rfl ?_
  by_cases c6_0 : a1 = 0
  · have h := h.1 c6_0
    refine z_tableIn C dX12_count_6 (off := 62) (tgt := 68) (by rw [c6_0]; decide) (by rw [c6_0]; decide) (by rw [c6_0]; rfl) (by decide) ?_
    refine z_aload_n C dX12_count_68 (i := 0) rfl rfl ?_
    refine t_get C dX12_count_69 fl_X12_202 (k := 100) (i := 0) (by decide) rfl (fg_100_1 _ _ _) ?_
    exact z_iret C dX12_count_72 hr rfl ⟨_, _, rfl, rfl, h⟩ (Nat.le_of_ble_eq_true rfl) (Nat.le_of_ble_eq_true rfl)
  · by_cases c6_1 : a1 = 1
    · have h := h.2.1 c6_1
      refine z_tableIn C dX12_count_6 (off := 67) (tgt := 73) (by rw [c6_1]; decide) (by rw [c6_1]; decide) (by rw [c6_1]; rfl) (by decide) ?_
      refine z_aload_n C dX12_count_73 (i := 0) rfl rfl ?_
      refine t_get C dX12_count_74 fl_X12_209 (k := 100) (i := 0) (by decide) rfl (fg_100_2 _ _ _) ?_
      exact z_iret C dX12_count_77 hr rfl ⟨_, _, rfl, rfl, h⟩ (Nat.le_of_ble_eq_true rfl) (Nat.le_of_ble_eq_true rfl)
    · by_cases c6_2 : a1 = 2
      · have h := h.2.2.1 c6_2
        refine z_tableIn C dX12_count_6 (off := 72) (tgt := 78) (by rw [c6_2]; decide) (by rw [c6_2]; decide) (by rw [c6_2]; rfl) (by decide) ?_
        refine z_aload_n C dX12_count_78 (i := 0) rfl rfl ?_
        refine t_get C dX12_count_79 fl_X12_368 (k := 100) (i := 0) (by decide) rfl (fg_100_23 _ _ _) ?_
        exact z_iret C dX12_count_82 hr rfl ⟨_, _, rfl, rfl, h⟩ (Nat.le_of_ble_eq_true rfl) (Nat.le_of_ble_eq_true rfl)
      · by_cases c6_3 : a1 = 3
        · have h := h.2.2.2.1 c6_3
          refine z_tableIn C dX12_count_6 (off := 77) (tgt := 83) (by rw [c6_3]; decide) (by rw [c6_3]; decide) (by rw [c6_3]; rfl) (by decide) ?_
          refine z_aload_n C dX12_count_83 (i := 0) rfl rfl ?_
          refine t_get C dX12_count_84 fl_X12_222 (k := 100) (i := 0) (by decide) rfl (fg_100_3 _ _ _) ?_
          exact z_iret C dX12_count_87 hr rfl ⟨_, _, rfl, rfl, h⟩ (Nat.le_of_ble_eq_true rfl) (Nat.le_of_ble_eq_true rfl)
        · by_cases c6_4 : a1 = 4
          · have h := h.2.2.2.2.1 c6_4
            refine z_tableIn C dX12_count_6 (off := 82) (tgt := 88) (by rw [c6_4]; decide) (by rw [c6_4]; decide) (by rw [c6_4]; rfl) (by decide) ?_
            refine z_aload_n C dX12_count_88 (i := 0) rfl rfl ?_
            refine t_get C dX12_count_89 fl_X12_361 (k := 100) (i := 0) (by decide) rfl (fg_100_11 _ _ _) ?_
            exact z_iret C dX12_count_92 hr rfl ⟨_, _, rfl, rfl, h⟩ (Nat.le_of_ble_eq_true rfl) (Nat.le_of_ble_eq_true rfl)
          · by_cases c6_5 : a1 = 5
            · have h := h.2.2.2.2.2.1 c6_5
              refine z_tableIn C dX12_count_6 (off := 87) (tgt := 93) (by rw [c6_5]; decide) (by rw [c6_5]; decide) (by rw [c6_5]; rfl) (by decide) ?_
              refine z_aload_n C dX12_count_93 (i := 0) rfl rfl ?_
              refine t_get C dX12_count_94 fl_X12_226 (k := 100) (i := 0) (by decide) rfl (fg_100_6 _ _ _) ?_
              exact z_iret C dX12_count_97 hr rfl ⟨_, _, rfl, rfl, h⟩ (Nat.le_of_ble_eq_true rfl) (Nat.le_of_ble_eq_true rfl)
            · by_cases c6_6 : a1 = 6
              · have h := h.2.2.2.2.2.2.1 c6_6
                refine z_tableIn C dX12_count_6 (off := 92) (tgt := 98) (by rw [c6_6]; decide) (by rw [c6_6]; decide) (by rw [c6_6]; rfl) (by decide) ?_
                refine z_aload_n C dX12_count_98 (i := 0) rfl rfl ?_
                refine t_get C dX12_count_99 fl_X12_465 (k := 100) (i := 0) (by decide) rfl (fg_100_66 _ _ _) ?_
                exact z_iret C dX12_count_102 hr rfl ⟨_, _, rfl, rfl, h⟩ (Nat.le_of_ble_eq_true rfl) (Nat.le_of_ble_eq_true rfl)
              · by_cases c6_7 : a1 = 7
                · have h := h.2.2.2.2.2.2.2.1 c6_7
                  refine z_tableIn C dX12_count_6 (off := 97) (tgt := 103) (by rw [c6_7]; decide) (by rw [c6_7]; decide) (by rw [c6_7]; rfl) (by decide) ?_
                  refine z_aload_n C dX12_count_103 (i := 0) rfl rfl ?_
                  refine t_get C dX12_count_104 fl_X12_468 (k := 100) (i := 0) (by decide) rfl (fg_100_67 _ _ _) ?_
                  exact z_iret C dX12_count_107 hr rfl ⟨_, _, rfl, rfl, h⟩ (Nat.le_of_ble_eq_true rfl) (Nat.le_of_ble_eq_true rfl)
                · by_cases c6_8 : a1 = 8
                  · have h := h.2.2.2.2.2.2.2.2.1 c6_8
                    refine z_tableIn C dX12_count_6 (off := 102) (tgt := 108) (by rw [c6_8]; decide) (by rw [c6_8]; decide) (by rw [c6_8]; rfl) (by decide) ?_
                    refine z_aload_n C dX12_count_108 (i := 0) rfl rfl ?_
                    refine t_get C dX12_count_109 fl_X12_414 (k := 100) (i := 0) (by decide) rfl (fg_100_41 _ _ _) ?_
                    exact z_iret C dX12_count_112 hr rfl ⟨_, _, rfl, rfl, h⟩ (Nat.le_of_ble_eq_true rfl) (Nat.le_of_ble_eq_true rfl)
                  · by_cases c6_9 : a1 = 9
                    · have h := h.2.2.2.2.2.2.2.2.2.1 c6_9
                      refine z_tableIn C dX12_count_6 (off := 107) (tgt := 113) (by rw [c6_9]; decide) (by rw [c6_9]; decide) (by rw [c6_9]; rfl) (by decide) ?_
                      refine z_aload_n C dX12_count_113 (i := 0) rfl rfl ?_
                      refine t_get C dX12_count_114 fl_X12_427 (k := 100) (i := 0) (by decide) rfl (fg_100_48 _ _ _) ?_
                      exact z_iret C dX12_count_117 hr rfl ⟨_, _, rfl, rfl, h⟩ (Nat.le_of_ble_eq_true rfl) (Nat.le_of_ble_eq_true rfl)
                    · by_cases c6_10 : a1 = 10
                      · have h := h.2.2.2.2.2.2.2.2.2.2.1 c6_10
                        refine z_tableIn C dX12_count_6 (off := 112) (tgt := 118) (by rw [c6_10]; decide) (by rw [c6_10]; decide) (by rw [c6_10]; rfl) (by decide) ?_
                        refine z_aload_n C dX12_count_118 (i := 0) rfl rfl ?_
                        refine t_get C dX12_count_119 fl_X12_490 (k := 100) (i := 0) (by decide) rfl (fg_100_76 _ _ _) ?_
                        exact z_iret C dX12_count_122 hr rfl ⟨_, _, rfl, rfl, h⟩ (Nat.le_of_ble_eq_true rfl) (Nat.le_of_ble_eq_true rfl)
                      · by_cases c6_11 : a1 = 11
                        · have h := h.2.2.2.2.2.2.2.2.2.2.2.1 c6_11
                          refine z_tableIn C dX12_count_6 (off := 117) (tgt := 123) (by rw [c6_11]; decide) (by rw [c6_11]; decide) (by rw [c6_11]; rfl) (by decide) ?_
                          refine z_aload_n C dX12_count_123 (i := 0) rfl rfl ?_
                          refine t_get C dX12_count_124 fl_X12_430 (k := 100) (i := 0) (by decide) rfl (fg_100_49 _ _ _) ?_
                          exact z_iret C dX12_count_127 hr rfl ⟨_, _, rfl, rfl, h⟩ (Nat.le_of_ble_eq_true rfl) (Nat.le_of_ble_eq_true rfl)
                        · have h := h.2.2.2.2.2.2.2.2.2.2.2.2 ⟨c6_0, c6_1, c6_2, c6_3, c6_4, c6_5, c6_6, c6_7, c6_8, c6_9, c6_10, c6_11⟩
                          refine z_tableOut C dX12_count_6 (tgt := 128) (zsw_out (lt_s (p := fun a => ¬ a1 = nI a) (lt_s (p := fun a => ¬ a1 = nI a) (lt_s (p := fun a => ¬ a1 = nI a) (lt_s (p := fun a => ¬ a1 = nI a) (lt_s (p := fun a => ¬ a1 = nI a) (lt_s (p := fun a => ¬ a1 = nI a) (lt_s (p := fun a => ¬ a1 = nI a) (lt_s (p := fun a => ¬ a1 = nI a) (lt_s (p := fun a => ¬ a1 = nI a) (lt_s (p := fun a => ¬ a1 = nI a) (lt_s (p := fun a => ¬ a1 = nI a) (lt_s (p := fun a => ¬ a1 = nI a) lt_0 c6_0) c6_1) c6_2) c6_3) c6_4) c6_5) c6_6) c6_7) c6_8) c6_9) c6_10) c6_11)) (by decide) ?_
                          refine z_iconst C dX12_count_128 (v := (-1)) (by decide) ?_
                          exact z_iret C dX12_count_129 hr rfl ⟨_, _, rfl, rfl, h⟩ (Nat.le_of_ble_eq_true rfl) (Nat.le_of_ble_eq_true rfl)
end
