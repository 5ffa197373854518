section
variable {Z : zZ} {p : Program} {l : Launch} {e : Env} {s : State} {m : MethodId} {args : Array Value} {below : List Frame} {meth : Method} {c : Code} {ad0 : Nat → Nat} {h0 : zH}
def w_J9_floorDiv_f86c9 (st : zTs) (a0 : Int64) (a2 : Int64) (P : Int64 → Prop) : Prop := (¬ a2 = 0) ∧ (∀ x3 : Int64, x3 = a0 / a2 → ((0 ≤ (lg_cmp (a0 ^^^ a2) 0) → P x3) ∧ (¬ 0 ≤ (lg_cmp (a0 ^^^ a2) 0) → ((lg_cmp (x3 * a2) a0) = 0 → P x3) ∧ (¬ (lg_cmp (x3 * a2) a0) = 0 → P (x3 - 1)))))
set_option maxHeartbeats 4000000 in
set_option maxRecDepth 100000 in
theorem c_J9_floorDiv_f86c9 {Z : zZ} {l : Launch} (hfl : l.stackTraces = false) {st : zTs} {a0 : Int64} {a2 : Int64} {P : Int64 → Prop} (h : w_J9_floorDiv_f86c9 st a0 a2 P) : zN Z l yJ9_floorDiv_f86c9 cJ9_floorDiv_f86c9 6 (some .long) ({ frames := 1, cells := 0, slots := 0, locals := 12 } : Room) (zh Z zm1 st) [.long (a0), .long (a2)] (zRl Z st P) := by
  unfold w_J9_floorDiv_f86c9 at h
  refine z_enterF (by decide +kernel) (Nat.le_of_ble_eq_true rfl) (lc0 := [some (.long (a0)), none, some (.long (a2)), none, none, none]) rfl ?_
  intro p e s m args below meth c ad0 C hr _
  have hn9 : True := trivial
  replace C : zC Z p s m args meth c cJ9_floorDiv_f86c9 6 RJ9 := C
  refine z_lload_n C dJ9_floorDiv_f86c9_0 (i := 0) rfl rfl ?_
  refine z_lload_n C dJ9_floorDiv_f86c9_1 (i := 2) rfl rfl ?_
  obtain ⟨g2, h⟩ := h
  refine z_ldiv C dJ9_floorDiv_f86c9_2 g2 ?_
  refine t_topl (fun x3 ex3 => ?_)
  have h := h x3 ex3
  refine z_lstore C dJ9_floorDiv_f86c9_3 (lc' := [some (.long (a0)), none, some (.long (a2)), none, some (.long (x3)), none]) (by decide) rfl ?_
  refine z_lload_n C dJ9_floorDiv_f86c9_5 (i := 0) rfl rfl ?_
  refine z_lload_n C dJ9_floorDiv_f86c9_6 (i := 2) rfl rfl ?_
  refine z_lxor C dJ9_floorDiv_f86c9_7 ?_
  refine z_lconst C dJ9_floorDiv_f86c9_8 (v := 0) (by decide) ?_
  refine z_lcmp C dJ9_floorDiv_f86c9_9 ?_
  refine z_if_ge C dJ9_floorDiv_f86c9_10 (tgt := 27) (by decide) (fun c10 => ?_) (fun c10 => ?_)
  · have h := h.1 c10
    refine z_lload C dJ9_floorDiv_f86c9_27 rfl ?_
    exact z_lret C dJ9_floorDiv_f86c9_29 hr ⟨rfl, _, rfl, h⟩ (Nat.le_of_ble_eq_true rfl) (Nat.le_of_ble_eq_true rfl)
  · have h := h.2 c10
    refine z_lload C dJ9_floorDiv_f86c9_13 rfl ?_
    refine z_lload_n C dJ9_floorDiv_f86c9_15 (i := 2) rfl rfl ?_
    refine z_lmul C dJ9_floorDiv_f86c9_16 ?_
    refine z_lload_n C dJ9_floorDiv_f86c9_17 (i := 0) rfl rfl ?_
    refine z_lcmp C dJ9_floorDiv_f86c9_18 ?_
    refine z_if_eq C dJ9_floorDiv_f86c9_19 (tgt := 27) (by decide) (fun c19 => ?_) (fun c19 => ?_)
    · have h := h.1 c19
      refine z_lload C dJ9_floorDiv_f86c9_27 rfl ?_
      exact z_lret C dJ9_floorDiv_f86c9_29 hr ⟨rfl, _, rfl, h⟩ (Nat.le_of_ble_eq_true rfl) (Nat.le_of_ble_eq_true rfl)
    · have h := h.2 c19
      refine z_lload C dJ9_floorDiv_f86c9_22 rfl ?_
      refine z_lconst C dJ9_floorDiv_f86c9_24 (v := 1) (by decide) ?_
      refine z_lsub C dJ9_floorDiv_f86c9_25 ?_
      exact z_lret C dJ9_floorDiv_f86c9_26 hr ⟨rfl, _, rfl, h⟩ (Nat.le_of_ble_eq_true rfl) (Nat.le_of_ble_eq_true rfl)
def w_J9_abs_0f7a4 (st : zTs) (a0 : Int32) (P : Int32 → Prop) : Prop := (0 ≤ a0 → P a0) ∧ (¬ 0 ≤ a0 → P (-a0))
set_option maxHeartbeats 4000000 in
set_option maxRecDepth 100000 in
theorem c_J9_abs_0f7a4 {Z : zZ} {l : Launch} (hfl : l.stackTraces = false) {st : zTs} {a0 : Int32} {P : Int32 → Prop} (h : w_J9_abs_0f7a4 st a0 P) : zN Z l yJ9_abs_0f7a4 cJ9_abs_0f7a4 1 (some .int) ({ frames := 1, cells := 0, slots := 0, locals := 12 } : Room) (zh Z zm1 st) [.int (a0)] (zRi Z st P) := by
  unfold w_J9_abs_0f7a4 at h
  refine z_enterF (by decide +kernel) (Nat.le_of_ble_eq_true rfl) (lc0 := [some (.int (a0))]) rfl ?_
  intro p e s m args below meth c ad0 C hr _
  have hn9 : True := trivial
  replace C : zC Z p s m args meth c cJ9_abs_0f7a4 1 RJ9 := C
  refine z_iload_n C dJ9_abs_0f7a4_0 (i := 0) rfl rfl ?_
  refine z_if_ge C dJ9_abs_0f7a4_1 (tgt := 9) (by decide) (fun c1 => ?_) (fun c1 => ?_)
  · have h := h.1 c1
    refine z_iload_n C dJ9_abs_0f7a4_9 (i := 0) rfl rfl ?_
    exact z_iret C dJ9_abs_0f7a4_10 hr rfl ⟨rfl, _, rfl, h⟩ (Nat.le_of_ble_eq_true rfl) (Nat.le_of_ble_eq_true rfl)
  · have h := h.2 c1
    refine z_iload_n C dJ9_abs_0f7a4_4 (i := 0) rfl rfl ?_
    refine z_ineg C dJ9_abs_0f7a4_5 ?_
    refine z_goto C dJ9_abs_0f7a4_6 (tgt := 10) (by decide) ?_
    exact z_iret C dJ9_abs_0f7a4_10 hr rfl ⟨rfl, _, rfl, h⟩ (Nat.le_of_ble_eq_true rfl) (Nat.le_of_ble_eq_true rfl)
def w_J9_min_7cf53 (st : zTs) (a0 : Int32) (a1 : Int32) (P : Int32 → Prop) : Prop := (a1 < a0 → P a1) ∧ (¬ a1 < a0 → P a0)
set_option maxHeartbeats 4000000 in
set_option maxRecDepth 100000 in
theorem c_J9_min_7cf53 {Z : zZ} {l : Launch} (hfl : l.stackTraces = false) {st : zTs} {a0 : Int32} {a1 : Int32} {P : Int32 → Prop} (h : w_J9_min_7cf53 st a0 a1 P) : zN Z l yJ9_min_7cf53 cJ9_min_7cf53 2 (some .int) ({ frames := 1, cells := 0, slots := 0, locals := 12 } : Room) (zh Z zm1 st) [.int (a0), .int (a1)] (zRi Z st P) := by
  unfold w_J9_min_7cf53 at h
  refine z_enterF (by decide +kernel) (Nat.le_of_ble_eq_true rfl) (lc0 := [some (.int (a0)), some (.int (a1))]) rfl ?_
  intro p e s m args below meth c ad0 C hr _
  have hn9 : True := trivial
  replace C : zC Z p s m args meth c cJ9_min_7cf53 2 RJ9 := C
  refine z_iload_n C dJ9_min_7cf53_0 (i := 0) rfl rfl ?_
  refine z_iload_n C dJ9_min_7cf53_1 (i := 1) rfl rfl ?_
  refine z_icmp_gt C dJ9_min_7cf53_2 (tgt := 9) (by decide) (fun c2 => ?_) (fun c2 => ?_)
  · have h := h.1 c2
    refine z_iload_n C dJ9_min_7cf53_9 (i := 1) rfl rfl ?_
    exact z_iret C dJ9_min_7cf53_10 hr rfl ⟨rfl, _, rfl, h⟩ (Nat.le_of_ble_eq_true rfl) (Nat.le_of_ble_eq_true rfl)
  · have h := h.2 c2
    refine z_iload_n C dJ9_min_7cf53_5 (i := 0) rfl rfl ?_
    refine z_goto C dJ9_min_7cf53_6 (tgt := 10) (by decide) ?_
    exact z_iret C dJ9_min_7cf53_10 hr rfl ⟨rfl, _, rfl, h⟩ (Nat.le_of_ble_eq_true rfl) (Nat.le_of_ble_eq_true rfl)
def w_J9_max_7cf53 (st : zTs) (a0 : Int32) (a1 : Int32) (P : Int32 → Prop) : Prop := (a0 < a1 → P a1) ∧ (¬ a0 < a1 → P a0)
set_option maxHeartbeats 4000000 in
set_option maxRecDepth 100000 in
theorem c_J9_max_7cf53 {Z : zZ} {l : Launch} (hfl : l.stackTraces = false) {st : zTs} {a0 : Int32} {a1 : Int32} {P : Int32 → Prop} (h : w_J9_max_7cf53 st a0 a1 P) : zN Z l yJ9_max_7cf53 cJ9_max_7cf53 2 (some .int) ({ frames := 1, cells := 0, slots := 0, locals := 12 } : Room) (zh Z zm1 st) [.int (a0), .int (a1)] (zRi Z st P) := by
  unfold w_J9_max_7cf53 at h
  refine z_enterF (by decide +kernel) (Nat.le_of_ble_eq_true rfl) (lc0 := [some (.int (a0)), some (.int (a1))]) rfl ?_
  intro p e s m args below meth c ad0 C hr _
  have hn9 : True := trivial
  replace C : zC Z p s m args meth c cJ9_max_7cf53 2 RJ9 := C
  refine z_iload_n C dJ9_max_7cf53_0 (i := 0) rfl rfl ?_
  refine z_iload_n C dJ9_max_7cf53_1 (i := 1) rfl rfl ?_
  refine z_icmp_lt C dJ9_max_7cf53_2 (tgt := 9) (by decide) (fun c2 => ?_) (fun c2 => ?_)
  · have h := h.1 c2
    refine z_iload_n C dJ9_max_7cf53_9 (i := 1) rfl rfl ?_
    exact z_iret C dJ9_max_7cf53_10 hr rfl ⟨rfl, _, rfl, h⟩ (Nat.le_of_ble_eq_true rfl) (Nat.le_of_ble_eq_true rfl)
  · have h := h.2 c2
    refine z_iload_n C dJ9_max_7cf53_5 (i := 0) rfl rfl ?_
    refine z_goto C dJ9_max_7cf53_6 (tgt := 10) (by decide) ?_
    exact z_iret C dJ9_max_7cf53_10 hr rfl ⟨rfl, _, rfl, h⟩ (Nat.le_of_ble_eq_true rfl) (Nat.le_of_ble_eq_true rfl)
end
