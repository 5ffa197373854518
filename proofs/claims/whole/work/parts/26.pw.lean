section
variable {Z : zZ} {p : Program} {l : Launch} {e : Env} {s : State} {m : MethodId} {args : Array Value} {below : List Frame} {meth : Method} {c : Code} {ad0 : Nat → Nat} {h0 : zH}
def w_X5_needsNotice_130 (P : Int32 → Prop) (st : zTs) (K22 : Int32 → Int32 → Int32 → Nat → Int64 → Int32 → Prop) (a2 : Int32) (a3 : Int32) (a4 : Int32) (a5 : Nat) (a6 : Int64) (a8 : Int32) : Prop := ∀ x130 : Int32, x130 = a8 + 1 → (K22 a2 a3 a4 a5 a6 x130)
set_option maxHeartbeats 4000000 in
set_option maxRecDepth 100000 in
theorem j_X5_needsNotice_130 {P : Int32 → Prop} {st : zTs} {K22 : Int32 → Int32 → Int32 → Nat → Int64 → Int32 → Prop} (hfl : l.stackTraces = false) (C : zC Z p s m args meth c cX5_needsNotice 11 RX5) (hr : meth.sig.returnType = (some .boolean)) (hn9 : True) (hK22 : ∀ (a2 : Int32) (a3 : Int32) (a4 : Int32) (a5 : Nat) (a6 : Int64) (a8 : Int32), K22 a2 a3 a4 a5 a6 a8 → zG Z ad0 h0 p l e ({ frames := 2, cells := 0, slots := 0, locals := 38 } : Room) s m args below meth c (MQ below (zQ Z ad0 h0 (zRi Z st P)) args s 0 0 (zA Z)) 0 0 (zh Z zm1 st) 11 22 [none, none, some (.int (a2)), some (.int (a3)), some (.int (a4)), some (.ref (69 + 256 * a5)), some (.long (a6)), none, some (.int (a8)), none, none] []) (a2 : Int32) (a3 : Int32) (a4 : Int32) (a5 : Nat) (a6 : Int64) (a8 : Int32) (h : w_X5_needsNotice_130 P st K22 a2 a3 a4 a5 a6 a8) : zG Z ad0 h0 p l e ({ frames := 2, cells := 0, slots := 0, locals := 38 } : Room) s m args below meth c (MQ below (zQ Z ad0 h0 (zRi Z st P)) args s 0 0 (zA Z)) 0 0 (zh Z zm1 st) 11 130 [none, none, some (.int (a2)), some (.int (a3)), some (.int (a4)), some (.ref (69 + 256 * a5)), some (.long (a6)), none, some (.int (a8)), none, none] [] := by
  unfold w_X5_needsNotice_130 at h
  obtain ⟨x130, ex130⟩ : ∃ z : Int32, z = a8 + 1 := ⟨_, rfl⟩
  have h := h x130 ex130
  refine z_iinc C dX5_needsNotice_130 (v := x130) (lc' := [none, none, some (.int (a2)), some (.int (a3)), some (.int (a4)), some (.ref (69 + 256 * a5)), some (.long (a6)), none, some (.int (x130)), none, none]) rfl (by decide) (by rw [ex130]; rfl) rfl ?_
  refine z_goto C dX5_needsNotice_133 (tgt := 22) (by decide) ?_
  exact t_drop [false, false, true, true, true, true, true, false, true, false, false] rfl (hK22 a2 a3 a4 a5 a6 x130 h)
def w_X5_needsNotice_126 (P : Int32 → Prop) (st : zTs) (K22 : Int32 → Int32 → Int32 → Nat → Int64 → Int32 → Prop) (a2 : Int32) (a3 : Int32) (a4 : Int32) (a5 : Nat) (a8 : Int32) (b0 : Int32) (b1 : Int64) : Prop := ∀ x128 : Int64, x128 = b1 ||| ((b0 : Int32).toInt64) → (w_X5_needsNotice_130 P st K22 a2 a3 a4 a5 x128 a8)
set_option maxHeartbeats 4000000 in
set_option maxRecDepth 100000 in
theorem j_X5_needsNotice_126 {P : Int32 → Prop} {st : zTs} {K22 : Int32 → Int32 → Int32 → Nat → Int64 → Int32 → Prop} (hfl : l.stackTraces = false) (C : zC Z p s m args meth c cX5_needsNotice 11 RX5) (hr : meth.sig.returnType = (some .boolean)) (hn9 : True) (hK22 : ∀ (a2 : Int32) (a3 : Int32) (a4 : Int32) (a5 : Nat) (a6 : Int64) (a8 : Int32), K22 a2 a3 a4 a5 a6 a8 → zG Z ad0 h0 p l e ({ frames := 2, cells := 0, slots := 0, locals := 38 } : Room) s m args below meth c (MQ below (zQ Z ad0 h0 (zRi Z st P)) args s 0 0 (zA Z)) 0 0 (zh Z zm1 st) 11 22 [none, none, some (.int (a2)), some (.int (a3)), some (.int (a4)), some (.ref (69 + 256 * a5)), some (.long (a6)), none, some (.int (a8)), none, none] []) (a2 : Int32) (a3 : Int32) (a4 : Int32) (a5 : Nat) (a8 : Int32) (b0 : Int32) (b1 : Int64) (h : w_X5_needsNotice_126 P st K22 a2 a3 a4 a5 a8 b0 b1) : zG Z ad0 h0 p l e ({ frames := 2, cells := 0, slots := 0, locals := 38 } : Room) s m args below meth c (MQ below (zQ Z ad0 h0 (zRi Z st P)) args s 0 0 (zA Z)) 0 0 (zh Z zm1 st) 11 126 [none, none, some (.int (a2)), some (.int (a3)), some (.int (a4)), some (.ref (69 + 256 * a5)), none, none, some (.int (a8)), none, none] [.int (b0), .long (b1)] := by
  unfold w_X5_needsNotice_126 at h
  refine z_i2l C dX5_needsNotice_126 ?_
  refine z_lor C dX5_needsNotice_127 ?_
  refine t_topl (fun x128 ex128 => ?_)
  have h := h x128 ex128
  refine z_lstore C dX5_needsNotice_128 (lc' := [none, none, some (.int (a2)), some (.int (a3)), some (.int (a4)), some (.ref (69 + 256 * a5)), some (.long (x128)), none, some (.int (a8)), none, none]) (by decide) rfl ?_
  exact t_drop [false, false, true, true, true, true, true, false, true, false, false] rfl (j_X5_needsNotice_130 hfl C hr hn9 hK22 a2 a3 a4 a5 x128 a8 h)
def w_X5_needsNotice_22 (P : Int32 → Prop) (st : zTs)  : Nat → Int32 → Int32 → Int32 → Nat → Int64 → Int32 → Prop
  | 0, _, _, _, _, _, _ => False
  | n9 + 1, a2, a3, a4, a5, a6, a8 => ((Int32.ofNat (zgL st 69 a5)) ≤ a8 → ((lg_cmp (a6 &&& 1) 1) = 0 → P 1) ∧ (¬ (lg_cmp (a6 &&& 1) 1) = 0 → P 0)) ∧ (¬ (Int32.ofNat (zgL st 69 a5)) ≤ a8 → ∀ x34 : Int64, x34 = a6 &&& 1 → (vp_in a8 (zgL st 69 a5) ∧ (((zgA st 69 a5 (a8 : Int32).toNatClampNeg) = (-1) → ∀ x49 : Int64, x49 = a6 ^^^ 1 → (w_X5_needsNotice_130 P st (w_X5_needsNotice_22 P st n9) a2 a3 a4 a5 x49 a8)) ∧ (¬ (zgA st 69 a5 (a8 : Int32).toNatClampNeg) = (-1) → vp_in a8 (zgL st 69 a5) ∧ (((zgA st 69 a5 (a8 : Int32).toNatClampNeg) = (-2) → ∀ x75 : Int64, x75 = (a6 >>> ((1 : Int32).toInt64 &&& 63)) &&& (x34 ||| (-2)) → (w_X5_needsNotice_130 P st (w_X5_needsNotice_22 P st n9) a2 a3 a4 a5 x75 a8)) ∧ (¬ (zgA st 69 a5 (a8 : Int32).toNatClampNeg) = (-2) → vp_in a8 (zgL st 69 a5) ∧ (((zgA st 69 a5 (a8 : Int32).toNatClampNeg) = (-3) → ∀ x97 : Int64, x97 = (a6 >>> ((1 : Int32).toInt64 &&& 63)) ||| x34 → (w_X5_needsNotice_130 P st (w_X5_needsNotice_22 P st n9) a2 a3 a4 a5 x97 a8)) ∧ (¬ (zgA st 69 a5 (a8 : Int32).toNatClampNeg) = (-3) → vp_in a8 (zgL st 69 a5) ∧ (w_X5_compares st (zgA st 69 a5 (a8 : Int32).toNatClampNeg) a2 a3 a4 (fun (r115 : Int32) => ((r115 = 0 → w_X5_needsNotice_126 P st (w_X5_needsNotice_22 P st n9) a2 a3 a4 a5 a8 (0) (a6 <<< ((1 : Int32).toInt64 &&& 63))) ∧ (¬ r115 = 0 → w_X5_needsNotice_126 P st (w_X5_needsNotice_22 P st n9) a2 a3 a4 a5 a8 (1) (a6 <<< ((1 : Int32).toInt64 &&& 63))))))))))))))
set_option maxHeartbeats 4000000 in
set_option maxRecDepth 100000 in
theorem j_X5_needsNotice_22 {P : Int32 → Prop} {st : zTs}  (hfl : l.stackTraces = false) (C : zC Z p s m args meth c cX5_needsNotice 11 RX5) (hr : meth.sig.returnType = (some .boolean)) (hn9 : True)  : ∀ (n9 : Nat) (a2 : Int32) (a3 : Int32) (a4 : Int32) (a5 : Nat) (a6 : Int64) (a8 : Int32), w_X5_needsNotice_22 P st n9 a2 a3 a4 a5 a6 a8 → zG Z ad0 h0 p l e ({ frames := 2, cells := 0, slots := 0, locals := 38 } : Room) s m args below meth c (MQ below (zQ Z ad0 h0 (zRi Z st P)) args s 0 0 (zA Z)) 0 0 (zh Z zm1 st) 11 22 [none, none, some (.int (a2)), some (.int (a3)), some (.int (a4)), some (.ref (69 + 256 * a5)), some (.long (a6)), none, some (.int (a8)), none, none] [] := by
  intro n9
  induction n9 with
  | zero => intro a2 a3 a4 a5 a6 a8 h; exact h.elim
  | succ n9 hK22 =>
    intro a2 a3 a4 a5 a6 a8 h
    rw [w_X5_needsNotice_22] at h
    refine z_iload C dX5_needsNotice_22 rfl ?_
    refine z_aload C dX5_needsNotice_24 rfl ?_
    refine t_alen C dX5_needsNotice_26 (k := 69) (i := a5) (t := 0) (by decide) rfl (sh_69 _ _ _ _) rfl rfl ?_
    refine z_icmp_ge C dX5_needsNotice_27 (tgt := 136) (by decide) (fun c27 => ?_) (fun c27 => ?_)
    · have h := h.1 c27
      refine z_lload C dX5_needsNotice_136 rfl ?_
      refine z_lconst C dX5_needsNotice_138 (v := 1) (by decide) ?_
      refine z_land C dX5_needsNotice_139 ?_
      refine z_lconst C dX5_needsNotice_140 (v := 1) (by decide) ?_
      refine z_lcmp C dX5_needsNotice_141 ?_
      refine z_if_ne C dX5_needsNotice_142 (tgt := 149) (by decide) (fun c142 => ?_) (fun c142 => ?_)
      · have h := h.2 c142
        refine z_iconst C dX5_needsNotice_149 (v := 0) (by decide) ?_
        exact z_iret C dX5_needsNotice_150 hr rfl ⟨rfl, _, rfl, h⟩ (Nat.le_of_ble_eq_true rfl) (Nat.le_of_ble_eq_true rfl)
      · have h := h.1 c142
        refine z_iconst C dX5_needsNotice_145 (v := 1) (by decide) ?_
        refine z_goto C dX5_needsNotice_146 (tgt := 150) (by decide) ?_
        exact z_iret C dX5_needsNotice_150 hr rfl ⟨rfl, _, rfl, h⟩ (Nat.le_of_ble_eq_true rfl) (Nat.le_of_ble_eq_true rfl)
    · have h := h.2 c27
      refine z_lload C dX5_needsNotice_30 rfl ?_
      refine z_lconst C dX5_needsNotice_32 (v := 1) (by decide) ?_
      refine z_land C dX5_needsNotice_33 ?_
      refine t_topl (fun x34 ex34 => ?_)
      have h := h x34 ex34
      refine z_lstore C dX5_needsNotice_34 (lc' := [none, none, some (.int (a2)), some (.int (a3)), some (.int (a4)), some (.ref (69 + 256 * a5)), some (.long (a6)), none, some (.int (a8)), some (.long (x34)), none]) (by decide) rfl ?_
      refine z_aload C dX5_needsNotice_36 rfl ?_
      refine z_iload C dX5_needsNotice_38 rfl ?_
      obtain ⟨g40, h⟩ := h
      refine t_iald C dX5_needsNotice_40 (k := 69) (i := a5) (by decide) rfl (sh_69 _ _ _ _) g40 ?_
      refine z_iconst C dX5_needsNotice_41 (v := (-1)) (by decide) ?_
      refine z_icmp_ne C dX5_needsNotice_42 (tgt := 54) (by decide) (fun c42 => ?_) (fun c42 => ?_)
      · have h := h.2 c42
        refine z_aload C dX5_needsNotice_54 rfl ?_
        refine z_iload C dX5_needsNotice_56 rfl ?_
        obtain ⟨g58, h⟩ := h
        refine t_iald C dX5_needsNotice_58 (k := 69) (i := a5) (by decide) rfl (sh_69 _ _ _ _) g58 ?_
        refine z_bipush C dX5_needsNotice_59 (v := (-2)) (by decide) ?_
        refine z_icmp_ne C dX5_needsNotice_61 (tgt := 80) (by decide) (fun c61 => ?_) (fun c61 => ?_)
        · have h := h.2 c61
          refine z_aload C dX5_needsNotice_80 rfl ?_
          refine z_iload C dX5_needsNotice_82 rfl ?_
          obtain ⟨g84, h⟩ := h
          refine t_iald C dX5_needsNotice_84 (k := 69) (i := a5) (by decide) rfl (sh_69 _ _ _ _) g84 ?_
          refine z_bipush C dX5_needsNotice_85 (v := (-3)) (by decide) ?_
          refine z_icmp_ne C dX5_needsNotice_87 (tgt := 102) (by decide) (fun c87 => ?_) (fun c87 => ?_)
          · have h := h.2 c87
            refine z_lload C dX5_needsNotice_102 rfl ?_
            refine z_iconst C dX5_needsNotice_104 (v := 1) (by decide) ?_
            refine z_lshl C dX5_needsNotice_105 ?_
            refine z_aload C dX5_needsNotice_106 rfl ?_
            refine z_iload C dX5_needsNotice_108 rfl ?_
            obtain ⟨g110, h⟩ := h
            refine t_iald C dX5_needsNotice_110 (k := 69) (i := a5) (by decide) rfl (sh_69 _ _ _ _) g110 ?_
            refine z_iload_n C dX5_needsNotice_111 (i := 2) rfl rfl ?_
            refine z_iload_n C dX5_needsNotice_112 (i := 3) rfl rfl ?_
            refine z_iload C dX5_needsNotice_113 rfl ?_
            refine t_callS C (rest := [.long (a6 <<< ((1 : Int32).toInt64 &&& 63))]) (c2 := 0) (s2 := 0) [.int (zgA st 69 a5 (a8 : Int32).toNatClampNeg), .int (a2), .int (a3), .int (a4)] dX5_needsNotice_115 lk_X5_51 ls_X5_compares (c_X5_compares hfl h) rfl rfl ⟨Nat.le_of_ble_eq_true rfl, Nat.le_of_ble_eq_true rfl⟩ (Nat.le_of_ble_eq_true rfl) ⟨Nat.le_of_ble_eq_true rfl, Nat.le_of_ble_eq_true rfl, Nat.le_of_ble_eq_true rfl, Nat.le_of_ble_eq_true rfl⟩ (k_Ri fun r115 h => ?_)
            refine z_if_eq C dX5_needsNotice_118 (tgt := 125) (by decide) (fun c118 => ?_) (fun c118 => ?_)
            · have h := h.1 c118
              refine z_iconst C dX5_needsNotice_125 (v := 0) (by decide) ?_
              exact t_drop [false, false, true, true, true, true, false, false, true, false, false] rfl (j_X5_needsNotice_126 hfl C hr hn9 hK22 a2 a3 a4 a5 a8 (0) (a6 <<< ((1 : Int32).toInt64 &&& 63)) h)
            · have h := h.2 c118
              refine z_iconst C dX5_needsNotice_121 (v := 1) (by decide) ?_
              refine z_goto C dX5_needsNotice_122 (tgt := 126) (by decide) ?_
              exact t_drop [false, false, true, true, true, true, false, false, true, false, false] rfl (j_X5_needsNotice_126 hfl C hr hn9 hK22 a2 a3 a4 a5 a8 (1) (a6 <<< ((1 : Int32).toInt64 &&& 63)) h)
          · have h := h.1 c87
            refine z_lload C dX5_needsNotice_90 rfl ?_
            refine z_iconst C dX5_needsNotice_92 (v := 1) (by decide) ?_
            refine z_lshr C dX5_needsNotice_93 ?_
            refine z_lload C dX5_needsNotice_94 rfl ?_
            refine z_lor C dX5_needsNotice_96 ?_
            refine t_topl (fun x97 ex97 => ?_)
            have h := h x97 ex97
            refine z_lstore C dX5_needsNotice_97 (lc' := [none, none, some (.int (a2)), some (.int (a3)), some (.int (a4)), some (.ref (69 + 256 * a5)), some (.long (x97)), none, some (.int (a8)), some (.long (x34)), none]) (by decide) rfl ?_
            refine z_goto C dX5_needsNotice_99 (tgt := 130) (by decide) ?_
            exact t_drop [false, false, true, true, true, true, true, false, true, false, false] rfl (j_X5_needsNotice_130 hfl C hr hn9 hK22 a2 a3 a4 a5 x97 a8 h)
        · have h := h.1 c61
          refine z_lload C dX5_needsNotice_64 rfl ?_
          refine z_iconst C dX5_needsNotice_66 (v := 1) (by decide) ?_
          refine z_lshr C dX5_needsNotice_67 ?_
          refine z_lload C dX5_needsNotice_68 rfl ?_
          refine z_ldc2 C dX5_needsNotice_70 kj_X5_49 ?_
          refine z_lor C dX5_needsNotice_73 ?_
          refine z_land C dX5_needsNotice_74 ?_
          refine t_topl (fun x75 ex75 => ?_)
          have h := h x75 ex75
          refine z_lstore C dX5_needsNotice_75 (lc' := [none, none, some (.int (a2)), some (.int (a3)), some (.int (a4)), some (.ref (69 + 256 * a5)), some (.long (x75)), none, some (.int (a8)), some (.long (x34)), none]) (by decide) rfl ?_
          refine z_goto C dX5_needsNotice_77 (tgt := 130) (by decide) ?_
          exact t_drop [false, false, true, true, true, true, true, false, true, false, false] rfl (j_X5_needsNotice_130 hfl C hr hn9 hK22 a2 a3 a4 a5 x75 a8 h)
      · have h := h.1 c42
        refine z_lload C dX5_needsNotice_45 rfl ?_
        refine z_lconst C dX5_needsNotice_47 (v := 1) (by decide) ?_
        refine z_lxor C dX5_needsNotice_48 ?_
        refine t_topl (fun x49 ex49 => ?_)
        have h := h x49 ex49
        refine z_lstore C dX5_needsNotice_49 (lc' := [none, none, some (.int (a2)), some (.int (a3)), some (.int (a4)), some (.ref (69 + 256 * a5)), some (.long (x49)), none, some (.int (a8)), some (.long (x34)), none]) (by decide) rfl ?_
        refine z_goto C dX5_needsNotice_51 (tgt := 130) (by decide) ?_
        exact t_drop [false, false, true, true, true, true, true, false, true, false, false] rfl (j_X5_needsNotice_130 hfl C hr hn9 hK22 a2 a3 a4 a5 x49 a8 h)
def w_X5_needsNotice (st : zTs) (i : Nat) (a1 : Int32) (a2 : Int32) (a3 : Int32) (a4 : Int32) (P : Int32 → Prop) : Prop := vp_in a1 4 ∧ (∃ y5, zgR st 68 i (a1 : Int32).toNatClampNeg = some y5 ∧ (((Int32.ofNat (zgL st 69 y5)) = 0 → P 1) ∧ (¬ (Int32.ofNat (zgL st 69 y5)) = 0 → w_X5_needsNotice_22 P st zfu a2 a3 a4 y5 (0) (0))))
set_option maxHeartbeats 4000000 in
set_option maxRecDepth 100000 in
theorem c_X5_needsNotice {Z : zZ} {l : Launch} (hfl : l.stackTraces = false) {st : zTs} {i : Nat} {a1 : Int32} {a2 : Int32} {a3 : Int32} {a4 : Int32} {P : Int32 → Prop} (h : w_X5_needsNotice st i a1 a2 a3 a4 P) : zN Z l yX5_needsNotice cX5_needsNotice 11 (some .boolean) ({ frames := 2, cells := 0, slots := 0, locals := 38 } : Room) (zh Z zm1 st) [.ref (24 + 256 * i), .int (a1), .int (a2), .int (a3), .int (a4)] (zRi Z st P) := by
  unfold w_X5_needsNotice at h
  refine z_enterN (by decide) (Nat.le_of_ble_eq_true rfl) (lc0 := [some (.ref (24 + 256 * i)), some (.int (a1)), some (.int (a2)), some (.int (a3)), some (.int (a4)), none, none, none, none, none, none]) rfl ?_
  intro p e s m args below meth c ad0 C hr _
  have hn9 : True := trivial
  replace C : zC Z p s m args meth c cX5_needsNotice 11 RX5 := C
  refine z_aload_n C dX5_needsNotice_0 (i := 0) rfl rfl ?_
  refine t_get C dX5_needsNotice_1 fl_X5_17 (k := 24) (i := i) (by decide) rfl (fg_24_2 _ _ _) ?_
  refine z_iload_n C dX5_needsNotice_4 (i := 1) rfl rfl ?_
  obtain ⟨g5, h⟩ := h
  refine t_aldr C dX5_needsNotice_5 (k0 := 68) (i := i) (by decide) rfl sh_68 g5 ?_
  obtain ⟨y5, c5, h⟩ := h
  rw [c5]
  refine t_same (lc' := [some (.ref (24 + 256 * i)), some (.int (a1)), some (.int (a2)), some (.int (a3)), some (.int (a4)), none, none, none, none, none, none]) (stk' := [.ref (69 + 256 * y5)]) rfl rfl ?_
  refine z_astore C dX5_needsNotice_6 (lc' := [some (.ref (24 + 256 * i)), some (.int (a1)), some (.int (a2)), some (.int (a3)), some (.int (a4)), some (.ref (69 + 256 * y5)), none, none, none, none, none]) (by decide) rfl ?_
  refine z_aload C dX5_needsNotice_8 rfl ?_
  refine t_alen C dX5_needsNotice_10 (k := 69) (i := y5) (t := 0) (by decide) rfl (sh_69 _ _ _ _) rfl rfl ?_
  refine z_if_ne C dX5_needsNotice_11 (tgt := 16) (by decide) (fun c11 => ?_) (fun c11 => ?_)
  · have h := h.2 c11
    refine z_lconst C dX5_needsNotice_16 (v := 0) (by decide) ?_
    refine z_lstore C dX5_needsNotice_17 (lc' := [some (.ref (24 + 256 * i)), some (.int (a1)), some (.int (a2)), some (.int (a3)), some (.int (a4)), some (.ref (69 + 256 * y5)), some (.long (0)), none, none, none, none]) (by decide) rfl ?_
    refine z_iconst C dX5_needsNotice_19 (v := 0) (by decide) ?_
    refine z_istore C dX5_needsNotice_20 (lc' := [some (.ref (24 + 256 * i)), some (.int (a1)), some (.int (a2)), some (.int (a3)), some (.int (a4)), some (.ref (69 + 256 * y5)), some (.long (0)), none, some (.int (0)), none, none]) (by decide) rfl ?_
    exact t_drop [false, false, true, true, true, true, true, false, true, false, false] rfl (j_X5_needsNotice_22 hfl C hr hn9  zfu a2 a3 a4 y5 (0) (0) h)
  · have h := h.1 c11
    refine z_iconst C dX5_needsNotice_14 (v := 1) (by decide) ?_
    exact z_iret C dX5_needsNotice_15 hr rfl ⟨rfl, _, rfl, h⟩ (Nat.le_of_ble_eq_true rfl) (Nat.le_of_ble_eq_true rfl)
def w_X6_faultKind (st : zTs)  (P : Int32 → Prop) : Prop := P (zgF st 13 0 11)
set_option maxHeartbeats 4000000 in
set_option maxRecDepth 100000 in
theorem c_X6_faultKind {Z : zZ} {l : Launch} (hfl : l.stackTraces = false) {st : zTs}  {P : Int32 → Prop} (h : w_X6_faultKind st  P) : zN Z l yX6_faultKind cX6_faultKind 1 (some .int) ({ frames := 1, cells := 0, slots := 0, locals := 12 } : Room) (zh Z zm1 st) [.ref 13] (zRi Z st P) := by
  unfold w_X6_faultKind at h
  refine z_enterN (by decide) (Nat.le_of_ble_eq_true rfl) (lc0 := [some (.ref 13)]) rfl ?_
  intro p e s m args below meth c ad0 C hr _
  have hn9 : True := trivial
  replace C : zC Z p s m args meth c cX6_faultKind 1 RX6 := C
  refine z_aload_n C dX6_faultKind_0 (i := 0) rfl rfl ?_
  refine t_get C dX6_faultKind_1 fl_X6_46 (k := 13) (i := 0) (by decide) rfl (fg_13_11 _ _ _) ?_
  exact z_iret C dX6_faultKind_4 hr rfl ⟨rfl, _, rfl, h⟩ (Nat.le_of_ble_eq_true rfl) (Nat.le_of_ble_eq_true rfl)
def w_X6_faultPlace (st : zTs)  (P : Int32 → Prop) : Prop := P (zgF st 13 0 12)
set_option maxHeartbeats 4000000 in
set_option maxRecDepth 100000 in
theorem c_X6_faultPlace {Z : zZ} {l : Launch} (hfl : l.stackTraces = false) {st : zTs}  {P : Int32 → Prop} (h : w_X6_faultPlace st  P) : zN Z l yX6_faultPlace cX6_faultPlace 1 (some .int) ({ frames := 1, cells := 0, slots := 0, locals := 12 } : Room) (zh Z zm1 st) [.ref 13] (zRi Z st P) := by
  unfold w_X6_faultPlace at h
  refine z_enterN (by decide) (Nat.le_of_ble_eq_true rfl) (lc0 := [some (.ref 13)]) rfl ?_
  intro p e s m args below meth c ad0 C hr _
  have hn9 : True := trivial
  replace C : zC Z p s m args meth c cX6_faultPlace 1 RX6 := C
  refine z_aload_n C dX6_faultPlace_0 (i := 0) rfl rfl ?_
  refine t_get C dX6_faultPlace_1 fl_X6_39 (k := 13) (i := 0) (by decide) rfl (fg_13_12 _ _ _) ?_
  exact z_iret C dX6_faultPlace_4 hr rfl ⟨rfl, _, rfl, h⟩ (Nat.le_of_ble_eq_true rfl) (Nat.le_of_ble_eq_true rfl)
def w_X6_isWithin (st : zTs) (a1 : Int32) (a2 : Int32) (P : Int32 → Prop) : Prop := ((zgF st 13 0 3) ≤ (zgF st 13 0 5) → P 0) ∧ (¬ (zgF st 13 0 3) ≤ (zgF st 13 0 5) → vp_in (zgF st 13 0 5) 400 ∧ (((zgA st 43 0 (zgF st 13 0 5 : Int32).toNatClampNeg) < a1 → P 0) ∧ (¬ (zgA st 43 0 (zgF st 13 0 5 : Int32).toNatClampNeg) < a1 → vp_in (zgF st 13 0 5) 400 ∧ ((a2 < (zgA st 43 0 (zgF st 13 0 5 : Int32).toNatClampNeg) → P 0) ∧ (¬ a2 < (zgA st 43 0 (zgF st 13 0 5 : Int32).toNatClampNeg) → P 1)))))
set_option maxHeartbeats 4000000 in
set_option maxRecDepth 100000 in
theorem c_X6_isWithin {Z : zZ} {l : Launch} (hfl : l.stackTraces = false) {st : zTs} {a1 : Int32} {a2 : Int32} {P : Int32 → Prop} (h : w_X6_isWithin st a1 a2 P) : zN Z l yX6_isWithin cX6_isWithin 3 (some .boolean) ({ frames := 1, cells := 0, slots := 0, locals := 12 } : Room) (zh Z zm1 st) [.ref 13, .int (a1), .int (a2)] (zRi Z st P) := by
  unfold w_X6_isWithin at h
  refine z_enterN (by decide) (Nat.le_of_ble_eq_true rfl) (lc0 := [some (.ref 13), some (.int (a1)), some (.int (a2))]) rfl ?_
  intro p e s m args below meth c ad0 C hr _
  have hn9 : True := trivial
  replace C : zC Z p s m args meth c cX6_isWithin 3 RX6 := C
  refine z_aload_n C dX6_isWithin_0 (i := 0) rfl rfl ?_
  refine t_get C dX6_isWithin_1 fl_X6_58 (k := 13) (i := 0) (by decide) rfl (fg_13_5 _ _ _) ?_
  refine z_aload_n C dX6_isWithin_4 (i := 0) rfl rfl ?_
  refine t_get C dX6_isWithin_5 fl_X6_55 (k := 13) (i := 0) (by decide) rfl (fg_13_3 _ _ _) ?_
  refine z_icmp_ge C dX6_isWithin_8 (tgt := 41) (by decide) (fun c8 => ?_) (fun c8 => ?_)
  · have h := h.1 c8
    refine z_iconst C dX6_isWithin_41 (v := 0) (by decide) ?_
    exact z_iret C dX6_isWithin_42 hr rfl ⟨rfl, _, rfl, h⟩ (Nat.le_of_ble_eq_true rfl) (Nat.le_of_ble_eq_true rfl)
  · have h := h.2 c8
    refine z_aload_n C dX6_isWithin_11 (i := 0) rfl rfl ?_
    refine t_get C dX6_isWithin_12 fl_X6_42 (k := 13) (i := 0) (by decide) rfl (fg_13_0 _ _ _) ?_
    refine z_aload_n C dX6_isWithin_15 (i := 0) rfl rfl ?_
    refine t_get C dX6_isWithin_16 fl_X6_58 (k := 13) (i := 0) (by decide) rfl (fg_13_5 _ _ _) ?_
    obtain ⟨g19, h⟩ := h
    refine t_bald C dX6_isWithin_19 (k := 43) (i := 0) (by decide) rfl (sh_43 _ _ _ _) g19 ?_
    refine z_iload_n C dX6_isWithin_20 (i := 1) rfl rfl ?_
    refine z_icmp_lt C dX6_isWithin_21 (tgt := 41) (by decide) (fun c21 => ?_) (fun c21 => ?_)
    · have h := h.1 c21
      refine z_iconst C dX6_isWithin_41 (v := 0) (by decide) ?_
      exact z_iret C dX6_isWithin_42 hr rfl ⟨rfl, _, rfl, h⟩ (Nat.le_of_ble_eq_true rfl) (Nat.le_of_ble_eq_true rfl)
    · have h := h.2 c21
      refine z_aload_n C dX6_isWithin_24 (i := 0) rfl rfl ?_
      refine t_get C dX6_isWithin_25 fl_X6_42 (k := 13) (i := 0) (by decide) rfl (fg_13_0 _ _ _) ?_
      refine z_aload_n C dX6_isWithin_28 (i := 0) rfl rfl ?_
      refine t_get C dX6_isWithin_29 fl_X6_58 (k := 13) (i := 0) (by decide) rfl (fg_13_5 _ _ _) ?_
      obtain ⟨g32, h⟩ := h
      refine t_bald C dX6_isWithin_32 (k := 43) (i := 0) (by decide) rfl (sh_43 _ _ _ _) g32 ?_
      refine z_iload_n C dX6_isWithin_33 (i := 2) rfl rfl ?_
      refine z_icmp_gt C dX6_isWithin_34 (tgt := 41) (by decide) (fun c34 => ?_) (fun c34 => ?_)
      · have h := h.1 c34
        refine z_iconst C dX6_isWithin_41 (v := 0) (by decide) ?_
        exact z_iret C dX6_isWithin_42 hr rfl ⟨rfl, _, rfl, h⟩ (Nat.le_of_ble_eq_true rfl) (Nat.le_of_ble_eq_true rfl)
      · have h := h.2 c34
        refine z_iconst C dX6_isWithin_37 (v := 1) (by decide) ?_
        refine z_goto C dX6_isWithin_38 (tgt := 42) (by decide) ?_
        exact z_iret C dX6_isWithin_42 hr rfl ⟨rfl, _, rfl, h⟩ (Nat.le_of_ble_eq_true rfl) (Nat.le_of_ble_eq_true rfl)
def w_X6_fail (st : zTs) (a1 : Int32) (P : Int32 → zTs → Prop) : Prop := ∀ s2 : zTs, s2 = zuF st 13 0 11 a1 → (∀ s10 : zTs, s10 = zuF s2 13 0 12 (zgF s2 13 0 4) → (P 0 s10))
set_option maxHeartbeats 4000000 in
set_option maxRecDepth 100000 in
theorem c_X6_fail {Z : zZ} {l : Launch} (hfl : l.stackTraces = false) {st : zTs} {a1 : Int32} {P : Int32 → zTs → Prop} (h : w_X6_fail st a1 P) : zN Z l yX6_fail cX6_fail 2 (some .boolean) ({ frames := 1, cells := 0, slots := 0, locals := 12 } : Room) (zh Z zm1 st) [.ref 13, .int (a1)] (zWi Z P) := by
  unfold w_X6_fail at h
  refine z_enterN (by decide) (Nat.le_of_ble_eq_true rfl) (lc0 := [some (.ref 13), some (.int (a1))]) rfl ?_
  intro p e s m args below meth c ad0 C hr _
  have hn9 : True := trivial
  replace C : zC Z p s m args meth c cX6_fail 2 RX6 := C
  refine z_aload_n C dX6_fail_0 (i := 0) rfl rfl ?_
  refine z_iload_n C dX6_fail_1 (i := 1) rfl rfl ?_
  refine t_put C dX6_fail_2 fq_X6_46 (Or.inl rfl) (k := 13) (i := 0) (by decide) rfl ⟨rfl, rfl⟩ (fp_13_11 _ _ _ _ _) ?_
  refine t_tops (fun s2 es2 => ?_)
  have h := h s2 es2
  refine z_aload_n C dX6_fail_5 (i := 0) rfl rfl ?_
  refine z_aload_n C dX6_fail_6 (i := 0) rfl rfl ?_
  refine t_get C dX6_fail_7 fl_X6_64 (k := 13) (i := 0) (by decide) rfl (fg_13_4 _ _ _) ?_
  refine t_put C dX6_fail_10 fq_X6_39 (Or.inl rfl) (k := 13) (i := 0) (by decide) rfl ⟨rfl, rfl⟩ (fp_13_12 _ _ _ _ _) ?_
  refine t_tops (fun s10 es10 => ?_)
  have h := h s10 es10
  refine z_iconst C dX6_fail_13 (v := 0) (by decide) ?_
  exact z_iret C dX6_fail_14 hr rfl ⟨_, _, rfl, rfl, h⟩ (Nat.le_of_ble_eq_true rfl) (Nat.le_of_ble_eq_true rfl)
def w_X6_addStep (st : zTs) (a1 : Int32) (P : Int32 → zTs → Prop) : Prop := (400 ≤ (zgF st 13 0 2) → P 1 st) ∧ (¬ 400 ≤ (zgF st 13 0 2) → vp_in (zgF st 13 0 2) 400 ∧ (∀ s21 : zTs, s21 = zuA st 54 0 (zgF st 13 0 2 : Int32).toNatClampNeg a1 → (∀ s29 : zTs, s29 = zuF s21 13 0 2 ((zgF s21 13 0 2) + 1) → (P 1 s29))))
set_option maxHeartbeats 4000000 in
set_option maxRecDepth 100000 in
theorem c_X6_addStep {Z : zZ} {l : Launch} (hfl : l.stackTraces = false) {st : zTs} {a1 : Int32} {P : Int32 → zTs → Prop} (h : w_X6_addStep st a1 P) : zN Z l yX6_addStep cX6_addStep 2 (some .boolean) ({ frames := 1, cells := 0, slots := 0, locals := 12 } : Room) (zh Z zm1 st) [.ref 13, .int (a1)] (zWi Z P) := by
  unfold w_X6_addStep at h
  refine z_enterN (by decide) (Nat.le_of_ble_eq_true rfl) (lc0 := [some (.ref 13), some (.int (a1))]) rfl ?_
  intro p e s m args below meth c ad0 C hr _
  have hn9 : True := trivial
  replace C : zC Z p s m args meth c cX6_addStep 2 RX6 := C
  refine z_aload_n C dX6_addStep_0 (i := 0) rfl rfl ?_
  refine t_get C dX6_addStep_1 fl_X6_171 (k := 13) (i := 0) (by decide) rfl (fg_13_2 _ _ _) ?_
  refine z_aload_n C dX6_addStep_4 (i := 0) rfl rfl ?_
  refine t_get C dX6_addStep_5 fl_X6_9 (k := 13) (i := 0) (by decide) rfl (fg_13_1 _ _ _) ?_
  refine t_alen C dX6_addStep_8 (k := 54) (i := 0) (t := 0) (by decide) rfl (sh_54 _ _ _ _) rfl (v := 400) (by decide) ?_
  refine z_icmp_ge C dX6_addStep_9 (tgt := 32) (by decide) (fun c9 => ?_) (fun c9 => ?_)
  · have h := h.1 c9
    refine z_iconst C dX6_addStep_32 (v := 1) (by decide) ?_
    exact z_iret C dX6_addStep_33 hr rfl ⟨_, _, rfl, rfl, h⟩ (Nat.le_of_ble_eq_true rfl) (Nat.le_of_ble_eq_true rfl)
  · have h := h.2 c9
    refine z_aload_n C dX6_addStep_12 (i := 0) rfl rfl ?_
    refine t_get C dX6_addStep_13 fl_X6_9 (k := 13) (i := 0) (by decide) rfl (fg_13_1 _ _ _) ?_
    refine z_aload_n C dX6_addStep_16 (i := 0) rfl rfl ?_
    refine t_get C dX6_addStep_17 fl_X6_171 (k := 13) (i := 0) (by decide) rfl (fg_13_2 _ _ _) ?_
    refine z_iload_n C dX6_addStep_20 (i := 1) rfl rfl ?_
    obtain ⟨g21, h⟩ := h
    refine t_iast C dX6_addStep_21 (k := 54) (i := 0) (by decide) rfl (fun s9 => sh_54 _ _ s9 _) g21 ?_
    refine t_tops (fun s21 es21 => ?_)
    have h := h s21 es21
    refine z_aload_n C dX6_addStep_22 (i := 0) rfl rfl ?_
    refine z_dup C dX6_addStep_23 rfl ?_
    refine t_get C dX6_addStep_24 fl_X6_171 (k := 13) (i := 0) (by decide) rfl (fg_13_2 _ _ _) ?_
    refine z_iconst C dX6_addStep_27 (v := 1) (by decide) ?_
    refine z_iadd C dX6_addStep_28 ?_
    refine t_put C dX6_addStep_29 fq_X6_171 (Or.inl rfl) (k := 13) (i := 0) (by decide) rfl ⟨rfl, rfl⟩ (fp_13_2 _ _ _ _ _) ?_
    refine t_tops (fun s29 es29 => ?_)
    have h := h s29 es29
    refine z_iconst C dX6_addStep_32 (v := 1) (by decide) ?_
    exact z_iret C dX6_addStep_33 hr rfl ⟨_, _, rfl, rfl, h⟩ (Nat.le_of_ble_eq_true rfl) (Nat.le_of_ble_eq_true rfl)
def w_X10_hasAlike_40 (P : Int32 → Prop) (st : zTs) (K2 : Nat → Int32 → Nat → Int32 → Prop) (a0 : Nat) (a1 : Int32) (a2 : Nat) (a3 : Int32) : Prop := ∀ x40 : Int32, x40 = a3 + 1 → (K2 a0 a1 a2 x40)
set_option maxHeartbeats 4000000 in
set_option maxRecDepth 100000 in
theorem j_X10_hasAlike_40 {P : Int32 → Prop} {st : zTs} {K2 : Nat → Int32 → Nat → Int32 → Prop} (hfl : l.stackTraces = false) (C : zC Z p s m args meth c cX10_hasAlike 5 RX10) (hr : meth.sig.returnType = (some .boolean)) (hn9 : True) (hK2 : ∀ (a0 : Nat) (a1 : Int32) (a2 : Nat) (a3 : Int32), K2 a0 a1 a2 a3 → zG Z ad0 h0 p l e ({ frames := 2, cells := 0, slots := 0, locals := 33 } : Room) s m args below meth c (MQ below (zQ Z ad0 h0 (zRi Z st P)) args s 0 0 (zA Z)) 0 0 (zh Z zm1 st) 5 2 [some (.ref (21 + 256 * a0)), some (.int (a1)), some (.ref (25 + 256 * a2)), some (.int (a3)), none] []) (a0 : Nat) (a1 : Int32) (a2 : Nat) (a3 : Int32) (h : w_X10_hasAlike_40 P st K2 a0 a1 a2 a3) : zG Z ad0 h0 p l e ({ frames := 2, cells := 0, slots := 0, locals := 33 } : Room) s m args below meth c (MQ below (zQ Z ad0 h0 (zRi Z st P)) args s 0 0 (zA Z)) 0 0 (zh Z zm1 st) 5 40 [some (.ref (21 + 256 * a0)), some (.int (a1)), some (.ref (25 + 256 * a2)), some (.int (a3)), none] [] := by
  unfold w_X10_hasAlike_40 at h
  obtain ⟨x40, ex40⟩ : ∃ z : Int32, z = a3 + 1 := ⟨_, rfl⟩
  have h := h x40 ex40
  refine z_iinc C dX10_hasAlike_40 (v := x40) (lc' := [some (.ref (21 + 256 * a0)), some (.int (a1)), some (.ref (25 + 256 * a2)), some (.int (x40)), none]) rfl (by decide) (by rw [ex40]; rfl) rfl ?_
  refine z_goto C dX10_hasAlike_43 (tgt := 2) (by decide) ?_
  exact t_drop [true, true, true, true, false] rfl (hK2 a0 a1 a2 x40 h)
def w_X10_hasAlike_2 (P : Int32 → Prop) (st : zTs)  : Nat → Nat → Int32 → Nat → Int32 → Prop
  | 0, _, _, _, _ => False
  | n9 + 1, a0, a1, a2, a3 => (3 ≤ a3 → P 0) ∧ (¬ 3 ≤ a3 → vp_in a3 3 ∧ (∀ q17 : Option Nat, q17 = zgR st 67 a0 (a3 : Int32).toNatClampNeg → ((a3 = a1 → w_X10_hasAlike_40 P st (w_X10_hasAlike_2 P st n9) a0 a1 a2 a3) ∧ (¬ a3 = a1 → (q17 = none → w_X10_hasAlike_40 P st (w_X10_hasAlike_2 P st n9) a0 a1 a2 a3) ∧ (∀ y26, q17 = some y26 → w_X4_isLike st y26 a2 (fun (r32 : Int32) => ((r32 = 0 → w_X10_hasAlike_40 P st (w_X10_hasAlike_2 P st n9) a0 a1 a2 a3) ∧ (¬ r32 = 0 → P 1))))))))
set_option maxHeartbeats 4000000 in
set_option maxRecDepth 100000 in
theorem j_X10_hasAlike_2 {P : Int32 → Prop} {st : zTs}  (hfl : l.stackTraces = false) (C : zC Z p s m args meth c cX10_hasAlike 5 RX10) (hr : meth.sig.returnType = (some .boolean)) (hn9 : True)  : ∀ (n9 : Nat) (a0 : Nat) (a1 : Int32) (a2 : Nat) (a3 : Int32), w_X10_hasAlike_2 P st n9 a0 a1 a2 a3 → zG Z ad0 h0 p l e ({ frames := 2, cells := 0, slots := 0, locals := 33 } : Room) s m args below meth c (MQ below (zQ Z ad0 h0 (zRi Z st P)) args s 0 0 (zA Z)) 0 0 (zh Z zm1 st) 5 2 [some (.ref (21 + 256 * a0)), some (.int (a1)), some (.ref (25 + 256 * a2)), some (.int (a3)), none] [] := by
  intro n9
  induction n9 with
  | zero => intro a0 a1 a2 a3 h; exact h.elim
  | succ n9 hK2 =>
    intro a0 a1 a2 a3 h
    rw [w_X10_hasAlike_2] at h
    refine z_iload_n C dX10_hasAlike_2 (i := 3) rfl rfl ?_
    refine z_aload_n C dX10_hasAlike_3 (i := 0) rfl rfl ?_
    refine t_get C dX10_hasAlike_4 fl_X10_32 (k := 21) (i := a0) (by decide) rfl (fg_21_12 _ _ _) ?_
    refine t_lenq C dX10_hasAlike_7 (k0 := 67) (i := a0) (by decide) rfl sh_67 rfl (v := 3) (by decide) ?_
    refine z_icmp_ge C dX10_hasAlike_8 (tgt := 46) (by decide) (fun c8 => ?_) (fun c8 => ?_)
    · have h := h.1 c8
      refine z_iconst C dX10_hasAlike_46 (v := 0) (by decide) ?_
      exact z_iret C dX10_hasAlike_47 hr rfl ⟨rfl, _, rfl, h⟩ (Nat.le_of_ble_eq_true rfl) (Nat.le_of_ble_eq_true rfl)
    · have h := h.2 c8
      refine z_aload_n C dX10_hasAlike_11 (i := 0) rfl rfl ?_
      refine t_get C dX10_hasAlike_12 fl_X10_32 (k := 21) (i := a0) (by decide) rfl (fg_21_12 _ _ _) ?_
      refine z_iload_n C dX10_hasAlike_15 (i := 3) rfl rfl ?_
      obtain ⟨g16, h⟩ := h
      refine t_aldq C dX10_hasAlike_16 (k0 := 67) (i := a0) (by decide) rfl sh_67 rfl g16 ?_
      refine t_topq (fun q17 eq17 => ?_)
      have h := h q17 eq17
      refine z_astoreq C dX10_hasAlike_17 (lc' := [some (.ref (21 + 256 * a0)), some (.int (a1)), some (.ref (25 + 256 * a2)), some (.int (a3)), some (va_rf ((q17).map fun y => 25 + 256 * y))]) (by decide) (by cases q17 <;> rfl) ?_
      refine z_iload_n C dX10_hasAlike_19 (i := 3) rfl rfl ?_
      refine z_iload_n C dX10_hasAlike_20 (i := 1) rfl rfl ?_
      refine z_icmp_eq C dX10_hasAlike_21 (tgt := 40) (by decide) (fun c21 => ?_) (fun c21 => ?_)
      · have h := h.1 c21
        exact t_drop [true, true, true, true, false] rfl (j_X10_hasAlike_40 hfl C hr hn9 hK2 a0 a1 a2 a3 h)
      · have h := h.2 c21
        refine z_aloadq C dX10_hasAlike_24 (i := 4) rfl ?_
        refine z_ifnull C dX10_hasAlike_26 (tgt := 40) (by decide) (fun c26 => ?_) (fun y26 c26 => ?_)
        · have z26 := h.1 c26
          subst c26
          have h := z26
          refine t_same (lc' := [some (.ref (21 + 256 * a0)), some (.int (a1)), some (.ref (25 + 256 * a2)), some (.int (a3)), some (.null)]) (stk' := []) rfl rfl ?_
          exact t_drop [true, true, true, true, false] rfl (j_X10_hasAlike_40 hfl C hr hn9 hK2 a0 a1 a2 a3 h)
        · have z26 := h.2 y26 c26
          subst c26
          have h := z26
          refine t_same (lc' := [some (.ref (21 + 256 * a0)), some (.int (a1)), some (.ref (25 + 256 * a2)), some (.int (a3)), some (.ref (25 + 256 * y26))]) (stk' := []) rfl rfl ?_
          refine z_aload C dX10_hasAlike_29 rfl ?_
          refine z_aload_n C dX10_hasAlike_31 (i := 2) rfl rfl ?_
          refine t_callV C (rest := []) (c2 := 0) (s2 := 0) (kd := 25) (i := y26) [.ref (25 + 256 * a2)] dX10_hasAlike_32 lk_X10_95 li_X4_isLike le_X4_isLike (c_X4_isLike hfl h) rfl rfl (by decide) rfl ⟨_, rfl⟩ rfl ⟨Nat.le_of_ble_eq_true rfl, Nat.le_of_ble_eq_true rfl⟩ (Nat.le_of_ble_eq_true rfl) ⟨Nat.le_of_ble_eq_true rfl, Nat.le_of_ble_eq_true rfl, Nat.le_of_ble_eq_true rfl, Nat.le_of_ble_eq_true rfl⟩ (k_Ri fun r32 h => ?_)
          refine z_if_eq C dX10_hasAlike_35 (tgt := 40) (by decide) (fun c35 => ?_) (fun c35 => ?_)
          · have h := h.1 c35
            exact t_drop [true, true, true, true, false] rfl (j_X10_hasAlike_40 hfl C hr hn9 hK2 a0 a1 a2 a3 h)
          · have h := h.2 c35
            refine z_iconst C dX10_hasAlike_38 (v := 1) (by decide) ?_
            exact z_iret C dX10_hasAlike_39 hr rfl ⟨rfl, _, rfl, h⟩ (Nat.le_of_ble_eq_true rfl) (Nat.le_of_ble_eq_true rfl)
def w_X10_hasAlike (st : zTs) (i : Nat) (a1 : Int32) (a2 : Nat) (P : Int32 → Prop) : Prop := w_X10_hasAlike_2 P st zfu i a1 a2 (0)
set_option maxHeartbeats 4000000 in
set_option maxRecDepth 100000 in
theorem c_X10_hasAlike {Z : zZ} {l : Launch} (hfl : l.stackTraces = false) {st : zTs} {i : Nat} {a1 : Int32} {a2 : Nat} {P : Int32 → Prop} (h : w_X10_hasAlike st i a1 a2 P) : zN Z l yX10_hasAlike cX10_hasAlike 5 (some .boolean) ({ frames := 2, cells := 0, slots := 0, locals := 33 } : Room) (zh Z zm1 st) [.ref (21 + 256 * i), .int (a1), .ref (25 + 256 * a2)] (zRi Z st P) := by
  unfold w_X10_hasAlike at h
  refine z_enterN (by decide) (Nat.le_of_ble_eq_true rfl) (lc0 := [some (.ref (21 + 256 * i)), some (.int (a1)), some (.ref (25 + 256 * a2)), none, none]) rfl ?_
  intro p e s m args below meth c ad0 C hr _
  have hn9 : True := trivial
  replace C : zC Z p s m args meth c cX10_hasAlike 5 RX10 := C
  refine z_iconst C dX10_hasAlike_0 (v := 0) (by decide) ?_
  refine z_istore_n C dX10_hasAlike_1 (i := 3) (lc' := [some (.ref (21 + 256 * i)), some (.int (a1)), some (.ref (25 + 256 * a2)), some (.int (0)), none]) rfl (by decide) rfl ?_
  exact t_drop [true, true, true, true, false] rfl (j_X10_hasAlike_2 hfl C hr hn9  zfu i a1 a2 (0) h)
def w_Jx4a65c_size_8abf5_r30 (st : zTs)  (P : Int32 → Prop) : Prop := P (zgF st 30 0 2)
set_option maxHeartbeats 4000000 in
set_option maxRecDepth 100000 in
theorem c_Jx4a65c_size_8abf5_r30 {Z : zZ} {l : Launch} (hfl : l.stackTraces = false) {st : zTs}  {P : Int32 → Prop} (h : w_Jx4a65c_size_8abf5_r30 st  P) : zN Z l yJx4a65c_size_8abf5 cJx4a65c_size_8abf5 1 (some .int) ({ frames := 1, cells := 0, slots := 0, locals := 12 } : Room) (zh Z zm1 st) [.ref 30] (zRi Z st P) := by
  unfold w_Jx4a65c_size_8abf5_r30 at h
  refine z_enterF (by decide +kernel) (Nat.le_of_ble_eq_true rfl) (lc0 := [some (.ref 30)]) rfl ?_
  intro p e s m args below meth c ad0 C hr _
  have hn9 : True := trivial
  replace C : zC Z p s m args meth c cJx4a65c_size_8abf5 1 RJx4a65c := C
  refine z_aload_n C dJx4a65c_size_8abf5_0 (i := 0) rfl rfl ?_
  refine t_get C dJx4a65c_size_8abf5_1 fl_Jx4a65c_48 (k := 30) (i := 0) (by decide) rfl (fg_30_2 _ _ _) ?_
  exact z_iret C dJx4a65c_size_8abf5_4 hr rfl ⟨rfl, _, rfl, h⟩ (Nat.le_of_ble_eq_true rfl) (Nat.le_of_ble_eq_true rfl)
def w_J3_checkIndex_8e157_iin_9 (P : Int32 → Prop) (st : zTs)  (a0 : Int32) (a1 : Int32) : Prop := False
set_option maxHeartbeats 4000000 in
set_option maxRecDepth 100000 in
theorem j_J3_checkIndex_8e157_iin_9 {P : Int32 → Prop} {st : zTs}  (hfl : l.stackTraces = false) (C : zC Z p s m args meth c cJ3_checkIndex_8e157 3 RJ3) (hr : meth.sig.returnType = (some .int)) (hn9 : True)  (a0 : Int32) (a1 : Int32) (h : w_J3_checkIndex_8e157_iin_9 P st a0 a1) : zG Z ad0 h0 p l e ({ frames := 1, cells := 0, slots := 0, locals := 12 } : Room) s m args below meth c (MQ below (zQ Z ad0 h0 (zRi Z st P)) args s 0 0 (zA Z)) 0 0 (zh Z zm1 st) 3 9 [some (.int (a0)), some (.int (a1)), some (.null)] [] := by
  unfold w_J3_checkIndex_8e157_iin_9 at h
  refine z_aload_nq C dJ3_checkIndex_8e157_9 (i := 2) (o := none) rfl rfl ?_
  refine z_iload_n C dJ3_checkIndex_8e157_10 (i := 0) rfl rfl ?_
  refine z_iload_n C dJ3_checkIndex_8e157_11 (i := 1) rfl rfl ?_
  exact h.elim
def w_J3_checkIndex_8e157_iin (st : zTs) (a0 : Int32) (a1 : Int32) (P : Int32 → Prop) : Prop := (a0 < 0 → w_J3_checkIndex_8e157_iin_9 P st a0 a1) ∧ (¬ a0 < 0 → (a0 < a1 → P a0) ∧ (¬ a0 < a1 → w_J3_checkIndex_8e157_iin_9 P st a0 a1))
set_option maxHeartbeats 4000000 in
set_option maxRecDepth 100000 in
theorem c_J3_checkIndex_8e157_iin {Z : zZ} {l : Launch} (hfl : l.stackTraces = false) {st : zTs} {a0 : Int32} {a1 : Int32} {P : Int32 → Prop} (h : w_J3_checkIndex_8e157_iin st a0 a1 P) : zN Z l yJ3_checkIndex_8e157 cJ3_checkIndex_8e157 3 (some .int) ({ frames := 1, cells := 0, slots := 0, locals := 12 } : Room) (zh Z zm1 st) [.int (a0), .int (a1), .null] (zRi Z st P) := by
  unfold w_J3_checkIndex_8e157_iin at h
  refine z_enterF (by decide +kernel) (Nat.le_of_ble_eq_true rfl) (lc0 := [some (.int (a0)), some (.int (a1)), some (.null)]) rfl ?_
  intro p e s m args below meth c ad0 C hr _
  have hn9 : True := trivial
  replace C : zC Z p s m args meth c cJ3_checkIndex_8e157 3 RJ3 := C
  refine z_iload_n C dJ3_checkIndex_8e157_0 (i := 0) rfl rfl ?_
  refine z_if_lt C dJ3_checkIndex_8e157_1 (tgt := 9) (by decide) (fun c1 => ?_) (fun c1 => ?_)
  · have h := h.1 c1
    exact t_drop [true, true, true] rfl (j_J3_checkIndex_8e157_iin_9 hfl C hr hn9  a0 a1 h)
  · have h := h.2 c1
    refine z_iload_n C dJ3_checkIndex_8e157_4 (i := 0) rfl rfl ?_
    refine z_iload_n C dJ3_checkIndex_8e157_5 (i := 1) rfl rfl ?_
    refine z_icmp_lt C dJ3_checkIndex_8e157_6 (tgt := 16) (by decide) (fun c6 => ?_) (fun c6 => ?_)
    · have h := h.1 c6
      refine z_iload_n C dJ3_checkIndex_8e157_16 (i := 0) rfl rfl ?_
      exact z_iret C dJ3_checkIndex_8e157_17 hr rfl ⟨rfl, _, rfl, h⟩ (Nat.le_of_ble_eq_true rfl) (Nat.le_of_ble_eq_true rfl)
    · have h := h.2 c6
      exact t_drop [true, true, true] rfl (j_J3_checkIndex_8e157_iin_9 hfl C hr hn9  a0 a1 h)
def w_J15_checkIndex_7cf53_ii (st : zTs) (a0 : Int32) (a1 : Int32) (P : Int32 → Prop) : Prop := w_J3_checkIndex_8e157_iin st a0 a1 (fun (r3 : Int32) => (P r3))
set_option maxHeartbeats 4000000 in
set_option maxRecDepth 100000 in
theorem c_J15_checkIndex_7cf53_ii {Z : zZ} {l : Launch} (hfl : l.stackTraces = false) {st : zTs} {a0 : Int32} {a1 : Int32} {P : Int32 → Prop} (h : w_J15_checkIndex_7cf53_ii st a0 a1 P) : zN Z l yJ15_checkIndex_7cf53 cJ15_checkIndex_7cf53 2 (some .int) ({ frames := 2, cells := 0, slots := 0, locals := 34 } : Room) (zh Z zm1 st) [.int (a0), .int (a1)] (zRi Z st P) := by
  unfold w_J15_checkIndex_7cf53_ii at h
  refine z_enterF (by decide +kernel) (Nat.le_of_ble_eq_true rfl) (lc0 := [some (.int (a0)), some (.int (a1))]) rfl ?_
  intro p e s m args below meth c ad0 C hr _
  have hn9 : True := trivial
  replace C : zC Z p s m args meth c cJ15_checkIndex_7cf53 2 RJ15 := C
  refine z_iload_n C dJ15_checkIndex_7cf53_0 (i := 0) rfl rfl ?_
  refine z_iload_n C dJ15_checkIndex_7cf53_1 (i := 1) rfl rfl ?_
  refine z_aconst_null C dJ15_checkIndex_7cf53_2 ?_
  refine t_callS C (rest := []) (c2 := 0) (s2 := 0) [.int (a0), .int (a1), .null] dJ15_checkIndex_7cf53_3 lk_J15_105 ls_J3_checkIndex_8e157 (c_J3_checkIndex_8e157_iin hfl h) rfl rfl ⟨Nat.le_of_ble_eq_true rfl, Nat.le_of_ble_eq_true rfl⟩ (Nat.le_of_ble_eq_true rfl) ⟨Nat.le_of_ble_eq_true rfl, Nat.le_of_ble_eq_true rfl, Nat.le_of_ble_eq_true rfl, Nat.le_of_ble_eq_true rfl⟩ (k_Ri fun r3 h => ?_)
  exact z_iret C dJ15_checkIndex_7cf53_6 hr rfl ⟨rfl, _, rfl, h⟩ (Nat.le_of_ble_eq_true rfl) (Nat.le_of_ble_eq_true rfl)
def w_Jx4a65c_elementData_915e3_r30i (st : zTs) (a1 : Int32) (P : Nat → Prop) : Prop := ((zgP st 30 0 1) % 256 = 34 ∧ vp_in a1 (zgP st 34 ((zgP st 30 0 1) / 256) 0) ∧ (a1 : Int32).toNatClampNeg < zgL st 34 ((zgP st 30 0 1) / 256)) ∧ (P ((a1 : Int32).toNatClampNeg))
set_option maxHeartbeats 4000000 in
set_option maxRecDepth 100000 in
theorem c_Jx4a65c_elementData_915e3_r30i {Z : zZ} {l : Launch} (hfl : l.stackTraces = false) {st : zTs} {a1 : Int32} {P : Nat → Prop} (h : w_Jx4a65c_elementData_915e3_r30i st a1 P) : zN Z l yJx4a65c_elementData_915e3 cJx4a65c_elementData_915e3 2 (some (.object "java/lang/Object")) ({ frames := 1, cells := 0, slots := 0, locals := 12 } : Room) (zh Z zm1 st) [.ref 30, .int (a1)] (zRr Z st 20 P) := by
  unfold w_Jx4a65c_elementData_915e3_r30i at h
  refine z_enterF (by decide +kernel) (Nat.le_of_ble_eq_true rfl) (lc0 := [some (.ref 30), some (.int (a1))]) rfl ?_
  intro p e s m args below meth c ad0 C hr _
  have hn9 : True := trivial
  replace C : zC Z p s m args meth c cJx4a65c_elementData_915e3 2 RJx4a65c := C
  refine z_aload_n C dJx4a65c_elementData_915e3_0 (i := 0) rfl rfl ?_
  refine t_get C dJx4a65c_elementData_915e3_1 fl_Jx4a65c_9 (k := 30) (i := 0) (by decide) rfl (fg_30_1 _ _ _) ?_
  refine z_iload_n C dJx4a65c_elementData_915e3_4 (i := 1) rfl rfl ?_
  obtain ⟨⟨g5, g5b, g5c⟩, h⟩ := h
  refine t_aldd C dJx4a65c_elementData_915e3_5 (by decide) g5 sh_34 g5b g5c ?_
  exact z_aret C dJx4a65c_elementData_915e3_6 hr (Or.inl ⟨_, rfl⟩) (Or.inr ⟨_, rfl⟩) ⟨rfl, _, rfl, h⟩ (Nat.le_of_ble_eq_true rfl) (Nat.le_of_ble_eq_true rfl)
def w_Jx4a65c_get_915e3_r30i (st : zTs) (a1 : Int32) (P : Nat → Prop) : Prop := w_J15_checkIndex_7cf53_ii st a1 (zgF st 30 0 2) (fun (r5 : Int32) => (w_Jx4a65c_elementData_915e3_r30i st a1 (fun (r11 : Nat) => (P r11))))
set_option maxHeartbeats 4000000 in
set_option maxRecDepth 100000 in
theorem c_Jx4a65c_get_915e3_r30i {Z : zZ} {l : Launch} (hfl : l.stackTraces = false) {st : zTs} {a1 : Int32} {P : Nat → Prop} (h : w_Jx4a65c_get_915e3_r30i st a1 P) : zN Z l yJx4a65c_get_915e3 cJx4a65c_get_915e3 2 (some (.object "java/lang/Object")) ({ frames := 3, cells := 0, slots := 0, locals := 55 } : Room) (zh Z zm1 st) [.ref 30, .int (a1)] (zRr Z st 20 P) := by
  unfold w_Jx4a65c_get_915e3_r30i at h
  refine z_enterF (by decide +kernel) (Nat.le_of_ble_eq_true rfl) (lc0 := [some (.ref 30), some (.int (a1))]) rfl ?_
  intro p e s m args below meth c ad0 C hr _
  have hn9 : True := trivial
  replace C : zC Z p s m args meth c cJx4a65c_get_915e3 2 RJx4a65c := C
  refine z_iload_n C dJx4a65c_get_915e3_0 (i := 1) rfl rfl ?_
  refine z_aload_n C dJx4a65c_get_915e3_1 (i := 0) rfl rfl ?_
  refine t_get C dJx4a65c_get_915e3_2 fl_Jx4a65c_48 (k := 30) (i := 0) (by decide) rfl (fg_30_2 _ _ _) ?_
  refine t_callS C (rest := []) (c2 := 0) (s2 := 0) [.int (a1), .int (zgF st 30 0 2)] dJx4a65c_get_915e3_5 lk_Jx4a65c_118 ls_J15_checkIndex_7cf53 (c_J15_checkIndex_7cf53_ii hfl h) rfl rfl ⟨Nat.le_of_ble_eq_true rfl, Nat.le_of_ble_eq_true rfl⟩ (Nat.le_of_ble_eq_true rfl) ⟨Nat.le_of_ble_eq_true rfl, Nat.le_of_ble_eq_true rfl, Nat.le_of_ble_eq_true rfl, Nat.le_of_ble_eq_true rfl⟩ (k_Ri fun r5 h => ?_)
  refine z_pop C dJx4a65c_get_915e3_8 rfl ?_
  refine z_aload_n C dJx4a65c_get_915e3_9 (i := 0) rfl rfl ?_
  refine z_iload_n C dJx4a65c_get_915e3_10 (i := 1) rfl rfl ?_
  refine t_callV C (rest := []) (c2 := 0) (s2 := 0) (kd := 30) (i := 0) [.int (a1)] dJx4a65c_get_915e3_11 lk_Jx4a65c_123 li_Jx4a65c_elementData_915e3 le_Jx4a65c_elementData_915e3 (c_Jx4a65c_elementData_915e3_r30i hfl h) rfl rfl (by decide) rfl ⟨_, rfl⟩ rfl ⟨Nat.le_of_ble_eq_true rfl, Nat.le_of_ble_eq_true rfl⟩ (Nat.le_of_ble_eq_true rfl) ⟨Nat.le_of_ble_eq_true rfl, Nat.le_of_ble_eq_true rfl, Nat.le_of_ble_eq_true rfl, Nat.le_of_ble_eq_true rfl⟩ (k_Rr fun r11 h => ?_)
  exact z_aret C dJx4a65c_get_915e3_14 hr (Or.inl ⟨_, rfl⟩) (Or.inr ⟨_, rfl⟩) ⟨rfl, _, rfl, h⟩ (Nat.le_of_ble_eq_true rfl) (Nat.le_of_ble_eq_true rfl)
def w_X11_wallAt_15 (P : Nat → Prop) (X : Nat → Prop) (st : zTs)   : Prop := X 0
set_option maxHeartbeats 4000000 in
set_option maxRecDepth 100000 in
theorem j_X11_wallAt_15 {P : Nat → Prop} {X : Nat → Prop} {st : zTs}  (hfl : l.stackTraces = false) (C : zC Z p s m args meth c cX11_wallAt 2 RX11) (hr : meth.sig.returnType = (some (.object "PartyWalls$Wall"))) (hex : ∀ x ∈ c.exceptionTable.toList, False)   (h : w_X11_wallAt_15 P X st ) : zG Z ad0 h0 p l e ({ frames := 8, cells := 1, slots := 6, locals := 100 } : Room) s m args below meth c (vx_MQ below (zQ Z ad0 h0 (zRr Z st 20 P)) (zX Z ad0 h0 (zXr Z st X)) args s 1 6 (zA Z)) 0 0 (zh Z zm1 st) 2 15 [none, none] [] := by
  unfold w_X11_wallAt_15 at h
  exact z_throwW C hfl hex (six := 26) (text := "no such WALL") 0 (by decide) tw_0 (by decide +kernel) dX11_wallAt_15 dX11_wallAt_18 dX11_wallAt_19 dX11_wallAt_22 dX11_wallAt_25 ⟨Nat.le_of_ble_eq_true rfl, Nat.le_of_ble_eq_true rfl, Nat.le_of_ble_eq_true rfl, Nat.le_of_ble_eq_true rfl⟩ ⟨Nat.le_of_ble_eq_true rfl, Nat.le_of_ble_eq_true rfl⟩ ⟨rfl, h⟩
def w_X11_wallAt (st : zTs) (a1 : Int32) (X : Nat → Prop) (P : Nat → Prop) : Prop := (a1 < 0 → w_X11_wallAt_15 P X st ) ∧ (¬ a1 < 0 → w_Jx4a65c_size_8abf5_r30 st (fun (r9 : Int32) => ((a1 < r9 → w_Jx4a65c_get_915e3_r30i st a1 (fun (r31 : Nat) => (P r31))) ∧ (¬ a1 < r9 → w_X11_wallAt_15 P X st ))))
set_option maxHeartbeats 4000000 in
set_option maxRecDepth 100000 in
theorem c_X11_wallAt {Z : zZ} {l : Launch} (hfl : l.stackTraces = false) {st : zTs} {a1 : Int32} {X : Nat → Prop} {P : Nat → Prop} (h : w_X11_wallAt st a1 X P) : zM Z l yX11_wallAt cX11_wallAt 2 (some (.object "PartyWalls$Wall")) ({ frames := 8, cells := 1, slots := 6, locals := 100 } : Room) (zh Z zm1 st) [.ref 10, .int (a1)] (zRr Z st 20 P) (zXr Z st X) := by
  unfold w_X11_wallAt at h
  refine z_enterM (by decide) (Nat.le_of_ble_eq_true rfl) (lc0 := [some (.ref 10), some (.int (a1))]) rfl ?_
  intro p e s m args below meth c ad0 C hr hex
  replace C : zC Z p s m args meth c cX11_wallAt 2 RX11 := C
  refine z_iload_n C dX11_wallAt_0 (i := 1) rfl rfl ?_
  refine z_if_lt C dX11_wallAt_1 (tgt := 15) (by decide) (fun c1 => ?_) (fun c1 => ?_)
  · have h := h.1 c1
    exact t_drop [false, false] rfl (j_X11_wallAt_15 hfl C hr hex   h)
  · have h := h.2 c1
    refine z_iload_n C dX11_wallAt_4 (i := 1) rfl rfl ?_
    refine z_aload_n C dX11_wallAt_5 (i := 0) rfl rfl ?_
    refine t_get C dX11_wallAt_6 fl_X11_10 (k := 10) (i := 0) (by decide) rfl (fg_10_0 _ _ _) ?_
    refine t_callV C (rest := [.int (a1)]) (c2 := 0) (s2 := 0) (kd := 30) (i := 0) [] dX11_wallAt_9 lk_X11_80 li_Jx4a65c_size_8abf5 le_Jx4a65c_size_8abf5 (c_Jx4a65c_size_8abf5_r30 hfl h) rfl rfl (by decide) rfl ⟨_, rfl⟩ rfl ⟨Nat.le_of_ble_eq_true rfl, Nat.le_of_ble_eq_true rfl⟩ (Nat.le_of_ble_eq_true rfl) ⟨Nat.le_of_ble_eq_true rfl, Nat.le_of_ble_eq_true rfl, Nat.le_of_ble_eq_true rfl, Nat.le_of_ble_eq_true rfl⟩ (k_Ri fun r9 h => ?_)
    refine z_icmp_lt C dX11_wallAt_12 (tgt := 26) (by decide) (fun c12 => ?_) (fun c12 => ?_)
    · have h := h.1 c12
      refine z_aload_n C dX11_wallAt_26 (i := 0) rfl rfl ?_
      refine t_get C dX11_wallAt_27 fl_X11_10 (k := 10) (i := 0) (by decide) rfl (fg_10_0 _ _ _) ?_
      refine z_iload_n C dX11_wallAt_30 (i := 1) rfl rfl ?_
      refine t_callV C (rest := []) (c2 := 0) (s2 := 0) (kd := 30) (i := 0) [.int (a1)] dX11_wallAt_31 lk_X11_450 li_Jx4a65c_get_915e3 le_Jx4a65c_get_915e3 (c_Jx4a65c_get_915e3_r30i hfl h) rfl rfl (by decide) rfl ⟨_, rfl⟩ rfl ⟨Nat.le_of_ble_eq_true rfl, Nat.le_of_ble_eq_true rfl⟩ (Nat.le_of_ble_eq_true rfl) ⟨Nat.le_of_ble_eq_true rfl, Nat.le_of_ble_eq_true rfl, Nat.le_of_ble_eq_true rfl, Nat.le_of_ble_eq_true rfl⟩ (k_Rr fun r31 h => ?_)
      refine t_cast C dX11_wallAt_34 kl_X11_84 (k0 := 20) (i := r31) (by decide) rfl ⟨_, rfl⟩ rfl ?_
      exact zG.up (z_aret C dX11_wallAt_37 hr (Or.inl ⟨_, rfl⟩) (Or.inr ⟨_, rfl⟩) ⟨rfl, _, rfl, h⟩ (Nat.le_of_ble_eq_true rfl) (Nat.le_of_ble_eq_true rfl))
    · have h := h.2 c12
      exact t_drop [false, false] rfl (j_X11_wallAt_15 hfl C hr hex   h)
def w_X11_sell (st : zTs) (a1 : Int32) (a2 : Int32) (a3 : Int32) (X : Nat → zTs → Prop) (P : Int32 → zTs → Prop) : Prop := w_X11_wallAt st a1 (fun k9 => X k9 st) (fun (r2 : Nat) => (w_X11_checkIndex st a3 (zgF st 10 0 12) (fun k9 => X k9 st) ((w_X11_checkSide st a2 (fun k9 => X k9 st) ((w_X8_ownerOf st r2 a2 (fun (r22 : Int32) => (w_X8_giveTo st r2 a2 a3 (fun (s31 : zTs) => (P r22 s31))))))))))
set_option maxHeartbeats 4000000 in
set_option maxRecDepth 100000 in
theorem c_X11_sell {Z : zZ} {l : Launch} (hfl : l.stackTraces = false) {st : zTs} {a1 : Int32} {a2 : Int32} {a3 : Int32} {X : Nat → zTs → Prop} {P : Int32 → zTs → Prop} (h : w_X11_sell st a1 a2 a3 X P) : zM Z l yX11_sell cX11_sell 6 (some .int) ({ frames := 10, cells := 3, slots := 18, locals := 142 } : Room) (zh Z zm1 st) [.ref 10, .int (a1), .int (a2), .int (a3)] (zWi Z P) (zXs Z X) := by
  unfold w_X11_sell at h
  refine z_enterM (by decide) (Nat.le_of_ble_eq_true rfl) (lc0 := [some (.ref 10), some (.int (a1)), some (.int (a2)), some (.int (a3)), none, none]) rfl ?_
  intro p e s m args below meth c ad0 C hr hex
  replace C : zC Z p s m args meth c cX11_sell 6 RX11 := C
  refine z_aload_n C dX11_sell_0 (i := 0) rfl rfl ?_
  refine z_iload_n C dX11_sell_1 (i := 1) rfl rfl ?_
  refine t_callVM C hex (rest := []) (c2 := 1) (s2 := 6) (kd := 10) (i := 0) [.int (a1)] dX11_sell_2 lk_X11_92 li_X11_wallAt le_X11_wallAt (c_X11_wallAt hfl h) rfl rfl (by decide) rfl ⟨_, rfl⟩ rfl ⟨Nat.le_of_ble_eq_true rfl, Nat.le_of_ble_eq_true rfl⟩ (Nat.le_of_ble_eq_true rfl) ⟨Nat.le_of_ble_eq_true rfl, Nat.le_of_ble_eq_true rfl, Nat.le_of_ble_eq_true rfl, Nat.le_of_ble_eq_true rfl⟩ (fun _ _ q => ⟨_, q.1, q.2⟩) ⟨Nat.le_of_ble_eq_true rfl, Nat.le_of_ble_eq_true rfl⟩ (k_Rr fun r2 h => ?_)
  refine z_astore C dX11_sell_5 (lc' := [some (.ref 10), some (.int (a1)), some (.int (a2)), some (.int (a3)), some (.ref (20 + 256 * r2)), none]) (by decide) rfl ?_
  refine z_iload_n C dX11_sell_7 (i := 3) rfl rfl ?_
  refine z_aload_n C dX11_sell_8 (i := 0) rfl rfl ?_
  refine t_get C dX11_sell_9 fl_X11_69 (k := 10) (i := 0) (by decide) rfl (fg_10_12 _ _ _) ?_
  refine t_callSM C hex (rest := []) (c2 := 2) (s2 := 12) [.int (a3), .int (zgF st 10 0 12)] dX11_sell_12 lk_X11_77 ls_X11_checkIndex (c_X11_checkIndex hfl h) rfl rfl ⟨Nat.le_of_ble_eq_true rfl, Nat.le_of_ble_eq_true rfl⟩ (Nat.le_of_ble_eq_true rfl) ⟨Nat.le_of_ble_eq_true rfl, Nat.le_of_ble_eq_true rfl, Nat.le_of_ble_eq_true rfl, Nat.le_of_ble_eq_true rfl⟩ (fun _ _ q => ⟨_, q.1, q.2⟩) ⟨Nat.le_of_ble_eq_true rfl, Nat.le_of_ble_eq_true rfl⟩ (k_Rv fun h => ?_)
  refine z_iload_n C dX11_sell_15 (i := 2) rfl rfl ?_
  refine t_callSM C hex (rest := []) (c2 := 3) (s2 := 18) [.int (a2)] dX11_sell_16 lk_X11_96 ls_X11_checkSide (c_X11_checkSide hfl h) rfl rfl ⟨Nat.le_of_ble_eq_true rfl, Nat.le_of_ble_eq_true rfl⟩ (Nat.le_of_ble_eq_true rfl) ⟨Nat.le_of_ble_eq_true rfl, Nat.le_of_ble_eq_true rfl, Nat.le_of_ble_eq_true rfl, Nat.le_of_ble_eq_true rfl⟩ (fun _ _ q => ⟨_, q.1, q.2⟩) ⟨Nat.le_of_ble_eq_true rfl, Nat.le_of_ble_eq_true rfl⟩ (k_Rv fun h => ?_)
  refine z_aload C dX11_sell_19 rfl ?_
  refine z_iload_n C dX11_sell_21 (i := 2) rfl rfl ?_
  refine t_callV C (rest := []) (c2 := 3) (s2 := 18) (kd := 20) (i := r2) [.int (a2)] dX11_sell_22 lk_X11_100 li_X8_ownerOf le_X8_ownerOf (c_X8_ownerOf hfl h) rfl rfl (by decide) rfl ⟨_, rfl⟩ rfl ⟨Nat.le_of_ble_eq_true rfl, Nat.le_of_ble_eq_true rfl⟩ (Nat.le_of_ble_eq_true rfl) ⟨Nat.le_of_ble_eq_true rfl, Nat.le_of_ble_eq_true rfl, Nat.le_of_ble_eq_true rfl, Nat.le_of_ble_eq_true rfl⟩ (k_Ri fun r22 h => ?_)
  refine z_istore C dX11_sell_25 (lc' := [some (.ref 10), some (.int (a1)), some (.int (a2)), some (.int (a3)), some (.ref (20 + 256 * r2)), some (.int (r22))]) (by decide) rfl ?_
  refine z_aload C dX11_sell_27 rfl ?_
  refine z_iload_n C dX11_sell_29 (i := 2) rfl rfl ?_
  refine z_iload_n C dX11_sell_30 (i := 3) rfl rfl ?_
  refine t_callV C (rest := []) (c2 := 3) (s2 := 18) (kd := 20) (i := r2) [.int (a2), .int (a3)] dX11_sell_31 lk_X11_104 li_X8_giveTo le_X8_giveTo (c_X8_giveTo hfl h) rfl rfl (by decide) rfl ⟨_, rfl⟩ rfl ⟨Nat.le_of_ble_eq_true rfl, Nat.le_of_ble_eq_true rfl⟩ (Nat.le_of_ble_eq_true rfl) ⟨Nat.le_of_ble_eq_true rfl, Nat.le_of_ble_eq_true rfl, Nat.le_of_ble_eq_true rfl, Nat.le_of_ble_eq_true rfl⟩ (k_Wv fun s31 h => ?_)
  refine z_iload C dX11_sell_34 rfl ?_
  exact zG.up (z_iret C dX11_sell_36 hr rfl ⟨_, _, rfl, rfl, h⟩ (Nat.le_of_ble_eq_true rfl) (Nat.le_of_ble_eq_true rfl))
def w_X11_fault (st : zTs)  (P : Int32 → Prop) : Prop := w_X6_faultPlace st (fun (r4 : Int32) => (P r4))
set_option maxHeartbeats 4000000 in
set_option maxRecDepth 100000 in
theorem c_X11_fault {Z : zZ} {l : Launch} (hfl : l.stackTraces = false) {st : zTs}  {P : Int32 → Prop} (h : w_X11_fault st  P) : zN Z l yX11_fault cX11_fault 1 (some .int) ({ frames := 2, cells := 0, slots := 0, locals := 32 } : Room) (zh Z zm1 st) [.ref 10] (zRi Z st P) := by
  unfold w_X11_fault at h
  refine z_enterN (by decide) (Nat.le_of_ble_eq_true rfl) (lc0 := [some (.ref 10)]) rfl ?_
  intro p e s m args below meth c ad0 C hr _
  have hn9 : True := trivial
  replace C : zC Z p s m args meth c cX11_fault 1 RX11 := C
  refine z_aload_n C dX11_fault_0 (i := 0) rfl rfl ?_
  refine t_get C dX11_fault_1 fl_X11_58 (k := 10) (i := 0) (by decide) rfl (fg_10_10 _ _ _) ?_
  refine t_callV C (rest := []) (c2 := 0) (s2 := 0) (kd := 13) (i := 0) [] dX11_fault_4 lk_X11_138 li_X6_faultPlace le_X6_faultPlace (c_X6_faultPlace hfl h) rfl rfl (by decide) rfl ⟨_, rfl⟩ rfl ⟨Nat.le_of_ble_eq_true rfl, Nat.le_of_ble_eq_true rfl⟩ (Nat.le_of_ble_eq_true rfl) ⟨Nat.le_of_ble_eq_true rfl, Nat.le_of_ble_eq_true rfl, Nat.le_of_ble_eq_true rfl, Nat.le_of_ble_eq_true rfl⟩ (k_Ri fun r4 h => ?_)
  exact z_iret C dX11_fault_7 hr rfl ⟨rfl, _, rfl, h⟩ (Nat.le_of_ble_eq_true rfl) (Nat.le_of_ble_eq_true rfl)
def w_Jx4a65c_size_8abf5_r31 (st : zTs)  (P : Int32 → Prop) : Prop := P (zgF st 31 0 2)
set_option maxHeartbeats 4000000 in
set_option maxRecDepth 100000 in
theorem c_Jx4a65c_size_8abf5_r31 {Z : zZ} {l : Launch} (hfl : l.stackTraces = false) {st : zTs}  {P : Int32 → Prop} (h : w_Jx4a65c_size_8abf5_r31 st  P) : zN Z l yJx4a65c_size_8abf5 cJx4a65c_size_8abf5 1 (some .int) ({ frames := 1, cells := 0, slots := 0, locals := 12 } : Room) (zh Z zm1 st) [.ref 31] (zRi Z st P) := by
  unfold w_Jx4a65c_size_8abf5_r31 at h
  refine z_enterF (by decide +kernel) (Nat.le_of_ble_eq_true rfl) (lc0 := [some (.ref 31)]) rfl ?_
  intro p e s m args below meth c ad0 C hr _
  have hn9 : True := trivial
  replace C : zC Z p s m args meth c cJx4a65c_size_8abf5 1 RJx4a65c := C
  refine z_aload_n C dJx4a65c_size_8abf5_0 (i := 0) rfl rfl ?_
  refine t_get C dJx4a65c_size_8abf5_1 fl_Jx4a65c_48 (k := 31) (i := 0) (by decide) rfl (fg_31_2 _ _ _) ?_
  exact z_iret C dJx4a65c_size_8abf5_4 hr rfl ⟨rfl, _, rfl, h⟩ (Nat.le_of_ble_eq_true rfl) (Nat.le_of_ble_eq_true rfl)
def w_Jx4a65c_elementData_915e3_r31i (st : zTs) (a1 : Int32) (P : Nat → Prop) : Prop := ((zgP st 31 0 1) % 256 = 35 ∧ vp_in a1 (zgP st 35 ((zgP st 31 0 1) / 256) 0) ∧ (a1 : Int32).toNatClampNeg < zgL st 35 ((zgP st 31 0 1) / 256)) ∧ (P ((a1 : Int32).toNatClampNeg))
set_option maxHeartbeats 4000000 in
set_option maxRecDepth 100000 in
theorem c_Jx4a65c_elementData_915e3_r31i {Z : zZ} {l : Launch} (hfl : l.stackTraces = false) {st : zTs} {a1 : Int32} {P : Nat → Prop} (h : w_Jx4a65c_elementData_915e3_r31i st a1 P) : zN Z l yJx4a65c_elementData_915e3 cJx4a65c_elementData_915e3 2 (some (.object "java/lang/Object")) ({ frames := 1, cells := 0, slots := 0, locals := 12 } : Room) (zh Z zm1 st) [.ref 31, .int (a1)] (zRr Z st 21 P) := by
  unfold w_Jx4a65c_elementData_915e3_r31i at h
  refine z_enterF (by decide +kernel) (Nat.le_of_ble_eq_true rfl) (lc0 := [some (.ref 31), some (.int (a1))]) rfl ?_
  intro p e s m args below meth c ad0 C hr _
  have hn9 : True := trivial
  replace C : zC Z p s m args meth c cJx4a65c_elementData_915e3 2 RJx4a65c := C
  refine z_aload_n C dJx4a65c_elementData_915e3_0 (i := 0) rfl rfl ?_
  refine t_get C dJx4a65c_elementData_915e3_1 fl_Jx4a65c_9 (k := 31) (i := 0) (by decide) rfl (fg_31_1 _ _ _) ?_
  refine z_iload_n C dJx4a65c_elementData_915e3_4 (i := 1) rfl rfl ?_
  obtain ⟨⟨g5, g5b, g5c⟩, h⟩ := h
  refine t_aldd C dJx4a65c_elementData_915e3_5 (by decide) g5 sh_35 g5b g5c ?_
  exact z_aret C dJx4a65c_elementData_915e3_6 hr (Or.inl ⟨_, rfl⟩) (Or.inr ⟨_, rfl⟩) ⟨rfl, _, rfl, h⟩ (Nat.le_of_ble_eq_true rfl) (Nat.le_of_ble_eq_true rfl)
def w_Jx4a65c_get_915e3_r31i (st : zTs) (a1 : Int32) (P : Nat → Prop) : Prop := w_J15_checkIndex_7cf53_ii st a1 (zgF st 31 0 2) (fun (r5 : Int32) => (w_Jx4a65c_elementData_915e3_r31i st a1 (fun (r11 : Nat) => (P r11))))
set_option maxHeartbeats 4000000 in
set_option maxRecDepth 100000 in
theorem c_Jx4a65c_get_915e3_r31i {Z : zZ} {l : Launch} (hfl : l.stackTraces = false) {st : zTs} {a1 : Int32} {P : Nat → Prop} (h : w_Jx4a65c_get_915e3_r31i st a1 P) : zN Z l yJx4a65c_get_915e3 cJx4a65c_get_915e3 2 (some (.object "java/lang/Object")) ({ frames := 3, cells := 0, slots := 0, locals := 55 } : Room) (zh Z zm1 st) [.ref 31, .int (a1)] (zRr Z st 21 P) := by
  unfold w_Jx4a65c_get_915e3_r31i at h
  refine z_enterF (by decide +kernel) (Nat.le_of_ble_eq_true rfl) (lc0 := [some (.ref 31), some (.int (a1))]) rfl ?_
  intro p e s m args below meth c ad0 C hr _
  have hn9 : True := trivial
  replace C : zC Z p s m args meth c cJx4a65c_get_915e3 2 RJx4a65c := C
  refine z_iload_n C dJx4a65c_get_915e3_0 (i := 1) rfl rfl ?_
  refine z_aload_n C dJx4a65c_get_915e3_1 (i := 0) rfl rfl ?_
  refine t_get C dJx4a65c_get_915e3_2 fl_Jx4a65c_48 (k := 31) (i := 0) (by decide) rfl (fg_31_2 _ _ _) ?_
  refine t_callS C (rest := []) (c2 := 0) (s2 := 0) [.int (a1), .int (zgF st 31 0 2)] dJx4a65c_get_915e3_5 lk_Jx4a65c_118 ls_J15_checkIndex_7cf53 (c_J15_checkIndex_7cf53_ii hfl h) rfl rfl ⟨Nat.le_of_ble_eq_true rfl, Nat.le_of_ble_eq_true rfl⟩ (Nat.le_of_ble_eq_true rfl) ⟨Nat.le_of_ble_eq_true rfl, Nat.le_of_ble_eq_true rfl, Nat.le_of_ble_eq_true rfl, Nat.le_of_ble_eq_true rfl⟩ (k_Ri fun r5 h => ?_)
  refine z_pop C dJx4a65c_get_915e3_8 rfl ?_
  refine z_aload_n C dJx4a65c_get_915e3_9 (i := 0) rfl rfl ?_
  refine z_iload_n C dJx4a65c_get_915e3_10 (i := 1) rfl rfl ?_
  refine t_callV C (rest := []) (c2 := 0) (s2 := 0) (kd := 31) (i := 0) [.int (a1)] dJx4a65c_get_915e3_11 lk_Jx4a65c_123 li_Jx4a65c_elementData_915e3 le_Jx4a65c_elementData_915e3 (c_Jx4a65c_elementData_915e3_r31i hfl h) rfl rfl (by decide) rfl ⟨_, rfl⟩ rfl ⟨Nat.le_of_ble_eq_true rfl, Nat.le_of_ble_eq_true rfl⟩ (Nat.le_of_ble_eq_true rfl) ⟨Nat.le_of_ble_eq_true rfl, Nat.le_of_ble_eq_true rfl, Nat.le_of_ble_eq_true rfl, Nat.le_of_ble_eq_true rfl⟩ (k_Rr fun r11 h => ?_)
  exact z_aret C dJx4a65c_get_915e3_14 hr (Or.inl ⟨_, rfl⟩) (Or.inr ⟨_, rfl⟩) ⟨rfl, _, rfl, h⟩ (Nat.le_of_ble_eq_true rfl) (Nat.le_of_ble_eq_true rfl)
def w_X11_workAt_15 (P : Nat → zTs → Prop) (X : Nat → zTs → Prop)  (st : zTs) : Prop := X 0 st
set_option maxHeartbeats 4000000 in
set_option maxRecDepth 100000 in
theorem j_X11_workAt_15 {P : Nat → zTs → Prop} {X : Nat → zTs → Prop}  (hfl : l.stackTraces = false) (C : zC Z p s m args meth c cX11_workAt 3 RX11) (hr : meth.sig.returnType = (some (.object "PartyWalls$Work"))) (hex : ∀ x ∈ c.exceptionTable.toList, False)  (st : zTs) (h : w_X11_workAt_15 P X st) : zG Z ad0 h0 p l e ({ frames := 8, cells := 1, slots := 6, locals := 100 } : Room) s m args below meth c (vx_MQ below (zQ Z ad0 h0 (zWr Z 21 P)) (zX Z ad0 h0 (zXs Z X)) args s 1 6 (zA Z)) 0 0 (zh Z zm1 st) 3 15 [none, none, none] [] := by
  unfold w_X11_workAt_15 at h
  exact z_throwW C hfl hex (six := 27) (text := "no such WORK") 0 (by decide) tw_0 (by decide +kernel) dX11_workAt_15 dX11_workAt_18 dX11_workAt_19 dX11_workAt_22 dX11_workAt_25 ⟨Nat.le_of_ble_eq_true rfl, Nat.le_of_ble_eq_true rfl, Nat.le_of_ble_eq_true rfl, Nat.le_of_ble_eq_true rfl⟩ ⟨Nat.le_of_ble_eq_true rfl, Nat.le_of_ble_eq_true rfl⟩ ⟨_, rfl, h⟩
def w_X11_workAt (st : zTs) (a1 : Int32) (X : Nat → zTs → Prop) (P : Nat → zTs → Prop) : Prop := (a1 < 0 → w_X11_workAt_15 P X st) ∧ (¬ a1 < 0 → w_Jx4a65c_size_8abf5_r31 st (fun (r9 : Int32) => ((a1 < r9 → w_Jx4a65c_get_915e3_r31i st a1 (fun (r31 : Nat) => (w_X10_hearSilence st r31 (zgF st 10 0 15) (fun (s43 : zTs) => (P r31 s43))))) ∧ (¬ a1 < r9 → w_X11_workAt_15 P X st))))
set_option maxHeartbeats 4000000 in
set_option maxRecDepth 100000 in
theorem c_X11_workAt {Z : zZ} {l : Launch} (hfl : l.stackTraces = false) {st : zTs} {a1 : Int32} {X : Nat → zTs → Prop} {P : Nat → zTs → Prop} (h : w_X11_workAt st a1 X P) : zM Z l yX11_workAt cX11_workAt 3 (some (.object "PartyWalls$Work")) ({ frames := 8, cells := 1, slots := 6, locals := 100 } : Room) (zh Z zm1 st) [.ref 10, .int (a1)] (zWr Z 21 P) (zXs Z X) := by
  unfold w_X11_workAt at h
  refine z_enterM (by decide) (Nat.le_of_ble_eq_true rfl) (lc0 := [some (.ref 10), some (.int (a1)), none]) rfl ?_
  intro p e s m args below meth c ad0 C hr hex
  replace C : zC Z p s m args meth c cX11_workAt 3 RX11 := C
  refine z_iload_n C dX11_workAt_0 (i := 1) rfl rfl ?_
  refine z_if_lt C dX11_workAt_1 (tgt := 15) (by decide) (fun c1 => ?_) (fun c1 => ?_)
  · have h := h.1 c1
    exact t_drop [false, false, false] rfl (j_X11_workAt_15 hfl C hr hex  st h)
  · have h := h.2 c1
    refine z_iload_n C dX11_workAt_4 (i := 1) rfl rfl ?_
    refine z_aload_n C dX11_workAt_5 (i := 0) rfl rfl ?_
    refine t_get C dX11_workAt_6 fl_X11_16 (k := 10) (i := 0) (by decide) rfl (fg_10_1 _ _ _) ?_
    refine t_callV C (rest := [.int (a1)]) (c2 := 0) (s2 := 0) (kd := 31) (i := 0) [] dX11_workAt_9 lk_X11_80 li_Jx4a65c_size_8abf5 le_Jx4a65c_size_8abf5 (c_Jx4a65c_size_8abf5_r31 hfl h) rfl rfl (by decide) rfl ⟨_, rfl⟩ rfl ⟨Nat.le_of_ble_eq_true rfl, Nat.le_of_ble_eq_true rfl⟩ (Nat.le_of_ble_eq_true rfl) ⟨Nat.le_of_ble_eq_true rfl, Nat.le_of_ble_eq_true rfl, Nat.le_of_ble_eq_true rfl, Nat.le_of_ble_eq_true rfl⟩ (k_Ri fun r9 h => ?_)
    refine z_icmp_lt C dX11_workAt_12 (tgt := 26) (by decide) (fun c12 => ?_) (fun c12 => ?_)
    · have h := h.1 c12
      refine z_aload_n C dX11_workAt_26 (i := 0) rfl rfl ?_
      refine t_get C dX11_workAt_27 fl_X11_16 (k := 10) (i := 0) (by decide) rfl (fg_10_1 _ _ _) ?_
      refine z_iload_n C dX11_workAt_30 (i := 1) rfl rfl ?_
      refine t_callV C (rest := []) (c2 := 0) (s2 := 0) (kd := 31) (i := 0) [.int (a1)] dX11_workAt_31 lk_X11_450 li_Jx4a65c_get_915e3 le_Jx4a65c_get_915e3 (c_Jx4a65c_get_915e3_r31i hfl h) rfl rfl (by decide) rfl ⟨_, rfl⟩ rfl ⟨Nat.le_of_ble_eq_true rfl, Nat.le_of_ble_eq_true rfl⟩ (Nat.le_of_ble_eq_true rfl) ⟨Nat.le_of_ble_eq_true rfl, Nat.le_of_ble_eq_true rfl, Nat.le_of_ble_eq_true rfl, Nat.le_of_ble_eq_true rfl⟩ (k_Rr fun r31 h => ?_)
      refine t_cast C dX11_workAt_34 kl_X11_155 (k0 := 21) (i := r31) (by decide) rfl ⟨_, rfl⟩ rfl ?_
      refine z_astore_n C dX11_workAt_37 (i := 2) (lc' := [some (.ref 10), some (.int (a1)), some (.ref (21 + 256 * r31))]) rfl (by decide) rfl ?_
      refine z_aload_n C dX11_workAt_38 (i := 2) rfl rfl ?_
      refine z_aload_n C dX11_workAt_39 (i := 0) rfl rfl ?_
      refine t_get C dX11_workAt_40 fl_X11_111 (k := 10) (i := 0) (by decide) rfl (fg_10_15 _ _ _) ?_
      refine t_callV C (rest := []) (c2 := 0) (s2 := 0) (kd := 21) (i := r31) [.int (zgF st 10 0 15)] dX11_workAt_43 lk_X11_456 li_X10_hearSilence le_X10_hearSilence (c_X10_hearSilence hfl h) rfl rfl (by decide) rfl ⟨_, rfl⟩ rfl ⟨Nat.le_of_ble_eq_true rfl, Nat.le_of_ble_eq_true rfl⟩ (Nat.le_of_ble_eq_true rfl) ⟨Nat.le_of_ble_eq_true rfl, Nat.le_of_ble_eq_true rfl, Nat.le_of_ble_eq_true rfl, Nat.le_of_ble_eq_true rfl⟩ (k_Wv fun s43 h => ?_)
      refine z_aload_n C dX11_workAt_46 (i := 2) rfl rfl ?_
      exact zG.up (z_aret C dX11_workAt_47 hr (Or.inl ⟨_, rfl⟩) (Or.inr ⟨_, rfl⟩) ⟨_, _, rfl, rfl, h⟩ (Nat.le_of_ble_eq_true rfl) (Nat.le_of_ble_eq_true rfl))
    · have h := h.2 c12
      exact t_drop [false, false, false] rfl (j_X11_workAt_15 hfl C hr hex  st h)
def w_X11_state (st : zTs) (a1 : Int32) (X : Nat → zTs → Prop) (P : Int32 → zTs → Prop) : Prop := w_X11_workAt st a1 X (fun (r2 : Nat) (s2 : zTs) => (P (zgF s2 21 r2 4) s2))
set_option maxHeartbeats 4000000 in
set_option maxRecDepth 100000 in
theorem c_X11_state {Z : zZ} {l : Launch} (hfl : l.stackTraces = false) {st : zTs} {a1 : Int32} {X : Nat → zTs → Prop} {P : Int32 → zTs → Prop} (h : w_X11_state st a1 X P) : zM Z l yX11_state cX11_state 2 (some .int) ({ frames := 9, cells := 1, slots := 6, locals := 122 } : Room) (zh Z zm1 st) [.ref 10, .int (a1)] (zWi Z P) (zXs Z X) := by
  unfold w_X11_state at h
  refine z_enterM (by decide) (Nat.le_of_ble_eq_true rfl) (lc0 := [some (.ref 10), some (.int (a1))]) rfl ?_
  intro p e s m args below meth c ad0 C hr hex
  replace C : zC Z p s m args meth c cX11_state 2 RX11 := C
  refine z_aload_n C dX11_state_0 (i := 0) rfl rfl ?_
  refine z_iload_n C dX11_state_1 (i := 1) rfl rfl ?_
  refine t_callVM C hex (rest := []) (c2 := 1) (s2 := 6) (kd := 10) (i := 0) [.int (a1)] dX11_state_2 lk_X11_160 li_X11_workAt le_X11_workAt (c_X11_workAt hfl h) rfl rfl (by decide) rfl ⟨_, rfl⟩ rfl ⟨Nat.le_of_ble_eq_true rfl, Nat.le_of_ble_eq_true rfl⟩ (Nat.le_of_ble_eq_true rfl) ⟨Nat.le_of_ble_eq_true rfl, Nat.le_of_ble_eq_true rfl, Nat.le_of_ble_eq_true rfl, Nat.le_of_ble_eq_true rfl⟩ (fun _ _ q => q) ⟨Nat.le_of_ble_eq_true rfl, Nat.le_of_ble_eq_true rfl⟩ (k_Wr fun r2 s2 h => ?_)
  refine t_get C dX11_state_5 fl_X11_164 (k := 21) (i := r2) (by decide) rfl (fg_21_4 _ _ _) ?_
  exact zG.up (z_iret C dX11_state_8 hr rfl ⟨_, _, rfl, rfl, h⟩ (Nat.le_of_ble_eq_true rfl) (Nat.le_of_ble_eq_true rfl))
def w_X11_notice (st : zTs) (a1 : Int32) (X : Nat → zTs → Prop) (P : Int32 → zTs → Prop) : Prop := w_X11_workAt st a1 X (fun (r2 : Nat) (s2 : zTs) => (((zgF s2 21 r2 4) = 0 → w_X10_ask s2 r2 (zgF s2 10 0 15) (fun (s20 : zTs) => (P (zgF s20 21 r2 5) s20))) ∧ (¬ (zgF s2 21 r2 4) = 0 → P (-1) s2)))
set_option maxHeartbeats 4000000 in
set_option maxRecDepth 100000 in
theorem c_X11_notice {Z : zZ} {l : Launch} (hfl : l.stackTraces = false) {st : zTs} {a1 : Int32} {X : Nat → zTs → Prop} {P : Int32 → zTs → Prop} (h : w_X11_notice st a1 X P) : zM Z l yX11_notice cX11_notice 3 (some .int) ({ frames := 9, cells := 1, slots := 6, locals := 122 } : Room) (zh Z zm1 st) [.ref 10, .int (a1)] (zWi Z P) (zXs Z X) := by
  unfold w_X11_notice at h
  refine z_enterM (by decide) (Nat.le_of_ble_eq_true rfl) (lc0 := [some (.ref 10), some (.int (a1)), none]) rfl ?_
  intro p e s m args below meth c ad0 C hr hex
  replace C : zC Z p s m args meth c cX11_notice 3 RX11 := C
  refine z_aload_n C dX11_notice_0 (i := 0) rfl rfl ?_
  refine z_iload_n C dX11_notice_1 (i := 1) rfl rfl ?_
  refine t_callVM C hex (rest := []) (c2 := 1) (s2 := 6) (kd := 10) (i := 0) [.int (a1)] dX11_notice_2 lk_X11_160 li_X11_workAt le_X11_workAt (c_X11_workAt hfl h) rfl rfl (by decide) rfl ⟨_, rfl⟩ rfl ⟨Nat.le_of_ble_eq_true rfl, Nat.le_of_ble_eq_true rfl⟩ (Nat.le_of_ble_eq_true rfl) ⟨Nat.le_of_ble_eq_true rfl, Nat.le_of_ble_eq_true rfl, Nat.le_of_ble_eq_true rfl, Nat.le_of_ble_eq_true rfl⟩ (fun _ _ q => q) ⟨Nat.le_of_ble_eq_true rfl, Nat.le_of_ble_eq_true rfl⟩ (k_Wr fun r2 s2 h => ?_)
  refine z_astore_n C dX11_notice_5 (i := 2) (lc' := [some (.ref 10), some (.int (a1)), some (.ref (21 + 256 * r2))]) rfl (by decide) rfl ?_
  refine z_aload_n C dX11_notice_6 (i := 2) rfl rfl ?_
  refine t_get C dX11_notice_7 fl_X11_164 (k := 21) (i := r2) (by decide) rfl (fg_21_4 _ _ _) ?_
  refine z_if_eq C dX11_notice_10 (tgt := 15) (by decide) (fun c10 => ?_) (fun c10 => ?_)
  · have h := h.1 c10
    refine z_aload_n C dX11_notice_15 (i := 2) rfl rfl ?_
    refine z_aload_n C dX11_notice_16 (i := 0) rfl rfl ?_
    refine t_get C dX11_notice_17 fl_X11_111 (k := 10) (i := 0) (by decide) rfl (fg_10_15 _ _ _) ?_
    refine t_callV C (rest := []) (c2 := 1) (s2 := 6) (kd := 21) (i := r2) [.int (zgF s2 10 0 15)] dX11_notice_20 lk_X11_167 li_X10_ask le_X10_ask (c_X10_ask hfl h) rfl rfl (by decide) rfl ⟨_, rfl⟩ rfl ⟨Nat.le_of_ble_eq_true rfl, Nat.le_of_ble_eq_true rfl⟩ (Nat.le_of_ble_eq_true rfl) ⟨Nat.le_of_ble_eq_true rfl, Nat.le_of_ble_eq_true rfl, Nat.le_of_ble_eq_true rfl, Nat.le_of_ble_eq_true rfl⟩ (k_Wv fun s20 h => ?_)
    refine z_aload_n C dX11_notice_23 (i := 2) rfl rfl ?_
    refine t_get C dX11_notice_24 fl_X11_170 (k := 21) (i := r2) (by decide) rfl (fg_21_5 _ _ _) ?_
    exact zG.up (z_iret C dX11_notice_27 hr rfl ⟨_, _, rfl, rfl, h⟩ (Nat.le_of_ble_eq_true rfl) (Nat.le_of_ble_eq_true rfl))
  · have h := h.2 c10
    refine z_iconst C dX11_notice_13 (v := (-1)) (by decide) ?_
    exact zG.up (z_iret C dX11_notice_14 hr rfl ⟨_, _, rfl, rfl, h⟩ (Nat.le_of_ble_eq_true rfl) (Nat.le_of_ble_eq_true rfl))
def w_X11_answer (st : zTs) (a1 : Int32) (a2 : Int32) (X : Nat → zTs → Prop) (P : Int32 → zTs → Prop) : Prop := w_X11_workAt st a1 X (fun (r2 : Nat) (s2 : zTs) => (((zgF s2 21 r2 4) = 2 → ((zgF s2 21 r2 5) ≤ (zgF s2 10 0 15) → (a2 = 0 → w_X10_disputeFromDay s2 r2 (zgF s2 10 0 15) (fun (s46 : zTs) => (P 1 s46))) ∧ (¬ a2 = 0 → w_X10_allowByNotice s2 r2 (fun (s35 : zTs) => (P 1 s35)))) ∧ (¬ (zgF s2 21 r2 5) ≤ (zgF s2 10 0 15) → P (-2) s2)) ∧ (¬ (zgF s2 21 r2 4) = 2 → P (-1) s2)))
set_option maxHeartbeats 4000000 in
set_option maxRecDepth 100000 in
theorem c_X11_answer {Z : zZ} {l : Launch} (hfl : l.stackTraces = false) {st : zTs} {a1 : Int32} {a2 : Int32} {X : Nat → zTs → Prop} {P : Int32 → zTs → Prop} (h : w_X11_answer st a1 a2 X P) : zM Z l yX11_answer cX11_answer 4 (some .int) ({ frames := 9, cells := 1, slots := 6, locals := 122 } : Room) (zh Z zm1 st) [.ref 10, .int (a1), .int (a2)] (zWi Z P) (zXs Z X) := by
  unfold w_X11_answer at h
  refine z_enterM (by decide) (Nat.le_of_ble_eq_true rfl) (lc0 := [some (.ref 10), some (.int (a1)), some (.int (a2)), none]) rfl ?_
  intro p e s m args below meth c ad0 C hr hex
  replace C : zC Z p s m args meth c cX11_answer 4 RX11 := C
  refine z_aload_n C dX11_answer_0 (i := 0) rfl rfl ?_
  refine z_iload_n C dX11_answer_1 (i := 1) rfl rfl ?_
  refine t_callVM C hex (rest := []) (c2 := 1) (s2 := 6) (kd := 10) (i := 0) [.int (a1)] dX11_answer_2 lk_X11_160 li_X11_workAt le_X11_workAt (c_X11_workAt hfl h) rfl rfl (by decide) rfl ⟨_, rfl⟩ rfl ⟨Nat.le_of_ble_eq_true rfl, Nat.le_of_ble_eq_true rfl⟩ (Nat.le_of_ble_eq_true rfl) ⟨Nat.le_of_ble_eq_true rfl, Nat.le_of_ble_eq_true rfl, Nat.le_of_ble_eq_true rfl, Nat.le_of_ble_eq_true rfl⟩ (fun _ _ q => q) ⟨Nat.le_of_ble_eq_true rfl, Nat.le_of_ble_eq_true rfl⟩ (k_Wr fun r2 s2 h => ?_)
  refine z_astore_n C dX11_answer_5 (i := 3) (lc' := [some (.ref 10), some (.int (a1)), some (.int (a2)), some (.ref (21 + 256 * r2))]) rfl (by decide) rfl ?_
  refine z_aload_n C dX11_answer_6 (i := 3) rfl rfl ?_
  refine t_get C dX11_answer_7 fl_X11_164 (k := 21) (i := r2) (by decide) rfl (fg_21_4 _ _ _) ?_
  refine z_iconst C dX11_answer_10 (v := 2) (by decide) ?_
  refine z_icmp_eq C dX11_answer_11 (tgt := 16) (by decide) (fun c11 => ?_) (fun c11 => ?_)
  · have h := h.1 c11
    refine z_aload_n C dX11_answer_16 (i := 0) rfl rfl ?_
    refine t_get C dX11_answer_17 fl_X11_111 (k := 10) (i := 0) (by decide) rfl (fg_10_15 _ _ _) ?_
    refine z_aload_n C dX11_answer_20 (i := 3) rfl rfl ?_
    refine t_get C dX11_answer_21 fl_X11_170 (k := 21) (i := r2) (by decide) rfl (fg_21_5 _ _ _) ?_
    refine z_icmp_ge C dX11_answer_24 (tgt := 30) (by decide) (fun c24 => ?_) (fun c24 => ?_)
    · have h := h.1 c24
      refine z_iload_n C dX11_answer_30 (i := 2) rfl rfl ?_
      refine z_if_eq C dX11_answer_31 (tgt := 41) (by decide) (fun c31 => ?_) (fun c31 => ?_)
      · have h := h.1 c31
        refine z_aload_n C dX11_answer_41 (i := 3) rfl rfl ?_
        refine z_aload_n C dX11_answer_42 (i := 0) rfl rfl ?_
        refine t_get C dX11_answer_43 fl_X11_111 (k := 10) (i := 0) (by decide) rfl (fg_10_15 _ _ _) ?_
        refine t_callV C (rest := []) (c2 := 1) (s2 := 6) (kd := 21) (i := r2) [.int (zgF s2 10 0 15)] dX11_answer_46 lk_X11_176 li_X10_disputeFromDay le_X10_disputeFromDay (c_X10_disputeFromDay hfl h) rfl rfl (by decide) rfl ⟨_, rfl⟩ rfl ⟨Nat.le_of_ble_eq_true rfl, Nat.le_of_ble_eq_true rfl⟩ (Nat.le_of_ble_eq_true rfl) ⟨Nat.le_of_ble_eq_true rfl, Nat.le_of_ble_eq_true rfl, Nat.le_of_ble_eq_true rfl, Nat.le_of_ble_eq_true rfl⟩ (k_Wv fun s46 h => ?_)
        refine z_iconst C dX11_answer_49 (v := 1) (by decide) ?_
        exact zG.up (z_iret C dX11_answer_50 hr rfl ⟨_, _, rfl, rfl, h⟩ (Nat.le_of_ble_eq_true rfl) (Nat.le_of_ble_eq_true rfl))
      · have h := h.2 c31
        refine z_aload_n C dX11_answer_34 (i := 3) rfl rfl ?_
        refine t_callV C (rest := []) (c2 := 1) (s2 := 6) (kd := 21) (i := r2) [] dX11_answer_35 lk_X11_173 li_X10_allowByNotice le_X10_allowByNotice (c_X10_allowByNotice hfl h) rfl rfl (by decide) rfl ⟨_, rfl⟩ rfl ⟨Nat.le_of_ble_eq_true rfl, Nat.le_of_ble_eq_true rfl⟩ (Nat.le_of_ble_eq_true rfl) ⟨Nat.le_of_ble_eq_true rfl, Nat.le_of_ble_eq_true rfl, Nat.le_of_ble_eq_true rfl, Nat.le_of_ble_eq_true rfl⟩ (k_Wv fun s35 h => ?_)
        refine z_goto C dX11_answer_38 (tgt := 49) (by decide) ?_
        refine z_iconst C dX11_answer_49 (v := 1) (by decide) ?_
        exact zG.up (z_iret C dX11_answer_50 hr rfl ⟨_, _, rfl, rfl, h⟩ (Nat.le_of_ble_eq_true rfl) (Nat.le_of_ble_eq_true rfl))
    · have h := h.2 c24
      refine z_bipush C dX11_answer_27 (v := (-2)) (by decide) ?_
      exact zG.up (z_iret C dX11_answer_29 hr rfl ⟨_, _, rfl, rfl, h⟩ (Nat.le_of_ble_eq_true rfl) (Nat.le_of_ble_eq_true rfl))
  · have h := h.2 c11
    refine z_iconst C dX11_answer_14 (v := (-1)) (by decide) ?_
    exact zG.up (z_iret C dX11_answer_15 hr rfl ⟨_, _, rfl, rfl, h⟩ (Nat.le_of_ble_eq_true rfl) (Nat.le_of_ble_eq_true rfl))
def w_X11_told (st : zTs) (a1 : Int32) (a2 : Int32) (X : Nat → zTs → Prop) (P : Int32 → zTs → Prop) : Prop := w_X11_workAt st a1 X (fun (r2 : Nat) (s2 : zTs) => (w_X11_checkRange s2 a2 0 7 (fun k9 => X k9 s2) (((a2 = 0 → P (zgF s2 21 r2 7) s2) ∧ (a2 = 1 → ((zgF s2 21 r2 4) = 4 → P (zgF s2 21 r2 8) s2) ∧ (¬ (zgF s2 21 r2 4) = 4 → P (-1) s2)) ∧ (a2 = 2 → w_X10_firstHour s2 r2 (fun (r79 : Int32) => (P r79 s2))) ∧ (a2 = 3 → w_X10_endHour s2 r2 (fun (r84 : Int32) => (P r84 s2))) ∧ (a2 = 4 → w_X10_share s2 r2 (fun (r89 : Int32) => (P r89 s2))) ∧ (a2 = 5 → ((zgF s2 21 r2 4) = 2 → P (zgF s2 21 r2 6) s2) ∧ (¬ (zgF s2 21 r2 4) = 2 → P (-1) s2)) ∧ (a2 = 6 → w_X10_mayBeAppealed s2 r2 (fun (r111 : Int32) => ((r111 = 0 → P (-1) s2) ∧ (¬ r111 = 0 → w_X10_appealBy s2 r2 (fun (r118 : Int32) => (P r118 s2)))))) ∧ (¬ a2 = 0 ∧ ¬ a2 = 1 ∧ ¬ a2 = 2 ∧ ¬ a2 = 3 ∧ ¬ a2 = 4 ∧ ¬ a2 = 5 ∧ ¬ a2 = 6 → P (zgF s2 21 r2 9) s2)))))
set_option maxHeartbeats 4000000 in
set_option maxRecDepth 100000 in
theorem c_X11_told {Z : zZ} {l : Launch} (hfl : l.stackTraces = false) {st : zTs} {a1 : Int32} {a2 : Int32} {X : Nat → zTs → Prop} {P : Int32 → zTs → Prop} (h : w_X11_told st a1 a2 X P) : zM Z l yX11_told cX11_told 4 (some .int) ({ frames := 9, cells := 2, slots := 12, locals := 122 } : Room) (zh Z zm1 st) [.ref 10, .int (a1), .int (a2)] (zWi Z P) (zXs Z X) := by
  unfold w_X11_told at h
  refine z_enterM (by decide) (Nat.le_of_ble_eq_true rfl) (lc0 := [some (.ref 10), some (.int (a1)), some (.int (a2)), none]) rfl ?_
  intro p e s m args below meth c ad0 C hr hex
  replace C : zC Z p s m args meth c cX11_told 4 RX11 := C
  refine z_aload_n C dX11_told_0 (i := 0) rfl rfl ?_
  refine z_iload_n C dX11_told_1 (i := 1) rfl rfl ?_
  refine t_callVM C hex (rest := []) (c2 := 1) (s2 := 6) (kd := 10) (i := 0) [.int (a1)] dX11_told_2 lk_X11_160 li_X11_workAt le_X11_workAt (c_X11_workAt hfl h) rfl rfl (by decide) rfl ⟨_, rfl⟩ rfl ⟨Nat.le_of_ble_eq_true rfl, Nat.le_of_ble_eq_true rfl⟩ (Nat.le_of_ble_eq_true rfl) ⟨Nat.le_of_ble_eq_true rfl, Nat.le_of_ble_eq_true rfl, Nat.le_of_ble_eq_true rfl, Nat.le_of_ble_eq_true rfl⟩ (fun _ _ q => q) ⟨Nat.le_of_ble_eq_true rfl, Nat.le_of_ble_eq_true rfl⟩ (k_Wr fun r2 s2 h => ?_)
  refine z_astore_n C dX11_told_5 (i := 3) (lc' := [some (.ref 10), some (.int (a1)), some (.int (a2)), some (.ref (21 + 256 * r2))]) rfl (by decide) rfl ?_
  refine z_iload_n C dX11_told_6 (i := 2) rfl rfl ?_
  refine z_iconst C dX11_told_7 (v := 0) (by decide) ?_
  refine z_bipush C dX11_told_8 (v := 7) (by decide) ?_
  refine t_callSM C hex (rest := []) (c2 := 2) (s2 := 12) [.int (a2), .int (0), .int (7)] dX11_told_10 lk_X11_107 ls_X11_checkRange (c_X11_checkRange hfl h) rfl rfl ⟨Nat.le_of_ble_eq_true rfl, Nat.le_of_ble_eq_true rfl⟩ (Nat.le_of_ble_eq_true rfl) ⟨Nat.le_of_ble_eq_true rfl, Nat.le_of_ble_eq_true rfl, Nat.le_of_ble_eq_true rfl, Nat.le_of_ble_eq_true rfl⟩ (fun _ _ q => ⟨_, q.1, q.2⟩) ⟨Nat.le_of_ble_eq_true rfl, Nat.le_of_ble_eq_true rfl⟩ (k_Rv fun h => ?_)
  refine z_iload_n C dX11_told_13 (i := 2) rfl rfl ?_
  by_cases c14_0 : a2 = 0
  · have h := h.1 c14_0
    refine z_tableIn C dX11_told_14 (off := 42) (tgt := 56) (by rw [c14_0]; decide) (by rw [c14_0]; decide) (by rw [c14_0]; rfl) (by decide) ?_
    refine z_aload_n C dX11_told_56 (i := 3) rfl rfl ?_
    refine t_get C dX11_told_57 fl_X11_179 (k := 21) (i := r2) (by decide) rfl (fg_21_7 _ _ _) ?_
    exact zG.up (z_iret C dX11_told_60 hr rfl ⟨_, _, rfl, rfl, h⟩ (Nat.le_of_ble_eq_true rfl) (Nat.le_of_ble_eq_true rfl))
  · by_cases c14_1 : a2 = 1
    · have h := h.2.1 c14_1
      refine z_tableIn C dX11_told_14 (off := 47) (tgt := 61) (by rw [c14_1]; decide) (by rw [c14_1]; decide) (by rw [c14_1]; rfl) (by decide) ?_
      refine z_aload_n C dX11_told_61 (i := 3) rfl rfl ?_
      refine t_get C dX11_told_62 fl_X11_164 (k := 21) (i := r2) (by decide) rfl (fg_21_4 _ _ _) ?_
      refine z_iconst C dX11_told_65 (v := 4) (by decide) ?_
      refine z_icmp_ne C dX11_told_66 (tgt := 76) (by decide) (fun c66 => ?_) (fun c66 => ?_)
      · have h := h.2 c66
        refine z_iconst C dX11_told_76 (v := (-1)) (by decide) ?_
        exact zG.up (z_iret C dX11_told_77 hr rfl ⟨_, _, rfl, rfl, h⟩ (Nat.le_of_ble_eq_true rfl) (Nat.le_of_ble_eq_true rfl))
      · have h := h.1 c66
        refine z_aload_n C dX11_told_69 (i := 3) rfl rfl ?_
        refine t_get C dX11_told_70 fl_X11_182 (k := 21) (i := r2) (by decide) rfl (fg_21_8 _ _ _) ?_
        refine z_goto C dX11_told_73 (tgt := 77) (by decide) ?_
        exact zG.up (z_iret C dX11_told_77 hr rfl ⟨_, _, rfl, rfl, h⟩ (Nat.le_of_ble_eq_true rfl) (Nat.le_of_ble_eq_true rfl))
    · by_cases c14_2 : a2 = 2
      · have h := h.2.2.1 c14_2
        refine z_tableIn C dX11_told_14 (off := 64) (tgt := 78) (by rw [c14_2]; decide) (by rw [c14_2]; decide) (by rw [c14_2]; rfl) (by decide) ?_
        refine z_aload_n C dX11_told_78 (i := 3) rfl rfl ?_
        refine t_callV C (rest := []) (c2 := 2) (s2 := 12) (kd := 21) (i := r2) [] dX11_told_79 lk_X11_185 li_X10_firstHour le_X10_firstHour (c_X10_firstHour hfl h) rfl rfl (by decide) rfl ⟨_, rfl⟩ rfl ⟨Nat.le_of_ble_eq_true rfl, Nat.le_of_ble_eq_true rfl⟩ (Nat.le_of_ble_eq_true rfl) ⟨Nat.le_of_ble_eq_true rfl, Nat.le_of_ble_eq_true rfl, Nat.le_of_ble_eq_true rfl, Nat.le_of_ble_eq_true rfl⟩ (k_Ri fun r79 h => ?_)
        exact zG.up (z_iret C dX11_told_82 hr rfl ⟨_, _, rfl, rfl, h⟩ (Nat.le_of_ble_eq_true rfl) (Nat.le_of_ble_eq_true rfl))
      · by_cases c14_3 : a2 = 3
        · have h := h.2.2.2.1 c14_3
          refine z_tableIn C dX11_told_14 (off := 69) (tgt := 83) (by rw [c14_3]; decide) (by rw [c14_3]; decide) (by rw [c14_3]; rfl) (by decide) ?_
          refine z_aload_n C dX11_told_83 (i := 3) rfl rfl ?_
          refine t_callV C (rest := []) (c2 := 2) (s2 := 12) (kd := 21) (i := r2) [] dX11_told_84 lk_X11_188 li_X10_endHour le_X10_endHour (c_X10_endHour hfl h) rfl rfl (by decide) rfl ⟨_, rfl⟩ rfl ⟨Nat.le_of_ble_eq_true rfl, Nat.le_of_ble_eq_true rfl⟩ (Nat.le_of_ble_eq_true rfl) ⟨Nat.le_of_ble_eq_true rfl, Nat.le_of_ble_eq_true rfl, Nat.le_of_ble_eq_true rfl, Nat.le_of_ble_eq_true rfl⟩ (k_Ri fun r84 h => ?_)
          exact zG.up (z_iret C dX11_told_87 hr rfl ⟨_, _, rfl, rfl, h⟩ (Nat.le_of_ble_eq_true rfl) (Nat.le_of_ble_eq_true rfl))
        · by_cases c14_4 : a2 = 4
          · have h := h.2.2.2.2.1 c14_4
            refine z_tableIn C dX11_told_14 (off := 74) (tgt := 88) (by rw [c14_4]; decide) (by rw [c14_4]; decide) (by rw [c14_4]; rfl) (by decide) ?_
            refine z_aload_n C dX11_told_88 (i := 3) rfl rfl ?_
            refine t_callV C (rest := []) (c2 := 2) (s2 := 12) (kd := 21) (i := r2) [] dX11_told_89 lk_X11_191 li_X10_share le_X10_share (c_X10_share hfl h) rfl rfl (by decide) rfl ⟨_, rfl⟩ rfl ⟨Nat.le_of_ble_eq_true rfl, Nat.le_of_ble_eq_true rfl⟩ (Nat.le_of_ble_eq_true rfl) ⟨Nat.le_of_ble_eq_true rfl, Nat.le_of_ble_eq_true rfl, Nat.le_of_ble_eq_true rfl, Nat.le_of_ble_eq_true rfl⟩ (k_Ri fun r89 h => ?_)
            exact zG.up (z_iret C dX11_told_92 hr rfl ⟨_, _, rfl, rfl, h⟩ (Nat.le_of_ble_eq_true rfl) (Nat.le_of_ble_eq_true rfl))
          · by_cases c14_5 : a2 = 5
            · have h := h.2.2.2.2.2.1 c14_5
              refine z_tableIn C dX11_told_14 (off := 79) (tgt := 93) (by rw [c14_5]; decide) (by rw [c14_5]; decide) (by rw [c14_5]; rfl) (by decide) ?_
              refine z_aload_n C dX11_told_93 (i := 3) rfl rfl ?_
              refine t_get C dX11_told_94 fl_X11_164 (k := 21) (i := r2) (by decide) rfl (fg_21_4 _ _ _) ?_
              refine z_iconst C dX11_told_97 (v := 2) (by decide) ?_
              refine z_icmp_ne C dX11_told_98 (tgt := 108) (by decide) (fun c98 => ?_) (fun c98 => ?_)
              · have h := h.2 c98
                refine z_iconst C dX11_told_108 (v := (-1)) (by decide) ?_
                exact zG.up (z_iret C dX11_told_109 hr rfl ⟨_, _, rfl, rfl, h⟩ (Nat.le_of_ble_eq_true rfl) (Nat.le_of_ble_eq_true rfl))
              · have h := h.1 c98
                refine z_aload_n C dX11_told_101 (i := 3) rfl rfl ?_
                refine t_get C dX11_told_102 fl_X11_194 (k := 21) (i := r2) (by decide) rfl (fg_21_6 _ _ _) ?_
                refine z_goto C dX11_told_105 (tgt := 109) (by decide) ?_
                exact zG.up (z_iret C dX11_told_109 hr rfl ⟨_, _, rfl, rfl, h⟩ (Nat.le_of_ble_eq_true rfl) (Nat.le_of_ble_eq_true rfl))
            · by_cases c14_6 : a2 = 6
              · have h := h.2.2.2.2.2.2.1 c14_6
                refine z_tableIn C dX11_told_14 (off := 96) (tgt := 110) (by rw [c14_6]; decide) (by rw [c14_6]; decide) (by rw [c14_6]; rfl) (by decide) ?_
                refine z_aload_n C dX11_told_110 (i := 3) rfl rfl ?_
                refine t_callV C (rest := []) (c2 := 2) (s2 := 12) (kd := 21) (i := r2) [] dX11_told_111 lk_X11_197 li_X10_mayBeAppealed le_X10_mayBeAppealed (c_X10_mayBeAppealed hfl h) rfl rfl (by decide) rfl ⟨_, rfl⟩ rfl ⟨Nat.le_of_ble_eq_true rfl, Nat.le_of_ble_eq_true rfl⟩ (Nat.le_of_ble_eq_true rfl) ⟨Nat.le_of_ble_eq_true rfl, Nat.le_of_ble_eq_true rfl, Nat.le_of_ble_eq_true rfl, Nat.le_of_ble_eq_true rfl⟩ (k_Ri fun r111 h => ?_)
                refine z_if_eq C dX11_told_114 (tgt := 124) (by decide) (fun c114 => ?_) (fun c114 => ?_)
                · have h := h.1 c114
                  refine z_iconst C dX11_told_124 (v := (-1)) (by decide) ?_
                  exact zG.up (z_iret C dX11_told_125 hr rfl ⟨_, _, rfl, rfl, h⟩ (Nat.le_of_ble_eq_true rfl) (Nat.le_of_ble_eq_true rfl))
                · have h := h.2 c114
                  refine z_aload_n C dX11_told_117 (i := 3) rfl rfl ?_
                  refine t_callV C (rest := []) (c2 := 2) (s2 := 12) (kd := 21) (i := r2) [] dX11_told_118 lk_X11_200 li_X10_appealBy le_X10_appealBy (c_X10_appealBy hfl h) rfl rfl (by decide) rfl ⟨_, rfl⟩ rfl ⟨Nat.le_of_ble_eq_true rfl, Nat.le_of_ble_eq_true rfl⟩ (Nat.le_of_ble_eq_true rfl) ⟨Nat.le_of_ble_eq_true rfl, Nat.le_of_ble_eq_true rfl, Nat.le_of_ble_eq_true rfl, Nat.le_of_ble_eq_true rfl⟩ (k_Ri fun r118 h => ?_)
                  refine z_goto C dX11_told_121 (tgt := 125) (by decide) ?_
                  exact zG.up (z_iret C dX11_told_125 hr rfl ⟨_, _, rfl, rfl, h⟩ (Nat.le_of_ble_eq_true rfl) (Nat.le_of_ble_eq_true rfl))
              · have h := h.2.2.2.2.2.2.2 ⟨c14_0, c14_1, c14_2, c14_3, c14_4, c14_5, c14_6⟩
                refine z_tableOut C dX11_told_14 (tgt := 126) (zsw_out (lt_s (p := fun a => ¬ a2 = nI a) (lt_s (p := fun a => ¬ a2 = nI a) (lt_s (p := fun a => ¬ a2 = nI a) (lt_s (p := fun a => ¬ a2 = nI a) (lt_s (p := fun a => ¬ a2 = nI a) (lt_s (p := fun a => ¬ a2 = nI a) (lt_s (p := fun a => ¬ a2 = nI a) lt_0 c14_0) c14_1) c14_2) c14_3) c14_4) c14_5) c14_6)) (by decide) ?_
                refine z_aload_n C dX11_told_126 (i := 3) rfl rfl ?_
                refine t_get C dX11_told_127 fl_X11_203 (k := 21) (i := r2) (by decide) rfl (fg_21_9 _ _ _) ?_
                exact zG.up (z_iret C dX11_told_130 hr rfl ⟨_, _, rfl, rfl, h⟩ (Nat.le_of_ble_eq_true rfl) (Nat.le_of_ble_eq_true rfl))
def w_X11_appoint_70 (P : Int32 → zTs → Prop) (X : Nat → zTs → Prop)  (st : zTs) (a2 : Int32) (a3 : Int32) (a5 : Nat) : Prop := w_X11_isBarred st a3 (zgP st 21 a5 0) (fun (r77 : Int32) => ((r77 = 0 → vp_in (1 - a2) 3 ∧ (((zgA st 61 a5 (1 - a2 : Int32).toNatClampNeg) = a3 → P (-5) st) ∧ (¬ (zgA st 61 a5 (1 - a2 : Int32).toNatClampNeg) = a3 → vp_in a2 3 ∧ (∀ s109 : zTs, s109 = zuA st 61 a5 (a2 : Int32).toNatClampNeg a3 → (vp_in (1 - a2) 3 ∧ (((zgA s109 61 a5 (1 - a2 : Int32).toNatClampNeg) = (-1) → P 1 s109) ∧ (¬ (zgA s109 61 a5 (1 - a2 : Int32).toNatClampNeg) = (-1) → w_X11_chooseThird s109 a5 (fun (s126 : zTs) => (P 1 s126))))))))) ∧ (¬ r77 = 0 → P (-4) st)))
set_option maxHeartbeats 4000000 in
set_option maxRecDepth 100000 in
theorem j_X11_appoint_70 {P : Int32 → zTs → Prop} {X : Nat → zTs → Prop}  (hfl : l.stackTraces = false) (C : zC Z p s m args meth c cX11_appoint 6 RX11) (hr : meth.sig.returnType = (some .int)) (hex : ∀ x ∈ c.exceptionTable.toList, False)  (st : zTs) (a2 : Int32) (a3 : Int32) (a5 : Nat) (h : w_X11_appoint_70 P X st a2 a3 a5) : zG Z ad0 h0 p l e ({ frames := 10, cells := 4, slots := 24, locals := 142 } : Room) s m args below meth c (vx_MQ below (zQ Z ad0 h0 (zWi Z P)) (zX Z ad0 h0 (zXs Z X)) args s 4 24 (zA Z)) 4 24 (zh Z zm1 st) 6 70 [some (.ref 10), none, some (.int (a2)), some (.int (a3)), none, some (.ref (21 + 256 * a5))] [] := by
  unfold w_X11_appoint_70 at h
  refine z_aload_n C dX11_appoint_70 (i := 0) rfl rfl ?_
  refine z_iload_n C dX11_appoint_71 (i := 3) rfl rfl ?_
  refine z_aload C dX11_appoint_72 rfl ?_
  refine t_get C dX11_appoint_74 fl_X11_214 (k := 21) (i := a5) (by decide) rfl (fg_21_0 _ _ _) ?_
  refine t_callV C (rest := []) (c2 := 4) (s2 := 24) (kd := 10) (i := 0) [.int (a3), .ref (20 + 256 * (zgP st 21 a5 0))] dX11_appoint_77 lk_X11_218 li_X11_isBarred le_X11_isBarred (c_X11_isBarred hfl h) rfl rfl (by decide) rfl ⟨_, rfl⟩ rfl ⟨Nat.le_of_ble_eq_true rfl, Nat.le_of_ble_eq_true rfl⟩ (Nat.le_of_ble_eq_true rfl) ⟨Nat.le_of_ble_eq_true rfl, Nat.le_of_ble_eq_true rfl, Nat.le_of_ble_eq_true rfl, Nat.le_of_ble_eq_true rfl⟩ (k_Ri fun r77 h => ?_)
  refine z_if_eq C dX11_appoint_80 (tgt := 86) (by decide) (fun c80 => ?_) (fun c80 => ?_)
  · have h := h.1 c80
    refine z_aload C dX11_appoint_86 rfl ?_
    refine t_get C dX11_appoint_88 fl_X11_209 (k := 21) (i := a5) (by decide) rfl (fg_21_13 _ _ _) ?_
    refine z_iconst C dX11_appoint_91 (v := 1) (by decide) ?_
    refine z_iload_n C dX11_appoint_92 (i := 2) rfl rfl ?_
    refine z_isub C dX11_appoint_93 ?_
    obtain ⟨g94, h⟩ := h
    refine t_iald C dX11_appoint_94 (k := 61) (i := a5) (by decide) rfl (sh_61 _ _ _ _) g94 ?_
    refine z_iload_n C dX11_appoint_95 (i := 3) rfl rfl ?_
    refine z_icmp_ne C dX11_appoint_96 (tgt := 102) (by decide) (fun c96 => ?_) (fun c96 => ?_)
    · have h := h.2 c96
      refine z_aload C dX11_appoint_102 rfl ?_
      refine t_get C dX11_appoint_104 fl_X11_209 (k := 21) (i := a5) (by decide) rfl (fg_21_13 _ _ _) ?_
      refine z_iload_n C dX11_appoint_107 (i := 2) rfl rfl ?_
      refine z_iload_n C dX11_appoint_108 (i := 3) rfl rfl ?_
      obtain ⟨g109, h⟩ := h
      refine t_iast C dX11_appoint_109 (k := 61) (i := a5) (by decide) rfl (fun s9 => sh_61 _ _ s9 _) g109 ?_
      refine t_tops (fun s109 es109 => ?_)
      have h := h s109 es109
      refine z_aload C dX11_appoint_110 rfl ?_
      refine t_get C dX11_appoint_112 fl_X11_209 (k := 21) (i := a5) (by decide) rfl (fg_21_13 _ _ _) ?_
      refine z_iconst C dX11_appoint_115 (v := 1) (by decide) ?_
      refine z_iload_n C dX11_appoint_116 (i := 2) rfl rfl ?_
      refine z_isub C dX11_appoint_117 ?_
      obtain ⟨g118, h⟩ := h
      refine t_iald C dX11_appoint_118 (k := 61) (i := a5) (by decide) rfl (sh_61 _ _ _ _) g118 ?_
      refine z_iconst C dX11_appoint_119 (v := (-1)) (by decide) ?_
      refine z_icmp_eq C dX11_appoint_120 (tgt := 129) (by decide) (fun c120 => ?_) (fun c120 => ?_)
      · have h := h.1 c120
        refine z_iconst C dX11_appoint_129 (v := 1) (by decide) ?_
        exact zG.up (z_iret C dX11_appoint_130 hr rfl ⟨_, _, rfl, rfl, h⟩ (Nat.le_of_ble_eq_true rfl) (Nat.le_of_ble_eq_true rfl))
      · have h := h.2 c120
        refine z_aload_n C dX11_appoint_123 (i := 0) rfl rfl ?_
        refine z_aload C dX11_appoint_124 rfl ?_
        refine t_callV C (rest := []) (c2 := 4) (s2 := 24) (kd := 10) (i := 0) [.ref (21 + 256 * a5)] dX11_appoint_126 lk_X11_222 li_X11_chooseThird le_X11_chooseThird (c_X11_chooseThird hfl h) rfl rfl (by decide) rfl ⟨_, rfl⟩ rfl ⟨Nat.le_of_ble_eq_true rfl, Nat.le_of_ble_eq_true rfl⟩ (Nat.le_of_ble_eq_true rfl) ⟨Nat.le_of_ble_eq_true rfl, Nat.le_of_ble_eq_true rfl, Nat.le_of_ble_eq_true rfl, Nat.le_of_ble_eq_true rfl⟩ (k_Wv fun s126 h => ?_)
        refine z_iconst C dX11_appoint_129 (v := 1) (by decide) ?_
        exact zG.up (z_iret C dX11_appoint_130 hr rfl ⟨_, _, rfl, rfl, h⟩ (Nat.le_of_ble_eq_true rfl) (Nat.le_of_ble_eq_true rfl))
    · have h := h.1 c96
      refine z_bipush C dX11_appoint_99 (v := (-5)) (by decide) ?_
      exact zG.up (z_iret C dX11_appoint_101 hr rfl ⟨_, _, rfl, rfl, h⟩ (Nat.le_of_ble_eq_true rfl) (Nat.le_of_ble_eq_true rfl))
  · have h := h.2 c80
    refine z_bipush C dX11_appoint_83 (v := (-4)) (by decide) ?_
    exact zG.up (z_iret C dX11_appoint_85 hr rfl ⟨_, _, rfl, rfl, h⟩ (Nat.le_of_ble_eq_true rfl) (Nat.le_of_ble_eq_true rfl))
def w_X11_appoint (st : zTs) (a1 : Int32) (a2 : Int32) (a3 : Int32) (a4 : Int32) (X : Nat → zTs → Prop) (P : Int32 → zTs → Prop) : Prop := w_X11_workAt st a1 X (fun (r2 : Nat) (s2 : zTs) => (w_X11_checkIndex s2 a3 (zgF s2 10 0 13) (fun k9 => X k9 s2) ((w_X11_checkSide s2 a2 (fun k9 => X k9 s2) ((w_X11_checkSide s2 a4 (fun k9 => X k9 s2) ((((zgF s2 21 r2 4) = 4 → vp_in a2 3 ∧ (((zgA s2 61 r2 (a2 : Int32).toNatClampNeg) = (-1) → (a4 = a2 → w_X11_appoint_70 P X s2 a2 a3 r2) ∧ (¬ a4 = a2 → w_X10_appointBy s2 r2 (fun (r61 : Int32) => ((r61 < (zgF s2 10 0 15) → w_X11_appoint_70 P X s2 a2 a3 r2) ∧ (¬ r61 < (zgF s2 10 0 15) → P (-3) s2))))) ∧ (¬ (zgA s2 61 r2 (a2 : Int32).toNatClampNeg) = (-1) → P (-2) s2))) ∧ (¬ (zgF s2 21 r2 4) = 4 → P (-1) s2)))))))))
set_option maxHeartbeats 4000000 in
set_option maxRecDepth 100000 in
theorem c_X11_appoint {Z : zZ} {l : Launch} (hfl : l.stackTraces = false) {st : zTs} {a1 : Int32} {a2 : Int32} {a3 : Int32} {a4 : Int32} {X : Nat → zTs → Prop} {P : Int32 → zTs → Prop} (h : w_X11_appoint st a1 a2 a3 a4 X P) : zM Z l yX11_appoint cX11_appoint 6 (some .int) ({ frames := 10, cells := 4, slots := 24, locals := 142 } : Room) (zh Z zm1 st) [.ref 10, .int (a1), .int (a2), .int (a3), .int (a4)] (zWi Z P) (zXs Z X) := by
  unfold w_X11_appoint at h
  refine z_enterM (by decide) (Nat.le_of_ble_eq_true rfl) (lc0 := [some (.ref 10), some (.int (a1)), some (.int (a2)), some (.int (a3)), some (.int (a4)), none]) rfl ?_
  intro p e s m args below meth c ad0 C hr hex
  replace C : zC Z p s m args meth c cX11_appoint 6 RX11 := C
  refine z_aload_n C dX11_appoint_0 (i := 0) rfl rfl ?_
  refine z_iload_n C dX11_appoint_1 (i := 1) rfl rfl ?_
  refine t_callVM C hex (rest := []) (c2 := 1) (s2 := 6) (kd := 10) (i := 0) [.int (a1)] dX11_appoint_2 lk_X11_160 li_X11_workAt le_X11_workAt (c_X11_workAt hfl h) rfl rfl (by decide) rfl ⟨_, rfl⟩ rfl ⟨Nat.le_of_ble_eq_true rfl, Nat.le_of_ble_eq_true rfl⟩ (Nat.le_of_ble_eq_true rfl) ⟨Nat.le_of_ble_eq_true rfl, Nat.le_of_ble_eq_true rfl, Nat.le_of_ble_eq_true rfl, Nat.le_of_ble_eq_true rfl⟩ (fun _ _ q => q) ⟨Nat.le_of_ble_eq_true rfl, Nat.le_of_ble_eq_true rfl⟩ (k_Wr fun r2 s2 h => ?_)
  refine z_astore C dX11_appoint_5 (lc' := [some (.ref 10), some (.int (a1)), some (.int (a2)), some (.int (a3)), some (.int (a4)), some (.ref (21 + 256 * r2))]) (by decide) rfl ?_
  refine z_iload_n C dX11_appoint_7 (i := 3) rfl rfl ?_
  refine z_aload_n C dX11_appoint_8 (i := 0) rfl rfl ?_
  refine t_get C dX11_appoint_9 fl_X11_206 (k := 10) (i := 0) (by decide) rfl (fg_10_13 _ _ _) ?_
  refine t_callSM C hex (rest := []) (c2 := 2) (s2 := 12) [.int (a3), .int (zgF s2 10 0 13)] dX11_appoint_12 lk_X11_77 ls_X11_checkIndex (c_X11_checkIndex hfl h) rfl rfl ⟨Nat.le_of_ble_eq_true rfl, Nat.le_of_ble_eq_true rfl⟩ (Nat.le_of_ble_eq_true rfl) ⟨Nat.le_of_ble_eq_true rfl, Nat.le_of_ble_eq_true rfl, Nat.le_of_ble_eq_true rfl, Nat.le_of_ble_eq_true rfl⟩ (fun _ _ q => ⟨_, q.1, q.2⟩) ⟨Nat.le_of_ble_eq_true rfl, Nat.le_of_ble_eq_true rfl⟩ (k_Rv fun h => ?_)
  refine z_iload_n C dX11_appoint_15 (i := 2) rfl rfl ?_
  refine t_callSM C hex (rest := []) (c2 := 3) (s2 := 18) [.int (a2)] dX11_appoint_16 lk_X11_96 ls_X11_checkSide (c_X11_checkSide hfl h) rfl rfl ⟨Nat.le_of_ble_eq_true rfl, Nat.le_of_ble_eq_true rfl⟩ (Nat.le_of_ble_eq_true rfl) ⟨Nat.le_of_ble_eq_true rfl, Nat.le_of_ble_eq_true rfl, Nat.le_of_ble_eq_true rfl, Nat.le_of_ble_eq_true rfl⟩ (fun _ _ q => ⟨_, q.1, q.2⟩) ⟨Nat.le_of_ble_eq_true rfl, Nat.le_of_ble_eq_true rfl⟩ (k_Rv fun h => ?_)
  refine z_iload C dX11_appoint_19 rfl ?_
  refine t_callSM C hex (rest := []) (c2 := 4) (s2 := 24) [.int (a4)] dX11_appoint_21 lk_X11_96 ls_X11_checkSide (c_X11_checkSide hfl h) rfl rfl ⟨Nat.le_of_ble_eq_true rfl, Nat.le_of_ble_eq_true rfl⟩ (Nat.le_of_ble_eq_true rfl) ⟨Nat.le_of_ble_eq_true rfl, Nat.le_of_ble_eq_true rfl, Nat.le_of_ble_eq_true rfl, Nat.le_of_ble_eq_true rfl⟩ (fun _ _ q => ⟨_, q.1, q.2⟩) ⟨Nat.le_of_ble_eq_true rfl, Nat.le_of_ble_eq_true rfl⟩ (k_Rv fun h => ?_)
  refine z_aload C dX11_appoint_24 rfl ?_
  refine t_get C dX11_appoint_26 fl_X11_164 (k := 21) (i := r2) (by decide) rfl (fg_21_4 _ _ _) ?_
  refine z_iconst C dX11_appoint_29 (v := 4) (by decide) ?_
  refine z_icmp_eq C dX11_appoint_30 (tgt := 35) (by decide) (fun c30 => ?_) (fun c30 => ?_)
  · have h := h.1 c30
    refine z_aload C dX11_appoint_35 rfl ?_
    refine t_get C dX11_appoint_37 fl_X11_209 (k := 21) (i := r2) (by decide) rfl (fg_21_13 _ _ _) ?_
    refine z_iload_n C dX11_appoint_40 (i := 2) rfl rfl ?_
    obtain ⟨g41, h⟩ := h
    refine t_iald C dX11_appoint_41 (k := 61) (i := r2) (by decide) rfl (sh_61 _ _ _ _) g41 ?_
    refine z_iconst C dX11_appoint_42 (v := (-1)) (by decide) ?_
    refine z_icmp_eq C dX11_appoint_43 (tgt := 49) (by decide) (fun c43 => ?_) (fun c43 => ?_)
    · have h := h.1 c43
      refine z_iload C dX11_appoint_49 rfl ?_
      refine z_iload_n C dX11_appoint_51 (i := 2) rfl rfl ?_
      refine z_icmp_eq C dX11_appoint_52 (tgt := 70) (by decide) (fun c52 => ?_) (fun c52 => ?_)
      · have h := h.1 c52
        exact t_drop [true, false, true, true, false, true] rfl (j_X11_appoint_70 hfl C hr hex  s2 a2 a3 r2 h)
      · have h := h.2 c52
        refine z_aload_n C dX11_appoint_55 (i := 0) rfl rfl ?_
        refine t_get C dX11_appoint_56 fl_X11_111 (k := 10) (i := 0) (by decide) rfl (fg_10_15 _ _ _) ?_
        refine z_aload C dX11_appoint_59 rfl ?_
        refine t_callV C (rest := [.int (zgF s2 10 0 15)]) (c2 := 4) (s2 := 24) (kd := 21) (i := r2) [] dX11_appoint_61 lk_X11_211 li_X10_appointBy le_X10_appointBy (c_X10_appointBy hfl h) rfl rfl (by decide) rfl ⟨_, rfl⟩ rfl ⟨Nat.le_of_ble_eq_true rfl, Nat.le_of_ble_eq_true rfl⟩ (Nat.le_of_ble_eq_true rfl) ⟨Nat.le_of_ble_eq_true rfl, Nat.le_of_ble_eq_true rfl, Nat.le_of_ble_eq_true rfl, Nat.le_of_ble_eq_true rfl⟩ (k_Ri fun r61 h => ?_)
        refine z_icmp_gt C dX11_appoint_64 (tgt := 70) (by decide) (fun c64 => ?_) (fun c64 => ?_)
        · have h := h.1 c64
          exact t_drop [true, false, true, true, false, true] rfl (j_X11_appoint_70 hfl C hr hex  s2 a2 a3 r2 h)
        · have h := h.2 c64
          refine z_bipush C dX11_appoint_67 (v := (-3)) (by decide) ?_
          exact zG.up (z_iret C dX11_appoint_69 hr rfl ⟨_, _, rfl, rfl, h⟩ (Nat.le_of_ble_eq_true rfl) (Nat.le_of_ble_eq_true rfl))
    · have h := h.2 c43
      refine z_bipush C dX11_appoint_46 (v := (-2)) (by decide) ?_
      exact zG.up (z_iret C dX11_appoint_48 hr rfl ⟨_, _, rfl, rfl, h⟩ (Nat.le_of_ble_eq_true rfl) (Nat.le_of_ble_eq_true rfl))
  · have h := h.2 c30
    refine z_iconst C dX11_appoint_33 (v := (-1)) (by decide) ?_
    exact zG.up (z_iret C dX11_appoint_34 hr rfl ⟨_, _, rfl, rfl, h⟩ (Nat.le_of_ble_eq_true rfl) (Nat.le_of_ble_eq_true rfl))
def w_X11_surveys (st : zTs) (a1 : Int32) (a2 : Int32) (X : Nat → zTs → Prop) (P : Int32 → zTs → Prop) : Prop := w_X11_workAt st a1 X (fun (r2 : Nat) (s2 : zTs) => (w_X11_checkRange s2 a2 0 2 (fun k9 => X k9 s2) ((vp_in a2 3 ∧ (P (zgA s2 61 r2 (a2 : Int32).toNatClampNeg) s2)))))
set_option maxHeartbeats 4000000 in
set_option maxRecDepth 100000 in
theorem c_X11_surveys {Z : zZ} {l : Launch} (hfl : l.stackTraces = false) {st : zTs} {a1 : Int32} {a2 : Int32} {X : Nat → zTs → Prop} {P : Int32 → zTs → Prop} (h : w_X11_surveys st a1 a2 X P) : zM Z l yX11_surveys cX11_surveys 4 (some .int) ({ frames := 9, cells := 2, slots := 12, locals := 122 } : Room) (zh Z zm1 st) [.ref 10, .int (a1), .int (a2)] (zWi Z P) (zXs Z X) := by
  unfold w_X11_surveys at h
  refine z_enterM (by decide) (Nat.le_of_ble_eq_true rfl) (lc0 := [some (.ref 10), some (.int (a1)), some (.int (a2)), none]) rfl ?_
  intro p e s m args below meth c ad0 C hr hex
  replace C : zC Z p s m args meth c cX11_surveys 4 RX11 := C
  refine z_aload_n C dX11_surveys_0 (i := 0) rfl rfl ?_
  refine z_iload_n C dX11_surveys_1 (i := 1) rfl rfl ?_
  refine t_callVM C hex (rest := []) (c2 := 1) (s2 := 6) (kd := 10) (i := 0) [.int (a1)] dX11_surveys_2 lk_X11_160 li_X11_workAt le_X11_workAt (c_X11_workAt hfl h) rfl rfl (by decide) rfl ⟨_, rfl⟩ rfl ⟨Nat.le_of_ble_eq_true rfl, Nat.le_of_ble_eq_true rfl⟩ (Nat.le_of_ble_eq_true rfl) ⟨Nat.le_of_ble_eq_true rfl, Nat.le_of_ble_eq_true rfl, Nat.le_of_ble_eq_true rfl, Nat.le_of_ble_eq_true rfl⟩ (fun _ _ q => q) ⟨Nat.le_of_ble_eq_true rfl, Nat.le_of_ble_eq_true rfl⟩ (k_Wr fun r2 s2 h => ?_)
  refine z_astore_n C dX11_surveys_5 (i := 3) (lc' := [some (.ref 10), some (.int (a1)), some (.int (a2)), some (.ref (21 + 256 * r2))]) rfl (by decide) rfl ?_
  refine z_iload_n C dX11_surveys_6 (i := 2) rfl rfl ?_
  refine z_iconst C dX11_surveys_7 (v := 0) (by decide) ?_
  refine z_iconst C dX11_surveys_8 (v := 2) (by decide) ?_
  refine t_callSM C hex (rest := []) (c2 := 2) (s2 := 12) [.int (a2), .int (0), .int (2)] dX11_surveys_9 lk_X11_107 ls_X11_checkRange (c_X11_checkRange hfl h) rfl rfl ⟨Nat.le_of_ble_eq_true rfl, Nat.le_of_ble_eq_true rfl⟩ (Nat.le_of_ble_eq_true rfl) ⟨Nat.le_of_ble_eq_true rfl, Nat.le_of_ble_eq_true rfl, Nat.le_of_ble_eq_true rfl, Nat.le_of_ble_eq_true rfl⟩ (fun _ _ q => ⟨_, q.1, q.2⟩) ⟨Nat.le_of_ble_eq_true rfl, Nat.le_of_ble_eq_true rfl⟩ (k_Rv fun h => ?_)
  refine z_aload_n C dX11_surveys_12 (i := 3) rfl rfl ?_
  refine t_get C dX11_surveys_13 fl_X11_209 (k := 21) (i := r2) (by decide) rfl (fg_21_13 _ _ _) ?_
  refine z_iload_n C dX11_surveys_16 (i := 2) rfl rfl ?_
  obtain ⟨g17, h⟩ := h
  refine t_iald C dX11_surveys_17 (k := 61) (i := r2) (by decide) rfl (sh_61 _ _ _ _) g17 ?_
  exact zG.up (z_iret C dX11_surveys_18 hr rfl ⟨_, _, rfl, rfl, h⟩ (Nat.le_of_ble_eq_true rfl) (Nat.le_of_ble_eq_true rfl))
def w_X11_appeal (st : zTs) (a1 : Int32) (X : Nat → zTs → Prop) (P : Int32 → zTs → Prop) : Prop := w_X11_workAt st a1 X (fun (r2 : Nat) (s2 : zTs) => (w_X10_mayBeAppealed s2 r2 (fun (r7 : Int32) => ((r7 = 0 → P (-1) s2) ∧ (¬ r7 = 0 → w_X10_appealBy s2 r2 (fun (r20 : Int32) => (((zgF s2 10 0 15) ≤ r20 → w_X10_undoAward s2 r2 (zgF s2 10 0 15) (fun (s34 : zTs) => (P 1 s34))) ∧ (¬ (zgF s2 10 0 15) ≤ r20 → P (-2) s2))))))))
set_option maxHeartbeats 4000000 in
set_option maxRecDepth 100000 in
theorem c_X11_appeal {Z : zZ} {l : Launch} (hfl : l.stackTraces = false) {st : zTs} {a1 : Int32} {X : Nat → zTs → Prop} {P : Int32 → zTs → Prop} (h : w_X11_appeal st a1 X P) : zM Z l yX11_appeal cX11_appeal 3 (some .int) ({ frames := 9, cells := 1, slots := 6, locals := 122 } : Room) (zh Z zm1 st) [.ref 10, .int (a1)] (zWi Z P) (zXs Z X) := by
  unfold w_X11_appeal at h
  refine z_enterM (by decide) (Nat.le_of_ble_eq_true rfl) (lc0 := [some (.ref 10), some (.int (a1)), none]) rfl ?_
  intro p e s m args below meth c ad0 C hr hex
  replace C : zC Z p s m args meth c cX11_appeal 3 RX11 := C
  refine z_aload_n C dX11_appeal_0 (i := 0) rfl rfl ?_
  refine z_iload_n C dX11_appeal_1 (i := 1) rfl rfl ?_
  refine t_callVM C hex (rest := []) (c2 := 1) (s2 := 6) (kd := 10) (i := 0) [.int (a1)] dX11_appeal_2 lk_X11_160 li_X11_workAt le_X11_workAt (c_X11_workAt hfl h) rfl rfl (by decide) rfl ⟨_, rfl⟩ rfl ⟨Nat.le_of_ble_eq_true rfl, Nat.le_of_ble_eq_true rfl⟩ (Nat.le_of_ble_eq_true rfl) ⟨Nat.le_of_ble_eq_true rfl, Nat.le_of_ble_eq_true rfl, Nat.le_of_ble_eq_true rfl, Nat.le_of_ble_eq_true rfl⟩ (fun _ _ q => q) ⟨Nat.le_of_ble_eq_true rfl, Nat.le_of_ble_eq_true rfl⟩ (k_Wr fun r2 s2 h => ?_)
  refine z_astore_n C dX11_appeal_5 (i := 2) (lc' := [some (.ref 10), some (.int (a1)), some (.ref (21 + 256 * r2))]) rfl (by decide) rfl ?_
  refine z_aload_n C dX11_appeal_6 (i := 2) rfl rfl ?_
  refine t_callV C (rest := []) (c2 := 1) (s2 := 6) (kd := 21) (i := r2) [] dX11_appeal_7 lk_X11_197 li_X10_mayBeAppealed le_X10_mayBeAppealed (c_X10_mayBeAppealed hfl h) rfl rfl (by decide) rfl ⟨_, rfl⟩ rfl ⟨Nat.le_of_ble_eq_true rfl, Nat.le_of_ble_eq_true rfl⟩ (Nat.le_of_ble_eq_true rfl) ⟨Nat.le_of_ble_eq_true rfl, Nat.le_of_ble_eq_true rfl, Nat.le_of_ble_eq_true rfl, Nat.le_of_ble_eq_true rfl⟩ (k_Ri fun r7 h => ?_)
  refine z_if_ne C dX11_appeal_10 (tgt := 15) (by decide) (fun c10 => ?_) (fun c10 => ?_)
  · have h := h.2 c10
    refine z_aload_n C dX11_appeal_15 (i := 0) rfl rfl ?_
    refine t_get C dX11_appeal_16 fl_X11_111 (k := 10) (i := 0) (by decide) rfl (fg_10_15 _ _ _) ?_
    refine z_aload_n C dX11_appeal_19 (i := 2) rfl rfl ?_
    refine t_callV C (rest := [.int (zgF s2 10 0 15)]) (c2 := 1) (s2 := 6) (kd := 21) (i := r2) [] dX11_appeal_20 lk_X11_200 li_X10_appealBy le_X10_appealBy (c_X10_appealBy hfl h) rfl rfl (by decide) rfl ⟨_, rfl⟩ rfl ⟨Nat.le_of_ble_eq_true rfl, Nat.le_of_ble_eq_true rfl⟩ (Nat.le_of_ble_eq_true rfl) ⟨Nat.le_of_ble_eq_true rfl, Nat.le_of_ble_eq_true rfl, Nat.le_of_ble_eq_true rfl, Nat.le_of_ble_eq_true rfl⟩ (k_Ri fun r20 h => ?_)
    refine z_icmp_le C dX11_appeal_23 (tgt := 29) (by decide) (fun c23 => ?_) (fun c23 => ?_)
    · have h := h.1 c23
      refine z_aload_n C dX11_appeal_29 (i := 2) rfl rfl ?_
      refine z_aload_n C dX11_appeal_30 (i := 0) rfl rfl ?_
      refine t_get C dX11_appeal_31 fl_X11_111 (k := 10) (i := 0) (by decide) rfl (fg_10_15 _ _ _) ?_
      refine t_callV C (rest := []) (c2 := 1) (s2 := 6) (kd := 21) (i := r2) [.int (zgF s2 10 0 15)] dX11_appeal_34 lk_X11_245 li_X10_undoAward le_X10_undoAward (c_X10_undoAward hfl h) rfl rfl (by decide) rfl ⟨_, rfl⟩ rfl ⟨Nat.le_of_ble_eq_true rfl, Nat.le_of_ble_eq_true rfl⟩ (Nat.le_of_ble_eq_true rfl) ⟨Nat.le_of_ble_eq_true rfl, Nat.le_of_ble_eq_true rfl, Nat.le_of_ble_eq_true rfl, Nat.le_of_ble_eq_true rfl⟩ (k_Wv fun s34 h => ?_)
      refine z_iconst C dX11_appeal_37 (v := 1) (by decide) ?_
      exact zG.up (z_iret C dX11_appeal_38 hr rfl ⟨_, _, rfl, rfl, h⟩ (Nat.le_of_ble_eq_true rfl) (Nat.le_of_ble_eq_true rfl))
    · have h := h.2 c23
      refine z_bipush C dX11_appeal_26 (v := (-2)) (by decide) ?_
      exact zG.up (z_iret C dX11_appeal_28 hr rfl ⟨_, _, rfl, rfl, h⟩ (Nat.le_of_ble_eq_true rfl) (Nat.le_of_ble_eq_true rfl))
  · have h := h.1 c10
    refine z_iconst C dX11_appeal_13 (v := (-1)) (by decide) ?_
    exact zG.up (z_iret C dX11_appeal_14 hr rfl ⟨_, _, rfl, rfl, h⟩ (Nat.le_of_ble_eq_true rfl) (Nat.le_of_ble_eq_true rfl))
def w_X11_begin (st : zTs) (a1 : Int32) (X : Nat → zTs → Prop) (P : Int32 → zTs → Prop) : Prop := w_X11_workAt st a1 X (fun (r2 : Nat) (s2 : zTs) => (((zgF s2 21 r2 4) = 5 → P (-1) s2) ∧ (¬ (zgF s2 21 r2 4) = 5 → ((zgF s2 21 r2 4) = 6 → P (-1) s2) ∧ (¬ (zgF s2 21 r2 4) = 6 → ((zgF s2 21 r2 4) = 7 → P (-1) s2) ∧ (¬ (zgF s2 21 r2 4) = 7 → w_X10_beginOn s2 r2 (zgF s2 10 0 15) (fun (s39 : zTs) => (((zgF s39 21 r2 4) = 5 → P 1 s39) ∧ (¬ (zgF s39 21 r2 4) = 5 → P 0 s39))))))))
set_option maxHeartbeats 4000000 in
set_option maxRecDepth 100000 in
theorem c_X11_begin {Z : zZ} {l : Launch} (hfl : l.stackTraces = false) {st : zTs} {a1 : Int32} {X : Nat → zTs → Prop} {P : Int32 → zTs → Prop} (h : w_X11_begin st a1 X P) : zM Z l yX11_begin cX11_begin 3 (some .int) ({ frames := 9, cells := 1, slots := 6, locals := 122 } : Room) (zh Z zm1 st) [.ref 10, .int (a1)] (zWi Z P) (zXs Z X) := by
  unfold w_X11_begin at h
  refine z_enterM (by decide) (Nat.le_of_ble_eq_true rfl) (lc0 := [some (.ref 10), some (.int (a1)), none]) rfl ?_
  intro p e s m args below meth c ad0 C hr hex
  replace C : zC Z p s m args meth c cX11_begin 3 RX11 := C
  refine z_aload_n C dX11_begin_0 (i := 0) rfl rfl ?_
  refine z_iload_n C dX11_begin_1 (i := 1) rfl rfl ?_
  refine t_callVM C hex (rest := []) (c2 := 1) (s2 := 6) (kd := 10) (i := 0) [.int (a1)] dX11_begin_2 lk_X11_160 li_X11_workAt le_X11_workAt (c_X11_workAt hfl h) rfl rfl (by decide) rfl ⟨_, rfl⟩ rfl ⟨Nat.le_of_ble_eq_true rfl, Nat.le_of_ble_eq_true rfl⟩ (Nat.le_of_ble_eq_true rfl) ⟨Nat.le_of_ble_eq_true rfl, Nat.le_of_ble_eq_true rfl, Nat.le_of_ble_eq_true rfl, Nat.le_of_ble_eq_true rfl⟩ (fun _ _ q => q) ⟨Nat.le_of_ble_eq_true rfl, Nat.le_of_ble_eq_true rfl⟩ (k_Wr fun r2 s2 h => ?_)
  refine z_astore_n C dX11_begin_5 (i := 2) (lc' := [some (.ref 10), some (.int (a1)), some (.ref (21 + 256 * r2))]) rfl (by decide) rfl ?_
  refine z_aload_n C dX11_begin_6 (i := 2) rfl rfl ?_
  refine t_get C dX11_begin_7 fl_X11_164 (k := 21) (i := r2) (by decide) rfl (fg_21_4 _ _ _) ?_
  refine z_iconst C dX11_begin_10 (v := 5) (by decide) ?_
  refine z_icmp_eq C dX11_begin_11 (tgt := 32) (by decide) (fun c11 => ?_) (fun c11 => ?_)
  · have h := h.1 c11
    refine z_iconst C dX11_begin_32 (v := (-1)) (by decide) ?_
    exact zG.up (z_iret C dX11_begin_33 hr rfl ⟨_, _, rfl, rfl, h⟩ (Nat.le_of_ble_eq_true rfl) (Nat.le_of_ble_eq_true rfl))
  · have h := h.2 c11
    refine z_aload_n C dX11_begin_14 (i := 2) rfl rfl ?_
    refine t_get C dX11_begin_15 fl_X11_164 (k := 21) (i := r2) (by decide) rfl (fg_21_4 _ _ _) ?_
    refine z_bipush C dX11_begin_18 (v := 6) (by decide) ?_
    refine z_icmp_eq C dX11_begin_20 (tgt := 32) (by decide) (fun c20 => ?_) (fun c20 => ?_)
    · have h := h.1 c20
      refine z_iconst C dX11_begin_32 (v := (-1)) (by decide) ?_
      exact zG.up (z_iret C dX11_begin_33 hr rfl ⟨_, _, rfl, rfl, h⟩ (Nat.le_of_ble_eq_true rfl) (Nat.le_of_ble_eq_true rfl))
    · have h := h.2 c20
      refine z_aload_n C dX11_begin_23 (i := 2) rfl rfl ?_
      refine t_get C dX11_begin_24 fl_X11_164 (k := 21) (i := r2) (by decide) rfl (fg_21_4 _ _ _) ?_
      refine z_bipush C dX11_begin_27 (v := 7) (by decide) ?_
      refine z_icmp_ne C dX11_begin_29 (tgt := 34) (by decide) (fun c29 => ?_) (fun c29 => ?_)
      · have h := h.2 c29
        refine z_aload_n C dX11_begin_34 (i := 2) rfl rfl ?_
        refine z_aload_n C dX11_begin_35 (i := 0) rfl rfl ?_
        refine t_get C dX11_begin_36 fl_X11_111 (k := 10) (i := 0) (by decide) rfl (fg_10_15 _ _ _) ?_
        refine t_callV C (rest := []) (c2 := 1) (s2 := 6) (kd := 21) (i := r2) [.int (zgF s2 10 0 15)] dX11_begin_39 lk_X11_248 li_X10_beginOn le_X10_beginOn (c_X10_beginOn hfl h) rfl rfl (by decide) rfl ⟨_, rfl⟩ rfl ⟨Nat.le_of_ble_eq_true rfl, Nat.le_of_ble_eq_true rfl⟩ (Nat.le_of_ble_eq_true rfl) ⟨Nat.le_of_ble_eq_true rfl, Nat.le_of_ble_eq_true rfl, Nat.le_of_ble_eq_true rfl, Nat.le_of_ble_eq_true rfl⟩ (k_Wv fun s39 h => ?_)
        refine z_aload_n C dX11_begin_42 (i := 2) rfl rfl ?_
        refine t_get C dX11_begin_43 fl_X11_164 (k := 21) (i := r2) (by decide) rfl (fg_21_4 _ _ _) ?_
        refine z_iconst C dX11_begin_46 (v := 5) (by decide) ?_
        refine z_icmp_ne C dX11_begin_47 (tgt := 54) (by decide) (fun c47 => ?_) (fun c47 => ?_)
        · have h := h.2 c47
          refine z_iconst C dX11_begin_54 (v := 0) (by decide) ?_
          exact zG.up (z_iret C dX11_begin_55 hr rfl ⟨_, _, rfl, rfl, h⟩ (Nat.le_of_ble_eq_true rfl) (Nat.le_of_ble_eq_true rfl))
        · have h := h.1 c47
          refine z_iconst C dX11_begin_50 (v := 1) (by decide) ?_
          refine z_goto C dX11_begin_51 (tgt := 55) (by decide) ?_
          exact zG.up (z_iret C dX11_begin_55 hr rfl ⟨_, _, rfl, rfl, h⟩ (Nat.le_of_ble_eq_true rfl) (Nat.le_of_ble_eq_true rfl))
      · have h := h.1 c29
        refine z_iconst C dX11_begin_32 (v := (-1)) (by decide) ?_
        exact zG.up (z_iret C dX11_begin_33 hr rfl ⟨_, _, rfl, rfl, h⟩ (Nat.le_of_ble_eq_true rfl) (Nat.le_of_ble_eq_true rfl))
def w_X11_done (st : zTs) (a1 : Int32) (X : Nat → zTs → Prop) (P : Int32 → zTs → Prop) : Prop := w_X11_workAt st a1 X (fun (r2 : Nat) (s2 : zTs) => (((zgF s2 21 r2 4) = 5 → ∀ s19 : zTs, s19 = zuF s2 21 r2 4 7 → (P 1 s19)) ∧ (¬ (zgF s2 21 r2 4) = 5 → P (-1) s2)))
set_option maxHeartbeats 4000000 in
set_option maxRecDepth 100000 in
theorem c_X11_done {Z : zZ} {l : Launch} (hfl : l.stackTraces = false) {st : zTs} {a1 : Int32} {X : Nat → zTs → Prop} {P : Int32 → zTs → Prop} (h : w_X11_done st a1 X P) : zM Z l yX11_done cX11_done 3 (some .int) ({ frames := 9, cells := 1, slots := 6, locals := 122 } : Room) (zh Z zm1 st) [.ref 10, .int (a1)] (zWi Z P) (zXs Z X) := by
  unfold w_X11_done at h
  refine z_enterM (by decide) (Nat.le_of_ble_eq_true rfl) (lc0 := [some (.ref 10), some (.int (a1)), none]) rfl ?_
  intro p e s m args below meth c ad0 C hr hex
  replace C : zC Z p s m args meth c cX11_done 3 RX11 := C
  refine z_aload_n C dX11_done_0 (i := 0) rfl rfl ?_
  refine z_iload_n C dX11_done_1 (i := 1) rfl rfl ?_
  refine t_callVM C hex (rest := []) (c2 := 1) (s2 := 6) (kd := 10) (i := 0) [.int (a1)] dX11_done_2 lk_X11_160 li_X11_workAt le_X11_workAt (c_X11_workAt hfl h) rfl rfl (by decide) rfl ⟨_, rfl⟩ rfl ⟨Nat.le_of_ble_eq_true rfl, Nat.le_of_ble_eq_true rfl⟩ (Nat.le_of_ble_eq_true rfl) ⟨Nat.le_of_ble_eq_true rfl, Nat.le_of_ble_eq_true rfl, Nat.le_of_ble_eq_true rfl, Nat.le_of_ble_eq_true rfl⟩ (fun _ _ q => q) ⟨Nat.le_of_ble_eq_true rfl, Nat.le_of_ble_eq_true rfl⟩ (k_Wr fun r2 s2 h => ?_)
  refine z_astore_n C dX11_done_5 (i := 2) (lc' := [some (.ref 10), some (.int (a1)), some (.ref (21 + 256 * r2))]) rfl (by decide) rfl ?_
  refine z_aload_n C dX11_done_6 (i := 2) rfl rfl ?_
  refine t_get C dX11_done_7 fl_X11_164 (k := 21) (i := r2) (by decide) rfl (fg_21_4 _ _ _) ?_
  refine z_iconst C dX11_done_10 (v := 5) (by decide) ?_
  refine z_icmp_eq C dX11_done_11 (tgt := 16) (by decide) (fun c11 => ?_) (fun c11 => ?_)
  · have h := h.1 c11
    refine z_aload_n C dX11_done_16 (i := 2) rfl rfl ?_
    refine z_bipush C dX11_done_17 (v := 7) (by decide) ?_
    refine t_put C dX11_done_19 fq_X11_164 (Or.inl rfl) (k := 21) (i := r2) (by decide) rfl ⟨rfl, rfl⟩ (fp_21_4 _ _ _ _ _) ?_
    refine t_tops (fun s19 es19 => ?_)
    have h := h s19 es19
    refine z_iconst C dX11_done_22 (v := 1) (by decide) ?_
    exact zG.up (z_iret C dX11_done_23 hr rfl ⟨_, _, rfl, rfl, h⟩ (Nat.le_of_ble_eq_true rfl) (Nat.le_of_ble_eq_true rfl))
  · have h := h.2 c11
    refine z_iconst C dX11_done_14 (v := (-1)) (by decide) ?_
    exact zG.up (z_iret C dX11_done_15 hr rfl ⟨_, _, rfl, rfl, h⟩ (Nat.le_of_ble_eq_true rfl) (Nat.le_of_ble_eq_true rfl))
def w_X11_enter (st : zTs) (a1 : Int32) (a2 : Int32) (X : Nat → zTs → Prop) (P : Int32 → zTs → Prop) : Prop := w_X11_workAt st a1 X (fun (r2 : Nat) (s2 : zTs) => (w_X11_checkRange s2 a2 0 23 (fun k9 => X k9 s2) ((((zgF s2 21 r2 4) = 5 → w_X10_mayBeEntered s2 r2 (zgF s2 10 0 15) a2 (fun (r29 : Int32) => ((r29 = 0 → w_X1_isFull s2 (fun (r51 : Int32) => ((r51 = 0 → ∀ s67 : zTs, s67 = zuF s2 21 r2 15 ((zgF s2 21 r2 15) + 1) → (w_X10_ownerThere s67 r2 (fun (r75 : Int32) => (w_X10_neighbour s67 r2 (fun (r79 : Int32) => (w_X1_write s67 r75 r79 10 (zgF s67 10 0 15) (fun (s88 : zTs) => (P 0 s88)))))))) ∧ (¬ r51 = 0 → P (-2) s2)))) ∧ (¬ r29 = 0 → ∀ s42 : zTs, s42 = zuF s2 21 r2 14 ((zgF s2 21 r2 14) + 1) → (P 1 s42))))) ∧ (¬ (zgF s2 21 r2 4) = 5 → P (-1) s2)))))
set_option maxHeartbeats 4000000 in
set_option maxRecDepth 100000 in
theorem c_X11_enter {Z : zZ} {l : Launch} (hfl : l.stackTraces = false) {st : zTs} {a1 : Int32} {a2 : Int32} {X : Nat → zTs → Prop} {P : Int32 → zTs → Prop} (h : w_X11_enter st a1 a2 X P) : zM Z l yX11_enter cX11_enter 4 (some .int) ({ frames := 9, cells := 2, slots := 12, locals := 122 } : Room) (zh Z zm1 st) [.ref 10, .int (a1), .int (a2)] (zWi Z P) (zXs Z X) := by
  unfold w_X11_enter at h
  refine z_enterM (by decide) (Nat.le_of_ble_eq_true rfl) (lc0 := [some (.ref 10), some (.int (a1)), some (.int (a2)), none]) rfl ?_
  intro p e s m args below meth c ad0 C hr hex
  replace C : zC Z p s m args meth c cX11_enter 4 RX11 := C
  refine z_aload_n C dX11_enter_0 (i := 0) rfl rfl ?_
  refine z_iload_n C dX11_enter_1 (i := 1) rfl rfl ?_
  refine t_callVM C hex (rest := []) (c2 := 1) (s2 := 6) (kd := 10) (i := 0) [.int (a1)] dX11_enter_2 lk_X11_160 li_X11_workAt le_X11_workAt (c_X11_workAt hfl h) rfl rfl (by decide) rfl ⟨_, rfl⟩ rfl ⟨Nat.le_of_ble_eq_true rfl, Nat.le_of_ble_eq_true rfl⟩ (Nat.le_of_ble_eq_true rfl) ⟨Nat.le_of_ble_eq_true rfl, Nat.le_of_ble_eq_true rfl, Nat.le_of_ble_eq_true rfl, Nat.le_of_ble_eq_true rfl⟩ (fun _ _ q => q) ⟨Nat.le_of_ble_eq_true rfl, Nat.le_of_ble_eq_true rfl⟩ (k_Wr fun r2 s2 h => ?_)
  refine z_astore_n C dX11_enter_5 (i := 3) (lc' := [some (.ref 10), some (.int (a1)), some (.int (a2)), some (.ref (21 + 256 * r2))]) rfl (by decide) rfl ?_
  refine z_iload_n C dX11_enter_6 (i := 2) rfl rfl ?_
  refine z_iconst C dX11_enter_7 (v := 0) (by decide) ?_
  refine z_bipush C dX11_enter_8 (v := 23) (by decide) ?_
  refine t_callSM C hex (rest := []) (c2 := 2) (s2 := 12) [.int (a2), .int (0), .int (23)] dX11_enter_10 lk_X11_107 ls_X11_checkRange (c_X11_checkRange hfl h) rfl rfl ⟨Nat.le_of_ble_eq_true rfl, Nat.le_of_ble_eq_true rfl⟩ (Nat.le_of_ble_eq_true rfl) ⟨Nat.le_of_ble_eq_true rfl, Nat.le_of_ble_eq_true rfl, Nat.le_of_ble_eq_true rfl, Nat.le_of_ble_eq_true rfl⟩ (fun _ _ q => ⟨_, q.1, q.2⟩) ⟨Nat.le_of_ble_eq_true rfl, Nat.le_of_ble_eq_true rfl⟩ (k_Rv fun h => ?_)
  refine z_aload_n C dX11_enter_13 (i := 3) rfl rfl ?_
  refine t_get C dX11_enter_14 fl_X11_164 (k := 21) (i := r2) (by decide) rfl (fg_21_4 _ _ _) ?_
  refine z_iconst C dX11_enter_17 (v := 5) (by decide) ?_
  refine z_icmp_eq C dX11_enter_18 (tgt := 23) (by decide) (fun c18 => ?_) (fun c18 => ?_)
  · have h := h.1 c18
    refine z_aload_n C dX11_enter_23 (i := 3) rfl rfl ?_
    refine z_aload_n C dX11_enter_24 (i := 0) rfl rfl ?_
    refine t_get C dX11_enter_25 fl_X11_111 (k := 10) (i := 0) (by decide) rfl (fg_10_15 _ _ _) ?_
    refine z_iload_n C dX11_enter_28 (i := 2) rfl rfl ?_
    refine t_callV C (rest := []) (c2 := 2) (s2 := 12) (kd := 21) (i := r2) [.int (zgF s2 10 0 15), .int (a2)] dX11_enter_29 lk_X11_251 li_X10_mayBeEntered le_X10_mayBeEntered (c_X10_mayBeEntered hfl h) rfl rfl (by decide) rfl ⟨_, rfl⟩ rfl ⟨Nat.le_of_ble_eq_true rfl, Nat.le_of_ble_eq_true rfl⟩ (Nat.le_of_ble_eq_true rfl) ⟨Nat.le_of_ble_eq_true rfl, Nat.le_of_ble_eq_true rfl, Nat.le_of_ble_eq_true rfl, Nat.le_of_ble_eq_true rfl⟩ (k_Ri fun r29 h => ?_)
    refine z_if_eq C dX11_enter_32 (tgt := 47) (by decide) (fun c32 => ?_) (fun c32 => ?_)
    · have h := h.1 c32
      refine z_aload_n C dX11_enter_47 (i := 0) rfl rfl ?_
      refine t_get C dX11_enter_48 fl_X11_38 (k := 10) (i := 0) (by decide) rfl (fg_10_7 _ _ _) ?_
      refine t_callV C (rest := []) (c2 := 2) (s2 := 12) (kd := 11) (i := 0) [] dX11_enter_51 lk_X11_258 li_X1_isFull le_X1_isFull (c_X1_isFull hfl h) rfl rfl (by decide) rfl ⟨_, rfl⟩ rfl ⟨Nat.le_of_ble_eq_true rfl, Nat.le_of_ble_eq_true rfl⟩ (Nat.le_of_ble_eq_true rfl) ⟨Nat.le_of_ble_eq_true rfl, Nat.le_of_ble_eq_true rfl, Nat.le_of_ble_eq_true rfl, Nat.le_of_ble_eq_true rfl⟩ (k_Ri fun r51 h => ?_)
      refine z_if_eq C dX11_enter_54 (tgt := 60) (by decide) (fun c54 => ?_) (fun c54 => ?_)
      · have h := h.1 c54
        refine z_aload_n C dX11_enter_60 (i := 3) rfl rfl ?_
        refine z_dup C dX11_enter_61 rfl ?_
        refine t_get C dX11_enter_62 fl_X11_261 (k := 21) (i := r2) (by decide) rfl (fg_21_15 _ _ _) ?_
        refine z_iconst C dX11_enter_65 (v := 1) (by decide) ?_
        refine z_iadd C dX11_enter_66 ?_
        refine t_put C dX11_enter_67 fq_X11_261 (Or.inl rfl) (k := 21) (i := r2) (by decide) rfl ⟨rfl, rfl⟩ (fp_21_15 _ _ _ _ _) ?_
        refine t_tops (fun s67 es67 => ?_)
        have h := h s67 es67
        refine z_aload_n C dX11_enter_70 (i := 0) rfl rfl ?_
        refine t_get C dX11_enter_71 fl_X11_38 (k := 10) (i := 0) (by decide) rfl (fg_10_7 _ _ _) ?_
        refine z_aload_n C dX11_enter_74 (i := 3) rfl rfl ?_
        refine t_callV C (rest := [.ref 11]) (c2 := 2) (s2 := 12) (kd := 21) (i := r2) [] dX11_enter_75 lk_X11_264 li_X10_ownerThere le_X10_ownerThere (c_X10_ownerThere hfl h) rfl rfl (by decide) rfl ⟨_, rfl⟩ rfl ⟨Nat.le_of_ble_eq_true rfl, Nat.le_of_ble_eq_true rfl⟩ (Nat.le_of_ble_eq_true rfl) ⟨Nat.le_of_ble_eq_true rfl, Nat.le_of_ble_eq_true rfl, Nat.le_of_ble_eq_true rfl, Nat.le_of_ble_eq_true rfl⟩ (k_Ri fun r75 h => ?_)
        refine z_aload_n C dX11_enter_78 (i := 3) rfl rfl ?_
        refine t_callV C (rest := [.int (r75), .ref 11]) (c2 := 2) (s2 := 12) (kd := 21) (i := r2) [] dX11_enter_79 lk_X11_267 li_X10_neighbour le_X10_neighbour (c_X10_neighbour hfl h) rfl rfl (by decide) rfl ⟨_, rfl⟩ rfl ⟨Nat.le_of_ble_eq_true rfl, Nat.le_of_ble_eq_true rfl⟩ (Nat.le_of_ble_eq_true rfl) ⟨Nat.le_of_ble_eq_true rfl, Nat.le_of_ble_eq_true rfl, Nat.le_of_ble_eq_true rfl, Nat.le_of_ble_eq_true rfl⟩ (k_Ri fun r79 h => ?_)
        refine z_bipush C dX11_enter_82 (v := 10) (by decide) ?_
        refine z_aload_n C dX11_enter_84 (i := 0) rfl rfl ?_
        refine t_get C dX11_enter_85 fl_X11_111 (k := 10) (i := 0) (by decide) rfl (fg_10_15 _ _ _) ?_
        refine t_callV C (rest := []) (c2 := 2) (s2 := 12) (kd := 11) (i := 0) [.int (r75), .int (r79), .int (10), .int (zgF s67 10 0 15)] dX11_enter_88 lk_X11_270 li_X1_write le_X1_write (c_X1_write hfl h) rfl rfl (by decide) rfl ⟨_, rfl⟩ rfl ⟨Nat.le_of_ble_eq_true rfl, Nat.le_of_ble_eq_true rfl⟩ (Nat.le_of_ble_eq_true rfl) ⟨Nat.le_of_ble_eq_true rfl, Nat.le_of_ble_eq_true rfl, Nat.le_of_ble_eq_true rfl, Nat.le_of_ble_eq_true rfl⟩ (k_Wv fun s88 h => ?_)
        refine z_iconst C dX11_enter_91 (v := 0) (by decide) ?_
        exact zG.up (z_iret C dX11_enter_92 hr rfl ⟨_, _, rfl, rfl, h⟩ (Nat.le_of_ble_eq_true rfl) (Nat.le_of_ble_eq_true rfl))
      · have h := h.2 c54
        refine z_bipush C dX11_enter_57 (v := (-2)) (by decide) ?_
        exact zG.up (z_iret C dX11_enter_59 hr rfl ⟨_, _, rfl, rfl, h⟩ (Nat.le_of_ble_eq_true rfl) (Nat.le_of_ble_eq_true rfl))
    · have h := h.2 c32
      refine z_aload_n C dX11_enter_35 (i := 3) rfl rfl ?_
      refine z_dup C dX11_enter_36 rfl ?_
      refine t_get C dX11_enter_37 fl_X11_255 (k := 21) (i := r2) (by decide) rfl (fg_21_14 _ _ _) ?_
      refine z_iconst C dX11_enter_40 (v := 1) (by decide) ?_
      refine z_iadd C dX11_enter_41 ?_
      refine t_put C dX11_enter_42 fq_X11_255 (Or.inl rfl) (k := 21) (i := r2) (by decide) rfl ⟨rfl, rfl⟩ (fp_21_14 _ _ _ _ _) ?_
      refine t_tops (fun s42 es42 => ?_)
      have h := h s42 es42
      refine z_iconst C dX11_enter_45 (v := 1) (by decide) ?_
      exact zG.up (z_iret C dX11_enter_46 hr rfl ⟨_, _, rfl, rfl, h⟩ (Nat.le_of_ble_eq_true rfl) (Nat.le_of_ble_eq_true rfl))
  · have h := h.2 c18
    refine z_iconst C dX11_enter_21 (v := (-1)) (by decide) ?_
    exact zG.up (z_iret C dX11_enter_22 hr rfl ⟨_, _, rfl, rfl, h⟩ (Nat.le_of_ble_eq_true rfl) (Nat.le_of_ble_eq_true rfl))
def w_X11_entries (st : zTs) (a1 : Int32) (a2 : Int32) (X : Nat → zTs → Prop) (P : Int32 → zTs → Prop) : Prop := w_X11_workAt st a1 X (fun (r2 : Nat) (s2 : zTs) => (w_X11_checkRange s2 a2 0 1 (fun k9 => X k9 s2) (((a2 = 0 → P (zgF s2 21 r2 14) s2) ∧ (¬ a2 = 0 → P (zgF s2 21 r2 15) s2)))))
set_option maxHeartbeats 4000000 in
set_option maxRecDepth 100000 in
theorem c_X11_entries {Z : zZ} {l : Launch} (hfl : l.stackTraces = false) {st : zTs} {a1 : Int32} {a2 : Int32} {X : Nat → zTs → Prop} {P : Int32 → zTs → Prop} (h : w_X11_entries st a1 a2 X P) : zM Z l yX11_entries cX11_entries 4 (some .int) ({ frames := 9, cells := 2, slots := 12, locals := 122 } : Room) (zh Z zm1 st) [.ref 10, .int (a1), .int (a2)] (zWi Z P) (zXs Z X) := by
  unfold w_X11_entries at h
  refine z_enterM (by decide) (Nat.le_of_ble_eq_true rfl) (lc0 := [some (.ref 10), some (.int (a1)), some (.int (a2)), none]) rfl ?_
  intro p e s m args below meth c ad0 C hr hex
  replace C : zC Z p s m args meth c cX11_entries 4 RX11 := C
  refine z_aload_n C dX11_entries_0 (i := 0) rfl rfl ?_
  refine z_iload_n C dX11_entries_1 (i := 1) rfl rfl ?_
  refine t_callVM C hex (rest := []) (c2 := 1) (s2 := 6) (kd := 10) (i := 0) [.int (a1)] dX11_entries_2 lk_X11_160 li_X11_workAt le_X11_workAt (c_X11_workAt hfl h) rfl rfl (by decide) rfl ⟨_, rfl⟩ rfl ⟨Nat.le_of_ble_eq_true rfl, Nat.le_of_ble_eq_true rfl⟩ (Nat.le_of_ble_eq_true rfl) ⟨Nat.le_of_ble_eq_true rfl, Nat.le_of_ble_eq_true rfl, Nat.le_of_ble_eq_true rfl, Nat.le_of_ble_eq_true rfl⟩ (fun _ _ q => q) ⟨Nat.le_of_ble_eq_true rfl, Nat.le_of_ble_eq_true rfl⟩ (k_Wr fun r2 s2 h => ?_)
  refine z_astore_n C dX11_entries_5 (i := 3) (lc' := [some (.ref 10), some (.int (a1)), some (.int (a2)), some (.ref (21 + 256 * r2))]) rfl (by decide) rfl ?_
  refine z_iload_n C dX11_entries_6 (i := 2) rfl rfl ?_
  refine z_iconst C dX11_entries_7 (v := 0) (by decide) ?_
  refine z_iconst C dX11_entries_8 (v := 1) (by decide) ?_
  refine t_callSM C hex (rest := []) (c2 := 2) (s2 := 12) [.int (a2), .int (0), .int (1)] dX11_entries_9 lk_X11_107 ls_X11_checkRange (c_X11_checkRange hfl h) rfl rfl ⟨Nat.le_of_ble_eq_true rfl, Nat.le_of_ble_eq_true rfl⟩ (Nat.le_of_ble_eq_true rfl) ⟨Nat.le_of_ble_eq_true rfl, Nat.le_of_ble_eq_true rfl, Nat.le_of_ble_eq_true rfl, Nat.le_of_ble_eq_true rfl⟩ (fun _ _ q => ⟨_, q.1, q.2⟩) ⟨Nat.le_of_ble_eq_true rfl, Nat.le_of_ble_eq_true rfl⟩ (k_Rv fun h => ?_)
  refine z_iload_n C dX11_entries_12 (i := 2) rfl rfl ?_
  refine z_if_ne C dX11_entries_13 (tgt := 23) (by decide) (fun c13 => ?_) (fun c13 => ?_)
  · have h := h.2 c13
    refine z_aload_n C dX11_entries_23 (i := 3) rfl rfl ?_
    refine t_get C dX11_entries_24 fl_X11_261 (k := 21) (i := r2) (by decide) rfl (fg_21_15 _ _ _) ?_
    exact zG.up (z_iret C dX11_entries_27 hr rfl ⟨_, _, rfl, rfl, h⟩ (Nat.le_of_ble_eq_true rfl) (Nat.le_of_ble_eq_true rfl))
  · have h := h.1 c13
    refine z_aload_n C dX11_entries_16 (i := 3) rfl rfl ?_
    refine t_get C dX11_entries_17 fl_X11_255 (k := 21) (i := r2) (by decide) rfl (fg_21_14 _ _ _) ?_
    refine z_goto C dX11_entries_20 (tgt := 27) (by decide) ?_
    exact zG.up (z_iret C dX11_entries_27 hr rfl ⟨_, _, rfl, rfl, h⟩ (Nat.le_of_ble_eq_true rfl) (Nat.le_of_ble_eq_true rfl))
def w_X11_build_81 (P : Int32 → zTs → Prop) (X : Nat → zTs → Prop) (K72 : zTs → Int32 → Int32 → Int32 → Nat → Int32 → Prop) : Nat → zTs → Int32 → Int32 → Int32 → Nat → Int32 → Int32 → Prop
  | 0, _, _, _, _, _, _, _ => False
  | n9 + 1, st, a3, a4, a5, a6, a7, a8 => (a4 ≤ a8 → ∀ x115 : Int32, x115 = a7 + 1 → (K72 st a3 a4 a5 a6 x115)) ∧ (¬ a4 ≤ a8 → w_X8_addCell st (zgP st 21 a6 0) a7 (zgF st 21 a6 1) (zgF st 10 0 15) a5 (fun (s106 : zTs) => (∀ x109 : Int32, x109 = a8 + 1 → ((w_X11_build_81 P X K72 n9) s106 a3 a4 a5 a6 a7 x109))))
set_option maxHeartbeats 4000000 in
set_option maxRecDepth 100000 in
theorem j_X11_build_81 {P : Int32 → zTs → Prop} {X : Nat → zTs → Prop} {K72 : zTs → Int32 → Int32 → Int32 → Nat → Int32 → Prop} (hfl : l.stackTraces = false) (C : zC Z p s m args meth c cX11_build 9 RX11) (hr : meth.sig.returnType = (some .int)) (hex : ∀ x ∈ c.exceptionTable.toList, False) (hK72 : ∀ (st : zTs) (a3 : Int32) (a4 : Int32) (a5 : Int32) (a6 : Nat) (a7 : Int32), K72 st a3 a4 a5 a6 a7 → zG Z ad0 h0 p l e ({ frames := 10, cells := 5, slots := 30, locals := 143 } : Room) s m args below meth c (vx_MQ below (zQ Z ad0 h0 (zWi Z P)) (zX Z ad0 h0 (zXs Z X)) args s 5 30 (zA Z)) 5 30 (zh Z zm1 st) 9 72 [some (.ref 10), none, none, some (.int (a3)), some (.int (a4)), some (.int (a5)), some (.ref (21 + 256 * a6)), some (.int (a7)), none] []) : ∀ (n9 : Nat) (st : zTs) (a3 : Int32) (a4 : Int32) (a5 : Int32) (a6 : Nat) (a7 : Int32) (a8 : Int32), w_X11_build_81 P X K72 n9 st a3 a4 a5 a6 a7 a8 → zG Z ad0 h0 p l e ({ frames := 10, cells := 5, slots := 30, locals := 143 } : Room) s m args below meth c (vx_MQ below (zQ Z ad0 h0 (zWi Z P)) (zX Z ad0 h0 (zXs Z X)) args s 5 30 (zA Z)) 5 30 (zh Z zm1 st) 9 81 [some (.ref 10), none, none, some (.int (a3)), some (.int (a4)), some (.int (a5)), some (.ref (21 + 256 * a6)), some (.int (a7)), some (.int (a8))] [] := by
  intro n9
  induction n9 with
  | zero => intro st a3 a4 a5 a6 a7 a8 h; exact h.elim
  | succ n9 hK81 =>
    intro st a3 a4 a5 a6 a7 a8 h
    rw [w_X11_build_81] at h
    refine z_iload C dX11_build_81 rfl ?_
    refine z_iload C dX11_build_83 rfl ?_
    refine z_icmp_ge C dX11_build_85 (tgt := 115) (by decide) (fun c85 => ?_) (fun c85 => ?_)
    · have h := h.1 c85
      obtain ⟨x115, ex115⟩ : ∃ z : Int32, z = a7 + 1 := ⟨_, rfl⟩
      have h := h x115 ex115
      refine z_iinc C dX11_build_115 (v := x115) (lc' := [some (.ref 10), none, none, some (.int (a3)), some (.int (a4)), some (.int (a5)), some (.ref (21 + 256 * a6)), some (.int (x115)), some (.int (a8))]) rfl (by decide) (by rw [ex115]; rfl) rfl ?_
      refine z_goto C dX11_build_118 (tgt := 72) (by decide) ?_
      exact t_drop [true, false, false, true, true, true, true, true, false] rfl (hK72 st a3 a4 a5 a6 x115 h)
    · have h := h.2 c85
      refine z_aload C dX11_build_88 rfl ?_
      refine t_get C dX11_build_90 fl_X11_214 (k := 21) (i := a6) (by decide) rfl (fg_21_0 _ _ _) ?_
      refine z_iload C dX11_build_93 rfl ?_
      refine z_aload C dX11_build_95 rfl ?_
      refine t_get C dX11_build_97 fl_X11_284 (k := 21) (i := a6) (by decide) rfl (fg_21_1 _ _ _) ?_
      refine z_aload_n C dX11_build_100 (i := 0) rfl rfl ?_
      refine t_get C dX11_build_101 fl_X11_111 (k := 10) (i := 0) (by decide) rfl (fg_10_15 _ _ _) ?_
      refine z_iload C dX11_build_104 rfl ?_
      refine t_callV C (rest := []) (c2 := 5) (s2 := 30) (kd := 20) (i := zgP st 21 a6 0) [.int (a7), .int (zgF st 21 a6 1), .int (zgF st 10 0 15), .int (a5)] dX11_build_106 lk_X11_287 li_X8_addCell le_X8_addCell (c_X8_addCell hfl h) rfl rfl (by decide) rfl ⟨_, rfl⟩ rfl ⟨Nat.le_of_ble_eq_true rfl, Nat.le_of_ble_eq_true rfl⟩ (Nat.le_of_ble_eq_true rfl) ⟨Nat.le_of_ble_eq_true rfl, Nat.le_of_ble_eq_true rfl, Nat.le_of_ble_eq_true rfl, Nat.le_of_ble_eq_true rfl⟩ (k_Wv fun s106 h => ?_)
      obtain ⟨x109, ex109⟩ : ∃ z : Int32, z = a8 + 1 := ⟨_, rfl⟩
      have h := h x109 ex109
      refine z_iinc C dX11_build_109 (v := x109) (lc' := [some (.ref 10), none, none, some (.int (a3)), some (.int (a4)), some (.int (a5)), some (.ref (21 + 256 * a6)), some (.int (a7)), some (.int (x109))]) rfl (by decide) (by rw [ex109]; rfl) rfl ?_
      refine z_goto C dX11_build_112 (tgt := 81) (by decide) ?_
      exact t_drop [true, false, false, true, true, true, true, true, true] rfl (hK81 s106 a3 a4 a5 a6 a7 x109 h)
def w_X11_build_72 (P : Int32 → zTs → Prop) (X : Nat → zTs → Prop)  : Nat → zTs → Int32 → Int32 → Int32 → Nat → Int32 → Prop
  | 0, _, _, _, _, _, _ => False
  | n9 + 1, st, a3, a4, a5, a6, a7 => (a3 < a7 → w_X8_cellsInAll st (zgP st 21 a6 0) (fun (r126 : Int32) => (P r126 st))) ∧ (¬ a3 < a7 → w_X11_build_81 P X (w_X11_build_72 P X n9) zfu st a3 a4 a5 a6 a7 (0))
set_option maxHeartbeats 4000000 in
set_option maxRecDepth 100000 in
theorem j_X11_build_72 {P : Int32 → zTs → Prop} {X : Nat → zTs → Prop}  (hfl : l.stackTraces = false) (C : zC Z p s m args meth c cX11_build 9 RX11) (hr : meth.sig.returnType = (some .int)) (hex : ∀ x ∈ c.exceptionTable.toList, False)  : ∀ (n9 : Nat) (st : zTs) (a3 : Int32) (a4 : Int32) (a5 : Int32) (a6 : Nat) (a7 : Int32), w_X11_build_72 P X n9 st a3 a4 a5 a6 a7 → zG Z ad0 h0 p l e ({ frames := 10, cells := 5, slots := 30, locals := 143 } : Room) s m args below meth c (vx_MQ below (zQ Z ad0 h0 (zWi Z P)) (zX Z ad0 h0 (zXs Z X)) args s 5 30 (zA Z)) 5 30 (zh Z zm1 st) 9 72 [some (.ref 10), none, none, some (.int (a3)), some (.int (a4)), some (.int (a5)), some (.ref (21 + 256 * a6)), some (.int (a7)), none] [] := by
  intro n9
  induction n9 with
  | zero => intro st a3 a4 a5 a6 a7 h; exact h.elim
  | succ n9 hK72 =>
    intro st a3 a4 a5 a6 a7 h
    rw [w_X11_build_72] at h
    refine z_iload C dX11_build_72 rfl ?_
    refine z_iload_n C dX11_build_74 (i := 3) rfl rfl ?_
    refine z_icmp_gt C dX11_build_75 (tgt := 121) (by decide) (fun c75 => ?_) (fun c75 => ?_)
    · have h := h.1 c75
      refine z_aload C dX11_build_121 rfl ?_
      refine t_get C dX11_build_123 fl_X11_214 (k := 21) (i := a6) (by decide) rfl (fg_21_0 _ _ _) ?_
      refine t_callV C (rest := []) (c2 := 5) (s2 := 30) (kd := 20) (i := zgP st 21 a6 0) [] dX11_build_126 lk_X11_290 li_X8_cellsInAll le_X8_cellsInAll (c_X8_cellsInAll hfl h) rfl rfl (by decide) rfl ⟨_, rfl⟩ rfl ⟨Nat.le_of_ble_eq_true rfl, Nat.le_of_ble_eq_true rfl⟩ (Nat.le_of_ble_eq_true rfl) ⟨Nat.le_of_ble_eq_true rfl, Nat.le_of_ble_eq_true rfl, Nat.le_of_ble_eq_true rfl, Nat.le_of_ble_eq_true rfl⟩ (k_Ri fun r126 h => ?_)
      exact zG.up (z_iret C dX11_build_129 hr rfl ⟨_, _, rfl, rfl, h⟩ (Nat.le_of_ble_eq_true rfl) (Nat.le_of_ble_eq_true rfl))
    · have h := h.2 c75
      refine z_iconst C dX11_build_78 (v := 0) (by decide) ?_
      refine z_istore C dX11_build_79 (lc' := [some (.ref 10), none, none, some (.int (a3)), some (.int (a4)), some (.int (a5)), some (.ref (21 + 256 * a6)), some (.int (a7)), some (.int (0))]) (by decide) rfl ?_
      exact t_drop [true, false, false, true, true, true, true, true, true] rfl (j_X11_build_81 hfl C hr hex hK72 zfu st a3 a4 a5 a6 a7 (0) h)
def w_X11_build (st : zTs) (a1 : Int32) (a2 : Int32) (a3 : Int32) (a4 : Int32) (a5 : Int32) (X : Nat → zTs → Prop) (P : Int32 → zTs → Prop) : Prop := w_X11_workAt st a1 X (fun (r2 : Nat) (s2 : zTs) => (w_X11_checkSegments s2 a2 a3 (fun k9 => X k9 s2) ((w_X11_checkRange s2 a4 1 20 (fun k9 => X k9 s2) ((w_X11_checkRange s2 a5 0 100000 (fun k9 => X k9 s2) ((((zgF s2 21 r2 4) = 5 → ((zgF s2 21 r2 2) = 0 → w_X8_highest s2 (zgP s2 21 r2 0) a2 a3 (fun (r55 : Int32) => (((r55 + a4) ≤ 20 → w_X11_build_72 P X zfu s2 a3 a4 a5 r2 a2) ∧ (¬ (r55 + a4) ≤ 20 → P (-2) s2)))) ∧ (¬ (zgF s2 21 r2 2) = 0 → P (-1) s2)) ∧ (¬ (zgF s2 21 r2 4) = 5 → P (-1) s2)))))))))
set_option maxHeartbeats 4000000 in
set_option maxRecDepth 100000 in
theorem c_X11_build {Z : zZ} {l : Launch} (hfl : l.stackTraces = false) {st : zTs} {a1 : Int32} {a2 : Int32} {a3 : Int32} {a4 : Int32} {a5 : Int32} {X : Nat → zTs → Prop} {P : Int32 → zTs → Prop} (h : w_X11_build st a1 a2 a3 a4 a5 X P) : zM Z l yX11_build cX11_build 9 (some .int) ({ frames := 10, cells := 5, slots := 30, locals := 143 } : Room) (zh Z zm1 st) [.ref 10, .int (a1), .int (a2), .int (a3), .int (a4), .int (a5)] (zWi Z P) (zXs Z X) := by
  unfold w_X11_build at h
  refine z_enterM (by decide) (Nat.le_of_ble_eq_true rfl) (lc0 := [some (.ref 10), some (.int (a1)), some (.int (a2)), some (.int (a3)), some (.int (a4)), some (.int (a5)), none, none, none]) rfl ?_
  intro p e s m args below meth c ad0 C hr hex
  replace C : zC Z p s m args meth c cX11_build 9 RX11 := C
  refine z_aload_n C dX11_build_0 (i := 0) rfl rfl ?_
  refine z_iload_n C dX11_build_1 (i := 1) rfl rfl ?_
  refine t_callVM C hex (rest := []) (c2 := 1) (s2 := 6) (kd := 10) (i := 0) [.int (a1)] dX11_build_2 lk_X11_160 li_X11_workAt le_X11_workAt (c_X11_workAt hfl h) rfl rfl (by decide) rfl ⟨_, rfl⟩ rfl ⟨Nat.le_of_ble_eq_true rfl, Nat.le_of_ble_eq_true rfl⟩ (Nat.le_of_ble_eq_true rfl) ⟨Nat.le_of_ble_eq_true rfl, Nat.le_of_ble_eq_true rfl, Nat.le_of_ble_eq_true rfl, Nat.le_of_ble_eq_true rfl⟩ (fun _ _ q => q) ⟨Nat.le_of_ble_eq_true rfl, Nat.le_of_ble_eq_true rfl⟩ (k_Wr fun r2 s2 h => ?_)
  refine z_astore C dX11_build_5 (lc' := [some (.ref 10), some (.int (a1)), some (.int (a2)), some (.int (a3)), some (.int (a4)), some (.int (a5)), some (.ref (21 + 256 * r2)), none, none]) (by decide) rfl ?_
  refine z_iload_n C dX11_build_7 (i := 2) rfl rfl ?_
  refine z_iload_n C dX11_build_8 (i := 3) rfl rfl ?_
  refine t_callSM C hex (rest := []) (c2 := 3) (s2 := 18) [.int (a2), .int (a3)] dX11_build_9 lk_X11_274 ls_X11_checkSegments (c_X11_checkSegments hfl h) rfl rfl ⟨Nat.le_of_ble_eq_true rfl, Nat.le_of_ble_eq_true rfl⟩ (Nat.le_of_ble_eq_true rfl) ⟨Nat.le_of_ble_eq_true rfl, Nat.le_of_ble_eq_true rfl, Nat.le_of_ble_eq_true rfl, Nat.le_of_ble_eq_true rfl⟩ (fun _ _ q => ⟨_, q.1, q.2⟩) ⟨Nat.le_of_ble_eq_true rfl, Nat.le_of_ble_eq_true rfl⟩ (k_Rv fun h => ?_)
  refine z_iload C dX11_build_12 rfl ?_
  refine z_iconst C dX11_build_14 (v := 1) (by decide) ?_
  refine z_bipush C dX11_build_15 (v := 20) (by decide) ?_
  refine t_callSM C hex (rest := []) (c2 := 4) (s2 := 24) [.int (a4), .int (1), .int (20)] dX11_build_17 lk_X11_107 ls_X11_checkRange (c_X11_checkRange hfl h) rfl rfl ⟨Nat.le_of_ble_eq_true rfl, Nat.le_of_ble_eq_true rfl⟩ (Nat.le_of_ble_eq_true rfl) ⟨Nat.le_of_ble_eq_true rfl, Nat.le_of_ble_eq_true rfl, Nat.le_of_ble_eq_true rfl, Nat.le_of_ble_eq_true rfl⟩ (fun _ _ q => ⟨_, q.1, q.2⟩) ⟨Nat.le_of_ble_eq_true rfl, Nat.le_of_ble_eq_true rfl⟩ (k_Rv fun h => ?_)
  refine z_iload C dX11_build_20 rfl ?_
  refine z_iconst C dX11_build_22 (v := 0) (by decide) ?_
  refine z_ldc_w C dX11_build_23 kc_X11_277 ?_
  refine t_callSM C hex (rest := []) (c2 := 5) (s2 := 30) [.int (a5), .int (0), .int (100000)] dX11_build_26 lk_X11_107 ls_X11_checkRange (c_X11_checkRange hfl h) rfl rfl ⟨Nat.le_of_ble_eq_true rfl, Nat.le_of_ble_eq_true rfl⟩ (Nat.le_of_ble_eq_true rfl) ⟨Nat.le_of_ble_eq_true rfl, Nat.le_of_ble_eq_true rfl, Nat.le_of_ble_eq_true rfl, Nat.le_of_ble_eq_true rfl⟩ (fun _ _ q => ⟨_, q.1, q.2⟩) ⟨Nat.le_of_ble_eq_true rfl, Nat.le_of_ble_eq_true rfl⟩ (k_Rv fun h => ?_)
  refine z_aload C dX11_build_29 rfl ?_
  refine t_get C dX11_build_31 fl_X11_164 (k := 21) (i := r2) (by decide) rfl (fg_21_4 _ _ _) ?_
  refine z_iconst C dX11_build_34 (v := 5) (by decide) ?_
  refine z_icmp_ne C dX11_build_35 (tgt := 46) (by decide) (fun c35 => ?_) (fun c35 => ?_)
  · have h := h.2 c35
    refine z_iconst C dX11_build_46 (v := (-1)) (by decide) ?_
    exact zG.up (z_iret C dX11_build_47 hr rfl ⟨_, _, rfl, rfl, h⟩ (Nat.le_of_ble_eq_true rfl) (Nat.le_of_ble_eq_true rfl))
  · have h := h.1 c35
    refine z_aload C dX11_build_38 rfl ?_
    refine t_get C dX11_build_40 fl_X11_278 (k := 21) (i := r2) (by decide) rfl (fg_21_2 _ _ _) ?_
    refine z_if_eq C dX11_build_43 (tgt := 48) (by decide) (fun c43 => ?_) (fun c43 => ?_)
    · have h := h.1 c43
      refine z_aload C dX11_build_48 rfl ?_
      refine t_get C dX11_build_50 fl_X11_214 (k := 21) (i := r2) (by decide) rfl (fg_21_0 _ _ _) ?_
      refine z_iload_n C dX11_build_53 (i := 2) rfl rfl ?_
      refine z_iload_n C dX11_build_54 (i := 3) rfl rfl ?_
      refine t_callV C (rest := []) (c2 := 5) (s2 := 30) (kd := 20) (i := zgP s2 21 r2 0) [.int (a2), .int (a3)] dX11_build_55 lk_X11_281 li_X8_highest le_X8_highest (c_X8_highest hfl h) rfl rfl (by decide) rfl ⟨_, rfl⟩ rfl ⟨Nat.le_of_ble_eq_true rfl, Nat.le_of_ble_eq_true rfl⟩ (Nat.le_of_ble_eq_true rfl) ⟨Nat.le_of_ble_eq_true rfl, Nat.le_of_ble_eq_true rfl, Nat.le_of_ble_eq_true rfl, Nat.le_of_ble_eq_true rfl⟩ (k_Ri fun r55 h => ?_)
      refine z_iload C dX11_build_58 rfl ?_
      refine z_iadd C dX11_build_60 ?_
      refine z_bipush C dX11_build_61 (v := 20) (by decide) ?_
      refine z_icmp_le C dX11_build_63 (tgt := 69) (by decide) (fun c63 => ?_) (fun c63 => ?_)
      · have h := h.1 c63
        refine z_iload_n C dX11_build_69 (i := 2) rfl rfl ?_
        refine z_istore C dX11_build_70 (lc' := [some (.ref 10), some (.int (a1)), some (.int (a2)), some (.int (a3)), some (.int (a4)), some (.int (a5)), some (.ref (21 + 256 * r2)), some (.int (a2)), none]) (by decide) rfl ?_
        exact t_drop [true, false, false, true, true, true, true, true, false] rfl (j_X11_build_72 hfl C hr hex  zfu s2 a3 a4 a5 r2 a2 h)
      · have h := h.2 c63
        refine z_bipush C dX11_build_66 (v := (-2)) (by decide) ?_
        exact zG.up (z_iret C dX11_build_68 hr rfl ⟨_, _, rfl, rfl, h⟩ (Nat.le_of_ble_eq_true rfl) (Nat.le_of_ble_eq_true rfl))
    · have h := h.2 c43
      refine z_iconst C dX11_build_46 (v := (-1)) (by decide) ?_
      exact zG.up (z_iret C dX11_build_47 hr rfl ⟨_, _, rfl, rfl, h⟩ (Nat.le_of_ble_eq_true rfl) (Nat.le_of_ble_eq_true rfl))
def w_X11_lower (st : zTs) (a1 : Int32) (a2 : Int32) (a3 : Int32) (X : Nat → zTs → Prop) (P : Int32 → zTs → Prop) : Prop := w_X11_wallAt st a1 (fun k9 => X k9 st) (fun (r2 : Nat) => (w_X11_checkSegments st a2 a3 (fun k9 => X k9 st) ((w_X8_takeHighestOff st r2 a2 a3 (fun (r16 : Int32) (s16 : zTs) => (P r16 s16))))))
set_option maxHeartbeats 4000000 in
set_option maxRecDepth 100000 in
theorem c_X11_lower {Z : zZ} {l : Launch} (hfl : l.stackTraces = false) {st : zTs} {a1 : Int32} {a2 : Int32} {a3 : Int32} {X : Nat → zTs → Prop} {P : Int32 → zTs → Prop} (h : w_X11_lower st a1 a2 a3 X P) : zM Z l yX11_lower cX11_lower 5 (some .int) ({ frames := 10, cells := 3, slots := 18, locals := 143 } : Room) (zh Z zm1 st) [.ref 10, .int (a1), .int (a2), .int (a3)] (zWi Z P) (zXs Z X) := by
  unfold w_X11_lower at h
  refine z_enterM (by decide) (Nat.le_of_ble_eq_true rfl) (lc0 := [some (.ref 10), some (.int (a1)), some (.int (a2)), some (.int (a3)), none]) rfl ?_
  intro p e s m args below meth c ad0 C hr hex
  replace C : zC Z p s m args meth c cX11_lower 5 RX11 := C
  refine z_aload_n C dX11_lower_0 (i := 0) rfl rfl ?_
  refine z_iload_n C dX11_lower_1 (i := 1) rfl rfl ?_
  refine t_callVM C hex (rest := []) (c2 := 1) (s2 := 6) (kd := 10) (i := 0) [.int (a1)] dX11_lower_2 lk_X11_92 li_X11_wallAt le_X11_wallAt (c_X11_wallAt hfl h) rfl rfl (by decide) rfl ⟨_, rfl⟩ rfl ⟨Nat.le_of_ble_eq_true rfl, Nat.le_of_ble_eq_true rfl⟩ (Nat.le_of_ble_eq_true rfl) ⟨Nat.le_of_ble_eq_true rfl, Nat.le_of_ble_eq_true rfl, Nat.le_of_ble_eq_true rfl, Nat.le_of_ble_eq_true rfl⟩ (fun _ _ q => ⟨_, q.1, q.2⟩) ⟨Nat.le_of_ble_eq_true rfl, Nat.le_of_ble_eq_true rfl⟩ (k_Rr fun r2 h => ?_)
  refine z_astore C dX11_lower_5 (lc' := [some (.ref 10), some (.int (a1)), some (.int (a2)), some (.int (a3)), some (.ref (20 + 256 * r2))]) (by decide) rfl ?_
  refine z_iload_n C dX11_lower_7 (i := 2) rfl rfl ?_
  refine z_iload_n C dX11_lower_8 (i := 3) rfl rfl ?_
  refine t_callSM C hex (rest := []) (c2 := 3) (s2 := 18) [.int (a2), .int (a3)] dX11_lower_9 lk_X11_274 ls_X11_checkSegments (c_X11_checkSegments hfl h) rfl rfl ⟨Nat.le_of_ble_eq_true rfl, Nat.le_of_ble_eq_true rfl⟩ (Nat.le_of_ble_eq_true rfl) ⟨Nat.le_of_ble_eq_true rfl, Nat.le_of_ble_eq_true rfl, Nat.le_of_ble_eq_true rfl, Nat.le_of_ble_eq_true rfl⟩ (fun _ _ q => ⟨_, q.1, q.2⟩) ⟨Nat.le_of_ble_eq_true rfl, Nat.le_of_ble_eq_true rfl⟩ (k_Rv fun h => ?_)
  refine z_aload C dX11_lower_12 rfl ?_
  refine z_iload_n C dX11_lower_14 (i := 2) rfl rfl ?_
  refine z_iload_n C dX11_lower_15 (i := 3) rfl rfl ?_
  refine t_callV C (rest := []) (c2 := 3) (s2 := 18) (kd := 20) (i := r2) [.int (a2), .int (a3)] dX11_lower_16 lk_X11_293 li_X8_takeHighestOff le_X8_takeHighestOff (c_X8_takeHighestOff hfl h) rfl rfl (by decide) rfl ⟨_, rfl⟩ rfl ⟨Nat.le_of_ble_eq_true rfl, Nat.le_of_ble_eq_true rfl⟩ (Nat.le_of_ble_eq_true rfl) ⟨Nat.le_of_ble_eq_true rfl, Nat.le_of_ble_eq_true rfl, Nat.le_of_ble_eq_true rfl, Nat.le_of_ble_eq_true rfl⟩ (k_Wi fun r16 s16 h => ?_)
  exact zG.up (z_iret C dX11_lower_19 hr rfl ⟨_, _, rfl, rfl, h⟩ (Nat.le_of_ble_eq_true rfl) (Nat.le_of_ble_eq_true rfl))
def w_X11_use_98 (P : Int32 → zTs → Prop) (X : Nat → zTs → Prop)  : Nat → zTs → Int32 → Int32 → Int32 → Nat → Int32 → Int32 → Prop
  | 0, _, _, _, _, _, _, _ => False
  | n9 + 1, st, a2, a4, a5, a6, a7, a8 => (a4 < a8 → P a7 st) ∧ (¬ a4 < a8 → w_X8_markUsed st a6 a8 a2 a5 (fun (s112 : zTs) => (∀ x115 : Int32, x115 = a8 + 1 → ((w_X11_use_98 P X n9) s112 a2 a4 a5 a6 a7 x115))))
set_option maxHeartbeats 4000000 in
set_option maxRecDepth 100000 in
theorem j_X11_use_98 {P : Int32 → zTs → Prop} {X : Nat → zTs → Prop}  (hfl : l.stackTraces = false) (C : zC Z p s m args meth c cX11_use 9 RX11) (hr : meth.sig.returnType = (some .int)) (hex : ∀ x ∈ c.exceptionTable.toList, False)  : ∀ (n9 : Nat) (st : zTs) (a2 : Int32) (a4 : Int32) (a5 : Int32) (a6 : Nat) (a7 : Int32) (a8 : Int32), w_X11_use_98 P X n9 st a2 a4 a5 a6 a7 a8 → zG Z ad0 h0 p l e ({ frames := 10, cells := 5, slots := 30, locals := 143 } : Room) s m args below meth c (vx_MQ below (zQ Z ad0 h0 (zWi Z P)) (zX Z ad0 h0 (zXs Z X)) args s 5 30 (zA Z)) 5 30 (zh Z zm1 st) 9 98 [none, none, some (.int (a2)), none, some (.int (a4)), some (.int (a5)), some (.ref (20 + 256 * a6)), some (.int (a7)), some (.int (a8))] [] := by
  intro n9
  induction n9 with
  | zero => intro st a2 a4 a5 a6 a7 a8 h; exact h.elim
  | succ n9 hK98 =>
    intro st a2 a4 a5 a6 a7 a8 h
    rw [w_X11_use_98] at h
    refine z_iload C dX11_use_98 rfl ?_
    refine z_iload C dX11_use_100 rfl ?_
    refine z_icmp_gt C dX11_use_102 (tgt := 121) (by decide) (fun c102 => ?_) (fun c102 => ?_)
    · have h := h.1 c102
      refine z_iload C dX11_use_121 rfl ?_
      exact zG.up (z_iret C dX11_use_123 hr rfl ⟨_, _, rfl, rfl, h⟩ (Nat.le_of_ble_eq_true rfl) (Nat.le_of_ble_eq_true rfl))
    · have h := h.2 c102
      refine z_aload C dX11_use_105 rfl ?_
      refine z_iload C dX11_use_107 rfl ?_
      refine z_iload_n C dX11_use_109 (i := 2) rfl rfl ?_
      refine z_iload C dX11_use_110 rfl ?_
      refine t_callV C (rest := []) (c2 := 5) (s2 := 30) (kd := 20) (i := a6) [.int (a8), .int (a2), .int (a5)] dX11_use_112 lk_X11_307 li_X8_markUsed le_X8_markUsed (c_X8_markUsed hfl h) rfl rfl (by decide) rfl ⟨_, rfl⟩ rfl ⟨Nat.le_of_ble_eq_true rfl, Nat.le_of_ble_eq_true rfl⟩ (Nat.le_of_ble_eq_true rfl) ⟨Nat.le_of_ble_eq_true rfl, Nat.le_of_ble_eq_true rfl, Nat.le_of_ble_eq_true rfl, Nat.le_of_ble_eq_true rfl⟩ (k_Wv fun s112 h => ?_)
      obtain ⟨x115, ex115⟩ : ∃ z : Int32, z = a8 + 1 := ⟨_, rfl⟩
      have h := h x115 ex115
      refine z_iinc C dX11_use_115 (v := x115) (lc' := [none, none, some (.int (a2)), none, some (.int (a4)), some (.int (a5)), some (.ref (20 + 256 * a6)), some (.int (a7)), some (.int (x115))]) rfl (by decide) (by rw [ex115]; rfl) rfl ?_
      refine z_goto C dX11_use_118 (tgt := 98) (by decide) ?_
      exact t_drop [false, false, true, false, true, true, true, true, true] rfl (hK98 s112 a2 a4 a5 a6 a7 x115 h)
def w_X11_use_31 (P : Int32 → zTs → Prop) (X : Nat → zTs → Prop)  : Nat → zTs → Int32 → Int32 → Int32 → Int32 → Nat → Int32 → Int32 → Prop
  | 0, _, _, _, _, _, _, _, _ => False
  | n9 + 1, st, a2, a3, a4, a5, a6, a7, a8 => (a4 < a8 → w_X8_ownerOf st a6 a2 (fun (r74 : Int32) => (w_X8_ownerOf st a6 (1 - a2) (fun (r82 : Int32) => (w_X11_payUnlessFull st r74 r82 a7 (fun (r87 : Int32) (s87 : zTs) => ((r87 = 0 → P (-1) s87) ∧ (¬ r87 = 0 → w_X11_use_98 P X zfu s87 a2 a4 a5 a6 a7 a3)))))))) ∧ (¬ a4 < a8 → w_X8_dueForUse st a6 a8 a2 a5 (zgF st 10 0 15) (zgF st 24 (zgP st 10 0 16) 9) (fun (r58 : Int32) => (∀ x62 : Int32, x62 = a7 + r58 → (∀ x64 : Int32, x64 = a8 + 1 → ((w_X11_use_31 P X n9) st a2 a3 a4 a5 a6 x62 x64)))))
set_option maxHeartbeats 4000000 in
set_option maxRecDepth 100000 in
theorem j_X11_use_31 {P : Int32 → zTs → Prop} {X : Nat → zTs → Prop}  (hfl : l.stackTraces = false) (C : zC Z p s m args meth c cX11_use 9 RX11) (hr : meth.sig.returnType = (some .int)) (hex : ∀ x ∈ c.exceptionTable.toList, False)  : ∀ (n9 : Nat) (st : zTs) (a2 : Int32) (a3 : Int32) (a4 : Int32) (a5 : Int32) (a6 : Nat) (a7 : Int32) (a8 : Int32), w_X11_use_31 P X n9 st a2 a3 a4 a5 a6 a7 a8 → zG Z ad0 h0 p l e ({ frames := 10, cells := 5, slots := 30, locals := 143 } : Room) s m args below meth c (vx_MQ below (zQ Z ad0 h0 (zWi Z P)) (zX Z ad0 h0 (zXs Z X)) args s 5 30 (zA Z)) 5 30 (zh Z zm1 st) 9 31 [some (.ref 10), none, some (.int (a2)), some (.int (a3)), some (.int (a4)), some (.int (a5)), some (.ref (20 + 256 * a6)), some (.int (a7)), some (.int (a8))] [] := by
  intro n9
  induction n9 with
  | zero => intro st a2 a3 a4 a5 a6 a7 a8 h; exact h.elim
  | succ n9 hK31 =>
    intro st a2 a3 a4 a5 a6 a7 a8 h
    rw [w_X11_use_31] at h
    refine z_iload C dX11_use_31 rfl ?_
    refine z_iload C dX11_use_33 rfl ?_
    refine z_icmp_gt C dX11_use_35 (tgt := 70) (by decide) (fun c35 => ?_) (fun c35 => ?_)
    · have h := h.1 c35
      refine z_aload_n C dX11_use_70 (i := 0) rfl rfl ?_
      refine z_aload C dX11_use_71 rfl ?_
      refine z_iload_n C dX11_use_73 (i := 2) rfl rfl ?_
      refine t_callV C (rest := [.ref 10]) (c2 := 5) (s2 := 30) (kd := 20) (i := a6) [.int (a2)] dX11_use_74 lk_X11_100 li_X8_ownerOf le_X8_ownerOf (c_X8_ownerOf hfl h) rfl rfl (by decide) rfl ⟨_, rfl⟩ rfl ⟨Nat.le_of_ble_eq_true rfl, Nat.le_of_ble_eq_true rfl⟩ (Nat.le_of_ble_eq_true rfl) ⟨Nat.le_of_ble_eq_true rfl, Nat.le_of_ble_eq_true rfl, Nat.le_of_ble_eq_true rfl, Nat.le_of_ble_eq_true rfl⟩ (k_Ri fun r74 h => ?_)
      refine z_aload C dX11_use_77 rfl ?_
      refine z_iconst C dX11_use_79 (v := 1) (by decide) ?_
      refine z_iload_n C dX11_use_80 (i := 2) rfl rfl ?_
      refine z_isub C dX11_use_81 ?_
      refine t_callV C (rest := [.int (r74), .ref 10]) (c2 := 5) (s2 := 30) (kd := 20) (i := a6) [.int (1 - a2)] dX11_use_82 lk_X11_100 li_X8_ownerOf le_X8_ownerOf (c_X8_ownerOf hfl h) rfl rfl (by decide) rfl ⟨_, rfl⟩ rfl ⟨Nat.le_of_ble_eq_true rfl, Nat.le_of_ble_eq_true rfl⟩ (Nat.le_of_ble_eq_true rfl) ⟨Nat.le_of_ble_eq_true rfl, Nat.le_of_ble_eq_true rfl, Nat.le_of_ble_eq_true rfl, Nat.le_of_ble_eq_true rfl⟩ (k_Ri fun r82 h => ?_)
      refine z_iload C dX11_use_85 rfl ?_
      refine t_callV C (rest := []) (c2 := 5) (s2 := 30) (kd := 10) (i := 0) [.int (r74), .int (r82), .int (a7)] dX11_use_87 lk_X11_303 li_X11_payUnlessFull le_X11_payUnlessFull (c_X11_payUnlessFull hfl h) rfl rfl (by decide) rfl ⟨_, rfl⟩ rfl ⟨Nat.le_of_ble_eq_true rfl, Nat.le_of_ble_eq_true rfl⟩ (Nat.le_of_ble_eq_true rfl) ⟨Nat.le_of_ble_eq_true rfl, Nat.le_of_ble_eq_true rfl, Nat.le_of_ble_eq_true rfl, Nat.le_of_ble_eq_true rfl⟩ (k_Wi fun r87 s87 h => ?_)
      refine z_if_ne C dX11_use_90 (tgt := 95) (by decide) (fun c90 => ?_) (fun c90 => ?_)
      · have h := h.2 c90
        refine z_iload_n C dX11_use_95 (i := 3) rfl rfl ?_
        refine z_istore C dX11_use_96 (lc' := [some (.ref 10), none, some (.int (a2)), some (.int (a3)), some (.int (a4)), some (.int (a5)), some (.ref (20 + 256 * a6)), some (.int (a7)), some (.int (a3))]) (by decide) rfl ?_
        exact t_drop [false, false, true, false, true, true, true, true, true] rfl (j_X11_use_98 hfl C hr hex  zfu s87 a2 a4 a5 a6 a7 a3 h)
      · have h := h.1 c90
        refine z_iconst C dX11_use_93 (v := (-1)) (by decide) ?_
        exact zG.up (z_iret C dX11_use_94 hr rfl ⟨_, _, rfl, rfl, h⟩ (Nat.le_of_ble_eq_true rfl) (Nat.le_of_ble_eq_true rfl))
    · have h := h.2 c35
      refine z_iload C dX11_use_38 rfl ?_
      refine z_aload C dX11_use_40 rfl ?_
      refine z_iload C dX11_use_42 rfl ?_
      refine z_iload_n C dX11_use_44 (i := 2) rfl rfl ?_
      refine z_iload C dX11_use_45 rfl ?_
      refine z_aload_n C dX11_use_47 (i := 0) rfl rfl ?_
      refine t_get C dX11_use_48 fl_X11_111 (k := 10) (i := 0) (by decide) rfl (fg_10_15 _ _ _) ?_
      refine z_aload_n C dX11_use_51 (i := 0) rfl rfl ?_
      refine t_get C dX11_use_52 fl_X11_65 (k := 10) (i := 0) (by decide) rfl (fg_10_16 _ _ _) ?_
      refine t_get C dX11_use_55 fl_X11_296 (k := 24) (i := zgP st 10 0 16) (by decide) rfl (fg_24_9 _ _ _) ?_
      refine t_callV C (rest := [.int (a7)]) (c2 := 5) (s2 := 30) (kd := 20) (i := a6) [.int (a8), .int (a2), .int (a5), .int (zgF st 10 0 15), .int (zgF st 24 (zgP st 10 0 16) 9)] dX11_use_58 lk_X11_299 li_X8_dueForUse le_X8_dueForUse (c_X8_dueForUse hfl h) rfl rfl (by decide) rfl ⟨_, rfl⟩ rfl ⟨Nat.le_of_ble_eq_true rfl, Nat.le_of_ble_eq_true rfl⟩ (Nat.le_of_ble_eq_true rfl) ⟨Nat.le_of_ble_eq_true rfl, Nat.le_of_ble_eq_true rfl, Nat.le_of_ble_eq_true rfl, Nat.le_of_ble_eq_true rfl⟩ (k_Ri fun r58 h => ?_)
      refine z_iadd C dX11_use_61 ?_
      refine t_topi (fun x62 ex62 => ?_)
      have h := h x62 ex62
      refine z_istore C dX11_use_62 (lc' := [some (.ref 10), none, some (.int (a2)), some (.int (a3)), some (.int (a4)), some (.int (a5)), some (.ref (20 + 256 * a6)), some (.int (x62)), some (.int (a8))]) (by decide) rfl ?_
      obtain ⟨x64, ex64⟩ : ∃ z : Int32, z = a8 + 1 := ⟨_, rfl⟩
      have h := h x64 ex64
      refine z_iinc C dX11_use_64 (v := x64) (lc' := [some (.ref 10), none, some (.int (a2)), some (.int (a3)), some (.int (a4)), some (.int (a5)), some (.ref (20 + 256 * a6)), some (.int (x62)), some (.int (x64))]) rfl (by decide) (by rw [ex64]; rfl) rfl ?_
      refine z_goto C dX11_use_67 (tgt := 31) (by decide) ?_
      exact t_drop [true, false, true, true, true, true, true, true, true] rfl (hK31 st a2 a3 a4 a5 a6 x62 x64 h)
def w_X11_use (st : zTs) (a1 : Int32) (a2 : Int32) (a3 : Int32) (a4 : Int32) (a5 : Int32) (X : Nat → zTs → Prop) (P : Int32 → zTs → Prop) : Prop := w_X11_wallAt st a1 (fun k9 => X k9 st) (fun (r2 : Nat) => (w_X11_checkSide st a2 (fun k9 => X k9 st) ((w_X11_checkSegments st a3 a4 (fun k9 => X k9 st) ((w_X11_checkRange st a5 0 20 (fun k9 => X k9 st) ((w_X11_use_31 P X zfu st a2 a3 a4 a5 r2 (0) a3))))))))
set_option maxHeartbeats 4000000 in
set_option maxRecDepth 100000 in
theorem c_X11_use {Z : zZ} {l : Launch} (hfl : l.stackTraces = false) {st : zTs} {a1 : Int32} {a2 : Int32} {a3 : Int32} {a4 : Int32} {a5 : Int32} {X : Nat → zTs → Prop} {P : Int32 → zTs → Prop} (h : w_X11_use st a1 a2 a3 a4 a5 X P) : zM Z l yX11_use cX11_use 9 (some .int) ({ frames := 10, cells := 5, slots := 30, locals := 143 } : Room) (zh Z zm1 st) [.ref 10, .int (a1), .int (a2), .int (a3), .int (a4), .int (a5)] (zWi Z P) (zXs Z X) := by
  unfold w_X11_use at h
  refine z_enterM (by decide) (Nat.le_of_ble_eq_true rfl) (lc0 := [some (.ref 10), some (.int (a1)), some (.int (a2)), some (.int (a3)), some (.int (a4)), some (.int (a5)), none, none, none]) rfl ?_
  intro p e s m args below meth c ad0 C hr hex
  replace C : zC Z p s m args meth c cX11_use 9 RX11 := C
  refine z_aload_n C dX11_use_0 (i := 0) rfl rfl ?_
  refine z_iload_n C dX11_use_1 (i := 1) rfl rfl ?_
  refine t_callVM C hex (rest := []) (c2 := 1) (s2 := 6) (kd := 10) (i := 0) [.int (a1)] dX11_use_2 lk_X11_92 li_X11_wallAt le_X11_wallAt (c_X11_wallAt hfl h) rfl rfl (by decide) rfl ⟨_, rfl⟩ rfl ⟨Nat.le_of_ble_eq_true rfl, Nat.le_of_ble_eq_true rfl⟩ (Nat.le_of_ble_eq_true rfl) ⟨Nat.le_of_ble_eq_true rfl, Nat.le_of_ble_eq_true rfl, Nat.le_of_ble_eq_true rfl, Nat.le_of_ble_eq_true rfl⟩ (fun _ _ q => ⟨_, q.1, q.2⟩) ⟨Nat.le_of_ble_eq_true rfl, Nat.le_of_ble_eq_true rfl⟩ (k_Rr fun r2 h => ?_)
  refine z_astore C dX11_use_5 (lc' := [some (.ref 10), some (.int (a1)), some (.int (a2)), some (.int (a3)), some (.int (a4)), some (.int (a5)), some (.ref (20 + 256 * r2)), none, none]) (by decide) rfl ?_
  refine z_iload_n C dX11_use_7 (i := 2) rfl rfl ?_
  refine t_callSM C hex (rest := []) (c2 := 2) (s2 := 12) [.int (a2)] dX11_use_8 lk_X11_96 ls_X11_checkSide (c_X11_checkSide hfl h) rfl rfl ⟨Nat.le_of_ble_eq_true rfl, Nat.le_of_ble_eq_true rfl⟩ (Nat.le_of_ble_eq_true rfl) ⟨Nat.le_of_ble_eq_true rfl, Nat.le_of_ble_eq_true rfl, Nat.le_of_ble_eq_true rfl, Nat.le_of_ble_eq_true rfl⟩ (fun _ _ q => ⟨_, q.1, q.2⟩) ⟨Nat.le_of_ble_eq_true rfl, Nat.le_of_ble_eq_true rfl⟩ (k_Rv fun h => ?_)
  refine z_iload_n C dX11_use_11 (i := 3) rfl rfl ?_
  refine z_iload C dX11_use_12 rfl ?_
  refine t_callSM C hex (rest := []) (c2 := 4) (s2 := 24) [.int (a3), .int (a4)] dX11_use_14 lk_X11_274 ls_X11_checkSegments (c_X11_checkSegments hfl h) rfl rfl ⟨Nat.le_of_ble_eq_true rfl, Nat.le_of_ble_eq_true rfl⟩ (Nat.le_of_ble_eq_true rfl) ⟨Nat.le_of_ble_eq_true rfl, Nat.le_of_ble_eq_true rfl, Nat.le_of_ble_eq_true rfl, Nat.le_of_ble_eq_true rfl⟩ (fun _ _ q => ⟨_, q.1, q.2⟩) ⟨Nat.le_of_ble_eq_true rfl, Nat.le_of_ble_eq_true rfl⟩ (k_Rv fun h => ?_)
  refine z_iload C dX11_use_17 rfl ?_
  refine z_iconst C dX11_use_19 (v := 0) (by decide) ?_
  refine z_bipush C dX11_use_20 (v := 20) (by decide) ?_
  refine t_callSM C hex (rest := []) (c2 := 5) (s2 := 30) [.int (a5), .int (0), .int (20)] dX11_use_22 lk_X11_107 ls_X11_checkRange (c_X11_checkRange hfl h) rfl rfl ⟨Nat.le_of_ble_eq_true rfl, Nat.le_of_ble_eq_true rfl⟩ (Nat.le_of_ble_eq_true rfl) ⟨Nat.le_of_ble_eq_true rfl, Nat.le_of_ble_eq_true rfl, Nat.le_of_ble_eq_true rfl, Nat.le_of_ble_eq_true rfl⟩ (fun _ _ q => ⟨_, q.1, q.2⟩) ⟨Nat.le_of_ble_eq_true rfl, Nat.le_of_ble_eq_true rfl⟩ (k_Rv fun h => ?_)
  refine z_iconst C dX11_use_25 (v := 0) (by decide) ?_
  refine z_istore C dX11_use_26 (lc' := [some (.ref 10), some (.int (a1)), some (.int (a2)), some (.int (a3)), some (.int (a4)), some (.int (a5)), some (.ref (20 + 256 * r2)), some (.int (0)), none]) (by decide) rfl ?_
  refine z_iload_n C dX11_use_28 (i := 3) rfl rfl ?_
  refine z_istore C dX11_use_29 (lc' := [some (.ref 10), some (.int (a1)), some (.int (a2)), some (.int (a3)), some (.int (a4)), some (.int (a5)), some (.ref (20 + 256 * r2)), some (.int (0)), some (.int (a3))]) (by decide) rfl ?_
  exact t_drop [true, false, true, true, true, true, true, true, true] rfl (j_X11_use_31 hfl C hr hex  zfu st a2 a3 a4 a5 r2 (0) a3 h)
def w_X11_spend_32 (P : Int32 → zTs → Prop) (X : Nat → zTs → Prop)  (st : zTs) (a2 : Int32) (a3 : Nat) : Prop := w_X10_share st a3 (fun (r36 : Int32) => (∀ x44 : Int32, x44 = (a2 * (100 - r36)) / 100 → (w_X10_neighbour st a3 (fun (r48 : Int32) => (w_X10_ownerThere st a3 (fun (r52 : Int32) => (w_X11_payUnlessFull st r48 r52 x44 (fun (r57 : Int32) (s57 : zTs) => ((r57 = 0 → P (-2) s57) ∧ (¬ r57 = 0 → P x44 s57))))))))))
set_option maxHeartbeats 4000000 in
set_option maxRecDepth 100000 in
theorem j_X11_spend_32 {P : Int32 → zTs → Prop} {X : Nat → zTs → Prop}  (hfl : l.stackTraces = false) (C : zC Z p s m args meth c cX11_spend 5 RX11) (hr : meth.sig.returnType = (some .int)) (hex : ∀ x ∈ c.exceptionTable.toList, False)  (st : zTs) (a2 : Int32) (a3 : Nat) (h : w_X11_spend_32 P X st a2 a3) : zG Z ad0 h0 p l e ({ frames := 9, cells := 2, slots := 12, locals := 122 } : Room) s m args below meth c (vx_MQ below (zQ Z ad0 h0 (zWi Z P)) (zX Z ad0 h0 (zXs Z X)) args s 2 12 (zA Z)) 2 12 (zh Z zm1 st) 5 32 [some (.ref 10), none, some (.int (a2)), some (.ref (21 + 256 * a3)), none] [] := by
  unfold w_X11_spend_32 at h
  refine z_iload_n C dX11_spend_32 (i := 2) rfl rfl ?_
  refine z_bipush C dX11_spend_33 (v := 100) (by decide) ?_
  refine z_aload_n C dX11_spend_35 (i := 3) rfl rfl ?_
  refine t_callV C (rest := [.int (100), .int (a2)]) (c2 := 2) (s2 := 12) (kd := 21) (i := a3) [] dX11_spend_36 lk_X11_191 li_X10_share le_X10_share (c_X10_share hfl h) rfl rfl (by decide) rfl ⟨_, rfl⟩ rfl ⟨Nat.le_of_ble_eq_true rfl, Nat.le_of_ble_eq_true rfl⟩ (Nat.le_of_ble_eq_true rfl) ⟨Nat.le_of_ble_eq_true rfl, Nat.le_of_ble_eq_true rfl, Nat.le_of_ble_eq_true rfl, Nat.le_of_ble_eq_true rfl⟩ (k_Ri fun r36 h => ?_)
  refine z_isub C dX11_spend_39 ?_
  refine z_imul C dX11_spend_40 ?_
  refine z_bipush C dX11_spend_41 (v := 100) (by decide) ?_
  refine z_idiv C dX11_spend_43 (by decide) ?_
  refine t_topi (fun x44 ex44 => ?_)
  have h := h x44 ex44
  refine z_istore C dX11_spend_44 (lc' := [some (.ref 10), none, some (.int (a2)), some (.ref (21 + 256 * a3)), some (.int (x44))]) (by decide) rfl ?_
  refine z_aload_n C dX11_spend_46 (i := 0) rfl rfl ?_
  refine z_aload_n C dX11_spend_47 (i := 3) rfl rfl ?_
  refine t_callV C (rest := [.ref 10]) (c2 := 2) (s2 := 12) (kd := 21) (i := a3) [] dX11_spend_48 lk_X11_267 li_X10_neighbour le_X10_neighbour (c_X10_neighbour hfl h) rfl rfl (by decide) rfl ⟨_, rfl⟩ rfl ⟨Nat.le_of_ble_eq_true rfl, Nat.le_of_ble_eq_true rfl⟩ (Nat.le_of_ble_eq_true rfl) ⟨Nat.le_of_ble_eq_true rfl, Nat.le_of_ble_eq_true rfl, Nat.le_of_ble_eq_true rfl, Nat.le_of_ble_eq_true rfl⟩ (k_Ri fun r48 h => ?_)
  refine z_aload_n C dX11_spend_51 (i := 3) rfl rfl ?_
  refine t_callV C (rest := [.int (r48), .ref 10]) (c2 := 2) (s2 := 12) (kd := 21) (i := a3) [] dX11_spend_52 lk_X11_264 li_X10_ownerThere le_X10_ownerThere (c_X10_ownerThere hfl h) rfl rfl (by decide) rfl ⟨_, rfl⟩ rfl ⟨Nat.le_of_ble_eq_true rfl, Nat.le_of_ble_eq_true rfl⟩ (Nat.le_of_ble_eq_true rfl) ⟨Nat.le_of_ble_eq_true rfl, Nat.le_of_ble_eq_true rfl, Nat.le_of_ble_eq_true rfl, Nat.le_of_ble_eq_true rfl⟩ (k_Ri fun r52 h => ?_)
  refine z_iload C dX11_spend_55 rfl ?_
  refine t_callV C (rest := []) (c2 := 2) (s2 := 12) (kd := 10) (i := 0) [.int (r48), .int (r52), .int (x44)] dX11_spend_57 lk_X11_303 li_X11_payUnlessFull le_X11_payUnlessFull (c_X11_payUnlessFull hfl h) rfl rfl (by decide) rfl ⟨_, rfl⟩ rfl ⟨Nat.le_of_ble_eq_true rfl, Nat.le_of_ble_eq_true rfl⟩ (Nat.le_of_ble_eq_true rfl) ⟨Nat.le_of_ble_eq_true rfl, Nat.le_of_ble_eq_true rfl, Nat.le_of_ble_eq_true rfl, Nat.le_of_ble_eq_true rfl⟩ (k_Wi fun r57 s57 h => ?_)
  refine z_if_eq C dX11_spend_60 (tgt := 68) (by decide) (fun c60 => ?_) (fun c60 => ?_)
  · have h := h.1 c60
    refine z_bipush C dX11_spend_68 (v := (-2)) (by decide) ?_
    exact zG.up (z_iret C dX11_spend_70 hr rfl ⟨_, _, rfl, rfl, h⟩ (Nat.le_of_ble_eq_true rfl) (Nat.le_of_ble_eq_true rfl))
  · have h := h.2 c60
    refine z_iload C dX11_spend_63 rfl ?_
    refine z_goto C dX11_spend_65 (tgt := 70) (by decide) ?_
    exact zG.up (z_iret C dX11_spend_70 hr rfl ⟨_, _, rfl, rfl, h⟩ (Nat.le_of_ble_eq_true rfl) (Nat.le_of_ble_eq_true rfl))
def w_X11_spend (st : zTs) (a1 : Int32) (a2 : Int32) (X : Nat → zTs → Prop) (P : Int32 → zTs → Prop) : Prop := w_X11_workAt st a1 X (fun (r2 : Nat) (s2 : zTs) => (w_X11_checkRange s2 a2 0 1000000 (fun k9 => X k9 s2) ((((zgF s2 21 r2 4) = 5 → w_X11_spend_32 P X s2 a2 r2) ∧ (¬ (zgF s2 21 r2 4) = 5 → ((zgF s2 21 r2 4) = 7 → w_X11_spend_32 P X s2 a2 r2) ∧ (¬ (zgF s2 21 r2 4) = 7 → P (-1) s2))))))
set_option maxHeartbeats 4000000 in
set_option maxRecDepth 100000 in
theorem c_X11_spend {Z : zZ} {l : Launch} (hfl : l.stackTraces = false) {st : zTs} {a1 : Int32} {a2 : Int32} {X : Nat → zTs → Prop} {P : Int32 → zTs → Prop} (h : w_X11_spend st a1 a2 X P) : zM Z l yX11_spend cX11_spend 5 (some .int) ({ frames := 9, cells := 2, slots := 12, locals := 122 } : Room) (zh Z zm1 st) [.ref 10, .int (a1), .int (a2)] (zWi Z P) (zXs Z X) := by
  unfold w_X11_spend at h
  refine z_enterM (by decide) (Nat.le_of_ble_eq_true rfl) (lc0 := [some (.ref 10), some (.int (a1)), some (.int (a2)), none, none]) rfl ?_
  intro p e s m args below meth c ad0 C hr hex
  replace C : zC Z p s m args meth c cX11_spend 5 RX11 := C
  refine z_aload_n C dX11_spend_0 (i := 0) rfl rfl ?_
  refine z_iload_n C dX11_spend_1 (i := 1) rfl rfl ?_
  refine t_callVM C hex (rest := []) (c2 := 1) (s2 := 6) (kd := 10) (i := 0) [.int (a1)] dX11_spend_2 lk_X11_160 li_X11_workAt le_X11_workAt (c_X11_workAt hfl h) rfl rfl (by decide) rfl ⟨_, rfl⟩ rfl ⟨Nat.le_of_ble_eq_true rfl, Nat.le_of_ble_eq_true rfl⟩ (Nat.le_of_ble_eq_true rfl) ⟨Nat.le_of_ble_eq_true rfl, Nat.le_of_ble_eq_true rfl, Nat.le_of_ble_eq_true rfl, Nat.le_of_ble_eq_true rfl⟩ (fun _ _ q => q) ⟨Nat.le_of_ble_eq_true rfl, Nat.le_of_ble_eq_true rfl⟩ (k_Wr fun r2 s2 h => ?_)
  refine z_astore_n C dX11_spend_5 (i := 3) (lc' := [some (.ref 10), some (.int (a1)), some (.int (a2)), some (.ref (21 + 256 * r2)), none]) rfl (by decide) rfl ?_
  refine z_iload_n C dX11_spend_6 (i := 2) rfl rfl ?_
  refine z_iconst C dX11_spend_7 (v := 0) (by decide) ?_
  refine z_ldc C dX11_spend_8 kc_X11_114 ?_
  refine t_callSM C hex (rest := []) (c2 := 2) (s2 := 12) [.int (a2), .int (0), .int (1000000)] dX11_spend_10 lk_X11_107 ls_X11_checkRange (c_X11_checkRange hfl h) rfl rfl ⟨Nat.le_of_ble_eq_true rfl, Nat.le_of_ble_eq_true rfl⟩ (Nat.le_of_ble_eq_true rfl) ⟨Nat.le_of_ble_eq_true rfl, Nat.le_of_ble_eq_true rfl, Nat.le_of_ble_eq_true rfl, Nat.le_of_ble_eq_true rfl⟩ (fun _ _ q => ⟨_, q.1, q.2⟩) ⟨Nat.le_of_ble_eq_true rfl, Nat.le_of_ble_eq_true rfl⟩ (k_Rv fun h => ?_)
  refine z_aload_n C dX11_spend_13 (i := 3) rfl rfl ?_
  refine t_get C dX11_spend_14 fl_X11_164 (k := 21) (i := r2) (by decide) rfl (fg_21_4 _ _ _) ?_
  refine z_iconst C dX11_spend_17 (v := 5) (by decide) ?_
  refine z_icmp_eq C dX11_spend_18 (tgt := 32) (by decide) (fun c18 => ?_) (fun c18 => ?_)
  · have h := h.1 c18
    exact t_drop [true, false, true, true, false] rfl (j_X11_spend_32 hfl C hr hex  s2 a2 r2 h)
  · have h := h.2 c18
    refine z_aload_n C dX11_spend_21 (i := 3) rfl rfl ?_
    refine t_get C dX11_spend_22 fl_X11_164 (k := 21) (i := r2) (by decide) rfl (fg_21_4 _ _ _) ?_
    refine z_bipush C dX11_spend_25 (v := 7) (by decide) ?_
    refine z_icmp_eq C dX11_spend_27 (tgt := 32) (by decide) (fun c27 => ?_) (fun c27 => ?_)
    · have h := h.1 c27
      exact t_drop [true, false, true, true, false] rfl (j_X11_spend_32 hfl C hr hex  s2 a2 r2 h)
    · have h := h.2 c27
      refine z_iconst C dX11_spend_30 (v := (-1)) (by decide) ?_
      exact zG.up (z_iret C dX11_spend_31 hr rfl ⟨_, _, rfl, rfl, h⟩ (Nat.le_of_ble_eq_true rfl) (Nat.le_of_ble_eq_true rfl))
def w_X11_secure (st : zTs) (a1 : Int32) (a2 : Int32) (X : Nat → zTs → Prop) (P : Int32 → zTs → Prop) : Prop := w_X11_workAt st a1 X (fun (r2 : Nat) (s2 : zTs) => (w_X11_checkRange s2 a2 1 1000000 (fun k9 => X k9 s2) ((((zgF s2 21 r2 16) = (-1) → ∀ s25 : zTs, s25 = zuF s2 21 r2 16 a2 → (P 1 s25)) ∧ (¬ (zgF s2 21 r2 16) = (-1) → P (-1) s2)))))
set_option maxHeartbeats 4000000 in
set_option maxRecDepth 100000 in
theorem c_X11_secure {Z : zZ} {l : Launch} (hfl : l.stackTraces = false) {st : zTs} {a1 : Int32} {a2 : Int32} {X : Nat → zTs → Prop} {P : Int32 → zTs → Prop} (h : w_X11_secure st a1 a2 X P) : zM Z l yX11_secure cX11_secure 4 (some .int) ({ frames := 9, cells := 2, slots := 12, locals := 122 } : Room) (zh Z zm1 st) [.ref 10, .int (a1), .int (a2)] (zWi Z P) (zXs Z X) := by
  unfold w_X11_secure at h
  refine z_enterM (by decide) (Nat.le_of_ble_eq_true rfl) (lc0 := [some (.ref 10), some (.int (a1)), some (.int (a2)), none]) rfl ?_
  intro p e s m args below meth c ad0 C hr hex
  replace C : zC Z p s m args meth c cX11_secure 4 RX11 := C
  refine z_aload_n C dX11_secure_0 (i := 0) rfl rfl ?_
  refine z_iload_n C dX11_secure_1 (i := 1) rfl rfl ?_
  refine t_callVM C hex (rest := []) (c2 := 1) (s2 := 6) (kd := 10) (i := 0) [.int (a1)] dX11_secure_2 lk_X11_160 li_X11_workAt le_X11_workAt (c_X11_workAt hfl h) rfl rfl (by decide) rfl ⟨_, rfl⟩ rfl ⟨Nat.le_of_ble_eq_true rfl, Nat.le_of_ble_eq_true rfl⟩ (Nat.le_of_ble_eq_true rfl) ⟨Nat.le_of_ble_eq_true rfl, Nat.le_of_ble_eq_true rfl, Nat.le_of_ble_eq_true rfl, Nat.le_of_ble_eq_true rfl⟩ (fun _ _ q => q) ⟨Nat.le_of_ble_eq_true rfl, Nat.le_of_ble_eq_true rfl⟩ (k_Wr fun r2 s2 h => ?_)
  refine z_astore_n C dX11_secure_5 (i := 3) (lc' := [some (.ref 10), some (.int (a1)), some (.int (a2)), some (.ref (21 + 256 * r2))]) rfl (by decide) rfl ?_
  refine z_iload_n C dX11_secure_6 (i := 2) rfl rfl ?_
  refine z_iconst C dX11_secure_7 (v := 1) (by decide) ?_
  refine z_ldc C dX11_secure_8 kc_X11_114 ?_
  refine t_callSM C hex (rest := []) (c2 := 2) (s2 := 12) [.int (a2), .int (1), .int (1000000)] dX11_secure_10 lk_X11_107 ls_X11_checkRange (c_X11_checkRange hfl h) rfl rfl ⟨Nat.le_of_ble_eq_true rfl, Nat.le_of_ble_eq_true rfl⟩ (Nat.le_of_ble_eq_true rfl) ⟨Nat.le_of_ble_eq_true rfl, Nat.le_of_ble_eq_true rfl, Nat.le_of_ble_eq_true rfl, Nat.le_of_ble_eq_true rfl⟩ (fun _ _ q => ⟨_, q.1, q.2⟩) ⟨Nat.le_of_ble_eq_true rfl, Nat.le_of_ble_eq_true rfl⟩ (k_Rv fun h => ?_)
  refine z_aload_n C dX11_secure_13 (i := 3) rfl rfl ?_
  refine t_get C dX11_secure_14 fl_X11_323 (k := 21) (i := r2) (by decide) rfl (fg_21_16 _ _ _) ?_
  refine z_iconst C dX11_secure_17 (v := (-1)) (by decide) ?_
  refine z_icmp_eq C dX11_secure_18 (tgt := 23) (by decide) (fun c18 => ?_) (fun c18 => ?_)
  · have h := h.1 c18
    refine z_aload_n C dX11_secure_23 (i := 3) rfl rfl ?_
    refine z_iload_n C dX11_secure_24 (i := 2) rfl rfl ?_
    refine t_put C dX11_secure_25 fq_X11_323 (Or.inl rfl) (k := 21) (i := r2) (by decide) rfl ⟨rfl, rfl⟩ (fp_21_16 _ _ _ _ _) ?_
    refine t_tops (fun s25 es25 => ?_)
    have h := h s25 es25
    refine z_iconst C dX11_secure_28 (v := 1) (by decide) ?_
    exact zG.up (z_iret C dX11_secure_29 hr rfl ⟨_, _, rfl, rfl, h⟩ (Nat.le_of_ble_eq_true rfl) (Nat.le_of_ble_eq_true rfl))
  · have h := h.2 c18
    refine z_iconst C dX11_secure_21 (v := (-1)) (by decide) ?_
    exact zG.up (z_iret C dX11_secure_22 hr rfl ⟨_, _, rfl, rfl, h⟩ (Nat.le_of_ble_eq_true rfl) (Nat.le_of_ble_eq_true rfl))
def w_X11_settle_33 (P : Int32 → zTs → Prop) (X : Nat → zTs → Prop)  (st : zTs) (a2 : Int32) (a3 : Nat) : Prop := ((zgF st 21 a3 16) = (-1) → P (-2) st) ∧ (¬ (zgF st 21 a3 16) = (-1) → ((zgF st 21 a3 17) = 0 → w_J9_min_7cf53 st a2 (zgF st 21 a3 16) (fun (r56 : Int32) => (w_X10_ownerThere st a3 (fun (r63 : Int32) => (w_X10_neighbour st a3 (fun (r67 : Int32) => (w_X11_payUnlessFull st r63 r67 r56 (fun (r72 : Int32) (s72 : zTs) => ((r72 = 0 → P (-3) s72) ∧ (¬ r72 = 0 → ∀ s83 : zTs, s83 = zuF s72 21 a3 17 1 → (P r56 s83))))))))))) ∧ (¬ (zgF st 21 a3 17) = 0 → P (-2) st))
set_option maxHeartbeats 4000000 in
set_option maxRecDepth 100000 in
theorem j_X11_settle_33 {P : Int32 → zTs → Prop} {X : Nat → zTs → Prop}  (hfl : l.stackTraces = false) (C : zC Z p s m args meth c cX11_settle 5 RX11) (hr : meth.sig.returnType = (some .int)) (hex : ∀ x ∈ c.exceptionTable.toList, False)  (st : zTs) (a2 : Int32) (a3 : Nat) (h : w_X11_settle_33 P X st a2 a3) : zG Z ad0 h0 p l e ({ frames := 9, cells := 2, slots := 12, locals := 122 } : Room) s m args below meth c (vx_MQ below (zQ Z ad0 h0 (zWi Z P)) (zX Z ad0 h0 (zXs Z X)) args s 2 12 (zA Z)) 2 12 (zh Z zm1 st) 5 33 [some (.ref 10), none, some (.int (a2)), some (.ref (21 + 256 * a3)), none] [] := by
  unfold w_X11_settle_33 at h
  refine z_aload_n C dX11_settle_33 (i := 3) rfl rfl ?_
  refine t_get C dX11_settle_34 fl_X11_323 (k := 21) (i := a3) (by decide) rfl (fg_21_16 _ _ _) ?_
  refine z_iconst C dX11_settle_37 (v := (-1)) (by decide) ?_
  refine z_icmp_eq C dX11_settle_38 (tgt := 48) (by decide) (fun c38 => ?_) (fun c38 => ?_)
  · have h := h.1 c38
    refine z_bipush C dX11_settle_48 (v := (-2)) (by decide) ?_
    exact zG.up (z_iret C dX11_settle_50 hr rfl ⟨_, _, rfl, rfl, h⟩ (Nat.le_of_ble_eq_true rfl) (Nat.le_of_ble_eq_true rfl))
  · have h := h.2 c38
    refine z_aload_n C dX11_settle_41 (i := 3) rfl rfl ?_
    refine t_get C dX11_settle_42 fl_X11_326 (k := 21) (i := a3) (by decide) rfl (fg_21_17 _ _ _) ?_
    refine z_if_eq C dX11_settle_45 (tgt := 51) (by decide) (fun c45 => ?_) (fun c45 => ?_)
    · have h := h.1 c45
      refine z_iload_n C dX11_settle_51 (i := 2) rfl rfl ?_
      refine z_aload_n C dX11_settle_52 (i := 3) rfl rfl ?_
      refine t_get C dX11_settle_53 fl_X11_323 (k := 21) (i := a3) (by decide) rfl (fg_21_16 _ _ _) ?_
      refine t_callS C (rest := []) (c2 := 2) (s2 := 12) [.int (a2), .int (zgF st 21 a3 16)] dX11_settle_56 lk_X11_330 ls_J9_min_7cf53 (c_J9_min_7cf53 hfl h) rfl rfl ⟨Nat.le_of_ble_eq_true rfl, Nat.le_of_ble_eq_true rfl⟩ (Nat.le_of_ble_eq_true rfl) ⟨Nat.le_of_ble_eq_true rfl, Nat.le_of_ble_eq_true rfl, Nat.le_of_ble_eq_true rfl, Nat.le_of_ble_eq_true rfl⟩ (k_Ri fun r56 h => ?_)
      refine z_istore C dX11_settle_59 (lc' := [some (.ref 10), none, some (.int (a2)), some (.ref (21 + 256 * a3)), some (.int (r56))]) (by decide) rfl ?_
      refine z_aload_n C dX11_settle_61 (i := 0) rfl rfl ?_
      refine z_aload_n C dX11_settle_62 (i := 3) rfl rfl ?_
      refine t_callV C (rest := [.ref 10]) (c2 := 2) (s2 := 12) (kd := 21) (i := a3) [] dX11_settle_63 lk_X11_264 li_X10_ownerThere le_X10_ownerThere (c_X10_ownerThere hfl h) rfl rfl (by decide) rfl ⟨_, rfl⟩ rfl ⟨Nat.le_of_ble_eq_true rfl, Nat.le_of_ble_eq_true rfl⟩ (Nat.le_of_ble_eq_true rfl) ⟨Nat.le_of_ble_eq_true rfl, Nat.le_of_ble_eq_true rfl, Nat.le_of_ble_eq_true rfl, Nat.le_of_ble_eq_true rfl⟩ (k_Ri fun r63 h => ?_)
      refine z_aload_n C dX11_settle_66 (i := 3) rfl rfl ?_
      refine t_callV C (rest := [.int (r63), .ref 10]) (c2 := 2) (s2 := 12) (kd := 21) (i := a3) [] dX11_settle_67 lk_X11_267 li_X10_neighbour le_X10_neighbour (c_X10_neighbour hfl h) rfl rfl (by decide) rfl ⟨_, rfl⟩ rfl ⟨Nat.le_of_ble_eq_true rfl, Nat.le_of_ble_eq_true rfl⟩ (Nat.le_of_ble_eq_true rfl) ⟨Nat.le_of_ble_eq_true rfl, Nat.le_of_ble_eq_true rfl, Nat.le_of_ble_eq_true rfl, Nat.le_of_ble_eq_true rfl⟩ (k_Ri fun r67 h => ?_)
      refine z_iload C dX11_settle_70 rfl ?_
      refine t_callV C (rest := []) (c2 := 2) (s2 := 12) (kd := 10) (i := 0) [.int (r63), .int (r67), .int (r56)] dX11_settle_72 lk_X11_303 li_X11_payUnlessFull le_X11_payUnlessFull (c_X11_payUnlessFull hfl h) rfl rfl (by decide) rfl ⟨_, rfl⟩ rfl ⟨Nat.le_of_ble_eq_true rfl, Nat.le_of_ble_eq_true rfl⟩ (Nat.le_of_ble_eq_true rfl) ⟨Nat.le_of_ble_eq_true rfl, Nat.le_of_ble_eq_true rfl, Nat.le_of_ble_eq_true rfl, Nat.le_of_ble_eq_true rfl⟩ (k_Wi fun r72 s72 h => ?_)
      refine z_if_ne C dX11_settle_75 (tgt := 81) (by decide) (fun c75 => ?_) (fun c75 => ?_)
      · have h := h.2 c75
        refine z_aload_n C dX11_settle_81 (i := 3) rfl rfl ?_
        refine z_iconst C dX11_settle_82 (v := 1) (by decide) ?_
        refine t_put C dX11_settle_83 fq_X11_326 (Or.inl rfl) (k := 21) (i := a3) (by decide) rfl ⟨rfl, rfl⟩ (fp_21_17 _ _ _ _ _) ?_
        refine t_tops (fun s83 es83 => ?_)
        have h := h s83 es83
        refine z_iload C dX11_settle_86 rfl ?_
        exact zG.up (z_iret C dX11_settle_88 hr rfl ⟨_, _, rfl, rfl, h⟩ (Nat.le_of_ble_eq_true rfl) (Nat.le_of_ble_eq_true rfl))
      · have h := h.1 c75
        refine z_bipush C dX11_settle_78 (v := (-3)) (by decide) ?_
        exact zG.up (z_iret C dX11_settle_80 hr rfl ⟨_, _, rfl, rfl, h⟩ (Nat.le_of_ble_eq_true rfl) (Nat.le_of_ble_eq_true rfl))
    · have h := h.2 c45
      refine z_bipush C dX11_settle_48 (v := (-2)) (by decide) ?_
      exact zG.up (z_iret C dX11_settle_50 hr rfl ⟨_, _, rfl, rfl, h⟩ (Nat.le_of_ble_eq_true rfl) (Nat.le_of_ble_eq_true rfl))
def w_X11_settle (st : zTs) (a1 : Int32) (a2 : Int32) (X : Nat → zTs → Prop) (P : Int32 → zTs → Prop) : Prop := w_X11_workAt st a1 X (fun (r2 : Nat) (s2 : zTs) => (w_X11_checkRange s2 a2 0 1000000 (fun k9 => X k9 s2) ((((zgF s2 21 r2 4) = 7 → w_X11_settle_33 P X s2 a2 r2) ∧ (¬ (zgF s2 21 r2 4) = 7 → ((zgF s2 21 r2 4) = 6 → w_X11_settle_33 P X s2 a2 r2) ∧ (¬ (zgF s2 21 r2 4) = 6 → P (-1) s2))))))
set_option maxHeartbeats 4000000 in
set_option maxRecDepth 100000 in
theorem c_X11_settle {Z : zZ} {l : Launch} (hfl : l.stackTraces = false) {st : zTs} {a1 : Int32} {a2 : Int32} {X : Nat → zTs → Prop} {P : Int32 → zTs → Prop} (h : w_X11_settle st a1 a2 X P) : zM Z l yX11_settle cX11_settle 5 (some .int) ({ frames := 9, cells := 2, slots := 12, locals := 122 } : Room) (zh Z zm1 st) [.ref 10, .int (a1), .int (a2)] (zWi Z P) (zXs Z X) := by
  unfold w_X11_settle at h
  refine z_enterM (by decide) (Nat.le_of_ble_eq_true rfl) (lc0 := [some (.ref 10), some (.int (a1)), some (.int (a2)), none, none]) rfl ?_
  intro p e s m args below meth c ad0 C hr hex
  replace C : zC Z p s m args meth c cX11_settle 5 RX11 := C
  refine z_aload_n C dX11_settle_0 (i := 0) rfl rfl ?_
  refine z_iload_n C dX11_settle_1 (i := 1) rfl rfl ?_
  refine t_callVM C hex (rest := []) (c2 := 1) (s2 := 6) (kd := 10) (i := 0) [.int (a1)] dX11_settle_2 lk_X11_160 li_X11_workAt le_X11_workAt (c_X11_workAt hfl h) rfl rfl (by decide) rfl ⟨_, rfl⟩ rfl ⟨Nat.le_of_ble_eq_true rfl, Nat.le_of_ble_eq_true rfl⟩ (Nat.le_of_ble_eq_true rfl) ⟨Nat.le_of_ble_eq_true rfl, Nat.le_of_ble_eq_true rfl, Nat.le_of_ble_eq_true rfl, Nat.le_of_ble_eq_true rfl⟩ (fun _ _ q => q) ⟨Nat.le_of_ble_eq_true rfl, Nat.le_of_ble_eq_true rfl⟩ (k_Wr fun r2 s2 h => ?_)
  refine z_astore_n C dX11_settle_5 (i := 3) (lc' := [some (.ref 10), some (.int (a1)), some (.int (a2)), some (.ref (21 + 256 * r2)), none]) rfl (by decide) rfl ?_
  refine z_iload_n C dX11_settle_6 (i := 2) rfl rfl ?_
  refine z_iconst C dX11_settle_7 (v := 0) (by decide) ?_
  refine z_ldc C dX11_settle_8 kc_X11_114 ?_
  refine t_callSM C hex (rest := []) (c2 := 2) (s2 := 12) [.int (a2), .int (0), .int (1000000)] dX11_settle_10 lk_X11_107 ls_X11_checkRange (c_X11_checkRange hfl h) rfl rfl ⟨Nat.le_of_ble_eq_true rfl, Nat.le_of_ble_eq_true rfl⟩ (Nat.le_of_ble_eq_true rfl) ⟨Nat.le_of_ble_eq_true rfl, Nat.le_of_ble_eq_true rfl, Nat.le_of_ble_eq_true rfl, Nat.le_of_ble_eq_true rfl⟩ (fun _ _ q => ⟨_, q.1, q.2⟩) ⟨Nat.le_of_ble_eq_true rfl, Nat.le_of_ble_eq_true rfl⟩ (k_Rv fun h => ?_)
  refine z_aload_n C dX11_settle_13 (i := 3) rfl rfl ?_
  refine t_get C dX11_settle_14 fl_X11_164 (k := 21) (i := r2) (by decide) rfl (fg_21_4 _ _ _) ?_
  refine z_bipush C dX11_settle_17 (v := 7) (by decide) ?_
  refine z_icmp_eq C dX11_settle_19 (tgt := 33) (by decide) (fun c19 => ?_) (fun c19 => ?_)
  · have h := h.1 c19
    exact t_drop [true, false, true, true, false] rfl (j_X11_settle_33 hfl C hr hex  s2 a2 r2 h)
  · have h := h.2 c19
    refine z_aload_n C dX11_settle_22 (i := 3) rfl rfl ?_
    refine t_get C dX11_settle_23 fl_X11_164 (k := 21) (i := r2) (by decide) rfl (fg_21_4 _ _ _) ?_
    refine z_bipush C dX11_settle_26 (v := 6) (by decide) ?_
    refine z_icmp_eq C dX11_settle_28 (tgt := 33) (by decide) (fun c28 => ?_) (fun c28 => ?_)
    · have h := h.1 c28
      exact t_drop [true, false, true, true, false] rfl (j_X11_settle_33 hfl C hr hex  s2 a2 r2 h)
    · have h := h.2 c28
      refine z_iconst C dX11_settle_31 (v := (-1)) (by decide) ?_
      exact zG.up (z_iret C dX11_settle_32 hr rfl ⟨_, _, rfl, rfl, h⟩ (Nat.le_of_ble_eq_true rfl) (Nat.le_of_ble_eq_true rfl))
def w_Jx4a65c_size_8abf5_r32 (st : zTs)  (P : Int32 → Prop) : Prop := P (zgF st 32 0 2)
set_option maxHeartbeats 4000000 in
set_option maxRecDepth 100000 in
theorem c_Jx4a65c_size_8abf5_r32 {Z : zZ} {l : Launch} (hfl : l.stackTraces = false) {st : zTs}  {P : Int32 → Prop} (h : w_Jx4a65c_size_8abf5_r32 st  P) : zN Z l yJx4a65c_size_8abf5 cJx4a65c_size_8abf5 1 (some .int) ({ frames := 1, cells := 0, slots := 0, locals := 12 } : Room) (zh Z zm1 st) [.ref 32] (zRi Z st P) := by
  unfold w_Jx4a65c_size_8abf5_r32 at h
  refine z_enterF (by decide +kernel) (Nat.le_of_ble_eq_true rfl) (lc0 := [some (.ref 32)]) rfl ?_
  intro p e s m args below meth c ad0 C hr _
  have hn9 : True := trivial
  replace C : zC Z p s m args meth c cJx4a65c_size_8abf5 1 RJx4a65c := C
  refine z_aload_n C dJx4a65c_size_8abf5_0 (i := 0) rfl rfl ?_
  refine t_get C dJx4a65c_size_8abf5_1 fl_Jx4a65c_48 (k := 32) (i := 0) (by decide) rfl (fg_32_2 _ _ _) ?_
  exact z_iret C dJx4a65c_size_8abf5_4 hr rfl ⟨rfl, _, rfl, h⟩ (Nat.le_of_ble_eq_true rfl) (Nat.le_of_ble_eq_true rfl)
def w_Jx4a65c_elementData_915e3_r32i (st : zTs) (a1 : Int32) (P : Nat → Prop) : Prop := ((zgP st 32 0 1) % 256 = 36 ∧ vp_in a1 (zgP st 36 ((zgP st 32 0 1) / 256) 0) ∧ (a1 : Int32).toNatClampNeg < zgL st 36 ((zgP st 32 0 1) / 256)) ∧ (P ((a1 : Int32).toNatClampNeg))
set_option maxHeartbeats 4000000 in
set_option maxRecDepth 100000 in
theorem c_Jx4a65c_elementData_915e3_r32i {Z : zZ} {l : Launch} (hfl : l.stackTraces = false) {st : zTs} {a1 : Int32} {P : Nat → Prop} (h : w_Jx4a65c_elementData_915e3_r32i st a1 P) : zN Z l yJx4a65c_elementData_915e3 cJx4a65c_elementData_915e3 2 (some (.object "java/lang/Object")) ({ frames := 1, cells := 0, slots := 0, locals := 12 } : Room) (zh Z zm1 st) [.ref 32, .int (a1)] (zRr Z st 22 P) := by
  unfold w_Jx4a65c_elementData_915e3_r32i at h
  refine z_enterF (by decide +kernel) (Nat.le_of_ble_eq_true rfl) (lc0 := [some (.ref 32), some (.int (a1))]) rfl ?_
  intro p e s m args below meth c ad0 C hr _
  have hn9 : True := trivial
  replace C : zC Z p s m args meth c cJx4a65c_elementData_915e3 2 RJx4a65c := C
  refine z_aload_n C dJx4a65c_elementData_915e3_0 (i := 0) rfl rfl ?_
  refine t_get C dJx4a65c_elementData_915e3_1 fl_Jx4a65c_9 (k := 32) (i := 0) (by decide) rfl (fg_32_1 _ _ _) ?_
  refine z_iload_n C dJx4a65c_elementData_915e3_4 (i := 1) rfl rfl ?_
  obtain ⟨⟨g5, g5b, g5c⟩, h⟩ := h
  refine t_aldd C dJx4a65c_elementData_915e3_5 (by decide) g5 sh_36 g5b g5c ?_
  exact z_aret C dJx4a65c_elementData_915e3_6 hr (Or.inl ⟨_, rfl⟩) (Or.inr ⟨_, rfl⟩) ⟨rfl, _, rfl, h⟩ (Nat.le_of_ble_eq_true rfl) (Nat.le_of_ble_eq_true rfl)
def w_Jx4a65c_get_915e3_r32i (st : zTs) (a1 : Int32) (P : Nat → Prop) : Prop := w_J15_checkIndex_7cf53_ii st a1 (zgF st 32 0 2) (fun (r5 : Int32) => (w_Jx4a65c_elementData_915e3_r32i st a1 (fun (r11 : Nat) => (P r11))))
set_option maxHeartbeats 4000000 in
set_option maxRecDepth 100000 in
theorem c_Jx4a65c_get_915e3_r32i {Z : zZ} {l : Launch} (hfl : l.stackTraces = false) {st : zTs} {a1 : Int32} {P : Nat → Prop} (h : w_Jx4a65c_get_915e3_r32i st a1 P) : zN Z l yJx4a65c_get_915e3 cJx4a65c_get_915e3 2 (some (.object "java/lang/Object")) ({ frames := 3, cells := 0, slots := 0, locals := 55 } : Room) (zh Z zm1 st) [.ref 32, .int (a1)] (zRr Z st 22 P) := by
  unfold w_Jx4a65c_get_915e3_r32i at h
  refine z_enterF (by decide +kernel) (Nat.le_of_ble_eq_true rfl) (lc0 := [some (.ref 32), some (.int (a1))]) rfl ?_
  intro p e s m args below meth c ad0 C hr _
  have hn9 : True := trivial
  replace C : zC Z p s m args meth c cJx4a65c_get_915e3 2 RJx4a65c := C
  refine z_iload_n C dJx4a65c_get_915e3_0 (i := 1) rfl rfl ?_
  refine z_aload_n C dJx4a65c_get_915e3_1 (i := 0) rfl rfl ?_
  refine t_get C dJx4a65c_get_915e3_2 fl_Jx4a65c_48 (k := 32) (i := 0) (by decide) rfl (fg_32_2 _ _ _) ?_
  refine t_callS C (rest := []) (c2 := 0) (s2 := 0) [.int (a1), .int (zgF st 32 0 2)] dJx4a65c_get_915e3_5 lk_Jx4a65c_118 ls_J15_checkIndex_7cf53 (c_J15_checkIndex_7cf53_ii hfl h) rfl rfl ⟨Nat.le_of_ble_eq_true rfl, Nat.le_of_ble_eq_true rfl⟩ (Nat.le_of_ble_eq_true rfl) ⟨Nat.le_of_ble_eq_true rfl, Nat.le_of_ble_eq_true rfl, Nat.le_of_ble_eq_true rfl, Nat.le_of_ble_eq_true rfl⟩ (k_Ri fun r5 h => ?_)
  refine z_pop C dJx4a65c_get_915e3_8 rfl ?_
  refine z_aload_n C dJx4a65c_get_915e3_9 (i := 0) rfl rfl ?_
  refine z_iload_n C dJx4a65c_get_915e3_10 (i := 1) rfl rfl ?_
  refine t_callV C (rest := []) (c2 := 0) (s2 := 0) (kd := 32) (i := 0) [.int (a1)] dJx4a65c_get_915e3_11 lk_Jx4a65c_123 li_Jx4a65c_elementData_915e3 le_Jx4a65c_elementData_915e3 (c_Jx4a65c_elementData_915e3_r32i hfl h) rfl rfl (by decide) rfl ⟨_, rfl⟩ rfl ⟨Nat.le_of_ble_eq_true rfl, Nat.le_of_ble_eq_true rfl⟩ (Nat.le_of_ble_eq_true rfl) ⟨Nat.le_of_ble_eq_true rfl, Nat.le_of_ble_eq_true rfl, Nat.le_of_ble_eq_true rfl, Nat.le_of_ble_eq_true rfl⟩ (k_Rr fun r11 h => ?_)
  exact z_aret C dJx4a65c_get_915e3_14 hr (Or.inl ⟨_, rfl⟩) (Or.inr ⟨_, rfl⟩) ⟨rfl, _, rfl, h⟩ (Nat.le_of_ble_eq_true rfl) (Nat.le_of_ble_eq_true rfl)
def w_X11_surveyAt_15 (P : Nat → Prop) (X : Nat → Prop) (st : zTs)   : Prop := X 0
set_option maxHeartbeats 4000000 in
set_option maxRecDepth 100000 in
theorem j_X11_surveyAt_15 {P : Nat → Prop} {X : Nat → Prop} {st : zTs}  (hfl : l.stackTraces = false) (C : zC Z p s m args meth c cX11_surveyAt 2 RX11) (hr : meth.sig.returnType = (some (.object "PartyWalls$Survey"))) (hex : ∀ x ∈ c.exceptionTable.toList, False)   (h : w_X11_surveyAt_15 P X st ) : zG Z ad0 h0 p l e ({ frames := 8, cells := 1, slots := 6, locals := 100 } : Room) s m args below meth c (vx_MQ below (zQ Z ad0 h0 (zRr Z st 22 P)) (zX Z ad0 h0 (zXr Z st X)) args s 1 6 (zA Z)) 0 0 (zh Z zm1 st) 2 15 [none, none] [] := by
  unfold w_X11_surveyAt_15 at h
  exact z_throwW C hfl hex (six := 28) (text := "no such SURVEY") 0 (by decide) tw_0 (by decide +kernel) dX11_surveyAt_15 dX11_surveyAt_18 dX11_surveyAt_19 dX11_surveyAt_22 dX11_surveyAt_25 ⟨Nat.le_of_ble_eq_true rfl, Nat.le_of_ble_eq_true rfl, Nat.le_of_ble_eq_true rfl, Nat.le_of_ble_eq_true rfl⟩ ⟨Nat.le_of_ble_eq_true rfl, Nat.le_of_ble_eq_true rfl⟩ ⟨rfl, h⟩
def w_X11_surveyAt (st : zTs) (a1 : Int32) (X : Nat → Prop) (P : Nat → Prop) : Prop := (a1 < 0 → w_X11_surveyAt_15 P X st ) ∧ (¬ a1 < 0 → w_Jx4a65c_size_8abf5_r32 st (fun (r9 : Int32) => ((a1 < r9 → w_Jx4a65c_get_915e3_r32i st a1 (fun (r31 : Nat) => (P r31))) ∧ (¬ a1 < r9 → w_X11_surveyAt_15 P X st ))))
set_option maxHeartbeats 4000000 in
set_option maxRecDepth 100000 in
theorem c_X11_surveyAt {Z : zZ} {l : Launch} (hfl : l.stackTraces = false) {st : zTs} {a1 : Int32} {X : Nat → Prop} {P : Nat → Prop} (h : w_X11_surveyAt st a1 X P) : zM Z l yX11_surveyAt cX11_surveyAt 2 (some (.object "PartyWalls$Survey")) ({ frames := 8, cells := 1, slots := 6, locals := 100 } : Room) (zh Z zm1 st) [.ref 10, .int (a1)] (zRr Z st 22 P) (zXr Z st X) := by
  unfold w_X11_surveyAt at h
  refine z_enterM (by decide) (Nat.le_of_ble_eq_true rfl) (lc0 := [some (.ref 10), some (.int (a1))]) rfl ?_
  intro p e s m args below meth c ad0 C hr hex
  replace C : zC Z p s m args meth c cX11_surveyAt 2 RX11 := C
  refine z_iload_n C dX11_surveyAt_0 (i := 1) rfl rfl ?_
  refine z_if_lt C dX11_surveyAt_1 (tgt := 15) (by decide) (fun c1 => ?_) (fun c1 => ?_)
  · have h := h.1 c1
    exact t_drop [false, false] rfl (j_X11_surveyAt_15 hfl C hr hex   h)
  · have h := h.2 c1
    refine z_iload_n C dX11_surveyAt_4 (i := 1) rfl rfl ?_
    refine z_aload_n C dX11_surveyAt_5 (i := 0) rfl rfl ?_
    refine t_get C dX11_surveyAt_6 fl_X11_19 (k := 10) (i := 0) (by decide) rfl (fg_10_2 _ _ _) ?_
    refine t_callV C (rest := [.int (a1)]) (c2 := 0) (s2 := 0) (kd := 32) (i := 0) [] dX11_surveyAt_9 lk_X11_80 li_Jx4a65c_size_8abf5 le_Jx4a65c_size_8abf5 (c_Jx4a65c_size_8abf5_r32 hfl h) rfl rfl (by decide) rfl ⟨_, rfl⟩ rfl ⟨Nat.le_of_ble_eq_true rfl, Nat.le_of_ble_eq_true rfl⟩ (Nat.le_of_ble_eq_true rfl) ⟨Nat.le_of_ble_eq_true rfl, Nat.le_of_ble_eq_true rfl, Nat.le_of_ble_eq_true rfl, Nat.le_of_ble_eq_true rfl⟩ (k_Ri fun r9 h => ?_)
    refine z_icmp_lt C dX11_surveyAt_12 (tgt := 26) (by decide) (fun c12 => ?_) (fun c12 => ?_)
    · have h := h.1 c12
      refine z_aload_n C dX11_surveyAt_26 (i := 0) rfl rfl ?_
      refine t_get C dX11_surveyAt_27 fl_X11_19 (k := 10) (i := 0) (by decide) rfl (fg_10_2 _ _ _) ?_
      refine z_iload_n C dX11_surveyAt_30 (i := 1) rfl rfl ?_
      refine t_callV C (rest := []) (c2 := 0) (s2 := 0) (kd := 32) (i := 0) [.int (a1)] dX11_surveyAt_31 lk_X11_450 li_Jx4a65c_get_915e3 le_Jx4a65c_get_915e3 (c_Jx4a65c_get_915e3_r32i hfl h) rfl rfl (by decide) rfl ⟨_, rfl⟩ rfl ⟨Nat.le_of_ble_eq_true rfl, Nat.le_of_ble_eq_true rfl⟩ (Nat.le_of_ble_eq_true rfl) ⟨Nat.le_of_ble_eq_true rfl, Nat.le_of_ble_eq_true rfl, Nat.le_of_ble_eq_true rfl, Nat.le_of_ble_eq_true rfl⟩ (k_Rr fun r31 h => ?_)
      refine t_cast C dX11_surveyAt_34 kl_X11_364 (k0 := 22) (i := r31) (by decide) rfl ⟨_, rfl⟩ rfl ?_
      exact zG.up (z_aret C dX11_surveyAt_37 hr (Or.inl ⟨_, rfl⟩) (Or.inr ⟨_, rfl⟩) ⟨rfl, _, rfl, h⟩ (Nat.le_of_ble_eq_true rfl) (Nat.le_of_ble_eq_true rfl))
    · have h := h.2 c12
      exact t_drop [false, false] rfl (j_X11_surveyAt_15 hfl C hr hex   h)
def w_X11_crack (st : zTs) (a1 : Int32) (a2 : Int32) (a3 : Int32) (X : Nat → zTs → Prop) (P : Int32 → zTs → Prop) : Prop := w_X11_surveyAt st a1 (fun k9 => X k9 st) (fun (r2 : Nat) => (w_X11_checkRange st a2 0 100000 (fun k9 => X k9 st) ((w_X11_checkRange st a3 0 10000 (fun k9 => X k9 st) ((w_X7_cracks st r2 (fun (r25 : Int32) => ((r25 < 20 → w_X7_isBehind st r2 a2 (fun (r38 : Int32) => ((r38 = 0 → w_X7_addCrack st r2 a2 a3 (fun (s51 : zTs) => (w_X7_cracks s51 r2 (fun (r56 : Int32) => (P (r56 - 1) s51))))) ∧ (¬ r38 = 0 → P (-2) st)))) ∧ (¬ r25 < 20 → P (-1) st)))))))))
set_option maxHeartbeats 4000000 in
set_option maxRecDepth 100000 in
theorem c_X11_crack {Z : zZ} {l : Launch} (hfl : l.stackTraces = false) {st : zTs} {a1 : Int32} {a2 : Int32} {a3 : Int32} {X : Nat → zTs → Prop} {P : Int32 → zTs → Prop} (h : w_X11_crack st a1 a2 a3 X P) : zM Z l yX11_crack cX11_crack 5 (some .int) ({ frames := 9, cells := 3, slots := 18, locals := 122 } : Room) (zh Z zm1 st) [.ref 10, .int (a1), .int (a2), .int (a3)] (zWi Z P) (zXs Z X) := by
  unfold w_X11_crack at h
  refine z_enterM (by decide) (Nat.le_of_ble_eq_true rfl) (lc0 := [some (.ref 10), some (.int (a1)), some (.int (a2)), some (.int (a3)), none]) rfl ?_
  intro p e s m args below meth c ad0 C hr hex
  replace C : zC Z p s m args meth c cX11_crack 5 RX11 := C
  refine z_aload_n C dX11_crack_0 (i := 0) rfl rfl ?_
  refine z_iload_n C dX11_crack_1 (i := 1) rfl rfl ?_
  refine t_callVM C hex (rest := []) (c2 := 1) (s2 := 6) (kd := 10) (i := 0) [.int (a1)] dX11_crack_2 lk_X11_368 li_X11_surveyAt le_X11_surveyAt (c_X11_surveyAt hfl h) rfl rfl (by decide) rfl ⟨_, rfl⟩ rfl ⟨Nat.le_of_ble_eq_true rfl, Nat.le_of_ble_eq_true rfl⟩ (Nat.le_of_ble_eq_true rfl) ⟨Nat.le_of_ble_eq_true rfl, Nat.le_of_ble_eq_true rfl, Nat.le_of_ble_eq_true rfl, Nat.le_of_ble_eq_true rfl⟩ (fun _ _ q => ⟨_, q.1, q.2⟩) ⟨Nat.le_of_ble_eq_true rfl, Nat.le_of_ble_eq_true rfl⟩ (k_Rr fun r2 h => ?_)
  refine z_astore C dX11_crack_5 (lc' := [some (.ref 10), some (.int (a1)), some (.int (a2)), some (.int (a3)), some (.ref (22 + 256 * r2))]) (by decide) rfl ?_
  refine z_iload_n C dX11_crack_7 (i := 2) rfl rfl ?_
  refine z_iconst C dX11_crack_8 (v := 0) (by decide) ?_
  refine z_ldc_w C dX11_crack_9 kc_X11_277 ?_
  refine t_callSM C hex (rest := []) (c2 := 2) (s2 := 12) [.int (a2), .int (0), .int (100000)] dX11_crack_12 lk_X11_107 ls_X11_checkRange (c_X11_checkRange hfl h) rfl rfl ⟨Nat.le_of_ble_eq_true rfl, Nat.le_of_ble_eq_true rfl⟩ (Nat.le_of_ble_eq_true rfl) ⟨Nat.le_of_ble_eq_true rfl, Nat.le_of_ble_eq_true rfl, Nat.le_of_ble_eq_true rfl, Nat.le_of_ble_eq_true rfl⟩ (fun _ _ q => ⟨_, q.1, q.2⟩) ⟨Nat.le_of_ble_eq_true rfl, Nat.le_of_ble_eq_true rfl⟩ (k_Rv fun h => ?_)
  refine z_iload_n C dX11_crack_15 (i := 3) rfl rfl ?_
  refine z_iconst C dX11_crack_16 (v := 0) (by decide) ?_
  refine z_sipush C dX11_crack_17 (v := 10000) (by decide) ?_
  refine t_callSM C hex (rest := []) (c2 := 3) (s2 := 18) [.int (a3), .int (0), .int (10000)] dX11_crack_20 lk_X11_107 ls_X11_checkRange (c_X11_checkRange hfl h) rfl rfl ⟨Nat.le_of_ble_eq_true rfl, Nat.le_of_ble_eq_true rfl⟩ (Nat.le_of_ble_eq_true rfl) ⟨Nat.le_of_ble_eq_true rfl, Nat.le_of_ble_eq_true rfl, Nat.le_of_ble_eq_true rfl, Nat.le_of_ble_eq_true rfl⟩ (fun _ _ q => ⟨_, q.1, q.2⟩) ⟨Nat.le_of_ble_eq_true rfl, Nat.le_of_ble_eq_true rfl⟩ (k_Rv fun h => ?_)
  refine z_aload C dX11_crack_23 rfl ?_
  refine t_callV C (rest := []) (c2 := 3) (s2 := 18) (kd := 22) (i := r2) [] dX11_crack_25 lk_X11_372 li_X7_cracks le_X7_cracks (c_X7_cracks hfl h) rfl rfl (by decide) rfl ⟨_, rfl⟩ rfl ⟨Nat.le_of_ble_eq_true rfl, Nat.le_of_ble_eq_true rfl⟩ (Nat.le_of_ble_eq_true rfl) ⟨Nat.le_of_ble_eq_true rfl, Nat.le_of_ble_eq_true rfl, Nat.le_of_ble_eq_true rfl, Nat.le_of_ble_eq_true rfl⟩ (k_Ri fun r25 h => ?_)
  refine z_bipush C dX11_crack_28 (v := 20) (by decide) ?_
  refine z_icmp_lt C dX11_crack_30 (tgt := 35) (by decide) (fun c30 => ?_) (fun c30 => ?_)
  · have h := h.1 c30
    refine z_aload C dX11_crack_35 rfl ?_
    refine z_iload_n C dX11_crack_37 (i := 2) rfl rfl ?_
    refine t_callV C (rest := []) (c2 := 3) (s2 := 18) (kd := 22) (i := r2) [.int (a2)] dX11_crack_38 lk_X11_375 li_X7_isBehind le_X7_isBehind (c_X7_isBehind hfl h) rfl rfl (by decide) rfl ⟨_, rfl⟩ rfl ⟨Nat.le_of_ble_eq_true rfl, Nat.le_of_ble_eq_true rfl⟩ (Nat.le_of_ble_eq_true rfl) ⟨Nat.le_of_ble_eq_true rfl, Nat.le_of_ble_eq_true rfl, Nat.le_of_ble_eq_true rfl, Nat.le_of_ble_eq_true rfl⟩ (k_Ri fun r38 h => ?_)
    refine z_if_eq C dX11_crack_41 (tgt := 47) (by decide) (fun c41 => ?_) (fun c41 => ?_)
    · have h := h.1 c41
      refine z_aload C dX11_crack_47 rfl ?_
      refine z_iload_n C dX11_crack_49 (i := 2) rfl rfl ?_
      refine z_iload_n C dX11_crack_50 (i := 3) rfl rfl ?_
      refine t_callV C (rest := []) (c2 := 3) (s2 := 18) (kd := 22) (i := r2) [.int (a2), .int (a3)] dX11_crack_51 lk_X11_379 li_X7_addCrack le_X7_addCrack (c_X7_addCrack hfl h) rfl rfl (by decide) rfl ⟨_, rfl⟩ rfl ⟨Nat.le_of_ble_eq_true rfl, Nat.le_of_ble_eq_true rfl⟩ (Nat.le_of_ble_eq_true rfl) ⟨Nat.le_of_ble_eq_true rfl, Nat.le_of_ble_eq_true rfl, Nat.le_of_ble_eq_true rfl, Nat.le_of_ble_eq_true rfl⟩ (k_Wv fun s51 h => ?_)
      refine z_aload C dX11_crack_54 rfl ?_
      refine t_callV C (rest := []) (c2 := 3) (s2 := 18) (kd := 22) (i := r2) [] dX11_crack_56 lk_X11_372 li_X7_cracks le_X7_cracks (c_X7_cracks hfl h) rfl rfl (by decide) rfl ⟨_, rfl⟩ rfl ⟨Nat.le_of_ble_eq_true rfl, Nat.le_of_ble_eq_true rfl⟩ (Nat.le_of_ble_eq_true rfl) ⟨Nat.le_of_ble_eq_true rfl, Nat.le_of_ble_eq_true rfl, Nat.le_of_ble_eq_true rfl, Nat.le_of_ble_eq_true rfl⟩ (k_Ri fun r56 h => ?_)
      refine z_iconst C dX11_crack_59 (v := 1) (by decide) ?_
      refine z_isub C dX11_crack_60 ?_
      exact zG.up (z_iret C dX11_crack_61 hr rfl ⟨_, _, rfl, rfl, h⟩ (Nat.le_of_ble_eq_true rfl) (Nat.le_of_ble_eq_true rfl))
    · have h := h.2 c41
      refine z_bipush C dX11_crack_44 (v := (-2)) (by decide) ?_
      exact zG.up (z_iret C dX11_crack_46 hr rfl ⟨_, _, rfl, rfl, h⟩ (Nat.le_of_ble_eq_true rfl) (Nat.le_of_ble_eq_true rfl))
  · have h := h.2 c30
    refine z_iconst C dX11_crack_33 (v := (-1)) (by decide) ?_
    exact zG.up (z_iret C dX11_crack_34 hr rfl ⟨_, _, rfl, rfl, h⟩ (Nat.le_of_ble_eq_true rfl) (Nat.le_of_ble_eq_true rfl))
def w_X11_joined (st : zTs) (a1 : Int32) (a2 : Int32) (a3 : Int32) (X : Nat → zTs → Prop) (P : Int32 → zTs → Prop) : Prop := w_X11_surveyAt st a1 (fun k9 => X k9 st) (fun (r2 : Nat) => (w_X11_surveyAt st a2 (fun k9 => X k9 st) (fun (r9 : Nat) => (w_X11_checkRange st a3 0 4 (fun k9 => X k9 st) ((w_X3_join st r2 r9 (zgF st 24 (zgP st 10 0 16) 11) (fun (s35 : zTs) => (w_X3_grownByMoreThan s35 (zgF s35 24 (zgP s35 10 0 16) 10) r2 r9 (fun (r53 : Int32) => ((a3 = 0 → w_X3_pairs s35 (fun (r92 : Int32) => (P (r92 - r53) s35))) ∧ (a3 = 1 → P r53 s35) ∧ (a3 = 2 → w_X7_cracks s35 r9 (fun (r104 : Int32) => (w_X3_pairs s35 (fun (r111 : Int32) => (P (r104 - r111) s35))))) ∧ (a3 = 3 → w_X7_cracks s35 r2 (fun (r118 : Int32) => (w_X3_pairs s35 (fun (r125 : Int32) => (P (r118 - r125) s35))))) ∧ (¬ a3 = 0 ∧ ¬ a3 = 1 ∧ ¬ a3 = 2 ∧ ¬ a3 = 3 → w_X3_apart s35 (fun (r134 : Int32) => (P r134 s35)))))))))))))
set_option maxHeartbeats 4000000 in
set_option maxRecDepth 100000 in
theorem c_X11_joined {Z : zZ} {l : Launch} (hfl : l.stackTraces = false) {st : zTs} {a1 : Int32} {a2 : Int32} {a3 : Int32} {X : Nat → zTs → Prop} {P : Int32 → zTs → Prop} (h : w_X11_joined st a1 a2 a3 X P) : zM Z l yX11_joined cX11_joined 7 (some .int) ({ frames := 9, cells := 3, slots := 18, locals := 122 } : Room) (zh Z zm1 st) [.ref 10, .int (a1), .int (a2), .int (a3)] (zWi Z P) (zXs Z X) := by
  unfold w_X11_joined at h
  refine z_enterM (by decide) (Nat.le_of_ble_eq_true rfl) (lc0 := [some (.ref 10), some (.int (a1)), some (.int (a2)), some (.int (a3)), none, none, none]) rfl ?_
  intro p e s m args below meth c ad0 C hr hex
  replace C : zC Z p s m args meth c cX11_joined 7 RX11 := C
  refine z_aload_n C dX11_joined_0 (i := 0) rfl rfl ?_
  refine z_iload_n C dX11_joined_1 (i := 1) rfl rfl ?_
  refine t_callVM C hex (rest := []) (c2 := 1) (s2 := 6) (kd := 10) (i := 0) [.int (a1)] dX11_joined_2 lk_X11_368 li_X11_surveyAt le_X11_surveyAt (c_X11_surveyAt hfl h) rfl rfl (by decide) rfl ⟨_, rfl⟩ rfl ⟨Nat.le_of_ble_eq_true rfl, Nat.le_of_ble_eq_true rfl⟩ (Nat.le_of_ble_eq_true rfl) ⟨Nat.le_of_ble_eq_true rfl, Nat.le_of_ble_eq_true rfl, Nat.le_of_ble_eq_true rfl, Nat.le_of_ble_eq_true rfl⟩ (fun _ _ q => ⟨_, q.1, q.2⟩) ⟨Nat.le_of_ble_eq_true rfl, Nat.le_of_ble_eq_true rfl⟩ (k_Rr fun r2 h => ?_)
  refine z_astore C dX11_joined_5 (lc' := [some (.ref 10), some (.int (a1)), some (.int (a2)), some (.int (a3)), some (.ref (22 + 256 * r2)), none, none]) (by decide) rfl ?_
  refine z_aload_n C dX11_joined_7 (i := 0) rfl rfl ?_
  refine z_iload_n C dX11_joined_8 (i := 2) rfl rfl ?_
  refine t_callVM C hex (rest := []) (c2 := 2) (s2 := 12) (kd := 10) (i := 0) [.int (a2)] dX11_joined_9 lk_X11_368 li_X11_surveyAt le_X11_surveyAt (c_X11_surveyAt hfl h) rfl rfl (by decide) rfl ⟨_, rfl⟩ rfl ⟨Nat.le_of_ble_eq_true rfl, Nat.le_of_ble_eq_true rfl⟩ (Nat.le_of_ble_eq_true rfl) ⟨Nat.le_of_ble_eq_true rfl, Nat.le_of_ble_eq_true rfl, Nat.le_of_ble_eq_true rfl, Nat.le_of_ble_eq_true rfl⟩ (fun _ _ q => ⟨_, q.1, q.2⟩) ⟨Nat.le_of_ble_eq_true rfl, Nat.le_of_ble_eq_true rfl⟩ (k_Rr fun r9 h => ?_)
  refine z_astore C dX11_joined_12 (lc' := [some (.ref 10), some (.int (a1)), some (.int (a2)), some (.int (a3)), some (.ref (22 + 256 * r2)), some (.ref (22 + 256 * r9)), none]) (by decide) rfl ?_
  refine z_iload_n C dX11_joined_14 (i := 3) rfl rfl ?_
  refine z_iconst C dX11_joined_15 (v := 0) (by decide) ?_
  refine z_iconst C dX11_joined_16 (v := 4) (by decide) ?_
  refine t_callSM C hex (rest := []) (c2 := 3) (s2 := 18) [.int (a3), .int (0), .int (4)] dX11_joined_17 lk_X11_107 ls_X11_checkRange (c_X11_checkRange hfl h) rfl rfl ⟨Nat.le_of_ble_eq_true rfl, Nat.le_of_ble_eq_true rfl⟩ (Nat.le_of_ble_eq_true rfl) ⟨Nat.le_of_ble_eq_true rfl, Nat.le_of_ble_eq_true rfl, Nat.le_of_ble_eq_true rfl, Nat.le_of_ble_eq_true rfl⟩ (fun _ _ q => ⟨_, q.1, q.2⟩) ⟨Nat.le_of_ble_eq_true rfl, Nat.le_of_ble_eq_true rfl⟩ (k_Rv fun h => ?_)
  refine z_aload_n C dX11_joined_20 (i := 0) rfl rfl ?_
  refine t_get C dX11_joined_21 fl_X11_45 (k := 10) (i := 0) (by decide) rfl (fg_10_8 _ _ _) ?_
  refine z_aload C dX11_joined_24 rfl ?_
  refine z_aload C dX11_joined_26 rfl ?_
  refine z_aload_n C dX11_joined_28 (i := 0) rfl rfl ?_
  refine t_get C dX11_joined_29 fl_X11_65 (k := 10) (i := 0) (by decide) rfl (fg_10_16 _ _ _) ?_
  refine t_get C dX11_joined_32 fl_X11_382 (k := 24) (i := zgP st 10 0 16) (by decide) rfl (fg_24_11 _ _ _) ?_
  refine t_callV C (rest := []) (c2 := 3) (s2 := 18) (kd := 12) (i := 0) [.ref (22 + 256 * r2), .ref (22 + 256 * r9), .int (zgF st 24 (zgP st 10 0 16) 11)] dX11_joined_35 lk_X11_385 li_X3_join le_X3_join (c_X3_join hfl h) rfl rfl (by decide) rfl ⟨_, rfl⟩ rfl ⟨Nat.le_of_ble_eq_true rfl, Nat.le_of_ble_eq_true rfl⟩ (Nat.le_of_ble_eq_true rfl) ⟨Nat.le_of_ble_eq_true rfl, Nat.le_of_ble_eq_true rfl, Nat.le_of_ble_eq_true rfl, Nat.le_of_ble_eq_true rfl⟩ (k_Wv fun s35 h => ?_)
  refine z_aload_n C dX11_joined_38 (i := 0) rfl rfl ?_
  refine t_get C dX11_joined_39 fl_X11_45 (k := 10) (i := 0) (by decide) rfl (fg_10_8 _ _ _) ?_
  refine z_aload_n C dX11_joined_42 (i := 0) rfl rfl ?_
  refine t_get C dX11_joined_43 fl_X11_65 (k := 10) (i := 0) (by decide) rfl (fg_10_16 _ _ _) ?_
  refine t_get C dX11_joined_46 fl_X11_389 (k := 24) (i := zgP s35 10 0 16) (by decide) rfl (fg_24_10 _ _ _) ?_
  refine z_aload C dX11_joined_49 rfl ?_
  refine z_aload C dX11_joined_51 rfl ?_
  refine t_callV C (rest := []) (c2 := 3) (s2 := 18) (kd := 12) (i := 0) [.int (zgF s35 24 (zgP s35 10 0 16) 10), .ref (22 + 256 * r2), .ref (22 + 256 * r9)] dX11_joined_53 lk_X11_392 li_X3_grownByMoreThan le_X3_grownByMoreThan (c_X3_grownByMoreThan hfl h) rfl rfl (by decide) rfl ⟨_, rfl⟩ rfl ⟨Nat.le_of_ble_eq_true rfl, Nat.le_of_ble_eq_true rfl⟩ (Nat.le_of_ble_eq_true rfl) ⟨Nat.le_of_ble_eq_true rfl, Nat.le_of_ble_eq_true rfl, Nat.le_of_ble_eq_true rfl, Nat.le_of_ble_eq_true rfl⟩ (k_Ri fun r53 h => ?_)
  refine z_istore C dX11_joined_56 (lc' := [some (.ref 10), some (.int (a1)), some (.int (a2)), some (.int (a3)), some (.ref (22 + 256 * r2)), some (.ref (22 + 256 * r9)), some (.int (r53))]) (by decide) rfl ?_
  refine z_iload_n C dX11_joined_58 (i := 3) rfl rfl ?_
  by_cases c59_0 : a3 = 0
  · have h := h.1 c59_0
    refine z_tableIn C dX11_joined_59 (off := 29) (tgt := 88) (by rw [c59_0]; decide) (by rw [c59_0]; decide) (by rw [c59_0]; rfl) (by decide) ?_
    refine z_aload_n C dX11_joined_88 (i := 0) rfl rfl ?_
    refine t_get C dX11_joined_89 fl_X11_45 (k := 10) (i := 0) (by decide) rfl (fg_10_8 _ _ _) ?_
    refine t_callV C (rest := []) (c2 := 3) (s2 := 18) (kd := 12) (i := 0) [] dX11_joined_92 lk_X11_396 li_X3_pairs le_X3_pairs (c_X3_pairs hfl h) rfl rfl (by decide) rfl ⟨_, rfl⟩ rfl ⟨Nat.le_of_ble_eq_true rfl, Nat.le_of_ble_eq_true rfl⟩ (Nat.le_of_ble_eq_true rfl) ⟨Nat.le_of_ble_eq_true rfl, Nat.le_of_ble_eq_true rfl, Nat.le_of_ble_eq_true rfl, Nat.le_of_ble_eq_true rfl⟩ (k_Ri fun r92 h => ?_)
    refine z_iload C dX11_joined_95 rfl ?_
    refine z_isub C dX11_joined_97 ?_
    exact zG.up (z_iret C dX11_joined_98 hr rfl ⟨_, _, rfl, rfl, h⟩ (Nat.le_of_ble_eq_true rfl) (Nat.le_of_ble_eq_true rfl))
  · by_cases c59_1 : a3 = 1
    · have h := h.2.1 c59_1
      refine z_tableIn C dX11_joined_59 (off := 40) (tgt := 99) (by rw [c59_1]; decide) (by rw [c59_1]; decide) (by rw [c59_1]; rfl) (by decide) ?_
      refine z_iload C dX11_joined_99 rfl ?_
      exact zG.up (z_iret C dX11_joined_101 hr rfl ⟨_, _, rfl, rfl, h⟩ (Nat.le_of_ble_eq_true rfl) (Nat.le_of_ble_eq_true rfl))
    · by_cases c59_2 : a3 = 2
      · have h := h.2.2.1 c59_2
        refine z_tableIn C dX11_joined_59 (off := 43) (tgt := 102) (by rw [c59_2]; decide) (by rw [c59_2]; decide) (by rw [c59_2]; rfl) (by decide) ?_
        refine z_aload C dX11_joined_102 rfl ?_
        refine t_callV C (rest := []) (c2 := 3) (s2 := 18) (kd := 22) (i := r9) [] dX11_joined_104 lk_X11_372 li_X7_cracks le_X7_cracks (c_X7_cracks hfl h) rfl rfl (by decide) rfl ⟨_, rfl⟩ rfl ⟨Nat.le_of_ble_eq_true rfl, Nat.le_of_ble_eq_true rfl⟩ (Nat.le_of_ble_eq_true rfl) ⟨Nat.le_of_ble_eq_true rfl, Nat.le_of_ble_eq_true rfl, Nat.le_of_ble_eq_true rfl, Nat.le_of_ble_eq_true rfl⟩ (k_Ri fun r104 h => ?_)
        refine z_aload_n C dX11_joined_107 (i := 0) rfl rfl ?_
        refine t_get C dX11_joined_108 fl_X11_45 (k := 10) (i := 0) (by decide) rfl (fg_10_8 _ _ _) ?_
        refine t_callV C (rest := [.int (r104)]) (c2 := 3) (s2 := 18) (kd := 12) (i := 0) [] dX11_joined_111 lk_X11_396 li_X3_pairs le_X3_pairs (c_X3_pairs hfl h) rfl rfl (by decide) rfl ⟨_, rfl⟩ rfl ⟨Nat.le_of_ble_eq_true rfl, Nat.le_of_ble_eq_true rfl⟩ (Nat.le_of_ble_eq_true rfl) ⟨Nat.le_of_ble_eq_true rfl, Nat.le_of_ble_eq_true rfl, Nat.le_of_ble_eq_true rfl, Nat.le_of_ble_eq_true rfl⟩ (k_Ri fun r111 h => ?_)
        refine z_isub C dX11_joined_114 ?_
        exact zG.up (z_iret C dX11_joined_115 hr rfl ⟨_, _, rfl, rfl, h⟩ (Nat.le_of_ble_eq_true rfl) (Nat.le_of_ble_eq_true rfl))
      · by_cases c59_3 : a3 = 3
        · have h := h.2.2.2.1 c59_3
          refine z_tableIn C dX11_joined_59 (off := 57) (tgt := 116) (by rw [c59_3]; decide) (by rw [c59_3]; decide) (by rw [c59_3]; rfl) (by decide) ?_
          refine z_aload C dX11_joined_116 rfl ?_
          refine t_callV C (rest := []) (c2 := 3) (s2 := 18) (kd := 22) (i := r2) [] dX11_joined_118 lk_X11_372 li_X7_cracks le_X7_cracks (c_X7_cracks hfl h) rfl rfl (by decide) rfl ⟨_, rfl⟩ rfl ⟨Nat.le_of_ble_eq_true rfl, Nat.le_of_ble_eq_true rfl⟩ (Nat.le_of_ble_eq_true rfl) ⟨Nat.le_of_ble_eq_true rfl, Nat.le_of_ble_eq_true rfl, Nat.le_of_ble_eq_true rfl, Nat.le_of_ble_eq_true rfl⟩ (k_Ri fun r118 h => ?_)
          refine z_aload_n C dX11_joined_121 (i := 0) rfl rfl ?_
          refine t_get C dX11_joined_122 fl_X11_45 (k := 10) (i := 0) (by decide) rfl (fg_10_8 _ _ _) ?_
          refine t_callV C (rest := [.int (r118)]) (c2 := 3) (s2 := 18) (kd := 12) (i := 0) [] dX11_joined_125 lk_X11_396 li_X3_pairs le_X3_pairs (c_X3_pairs hfl h) rfl rfl (by decide) rfl ⟨_, rfl⟩ rfl ⟨Nat.le_of_ble_eq_true rfl, Nat.le_of_ble_eq_true rfl⟩ (Nat.le_of_ble_eq_true rfl) ⟨Nat.le_of_ble_eq_true rfl, Nat.le_of_ble_eq_true rfl, Nat.le_of_ble_eq_true rfl, Nat.le_of_ble_eq_true rfl⟩ (k_Ri fun r125 h => ?_)
          refine z_isub C dX11_joined_128 ?_
          exact zG.up (z_iret C dX11_joined_129 hr rfl ⟨_, _, rfl, rfl, h⟩ (Nat.le_of_ble_eq_true rfl) (Nat.le_of_ble_eq_true rfl))
        · have h := h.2.2.2.2 ⟨c59_0, c59_1, c59_2, c59_3⟩
          refine z_tableOut C dX11_joined_59 (tgt := 130) (zsw_out (lt_s (p := fun a => ¬ a3 = nI a) (lt_s (p := fun a => ¬ a3 = nI a) (lt_s (p := fun a => ¬ a3 = nI a) (lt_s (p := fun a => ¬ a3 = nI a) lt_0 c59_0) c59_1) c59_2) c59_3)) (by decide) ?_
          refine z_aload_n C dX11_joined_130 (i := 0) rfl rfl ?_
          refine t_get C dX11_joined_131 fl_X11_45 (k := 10) (i := 0) (by decide) rfl (fg_10_8 _ _ _) ?_
          refine t_callV C (rest := []) (c2 := 3) (s2 := 18) (kd := 12) (i := 0) [] dX11_joined_134 lk_X11_399 li_X3_apart le_X3_apart (c_X3_apart hfl h) rfl rfl (by decide) rfl ⟨_, rfl⟩ rfl ⟨Nat.le_of_ble_eq_true rfl, Nat.le_of_ble_eq_true rfl⟩ (Nat.le_of_ble_eq_true rfl) ⟨Nat.le_of_ble_eq_true rfl, Nat.le_of_ble_eq_true rfl, Nat.le_of_ble_eq_true rfl, Nat.le_of_ble_eq_true rfl⟩ (k_Ri fun r134 h => ?_)
          exact zG.up (z_iret C dX11_joined_137 hr rfl ⟨_, _, rfl, rfl, h⟩ (Nat.le_of_ble_eq_true rfl) (Nat.le_of_ble_eq_true rfl))
def w_X11_pair (st : zTs) (a1 : Int32) (a2 : Int32) (a3 : Int32) (X : Nat → zTs → Prop) (P : Int32 → zTs → Prop) : Prop := w_X11_surveyAt st a1 (fun k9 => X k9 st) (fun (r2 : Nat) => (w_X11_surveyAt st a2 (fun k9 => X k9 st) (fun (r9 : Nat) => (w_X3_join st r2 r9 (zgF st 24 (zgP st 10 0 16) 11) (fun (s29 : zTs) => (w_X3_partnerOf s29 a3 (fun (r37 : Int32) => (P r37 s29))))))))
set_option maxHeartbeats 4000000 in
set_option maxRecDepth 100000 in
theorem c_X11_pair {Z : zZ} {l : Launch} (hfl : l.stackTraces = false) {st : zTs} {a1 : Int32} {a2 : Int32} {a3 : Int32} {X : Nat → zTs → Prop} {P : Int32 → zTs → Prop} (h : w_X11_pair st a1 a2 a3 X P) : zM Z l yX11_pair cX11_pair 6 (some .int) ({ frames := 9, cells := 2, slots := 12, locals := 121 } : Room) (zh Z zm1 st) [.ref 10, .int (a1), .int (a2), .int (a3)] (zWi Z P) (zXs Z X) := by
  unfold w_X11_pair at h
  refine z_enterM (by decide) (Nat.le_of_ble_eq_true rfl) (lc0 := [some (.ref 10), some (.int (a1)), some (.int (a2)), some (.int (a3)), none, none]) rfl ?_
  intro p e s m args below meth c ad0 C hr hex
  replace C : zC Z p s m args meth c cX11_pair 6 RX11 := C
  refine z_aload_n C dX11_pair_0 (i := 0) rfl rfl ?_
  refine z_iload_n C dX11_pair_1 (i := 1) rfl rfl ?_
  refine t_callVM C hex (rest := []) (c2 := 1) (s2 := 6) (kd := 10) (i := 0) [.int (a1)] dX11_pair_2 lk_X11_368 li_X11_surveyAt le_X11_surveyAt (c_X11_surveyAt hfl h) rfl rfl (by decide) rfl ⟨_, rfl⟩ rfl ⟨Nat.le_of_ble_eq_true rfl, Nat.le_of_ble_eq_true rfl⟩ (Nat.le_of_ble_eq_true rfl) ⟨Nat.le_of_ble_eq_true rfl, Nat.le_of_ble_eq_true rfl, Nat.le_of_ble_eq_true rfl, Nat.le_of_ble_eq_true rfl⟩ (fun _ _ q => ⟨_, q.1, q.2⟩) ⟨Nat.le_of_ble_eq_true rfl, Nat.le_of_ble_eq_true rfl⟩ (k_Rr fun r2 h => ?_)
  refine z_astore C dX11_pair_5 (lc' := [some (.ref 10), some (.int (a1)), some (.int (a2)), some (.int (a3)), some (.ref (22 + 256 * r2)), none]) (by decide) rfl ?_
  refine z_aload_n C dX11_pair_7 (i := 0) rfl rfl ?_
  refine z_iload_n C dX11_pair_8 (i := 2) rfl rfl ?_
  refine t_callVM C hex (rest := []) (c2 := 2) (s2 := 12) (kd := 10) (i := 0) [.int (a2)] dX11_pair_9 lk_X11_368 li_X11_surveyAt le_X11_surveyAt (c_X11_surveyAt hfl h) rfl rfl (by decide) rfl ⟨_, rfl⟩ rfl ⟨Nat.le_of_ble_eq_true rfl, Nat.le_of_ble_eq_true rfl⟩ (Nat.le_of_ble_eq_true rfl) ⟨Nat.le_of_ble_eq_true rfl, Nat.le_of_ble_eq_true rfl, Nat.le_of_ble_eq_true rfl, Nat.le_of_ble_eq_true rfl⟩ (fun _ _ q => ⟨_, q.1, q.2⟩) ⟨Nat.le_of_ble_eq_true rfl, Nat.le_of_ble_eq_true rfl⟩ (k_Rr fun r9 h => ?_)
  refine z_astore C dX11_pair_12 (lc' := [some (.ref 10), some (.int (a1)), some (.int (a2)), some (.int (a3)), some (.ref (22 + 256 * r2)), some (.ref (22 + 256 * r9))]) (by decide) rfl ?_
  refine z_aload_n C dX11_pair_14 (i := 0) rfl rfl ?_
  refine t_get C dX11_pair_15 fl_X11_45 (k := 10) (i := 0) (by decide) rfl (fg_10_8 _ _ _) ?_
  refine z_aload C dX11_pair_18 rfl ?_
  refine z_aload C dX11_pair_20 rfl ?_
  refine z_aload_n C dX11_pair_22 (i := 0) rfl rfl ?_
  refine t_get C dX11_pair_23 fl_X11_65 (k := 10) (i := 0) (by decide) rfl (fg_10_16 _ _ _) ?_
  refine t_get C dX11_pair_26 fl_X11_382 (k := 24) (i := zgP st 10 0 16) (by decide) rfl (fg_24_11 _ _ _) ?_
  refine t_callV C (rest := []) (c2 := 2) (s2 := 12) (kd := 12) (i := 0) [.ref (22 + 256 * r2), .ref (22 + 256 * r9), .int (zgF st 24 (zgP st 10 0 16) 11)] dX11_pair_29 lk_X11_385 li_X3_join le_X3_join (c_X3_join hfl h) rfl rfl (by decide) rfl ⟨_, rfl⟩ rfl ⟨Nat.le_of_ble_eq_true rfl, Nat.le_of_ble_eq_true rfl⟩ (Nat.le_of_ble_eq_true rfl) ⟨Nat.le_of_ble_eq_true rfl, Nat.le_of_ble_eq_true rfl, Nat.le_of_ble_eq_true rfl, Nat.le_of_ble_eq_true rfl⟩ (k_Wv fun s29 h => ?_)
  refine z_aload_n C dX11_pair_32 (i := 0) rfl rfl ?_
  refine t_get C dX11_pair_33 fl_X11_45 (k := 10) (i := 0) (by decide) rfl (fg_10_8 _ _ _) ?_
  refine z_iload_n C dX11_pair_36 (i := 3) rfl rfl ?_
  refine t_callV C (rest := []) (c2 := 2) (s2 := 12) (kd := 12) (i := 0) [.int (a3)] dX11_pair_37 lk_X11_402 li_X3_partnerOf le_X3_partnerOf (c_X3_partnerOf hfl h) rfl rfl (by decide) rfl ⟨_, rfl⟩ rfl ⟨Nat.le_of_ble_eq_true rfl, Nat.le_of_ble_eq_true rfl⟩ (Nat.le_of_ble_eq_true rfl) ⟨Nat.le_of_ble_eq_true rfl, Nat.le_of_ble_eq_true rfl, Nat.le_of_ble_eq_true rfl, Nat.le_of_ble_eq_true rfl⟩ (k_Ri fun r37 h => ?_)
  exact zG.up (z_iret C dX11_pair_40 hr rfl ⟨_, _, rfl, rfl, h⟩ (Nat.le_of_ble_eq_true rfl) (Nat.le_of_ble_eq_true rfl))
def w_Jx4a65c_size_8abf5_r33 (st : zTs)  (P : Int32 → Prop) : Prop := P (zgF st 33 0 2)
set_option maxHeartbeats 4000000 in
set_option maxRecDepth 100000 in
theorem c_Jx4a65c_size_8abf5_r33 {Z : zZ} {l : Launch} (hfl : l.stackTraces = false) {st : zTs}  {P : Int32 → Prop} (h : w_Jx4a65c_size_8abf5_r33 st  P) : zN Z l yJx4a65c_size_8abf5 cJx4a65c_size_8abf5 1 (some .int) ({ frames := 1, cells := 0, slots := 0, locals := 12 } : Room) (zh Z zm1 st) [.ref 33] (zRi Z st P) := by
  unfold w_Jx4a65c_size_8abf5_r33 at h
  refine z_enterF (by decide +kernel) (Nat.le_of_ble_eq_true rfl) (lc0 := [some (.ref 33)]) rfl ?_
  intro p e s m args below meth c ad0 C hr _
  have hn9 : True := trivial
  replace C : zC Z p s m args meth c cJx4a65c_size_8abf5 1 RJx4a65c := C
  refine z_aload_n C dJx4a65c_size_8abf5_0 (i := 0) rfl rfl ?_
  refine t_get C dJx4a65c_size_8abf5_1 fl_Jx4a65c_48 (k := 33) (i := 0) (by decide) rfl (fg_33_2 _ _ _) ?_
  exact z_iret C dJx4a65c_size_8abf5_4 hr rfl ⟨rfl, _, rfl, h⟩ (Nat.le_of_ble_eq_true rfl) (Nat.le_of_ble_eq_true rfl)
def w_Jx4a65c_elementData_915e3_r33i (st : zTs) (a1 : Int32) (P : Nat → Prop) : Prop := ((zgP st 33 0 1) % 256 = 37 ∧ vp_in a1 (zgP st 37 ((zgP st 33 0 1) / 256) 0) ∧ (a1 : Int32).toNatClampNeg < zgL st 37 ((zgP st 33 0 1) / 256)) ∧ (P ((a1 : Int32).toNatClampNeg))
set_option maxHeartbeats 4000000 in
set_option maxRecDepth 100000 in
theorem c_Jx4a65c_elementData_915e3_r33i {Z : zZ} {l : Launch} (hfl : l.stackTraces = false) {st : zTs} {a1 : Int32} {P : Nat → Prop} (h : w_Jx4a65c_elementData_915e3_r33i st a1 P) : zN Z l yJx4a65c_elementData_915e3 cJx4a65c_elementData_915e3 2 (some (.object "java/lang/Object")) ({ frames := 1, cells := 0, slots := 0, locals := 12 } : Room) (zh Z zm1 st) [.ref 33, .int (a1)] (zRr Z st 23 P) := by
  unfold w_Jx4a65c_elementData_915e3_r33i at h
  refine z_enterF (by decide +kernel) (Nat.le_of_ble_eq_true rfl) (lc0 := [some (.ref 33), some (.int (a1))]) rfl ?_
  intro p e s m args below meth c ad0 C hr _
  have hn9 : True := trivial
  replace C : zC Z p s m args meth c cJx4a65c_elementData_915e3 2 RJx4a65c := C
  refine z_aload_n C dJx4a65c_elementData_915e3_0 (i := 0) rfl rfl ?_
  refine t_get C dJx4a65c_elementData_915e3_1 fl_Jx4a65c_9 (k := 33) (i := 0) (by decide) rfl (fg_33_1 _ _ _) ?_
  refine z_iload_n C dJx4a65c_elementData_915e3_4 (i := 1) rfl rfl ?_
  obtain ⟨⟨g5, g5b, g5c⟩, h⟩ := h
  refine t_aldd C dJx4a65c_elementData_915e3_5 (by decide) g5 sh_37 g5b g5c ?_
  exact z_aret C dJx4a65c_elementData_915e3_6 hr (Or.inl ⟨_, rfl⟩) (Or.inr ⟨_, rfl⟩) ⟨rfl, _, rfl, h⟩ (Nat.le_of_ble_eq_true rfl) (Nat.le_of_ble_eq_true rfl)
def w_Jx4a65c_get_915e3_r33i (st : zTs) (a1 : Int32) (P : Nat → Prop) : Prop := w_J15_checkIndex_7cf53_ii st a1 (zgF st 33 0 2) (fun (r5 : Int32) => (w_Jx4a65c_elementData_915e3_r33i st a1 (fun (r11 : Nat) => (P r11))))
set_option maxHeartbeats 4000000 in
set_option maxRecDepth 100000 in
theorem c_Jx4a65c_get_915e3_r33i {Z : zZ} {l : Launch} (hfl : l.stackTraces = false) {st : zTs} {a1 : Int32} {P : Nat → Prop} (h : w_Jx4a65c_get_915e3_r33i st a1 P) : zN Z l yJx4a65c_get_915e3 cJx4a65c_get_915e3 2 (some (.object "java/lang/Object")) ({ frames := 3, cells := 0, slots := 0, locals := 55 } : Room) (zh Z zm1 st) [.ref 33, .int (a1)] (zRr Z st 23 P) := by
  unfold w_Jx4a65c_get_915e3_r33i at h
  refine z_enterF (by decide +kernel) (Nat.le_of_ble_eq_true rfl) (lc0 := [some (.ref 33), some (.int (a1))]) rfl ?_
  intro p e s m args below meth c ad0 C hr _
  have hn9 : True := trivial
  replace C : zC Z p s m args meth c cJx4a65c_get_915e3 2 RJx4a65c := C
  refine z_iload_n C dJx4a65c_get_915e3_0 (i := 1) rfl rfl ?_
  refine z_aload_n C dJx4a65c_get_915e3_1 (i := 0) rfl rfl ?_
  refine t_get C dJx4a65c_get_915e3_2 fl_Jx4a65c_48 (k := 33) (i := 0) (by decide) rfl (fg_33_2 _ _ _) ?_
  refine t_callS C (rest := []) (c2 := 0) (s2 := 0) [.int (a1), .int (zgF st 33 0 2)] dJx4a65c_get_915e3_5 lk_Jx4a65c_118 ls_J15_checkIndex_7cf53 (c_J15_checkIndex_7cf53_ii hfl h) rfl rfl ⟨Nat.le_of_ble_eq_true rfl, Nat.le_of_ble_eq_true rfl⟩ (Nat.le_of_ble_eq_true rfl) ⟨Nat.le_of_ble_eq_true rfl, Nat.le_of_ble_eq_true rfl, Nat.le_of_ble_eq_true rfl, Nat.le_of_ble_eq_true rfl⟩ (k_Ri fun r5 h => ?_)
  refine z_pop C dJx4a65c_get_915e3_8 rfl ?_
  refine z_aload_n C dJx4a65c_get_915e3_9 (i := 0) rfl rfl ?_
  refine z_iload_n C dJx4a65c_get_915e3_10 (i := 1) rfl rfl ?_
  refine t_callV C (rest := []) (c2 := 0) (s2 := 0) (kd := 33) (i := 0) [.int (a1)] dJx4a65c_get_915e3_11 lk_Jx4a65c_123 li_Jx4a65c_elementData_915e3 le_Jx4a65c_elementData_915e3 (c_Jx4a65c_elementData_915e3_r33i hfl h) rfl rfl (by decide) rfl ⟨_, rfl⟩ rfl ⟨Nat.le_of_ble_eq_true rfl, Nat.le_of_ble_eq_true rfl⟩ (Nat.le_of_ble_eq_true rfl) ⟨Nat.le_of_ble_eq_true rfl, Nat.le_of_ble_eq_true rfl, Nat.le_of_ble_eq_true rfl, Nat.le_of_ble_eq_true rfl⟩ (k_Rr fun r11 h => ?_)
  exact z_aret C dJx4a65c_get_915e3_14 hr (Or.inl ⟨_, rfl⟩) (Or.inr ⟨_, rfl⟩) ⟨rfl, _, rfl, h⟩ (Nat.le_of_ble_eq_true rfl) (Nat.le_of_ble_eq_true rfl)
def w_X11_gaugeAt_15 (P : Nat → Prop) (X : Nat → Prop) (st : zTs)   : Prop := X 0
set_option maxHeartbeats 4000000 in
set_option maxRecDepth 100000 in
theorem j_X11_gaugeAt_15 {P : Nat → Prop} {X : Nat → Prop} {st : zTs}  (hfl : l.stackTraces = false) (C : zC Z p s m args meth c cX11_gaugeAt 2 RX11) (hr : meth.sig.returnType = (some (.object "PartyWalls$Gauge"))) (hex : ∀ x ∈ c.exceptionTable.toList, False)   (h : w_X11_gaugeAt_15 P X st ) : zG Z ad0 h0 p l e ({ frames := 8, cells := 1, slots := 6, locals := 100 } : Room) s m args below meth c (vx_MQ below (zQ Z ad0 h0 (zRr Z st 23 P)) (zX Z ad0 h0 (zXr Z st X)) args s 1 6 (zA Z)) 0 0 (zh Z zm1 st) 2 15 [none, none] [] := by
  unfold w_X11_gaugeAt_15 at h
  exact z_throwW C hfl hex (six := 29) (text := "no such GAUGE") 0 (by decide) tw_0 (by decide +kernel) dX11_gaugeAt_15 dX11_gaugeAt_18 dX11_gaugeAt_19 dX11_gaugeAt_22 dX11_gaugeAt_25 ⟨Nat.le_of_ble_eq_true rfl, Nat.le_of_ble_eq_true rfl, Nat.le_of_ble_eq_true rfl, Nat.le_of_ble_eq_true rfl⟩ ⟨Nat.le_of_ble_eq_true rfl, Nat.le_of_ble_eq_true rfl⟩ ⟨rfl, h⟩
def w_X11_gaugeAt (st : zTs) (a1 : Int32) (X : Nat → Prop) (P : Nat → Prop) : Prop := (a1 < 0 → w_X11_gaugeAt_15 P X st ) ∧ (¬ a1 < 0 → w_Jx4a65c_size_8abf5_r33 st (fun (r9 : Int32) => ((a1 < r9 → w_Jx4a65c_get_915e3_r33i st a1 (fun (r31 : Nat) => (P r31))) ∧ (¬ a1 < r9 → w_X11_gaugeAt_15 P X st ))))
set_option maxHeartbeats 4000000 in
set_option maxRecDepth 100000 in
theorem c_X11_gaugeAt {Z : zZ} {l : Launch} (hfl : l.stackTraces = false) {st : zTs} {a1 : Int32} {X : Nat → Prop} {P : Nat → Prop} (h : w_X11_gaugeAt st a1 X P) : zM Z l yX11_gaugeAt cX11_gaugeAt 2 (some (.object "PartyWalls$Gauge")) ({ frames := 8, cells := 1, slots := 6, locals := 100 } : Room) (zh Z zm1 st) [.ref 10, .int (a1)] (zRr Z st 23 P) (zXr Z st X) := by
  unfold w_X11_gaugeAt at h
  refine z_enterM (by decide) (Nat.le_of_ble_eq_true rfl) (lc0 := [some (.ref 10), some (.int (a1))]) rfl ?_
  intro p e s m args below meth c ad0 C hr hex
  replace C : zC Z p s m args meth c cX11_gaugeAt 2 RX11 := C
  refine z_iload_n C dX11_gaugeAt_0 (i := 1) rfl rfl ?_
  refine z_if_lt C dX11_gaugeAt_1 (tgt := 15) (by decide) (fun c1 => ?_) (fun c1 => ?_)
  · have h := h.1 c1
    exact t_drop [false, false] rfl (j_X11_gaugeAt_15 hfl C hr hex   h)
  · have h := h.2 c1
    refine z_iload_n C dX11_gaugeAt_4 (i := 1) rfl rfl ?_
    refine z_aload_n C dX11_gaugeAt_5 (i := 0) rfl rfl ?_
    refine t_get C dX11_gaugeAt_6 fl_X11_22 (k := 10) (i := 0) (by decide) rfl (fg_10_3 _ _ _) ?_
    refine t_callV C (rest := [.int (a1)]) (c2 := 0) (s2 := 0) (kd := 33) (i := 0) [] dX11_gaugeAt_9 lk_X11_80 li_Jx4a65c_size_8abf5 le_Jx4a65c_size_8abf5 (c_Jx4a65c_size_8abf5_r33 hfl h) rfl rfl (by decide) rfl ⟨_, rfl⟩ rfl ⟨Nat.le_of_ble_eq_true rfl, Nat.le_of_ble_eq_true rfl⟩ (Nat.le_of_ble_eq_true rfl) ⟨Nat.le_of_ble_eq_true rfl, Nat.le_of_ble_eq_true rfl, Nat.le_of_ble_eq_true rfl, Nat.le_of_ble_eq_true rfl⟩ (k_Ri fun r9 h => ?_)
    refine z_icmp_lt C dX11_gaugeAt_12 (tgt := 26) (by decide) (fun c12 => ?_) (fun c12 => ?_)
    · have h := h.1 c12
      refine z_aload_n C dX11_gaugeAt_26 (i := 0) rfl rfl ?_
      refine t_get C dX11_gaugeAt_27 fl_X11_22 (k := 10) (i := 0) (by decide) rfl (fg_10_3 _ _ _) ?_
      refine z_iload_n C dX11_gaugeAt_30 (i := 1) rfl rfl ?_
      refine t_callV C (rest := []) (c2 := 0) (s2 := 0) (kd := 33) (i := 0) [.int (a1)] dX11_gaugeAt_31 lk_X11_450 li_Jx4a65c_get_915e3 le_Jx4a65c_get_915e3 (c_Jx4a65c_get_915e3_r33i hfl h) rfl rfl (by decide) rfl ⟨_, rfl⟩ rfl ⟨Nat.le_of_ble_eq_true rfl, Nat.le_of_ble_eq_true rfl⟩ (Nat.le_of_ble_eq_true rfl) ⟨Nat.le_of_ble_eq_true rfl, Nat.le_of_ble_eq_true rfl, Nat.le_of_ble_eq_true rfl, Nat.le_of_ble_eq_true rfl⟩ (k_Rr fun r31 h => ?_)
      refine t_cast C dX11_gaugeAt_34 kl_X11_405 (k0 := 23) (i := r31) (by decide) rfl ⟨_, rfl⟩ rfl ?_
      exact zG.up (z_aret C dX11_gaugeAt_37 hr (Or.inl ⟨_, rfl⟩) (Or.inr ⟨_, rfl⟩) ⟨rfl, _, rfl, h⟩ (Nat.le_of_ble_eq_true rfl) (Nat.le_of_ble_eq_true rfl))
    · have h := h.2 c12
      exact t_drop [false, false] rfl (j_X11_gaugeAt_15 hfl C hr hex   h)
def w_X11_read (st : zTs) (a1 : Int32) (a2 : Int32) (a3 : Int32) (X : Nat → zTs → Prop) (P : Int32 → zTs → Prop) : Prop := w_X11_gaugeAt st a1 (fun k9 => X k9 st) (fun (r2 : Nat) => (w_X11_checkLeast st a2 0 (fun k9 => X k9 st) ((w_X11_checkRange st a3 (-10000) 10000 (fun k9 => X k9 st) ((w_X2_readings st r2 (fun (r24 : Int32) => ((r24 < 40 → ((zgF st 10 0 15) < a2 → P (-2) st) ∧ (¬ (zgF st 10 0 15) < a2 → w_X2_isBehindLast st r2 a2 (fun (r45 : Int32) => ((r45 = 0 → P (-2) st) ∧ (¬ r45 = 0 → w_X2_addReading st r2 a2 a3 (fun (s58 : zTs) => (w_X2_readings s58 r2 (fun (r63 : Int32) => (P r63 s58))))))))) ∧ (¬ r24 < 40 → P (-1) st)))))))))
set_option maxHeartbeats 4000000 in
set_option maxRecDepth 100000 in
theorem c_X11_read {Z : zZ} {l : Launch} (hfl : l.stackTraces = false) {st : zTs} {a1 : Int32} {a2 : Int32} {a3 : Int32} {X : Nat → zTs → Prop} {P : Int32 → zTs → Prop} (h : w_X11_read st a1 a2 a3 X P) : zM Z l yX11_read cX11_read 5 (some .int) ({ frames := 9, cells := 3, slots := 18, locals := 122 } : Room) (zh Z zm1 st) [.ref 10, .int (a1), .int (a2), .int (a3)] (zWi Z P) (zXs Z X) := by
  unfold w_X11_read at h
  refine z_enterM (by decide) (Nat.le_of_ble_eq_true rfl) (lc0 := [some (.ref 10), some (.int (a1)), some (.int (a2)), some (.int (a3)), none]) rfl ?_
  intro p e s m args below meth c ad0 C hr hex
  replace C : zC Z p s m args meth c cX11_read 5 RX11 := C
  refine z_aload_n C dX11_read_0 (i := 0) rfl rfl ?_
  refine z_iload_n C dX11_read_1 (i := 1) rfl rfl ?_
  refine t_callVM C hex (rest := []) (c2 := 1) (s2 := 6) (kd := 10) (i := 0) [.int (a1)] dX11_read_2 lk_X11_408 li_X11_gaugeAt le_X11_gaugeAt (c_X11_gaugeAt hfl h) rfl rfl (by decide) rfl ⟨_, rfl⟩ rfl ⟨Nat.le_of_ble_eq_true rfl, Nat.le_of_ble_eq_true rfl⟩ (Nat.le_of_ble_eq_true rfl) ⟨Nat.le_of_ble_eq_true rfl, Nat.le_of_ble_eq_true rfl, Nat.le_of_ble_eq_true rfl, Nat.le_of_ble_eq_true rfl⟩ (fun _ _ q => ⟨_, q.1, q.2⟩) ⟨Nat.le_of_ble_eq_true rfl, Nat.le_of_ble_eq_true rfl⟩ (k_Rr fun r2 h => ?_)
  refine z_astore C dX11_read_5 (lc' := [some (.ref 10), some (.int (a1)), some (.int (a2)), some (.int (a3)), some (.ref (23 + 256 * r2))]) (by decide) rfl ?_
  refine z_iload_n C dX11_read_7 (i := 2) rfl rfl ?_
  refine z_iconst C dX11_read_8 (v := 0) (by decide) ?_
  refine t_callSM C hex (rest := []) (c2 := 2) (s2 := 12) [.int (a2), .int (0)] dX11_read_9 lk_X11_226 ls_X11_checkLeast (c_X11_checkLeast hfl h) rfl rfl ⟨Nat.le_of_ble_eq_true rfl, Nat.le_of_ble_eq_true rfl⟩ (Nat.le_of_ble_eq_true rfl) ⟨Nat.le_of_ble_eq_true rfl, Nat.le_of_ble_eq_true rfl, Nat.le_of_ble_eq_true rfl, Nat.le_of_ble_eq_true rfl⟩ (fun _ _ q => ⟨_, q.1, q.2⟩) ⟨Nat.le_of_ble_eq_true rfl, Nat.le_of_ble_eq_true rfl⟩ (k_Rv fun h => ?_)
  refine z_iload_n C dX11_read_12 (i := 3) rfl rfl ?_
  refine z_sipush C dX11_read_13 (v := (-10000)) (by decide) ?_
  refine z_sipush C dX11_read_16 (v := 10000) (by decide) ?_
  refine t_callSM C hex (rest := []) (c2 := 3) (s2 := 18) [.int (a3), .int (-10000), .int (10000)] dX11_read_19 lk_X11_107 ls_X11_checkRange (c_X11_checkRange hfl h) rfl rfl ⟨Nat.le_of_ble_eq_true rfl, Nat.le_of_ble_eq_true rfl⟩ (Nat.le_of_ble_eq_true rfl) ⟨Nat.le_of_ble_eq_true rfl, Nat.le_of_ble_eq_true rfl, Nat.le_of_ble_eq_true rfl, Nat.le_of_ble_eq_true rfl⟩ (fun _ _ q => ⟨_, q.1, q.2⟩) ⟨Nat.le_of_ble_eq_true rfl, Nat.le_of_ble_eq_true rfl⟩ (k_Rv fun h => ?_)
  refine z_aload C dX11_read_22 rfl ?_
  refine t_callV C (rest := []) (c2 := 3) (s2 := 18) (kd := 23) (i := r2) [] dX11_read_24 lk_X11_412 li_X2_readings le_X2_readings (c_X2_readings hfl h) rfl rfl (by decide) rfl ⟨_, rfl⟩ rfl ⟨Nat.le_of_ble_eq_true rfl, Nat.le_of_ble_eq_true rfl⟩ (Nat.le_of_ble_eq_true rfl) ⟨Nat.le_of_ble_eq_true rfl, Nat.le_of_ble_eq_true rfl, Nat.le_of_ble_eq_true rfl, Nat.le_of_ble_eq_true rfl⟩ (k_Ri fun r24 h => ?_)
  refine z_bipush C dX11_read_27 (v := 40) (by decide) ?_
  refine z_icmp_lt C dX11_read_29 (tgt := 34) (by decide) (fun c29 => ?_) (fun c29 => ?_)
  · have h := h.1 c29
    refine z_iload_n C dX11_read_34 (i := 2) rfl rfl ?_
    refine z_aload_n C dX11_read_35 (i := 0) rfl rfl ?_
    refine t_get C dX11_read_36 fl_X11_111 (k := 10) (i := 0) (by decide) rfl (fg_10_15 _ _ _) ?_
    refine z_icmp_gt C dX11_read_39 (tgt := 51) (by decide) (fun c39 => ?_) (fun c39 => ?_)
    · have h := h.1 c39
      refine z_bipush C dX11_read_51 (v := (-2)) (by decide) ?_
      exact zG.up (z_iret C dX11_read_53 hr rfl ⟨_, _, rfl, rfl, h⟩ (Nat.le_of_ble_eq_true rfl) (Nat.le_of_ble_eq_true rfl))
    · have h := h.2 c39
      refine z_aload C dX11_read_42 rfl ?_
      refine z_iload_n C dX11_read_44 (i := 2) rfl rfl ?_
      refine t_callV C (rest := []) (c2 := 3) (s2 := 18) (kd := 23) (i := r2) [.int (a2)] dX11_read_45 lk_X11_415 li_X2_isBehindLast le_X2_isBehindLast (c_X2_isBehindLast hfl h) rfl rfl (by decide) rfl ⟨_, rfl⟩ rfl ⟨Nat.le_of_ble_eq_true rfl, Nat.le_of_ble_eq_true rfl⟩ (Nat.le_of_ble_eq_true rfl) ⟨Nat.le_of_ble_eq_true rfl, Nat.le_of_ble_eq_true rfl, Nat.le_of_ble_eq_true rfl, Nat.le_of_ble_eq_true rfl⟩ (k_Ri fun r45 h => ?_)
      refine z_if_ne C dX11_read_48 (tgt := 54) (by decide) (fun c48 => ?_) (fun c48 => ?_)
      · have h := h.2 c48
        refine z_aload C dX11_read_54 rfl ?_
        refine z_iload_n C dX11_read_56 (i := 2) rfl rfl ?_
        refine z_iload_n C dX11_read_57 (i := 3) rfl rfl ?_
        refine t_callV C (rest := []) (c2 := 3) (s2 := 18) (kd := 23) (i := r2) [.int (a2), .int (a3)] dX11_read_58 lk_X11_418 li_X2_addReading le_X2_addReading (c_X2_addReading hfl h) rfl rfl (by decide) rfl ⟨_, rfl⟩ rfl ⟨Nat.le_of_ble_eq_true rfl, Nat.le_of_ble_eq_true rfl⟩ (Nat.le_of_ble_eq_true rfl) ⟨Nat.le_of_ble_eq_true rfl, Nat.le_of_ble_eq_true rfl, Nat.le_of_ble_eq_true rfl, Nat.le_of_ble_eq_true rfl⟩ (k_Wv fun s58 h => ?_)
        refine z_aload C dX11_read_61 rfl ?_
        refine t_callV C (rest := []) (c2 := 3) (s2 := 18) (kd := 23) (i := r2) [] dX11_read_63 lk_X11_412 li_X2_readings le_X2_readings (c_X2_readings hfl h) rfl rfl (by decide) rfl ⟨_, rfl⟩ rfl ⟨Nat.le_of_ble_eq_true rfl, Nat.le_of_ble_eq_true rfl⟩ (Nat.le_of_ble_eq_true rfl) ⟨Nat.le_of_ble_eq_true rfl, Nat.le_of_ble_eq_true rfl, Nat.le_of_ble_eq_true rfl, Nat.le_of_ble_eq_true rfl⟩ (k_Ri fun r63 h => ?_)
        exact zG.up (z_iret C dX11_read_66 hr rfl ⟨_, _, rfl, rfl, h⟩ (Nat.le_of_ble_eq_true rfl) (Nat.le_of_ble_eq_true rfl))
      · have h := h.1 c48
        refine z_bipush C dX11_read_51 (v := (-2)) (by decide) ?_
        exact zG.up (z_iret C dX11_read_53 hr rfl ⟨_, _, rfl, rfl, h⟩ (Nat.le_of_ble_eq_true rfl) (Nat.le_of_ble_eq_true rfl))
  · have h := h.2 c29
    refine z_iconst C dX11_read_32 (v := (-1)) (by decide) ?_
    exact zG.up (z_iret C dX11_read_33 hr rfl ⟨_, _, rfl, rfl, h⟩ (Nat.le_of_ble_eq_true rfl) (Nat.le_of_ble_eq_true rfl))
def w_X11_at (st : zTs) (a1 : Int32) (a2 : Int32) (X : Nat → Prop) (P : Int32 → Prop) : Prop := w_X11_gaugeAt st a1 X (fun (r2 : Nat) => (w_X2_covers st r2 a2 (fun (r8 : Int32) => ((r8 = 0 → P (-2000000000)) ∧ (¬ r8 = 0 → w_X2_valueOn st r2 a2 (fun (r16 : Int32) => (P r16)))))))
set_option maxHeartbeats 4000000 in
set_option maxRecDepth 100000 in
theorem c_X11_at {Z : zZ} {l : Launch} (hfl : l.stackTraces = false) {st : zTs} {a1 : Int32} {a2 : Int32} {X : Nat → Prop} {P : Int32 → Prop} (h : w_X11_at st a1 a2 X P) : zM Z l yX11_at cX11_at 4 (some .int) ({ frames := 9, cells := 1, slots := 6, locals := 121 } : Room) (zh Z zm1 st) [.ref 10, .int (a1), .int (a2)] (zRi Z st P) (zXr Z st X) := by
  unfold w_X11_at at h
  refine z_enterM (by decide) (Nat.le_of_ble_eq_true rfl) (lc0 := [some (.ref 10), some (.int (a1)), some (.int (a2)), none]) rfl ?_
  intro p e s m args below meth c ad0 C hr hex
  replace C : zC Z p s m args meth c cX11_at 4 RX11 := C
  refine z_aload_n C dX11_at_0 (i := 0) rfl rfl ?_
  refine z_iload_n C dX11_at_1 (i := 1) rfl rfl ?_
  refine t_callVM C hex (rest := []) (c2 := 1) (s2 := 6) (kd := 10) (i := 0) [.int (a1)] dX11_at_2 lk_X11_408 li_X11_gaugeAt le_X11_gaugeAt (c_X11_gaugeAt hfl h) rfl rfl (by decide) rfl ⟨_, rfl⟩ rfl ⟨Nat.le_of_ble_eq_true rfl, Nat.le_of_ble_eq_true rfl⟩ (Nat.le_of_ble_eq_true rfl) ⟨Nat.le_of_ble_eq_true rfl, Nat.le_of_ble_eq_true rfl, Nat.le_of_ble_eq_true rfl, Nat.le_of_ble_eq_true rfl⟩ (fun _ _ q => q) ⟨Nat.le_of_ble_eq_true rfl, Nat.le_of_ble_eq_true rfl⟩ (k_Rr fun r2 h => ?_)
  refine z_astore_n C dX11_at_5 (i := 3) (lc' := [some (.ref 10), some (.int (a1)), some (.int (a2)), some (.ref (23 + 256 * r2))]) rfl (by decide) rfl ?_
  refine z_aload_n C dX11_at_6 (i := 3) rfl rfl ?_
  refine z_iload_n C dX11_at_7 (i := 2) rfl rfl ?_
  refine t_callV C (rest := []) (c2 := 1) (s2 := 6) (kd := 23) (i := r2) [.int (a2)] dX11_at_8 lk_X11_421 li_X2_covers le_X2_covers (c_X2_covers hfl h) rfl rfl (by decide) rfl ⟨_, rfl⟩ rfl ⟨Nat.le_of_ble_eq_true rfl, Nat.le_of_ble_eq_true rfl⟩ (Nat.le_of_ble_eq_true rfl) ⟨Nat.le_of_ble_eq_true rfl, Nat.le_of_ble_eq_true rfl, Nat.le_of_ble_eq_true rfl, Nat.le_of_ble_eq_true rfl⟩ (k_Ri fun r8 h => ?_)
  refine z_if_eq C dX11_at_11 (tgt := 22) (by decide) (fun c11 => ?_) (fun c11 => ?_)
  · have h := h.1 c11
    refine z_ldc_w C dX11_at_22 kc_X11_427 ?_
    exact zG.up (z_iret C dX11_at_25 hr rfl ⟨rfl, _, rfl, h⟩ (Nat.le_of_ble_eq_true rfl) (Nat.le_of_ble_eq_true rfl))
  · have h := h.2 c11
    refine z_aload_n C dX11_at_14 (i := 3) rfl rfl ?_
    refine z_iload_n C dX11_at_15 (i := 2) rfl rfl ?_
    refine t_callV C (rest := []) (c2 := 1) (s2 := 6) (kd := 23) (i := r2) [.int (a2)] dX11_at_16 lk_X11_424 li_X2_valueOn le_X2_valueOn (c_X2_valueOn hfl h) rfl rfl (by decide) rfl ⟨_, rfl⟩ rfl ⟨Nat.le_of_ble_eq_true rfl, Nat.le_of_ble_eq_true rfl⟩ (Nat.le_of_ble_eq_true rfl) ⟨Nat.le_of_ble_eq_true rfl, Nat.le_of_ble_eq_true rfl, Nat.le_of_ble_eq_true rfl, Nat.le_of_ble_eq_true rfl⟩ (k_Ri fun r16 h => ?_)
    refine z_goto C dX11_at_19 (tgt := 25) (by decide) ?_
    exact zG.up (z_iret C dX11_at_25 hr rfl ⟨rfl, _, rfl, h⟩ (Nat.le_of_ble_eq_true rfl) (Nat.le_of_ble_eq_true rfl))
def w_X11_cause (st : zTs) (a1 : Int32) (a2 : Int32) (a3 : Int32) (a4 : Int32) (a5 : Int32) (X : Nat → zTs → Prop) (P : Int64 → zTs → Prop) : Prop := w_X11_gaugeAt st a1 (fun k9 => X k9 st) (fun (r2 : Nat) => (w_X11_gaugeAt st a2 (fun k9 => X k9 st) (fun (r9 : Nat) => (w_X11_workAt st a3 X (fun (r16 : Nat) (s16 : zTs) => (w_X11_checkRange s16 a5 0 3 (fun k9 => X k9 s16) ((w_X11_hasCauses s16 r2 r9 r16 a4 (fun (r36 : Int32) => ((r36 = 0 → P (-2000000000) s16) ∧ (¬ r36 = 0 → ∀ x51 : Int32, x51 = zgF s16 21 r16 9 → ((a5 = 0 → w_X2_change s16 r2 x51 a4 (fun (r86 : Int64) => (P r86 s16))) ∧ (a5 = 1 → w_X2_change s16 r9 x51 a4 (fun (r96 : Int64) => (P r96 s16))) ∧ (a5 = 2 → w_X2_ageing s16 r2 x51 a4 (fun (r106 : Int64) => (P r106 s16))) ∧ (¬ a5 = 0 ∧ ¬ a5 = 1 ∧ ¬ a5 = 2 → w_X11_byWorks s16 r2 r9 x51 a4 (fun (r118 : Int64) => (P r118 s16)))))))))))))))
set_option maxHeartbeats 4000000 in
set_option maxRecDepth 100000 in
theorem c_X11_cause {Z : zZ} {l : Launch} (hfl : l.stackTraces = false) {st : zTs} {a1 : Int32} {a2 : Int32} {a3 : Int32} {a4 : Int32} {a5 : Int32} {X : Nat → zTs → Prop} {P : Int64 → zTs → Prop} (h : w_X11_cause st a1 a2 a3 a4 a5 X P) : zM Z l yX11_cause cX11_cause 10 (some .long) ({ frames := 9, cells := 4, slots := 24, locals := 130 } : Room) (zh Z zm1 st) [.ref 10, .int (a1), .int (a2), .int (a3), .int (a4), .int (a5)] (zWl Z P) (zXs Z X) := by
  unfold w_X11_cause at h
  refine z_enterM (by decide) (Nat.le_of_ble_eq_true rfl) (lc0 := [some (.ref 10), some (.int (a1)), some (.int (a2)), some (.int (a3)), some (.int (a4)), some (.int (a5)), none, none, none, none]) rfl ?_
  intro p e s m args below meth c ad0 C hr hex
  replace C : zC Z p s m args meth c cX11_cause 10 RX11 := C
  refine z_aload_n C dX11_cause_0 (i := 0) rfl rfl ?_
  refine z_iload_n C dX11_cause_1 (i := 1) rfl rfl ?_
  refine t_callVM C hex (rest := []) (c2 := 1) (s2 := 6) (kd := 10) (i := 0) [.int (a1)] dX11_cause_2 lk_X11_408 li_X11_gaugeAt le_X11_gaugeAt (c_X11_gaugeAt hfl h) rfl rfl (by decide) rfl ⟨_, rfl⟩ rfl ⟨Nat.le_of_ble_eq_true rfl, Nat.le_of_ble_eq_true rfl⟩ (Nat.le_of_ble_eq_true rfl) ⟨Nat.le_of_ble_eq_true rfl, Nat.le_of_ble_eq_true rfl, Nat.le_of_ble_eq_true rfl, Nat.le_of_ble_eq_true rfl⟩ (fun _ _ q => ⟨_, q.1, q.2⟩) ⟨Nat.le_of_ble_eq_true rfl, Nat.le_of_ble_eq_true rfl⟩ (k_Rr fun r2 h => ?_)
  refine z_astore C dX11_cause_5 (lc' := [some (.ref 10), some (.int (a1)), some (.int (a2)), some (.int (a3)), some (.int (a4)), some (.int (a5)), some (.ref (23 + 256 * r2)), none, none, none]) (by decide) rfl ?_
  refine z_aload_n C dX11_cause_7 (i := 0) rfl rfl ?_
  refine z_iload_n C dX11_cause_8 (i := 2) rfl rfl ?_
  refine t_callVM C hex (rest := []) (c2 := 2) (s2 := 12) (kd := 10) (i := 0) [.int (a2)] dX11_cause_9 lk_X11_408 li_X11_gaugeAt le_X11_gaugeAt (c_X11_gaugeAt hfl h) rfl rfl (by decide) rfl ⟨_, rfl⟩ rfl ⟨Nat.le_of_ble_eq_true rfl, Nat.le_of_ble_eq_true rfl⟩ (Nat.le_of_ble_eq_true rfl) ⟨Nat.le_of_ble_eq_true rfl, Nat.le_of_ble_eq_true rfl, Nat.le_of_ble_eq_true rfl, Nat.le_of_ble_eq_true rfl⟩ (fun _ _ q => ⟨_, q.1, q.2⟩) ⟨Nat.le_of_ble_eq_true rfl, Nat.le_of_ble_eq_true rfl⟩ (k_Rr fun r9 h => ?_)
  refine z_astore C dX11_cause_12 (lc' := [some (.ref 10), some (.int (a1)), some (.int (a2)), some (.int (a3)), some (.int (a4)), some (.int (a5)), some (.ref (23 + 256 * r2)), some (.ref (23 + 256 * r9)), none, none]) (by decide) rfl ?_
  refine z_aload_n C dX11_cause_14 (i := 0) rfl rfl ?_
  refine z_iload_n C dX11_cause_15 (i := 3) rfl rfl ?_
  refine t_callVM C hex (rest := []) (c2 := 3) (s2 := 18) (kd := 10) (i := 0) [.int (a3)] dX11_cause_16 lk_X11_160 li_X11_workAt le_X11_workAt (c_X11_workAt hfl h) rfl rfl (by decide) rfl ⟨_, rfl⟩ rfl ⟨Nat.le_of_ble_eq_true rfl, Nat.le_of_ble_eq_true rfl⟩ (Nat.le_of_ble_eq_true rfl) ⟨Nat.le_of_ble_eq_true rfl, Nat.le_of_ble_eq_true rfl, Nat.le_of_ble_eq_true rfl, Nat.le_of_ble_eq_true rfl⟩ (fun _ _ q => q) ⟨Nat.le_of_ble_eq_true rfl, Nat.le_of_ble_eq_true rfl⟩ (k_Wr fun r16 s16 h => ?_)
  refine z_astore C dX11_cause_19 (lc' := [some (.ref 10), some (.int (a1)), some (.int (a2)), some (.int (a3)), some (.int (a4)), some (.int (a5)), some (.ref (23 + 256 * r2)), some (.ref (23 + 256 * r9)), some (.ref (21 + 256 * r16)), none]) (by decide) rfl ?_
  refine z_iload C dX11_cause_21 rfl ?_
  refine z_iconst C dX11_cause_23 (v := 0) (by decide) ?_
  refine z_iconst C dX11_cause_24 (v := 3) (by decide) ?_
  refine t_callSM C hex (rest := []) (c2 := 4) (s2 := 24) [.int (a5), .int (0), .int (3)] dX11_cause_25 lk_X11_107 ls_X11_checkRange (c_X11_checkRange hfl h) rfl rfl ⟨Nat.le_of_ble_eq_true rfl, Nat.le_of_ble_eq_true rfl⟩ (Nat.le_of_ble_eq_true rfl) ⟨Nat.le_of_ble_eq_true rfl, Nat.le_of_ble_eq_true rfl, Nat.le_of_ble_eq_true rfl, Nat.le_of_ble_eq_true rfl⟩ (fun _ _ q => ⟨_, q.1, q.2⟩) ⟨Nat.le_of_ble_eq_true rfl, Nat.le_of_ble_eq_true rfl⟩ (k_Rv fun h => ?_)
  refine z_aload C dX11_cause_28 rfl ?_
  refine z_aload C dX11_cause_30 rfl ?_
  refine z_aload C dX11_cause_32 rfl ?_
  refine z_iload C dX11_cause_34 rfl ?_
  refine t_callS C (rest := []) (c2 := 4) (s2 := 24) [.ref (23 + 256 * r2), .ref (23 + 256 * r9), .ref (21 + 256 * r16), .int (a4)] dX11_cause_36 lk_X11_428 ls_X11_hasCauses (c_X11_hasCauses hfl h) rfl rfl ⟨Nat.le_of_ble_eq_true rfl, Nat.le_of_ble_eq_true rfl⟩ (Nat.le_of_ble_eq_true rfl) ⟨Nat.le_of_ble_eq_true rfl, Nat.le_of_ble_eq_true rfl, Nat.le_of_ble_eq_true rfl, Nat.le_of_ble_eq_true rfl⟩ (k_Ri fun r36 h => ?_)
  refine z_if_ne C dX11_cause_39 (tgt := 46) (by decide) (fun c39 => ?_) (fun c39 => ?_)
  · have h := h.2 c39
    refine z_aload C dX11_cause_46 rfl ?_
    refine t_get C dX11_cause_48 fl_X11_203 (k := 21) (i := r16) (by decide) rfl (fg_21_9 _ _ _) ?_
    refine t_topi (fun x51 ex51 => ?_)
    have h := h x51 ex51
    refine z_istore C dX11_cause_51 (lc' := [some (.ref 10), some (.int (a1)), some (.int (a2)), some (.int (a3)), some (.int (a4)), some (.int (a5)), some (.ref (23 + 256 * r2)), some (.ref (23 + 256 * r9)), some (.ref (21 + 256 * r16)), some (.int (x51))]) (by decide) rfl ?_
    refine z_iload C dX11_cause_53 rfl ?_
    by_cases c55_0 : a5 = 0
    · have h := h.1 c55_0
      refine z_tableIn C dX11_cause_55 (off := 25) (tgt := 80) (by rw [c55_0]; decide) (by rw [c55_0]; decide) (by rw [c55_0]; rfl) (by decide) ?_
      refine z_aload C dX11_cause_80 rfl ?_
      refine z_iload C dX11_cause_82 rfl ?_
      refine z_iload C dX11_cause_84 rfl ?_
      refine t_callV C (rest := []) (c2 := 4) (s2 := 24) (kd := 23) (i := r2) [.int (x51), .int (a4)] dX11_cause_86 lk_X11_434 li_X2_change le_X2_change (c_X2_change hfl h) rfl rfl (by decide) rfl ⟨_, rfl⟩ rfl ⟨Nat.le_of_ble_eq_true rfl, Nat.le_of_ble_eq_true rfl⟩ (Nat.le_of_ble_eq_true rfl) ⟨Nat.le_of_ble_eq_true rfl, Nat.le_of_ble_eq_true rfl, Nat.le_of_ble_eq_true rfl, Nat.le_of_ble_eq_true rfl⟩ (k_Rl fun r86 h => ?_)
      exact zG.up (z_lret C dX11_cause_89 hr ⟨_, _, rfl, rfl, h⟩ (Nat.le_of_ble_eq_true rfl) (Nat.le_of_ble_eq_true rfl))
    · by_cases c55_1 : a5 = 1
      · have h := h.2.1 c55_1
        refine z_tableIn C dX11_cause_55 (off := 35) (tgt := 90) (by rw [c55_1]; decide) (by rw [c55_1]; decide) (by rw [c55_1]; rfl) (by decide) ?_
        refine z_aload C dX11_cause_90 rfl ?_
        refine z_iload C dX11_cause_92 rfl ?_
        refine z_iload C dX11_cause_94 rfl ?_
        refine t_callV C (rest := []) (c2 := 4) (s2 := 24) (kd := 23) (i := r9) [.int (x51), .int (a4)] dX11_cause_96 lk_X11_434 li_X2_change le_X2_change (c_X2_change hfl h) rfl rfl (by decide) rfl ⟨_, rfl⟩ rfl ⟨Nat.le_of_ble_eq_true rfl, Nat.le_of_ble_eq_true rfl⟩ (Nat.le_of_ble_eq_true rfl) ⟨Nat.le_of_ble_eq_true rfl, Nat.le_of_ble_eq_true rfl, Nat.le_of_ble_eq_true rfl, Nat.le_of_ble_eq_true rfl⟩ (k_Rl fun r96 h => ?_)
        exact zG.up (z_lret C dX11_cause_99 hr ⟨_, _, rfl, rfl, h⟩ (Nat.le_of_ble_eq_true rfl) (Nat.le_of_ble_eq_true rfl))
      · by_cases c55_2 : a5 = 2
        · have h := h.2.2.1 c55_2
          refine z_tableIn C dX11_cause_55 (off := 45) (tgt := 100) (by rw [c55_2]; decide) (by rw [c55_2]; decide) (by rw [c55_2]; rfl) (by decide) ?_
          refine z_aload C dX11_cause_100 rfl ?_
          refine z_iload C dX11_cause_102 rfl ?_
          refine z_iload C dX11_cause_104 rfl ?_
          refine t_callV C (rest := []) (c2 := 4) (s2 := 24) (kd := 23) (i := r2) [.int (x51), .int (a4)] dX11_cause_106 lk_X11_438 li_X2_ageing le_X2_ageing (c_X2_ageing hfl h) rfl rfl (by decide) rfl ⟨_, rfl⟩ rfl ⟨Nat.le_of_ble_eq_true rfl, Nat.le_of_ble_eq_true rfl⟩ (Nat.le_of_ble_eq_true rfl) ⟨Nat.le_of_ble_eq_true rfl, Nat.le_of_ble_eq_true rfl, Nat.le_of_ble_eq_true rfl, Nat.le_of_ble_eq_true rfl⟩ (k_Rl fun r106 h => ?_)
          exact zG.up (z_lret C dX11_cause_109 hr ⟨_, _, rfl, rfl, h⟩ (Nat.le_of_ble_eq_true rfl) (Nat.le_of_ble_eq_true rfl))
        · have h := h.2.2.2 ⟨c55_0, c55_1, c55_2⟩
          refine z_tableOut C dX11_cause_55 (tgt := 110) (zsw_out (lt_s (p := fun a => ¬ a5 = nI a) (lt_s (p := fun a => ¬ a5 = nI a) (lt_s (p := fun a => ¬ a5 = nI a) lt_0 c55_0) c55_1) c55_2)) (by decide) ?_
          refine z_aload C dX11_cause_110 rfl ?_
          refine z_aload C dX11_cause_112 rfl ?_
          refine z_iload C dX11_cause_114 rfl ?_
          refine z_iload C dX11_cause_116 rfl ?_
          refine t_callS C (rest := []) (c2 := 4) (s2 := 24) [.ref (23 + 256 * r2), .ref (23 + 256 * r9), .int (x51), .int (a4)] dX11_cause_118 lk_X11_441 ls_X11_byWorks (c_X11_byWorks hfl h) rfl rfl ⟨Nat.le_of_ble_eq_true rfl, Nat.le_of_ble_eq_true rfl⟩ (Nat.le_of_ble_eq_true rfl) ⟨Nat.le_of_ble_eq_true rfl, Nat.le_of_ble_eq_true rfl, Nat.le_of_ble_eq_true rfl, Nat.le_of_ble_eq_true rfl⟩ (k_Rl fun r118 h => ?_)
          exact zG.up (z_lret C dX11_cause_121 hr ⟨_, _, rfl, rfl, h⟩ (Nat.le_of_ble_eq_true rfl) (Nat.le_of_ble_eq_true rfl))
  · have h := h.1 c39
    refine z_ldc2 C dX11_cause_42 kj_X11_432 ?_
    exact zG.up (z_lret C dX11_cause_45 hr ⟨_, _, rfl, rfl, h⟩ (Nat.le_of_ble_eq_true rfl) (Nat.le_of_ble_eq_true rfl))
def w_X11_blamed (st : zTs) (a1 : Int32) (a2 : Int32) (a3 : Int32) (a4 : Int32) (X : Nat → zTs → Prop) (P : Int32 → zTs → Prop) : Prop := w_X11_gaugeAt st a1 (fun k9 => X k9 st) (fun (r2 : Nat) => (w_X11_gaugeAt st a2 (fun k9 => X k9 st) (fun (r9 : Nat) => (w_X11_workAt st a3 X (fun (r16 : Nat) (s16 : zTs) => (w_X11_hasCauses s16 r2 r9 r16 a4 (fun (r29 : Int32) => ((r29 = 0 → P 0 s16) ∧ (¬ r29 = 0 → w_X11_byWorks s16 r2 r9 (zgF s16 21 r16 9) a4 (fun (r46 : Int64) => (((lg_cmp r46 ((zgF s16 24 (zgP s16 10 0 16) 10 : Int32).toInt64)) ≤ 0 → P 0 s16) ∧ (¬ (lg_cmp r46 ((zgF s16 24 (zgP s16 10 0 16) 10 : Int32).toInt64)) ≤ 0 → P 1 s16))))))))))))
set_option maxHeartbeats 4000000 in
set_option maxRecDepth 100000 in
theorem c_X11_blamed {Z : zZ} {l : Launch} (hfl : l.stackTraces = false) {st : zTs} {a1 : Int32} {a2 : Int32} {a3 : Int32} {a4 : Int32} {X : Nat → zTs → Prop} {P : Int32 → zTs → Prop} (h : w_X11_blamed st a1 a2 a3 a4 X P) : zM Z l yX11_blamed cX11_blamed 8 (some .boolean) ({ frames := 9, cells := 3, slots := 18, locals := 130 } : Room) (zh Z zm1 st) [.ref 10, .int (a1), .int (a2), .int (a3), .int (a4)] (zWi Z P) (zXs Z X) := by
  unfold w_X11_blamed at h
  refine z_enterM (by decide) (Nat.le_of_ble_eq_true rfl) (lc0 := [some (.ref 10), some (.int (a1)), some (.int (a2)), some (.int (a3)), some (.int (a4)), none, none, none]) rfl ?_
  intro p e s m args below meth c ad0 C hr hex
  replace C : zC Z p s m args meth c cX11_blamed 8 RX11 := C
  refine z_aload_n C dX11_blamed_0 (i := 0) rfl rfl ?_
  refine z_iload_n C dX11_blamed_1 (i := 1) rfl rfl ?_
  refine t_callVM C hex (rest := []) (c2 := 1) (s2 := 6) (kd := 10) (i := 0) [.int (a1)] dX11_blamed_2 lk_X11_408 li_X11_gaugeAt le_X11_gaugeAt (c_X11_gaugeAt hfl h) rfl rfl (by decide) rfl ⟨_, rfl⟩ rfl ⟨Nat.le_of_ble_eq_true rfl, Nat.le_of_ble_eq_true rfl⟩ (Nat.le_of_ble_eq_true rfl) ⟨Nat.le_of_ble_eq_true rfl, Nat.le_of_ble_eq_true rfl, Nat.le_of_ble_eq_true rfl, Nat.le_of_ble_eq_true rfl⟩ (fun _ _ q => ⟨_, q.1, q.2⟩) ⟨Nat.le_of_ble_eq_true rfl, Nat.le_of_ble_eq_true rfl⟩ (k_Rr fun r2 h => ?_)
  refine z_astore C dX11_blamed_5 (lc' := [some (.ref 10), some (.int (a1)), some (.int (a2)), some (.int (a3)), some (.int (a4)), some (.ref (23 + 256 * r2)), none, none]) (by decide) rfl ?_
  refine z_aload_n C dX11_blamed_7 (i := 0) rfl rfl ?_
  refine z_iload_n C dX11_blamed_8 (i := 2) rfl rfl ?_
  refine t_callVM C hex (rest := []) (c2 := 2) (s2 := 12) (kd := 10) (i := 0) [.int (a2)] dX11_blamed_9 lk_X11_408 li_X11_gaugeAt le_X11_gaugeAt (c_X11_gaugeAt hfl h) rfl rfl (by decide) rfl ⟨_, rfl⟩ rfl ⟨Nat.le_of_ble_eq_true rfl, Nat.le_of_ble_eq_true rfl⟩ (Nat.le_of_ble_eq_true rfl) ⟨Nat.le_of_ble_eq_true rfl, Nat.le_of_ble_eq_true rfl, Nat.le_of_ble_eq_true rfl, Nat.le_of_ble_eq_true rfl⟩ (fun _ _ q => ⟨_, q.1, q.2⟩) ⟨Nat.le_of_ble_eq_true rfl, Nat.le_of_ble_eq_true rfl⟩ (k_Rr fun r9 h => ?_)
  refine z_astore C dX11_blamed_12 (lc' := [some (.ref 10), some (.int (a1)), some (.int (a2)), some (.int (a3)), some (.int (a4)), some (.ref (23 + 256 * r2)), some (.ref (23 + 256 * r9)), none]) (by decide) rfl ?_
  refine z_aload_n C dX11_blamed_14 (i := 0) rfl rfl ?_
  refine z_iload_n C dX11_blamed_15 (i := 3) rfl rfl ?_
  refine t_callVM C hex (rest := []) (c2 := 3) (s2 := 18) (kd := 10) (i := 0) [.int (a3)] dX11_blamed_16 lk_X11_160 li_X11_workAt le_X11_workAt (c_X11_workAt hfl h) rfl rfl (by decide) rfl ⟨_, rfl⟩ rfl ⟨Nat.le_of_ble_eq_true rfl, Nat.le_of_ble_eq_true rfl⟩ (Nat.le_of_ble_eq_true rfl) ⟨Nat.le_of_ble_eq_true rfl, Nat.le_of_ble_eq_true rfl, Nat.le_of_ble_eq_true rfl, Nat.le_of_ble_eq_true rfl⟩ (fun _ _ q => q) ⟨Nat.le_of_ble_eq_true rfl, Nat.le_of_ble_eq_true rfl⟩ (k_Wr fun r16 s16 h => ?_)
  refine z_astore C dX11_blamed_19 (lc' := [some (.ref 10), some (.int (a1)), some (.int (a2)), some (.int (a3)), some (.int (a4)), some (.ref (23 + 256 * r2)), some (.ref (23 + 256 * r9)), some (.ref (21 + 256 * r16))]) (by decide) rfl ?_
  refine z_aload C dX11_blamed_21 rfl ?_
  refine z_aload C dX11_blamed_23 rfl ?_
  refine z_aload C dX11_blamed_25 rfl ?_
  refine z_iload C dX11_blamed_27 rfl ?_
  refine t_callS C (rest := []) (c2 := 3) (s2 := 18) [.ref (23 + 256 * r2), .ref (23 + 256 * r9), .ref (21 + 256 * r16), .int (a4)] dX11_blamed_29 lk_X11_428 ls_X11_hasCauses (c_X11_hasCauses hfl h) rfl rfl ⟨Nat.le_of_ble_eq_true rfl, Nat.le_of_ble_eq_true rfl⟩ (Nat.le_of_ble_eq_true rfl) ⟨Nat.le_of_ble_eq_true rfl, Nat.le_of_ble_eq_true rfl, Nat.le_of_ble_eq_true rfl, Nat.le_of_ble_eq_true rfl⟩ (k_Ri fun r29 h => ?_)
  refine z_if_eq C dX11_blamed_32 (tgt := 65) (by decide) (fun c32 => ?_) (fun c32 => ?_)
  · have h := h.1 c32
    refine z_iconst C dX11_blamed_65 (v := 0) (by decide) ?_
    exact zG.up (z_iret C dX11_blamed_66 hr rfl ⟨_, _, rfl, rfl, h⟩ (Nat.le_of_ble_eq_true rfl) (Nat.le_of_ble_eq_true rfl))
  · have h := h.2 c32
    refine z_aload C dX11_blamed_35 rfl ?_
    refine z_aload C dX11_blamed_37 rfl ?_
    refine z_aload C dX11_blamed_39 rfl ?_
    refine t_get C dX11_blamed_41 fl_X11_203 (k := 21) (i := r16) (by decide) rfl (fg_21_9 _ _ _) ?_
    refine z_iload C dX11_blamed_44 rfl ?_
    refine t_callS C (rest := []) (c2 := 3) (s2 := 18) [.ref (23 + 256 * r2), .ref (23 + 256 * r9), .int (zgF s16 21 r16 9), .int (a4)] dX11_blamed_46 lk_X11_441 ls_X11_byWorks (c_X11_byWorks hfl h) rfl rfl ⟨Nat.le_of_ble_eq_true rfl, Nat.le_of_ble_eq_true rfl⟩ (Nat.le_of_ble_eq_true rfl) ⟨Nat.le_of_ble_eq_true rfl, Nat.le_of_ble_eq_true rfl, Nat.le_of_ble_eq_true rfl, Nat.le_of_ble_eq_true rfl⟩ (k_Rl fun r46 h => ?_)
    refine z_aload_n C dX11_blamed_49 (i := 0) rfl rfl ?_
    refine t_get C dX11_blamed_50 fl_X11_65 (k := 10) (i := 0) (by decide) rfl (fg_10_16 _ _ _) ?_
    refine t_get C dX11_blamed_53 fl_X11_389 (k := 24) (i := zgP s16 10 0 16) (by decide) rfl (fg_24_10 _ _ _) ?_
    refine z_i2l C dX11_blamed_56 ?_
    refine z_lcmp C dX11_blamed_57 ?_
    refine z_if_le C dX11_blamed_58 (tgt := 65) (by decide) (fun c58 => ?_) (fun c58 => ?_)
    · have h := h.1 c58
      refine z_iconst C dX11_blamed_65 (v := 0) (by decide) ?_
      exact zG.up (z_iret C dX11_blamed_66 hr rfl ⟨_, _, rfl, rfl, h⟩ (Nat.le_of_ble_eq_true rfl) (Nat.le_of_ble_eq_true rfl))
    · have h := h.2 c58
      refine z_iconst C dX11_blamed_61 (v := 1) (by decide) ?_
      refine z_goto C dX11_blamed_62 (tgt := 66) (by decide) ?_
      exact zG.up (z_iret C dX11_blamed_66 hr rfl ⟨_, _, rfl, rfl, h⟩ (Nat.le_of_ble_eq_true rfl) (Nat.le_of_ble_eq_true rfl))
def w_X11_count (st : zTs) (a1 : Int32) (P : Int32 → Prop) : Prop := (a1 = 0 → P (zgF st 10 0 12)) ∧ (a1 = 1 → w_Jx4a65c_size_8abf5_r30 st (fun (r73 : Int32) => (P r73))) ∧ (a1 = 2 → w_Jx4a65c_size_8abf5_r31 st (fun (r81 : Int32) => (P r81))) ∧ (a1 = 3 → P (zgF st 10 0 15)) ∧ (a1 = 4 → P (zgF st 24 (zgP st 10 0 16) 0)) ∧ (a1 = 5 → P (zgF st 10 0 11)) ∧ (a1 = 6 → P (zgF st 10 0 14)) ∧ (a1 = 7 → w_Jx4a65c_size_8abf5_r32 st (fun (r112 : Int32) => (P r112))) ∧ (a1 = 8 → P (zgF st 10 0 13)) ∧ (a1 = 9 → w_X1_payments st (fun (r125 : Int32) => (P r125))) ∧ (a1 = 10 → w_Jx4a65c_size_8abf5_r33 st (fun (r133 : Int32) => (P r133))) ∧ (a1 = 11 → w_X1_mendings st (fun (r141 : Int32) => (P r141))) ∧ (¬ a1 = 0 ∧ ¬ a1 = 1 ∧ ¬ a1 = 2 ∧ ¬ a1 = 3 ∧ ¬ a1 = 4 ∧ ¬ a1 = 5 ∧ ¬ a1 = 6 ∧ ¬ a1 = 7 ∧ ¬ a1 = 8 ∧ ¬ a1 = 9 ∧ ¬ a1 = 10 ∧ ¬ a1 = 11 → P (-1))
set_option maxHeartbeats 4000000 in
set_option maxRecDepth 100000 in
theorem c_X11_count {Z : zZ} {l : Launch} (hfl : l.stackTraces = false) {st : zTs} {a1 : Int32} {P : Int32 → Prop} (h : w_X11_count st a1 P) : zN Z l yX11_count cX11_count 2 (some .int) ({ frames := 2, cells := 0, slots := 0, locals := 32 } : Room) (zh Z zm1 st) [.ref 10, .int (a1)] (zRi Z st P) := by
  unfold w_X11_count at h
  refine z_enterN (by decide) (Nat.le_of_ble_eq_true rfl) (lc0 := [some (.ref 10), some (.int (a1))]) rfl ?_
  intro p e s m args below meth c ad0 C hr _
  have hn9 : True := trivial
  replace C : zC Z p s m args meth c cX11_count 2 RX11 := C
  refine z_iload_n C dX11_count_0 (i := 1) rfl rfl ?_
  by_cases c1_0 : a1 = 0
  · have h := h.1 c1_0
    refine z_tableIn C dX11_count_1 (off := 63) (tgt := 64) (by rw [c1_0]; decide) (by rw [c1_0]; decide) (by rw [c1_0]; rfl) (by decide) ?_
    refine z_aload_n C dX11_count_64 (i := 0) rfl rfl ?_
    refine t_get C dX11_count_65 fl_X11_69 (k := 10) (i := 0) (by decide) rfl (fg_10_12 _ _ _) ?_
    exact z_iret C dX11_count_68 hr rfl ⟨rfl, _, rfl, h⟩ (Nat.le_of_ble_eq_true rfl) (Nat.le_of_ble_eq_true rfl)
  · by_cases c1_1 : a1 = 1
    · have h := h.2.1 c1_1
      refine z_tableIn C dX11_count_1 (off := 68) (tgt := 69) (by rw [c1_1]; decide) (by rw [c1_1]; decide) (by rw [c1_1]; rfl) (by decide) ?_
      refine z_aload_n C dX11_count_69 (i := 0) rfl rfl ?_
      refine t_get C dX11_count_70 fl_X11_10 (k := 10) (i := 0) (by decide) rfl (fg_10_0 _ _ _) ?_
      refine t_callV C (rest := []) (c2 := 0) (s2 := 0) (kd := 30) (i := 0) [] dX11_count_73 lk_X11_80 li_Jx4a65c_size_8abf5 le_Jx4a65c_size_8abf5 (c_Jx4a65c_size_8abf5_r30 hfl h) rfl rfl (by decide) rfl ⟨_, rfl⟩ rfl ⟨Nat.le_of_ble_eq_true rfl, Nat.le_of_ble_eq_true rfl⟩ (Nat.le_of_ble_eq_true rfl) ⟨Nat.le_of_ble_eq_true rfl, Nat.le_of_ble_eq_true rfl, Nat.le_of_ble_eq_true rfl, Nat.le_of_ble_eq_true rfl⟩ (k_Ri fun r73 h => ?_)
      exact z_iret C dX11_count_76 hr rfl ⟨rfl, _, rfl, h⟩ (Nat.le_of_ble_eq_true rfl) (Nat.le_of_ble_eq_true rfl)
    · by_cases c1_2 : a1 = 2
      · have h := h.2.2.1 c1_2
        refine z_tableIn C dX11_count_1 (off := 76) (tgt := 77) (by rw [c1_2]; decide) (by rw [c1_2]; decide) (by rw [c1_2]; rfl) (by decide) ?_
        refine z_aload_n C dX11_count_77 (i := 0) rfl rfl ?_
        refine t_get C dX11_count_78 fl_X11_16 (k := 10) (i := 0) (by decide) rfl (fg_10_1 _ _ _) ?_
        refine t_callV C (rest := []) (c2 := 0) (s2 := 0) (kd := 31) (i := 0) [] dX11_count_81 lk_X11_80 li_Jx4a65c_size_8abf5 le_Jx4a65c_size_8abf5 (c_Jx4a65c_size_8abf5_r31 hfl h) rfl rfl (by decide) rfl ⟨_, rfl⟩ rfl ⟨Nat.le_of_ble_eq_true rfl, Nat.le_of_ble_eq_true rfl⟩ (Nat.le_of_ble_eq_true rfl) ⟨Nat.le_of_ble_eq_true rfl, Nat.le_of_ble_eq_true rfl, Nat.le_of_ble_eq_true rfl, Nat.le_of_ble_eq_true rfl⟩ (k_Ri fun r81 h => ?_)
        exact z_iret C dX11_count_84 hr rfl ⟨rfl, _, rfl, h⟩ (Nat.le_of_ble_eq_true rfl) (Nat.le_of_ble_eq_true rfl)
      · by_cases c1_3 : a1 = 3
        · have h := h.2.2.2.1 c1_3
          refine z_tableIn C dX11_count_1 (off := 84) (tgt := 85) (by rw [c1_3]; decide) (by rw [c1_3]; decide) (by rw [c1_3]; rfl) (by decide) ?_
          refine z_aload_n C dX11_count_85 (i := 0) rfl rfl ?_
          refine t_get C dX11_count_86 fl_X11_111 (k := 10) (i := 0) (by decide) rfl (fg_10_15 _ _ _) ?_
          exact z_iret C dX11_count_89 hr rfl ⟨rfl, _, rfl, h⟩ (Nat.le_of_ble_eq_true rfl) (Nat.le_of_ble_eq_true rfl)
        · by_cases c1_4 : a1 = 4
          · have h := h.2.2.2.2.1 c1_4
            refine z_tableIn C dX11_count_1 (off := 89) (tgt := 90) (by rw [c1_4]; decide) (by rw [c1_4]; decide) (by rw [c1_4]; rfl) (by decide) ?_
            refine z_aload_n C dX11_count_90 (i := 0) rfl rfl ?_
            refine t_get C dX11_count_91 fl_X11_65 (k := 10) (i := 0) (by decide) rfl (fg_10_16 _ _ _) ?_
            refine t_get C dX11_count_94 fl_X11_135 (k := 24) (i := zgP st 10 0 16) (by decide) rfl (fg_24_0 _ _ _) ?_
            exact z_iret C dX11_count_97 hr rfl ⟨rfl, _, rfl, h⟩ (Nat.le_of_ble_eq_true rfl) (Nat.le_of_ble_eq_true rfl)
          · by_cases c1_5 : a1 = 5
            · have h := h.2.2.2.2.2.1 c1_5
              refine z_tableIn C dX11_count_1 (off := 97) (tgt := 98) (by rw [c1_5]; decide) (by rw [c1_5]; decide) (by rw [c1_5]; rfl) (by decide) ?_
              refine z_aload_n C dX11_count_98 (i := 0) rfl rfl ?_
              refine t_get C dX11_count_99 fl_X11_122 (k := 10) (i := 0) (by decide) rfl (fg_10_11 _ _ _) ?_
              exact z_iret C dX11_count_102 hr rfl ⟨rfl, _, rfl, h⟩ (Nat.le_of_ble_eq_true rfl) (Nat.le_of_ble_eq_true rfl)
            · by_cases c1_6 : a1 = 6
              · have h := h.2.2.2.2.2.2.1 c1_6
                refine z_tableIn C dX11_count_1 (off := 102) (tgt := 103) (by rw [c1_6]; decide) (by rw [c1_6]; decide) (by rw [c1_6]; rfl) (by decide) ?_
                refine z_aload_n C dX11_count_103 (i := 0) rfl rfl ?_
                refine t_get C dX11_count_104 fl_X11_361 (k := 10) (i := 0) (by decide) rfl (fg_10_14 _ _ _) ?_
                exact z_iret C dX11_count_107 hr rfl ⟨rfl, _, rfl, h⟩ (Nat.le_of_ble_eq_true rfl) (Nat.le_of_ble_eq_true rfl)
              · by_cases c1_7 : a1 = 7
                · have h := h.2.2.2.2.2.2.2.1 c1_7
                  refine z_tableIn C dX11_count_1 (off := 107) (tgt := 108) (by rw [c1_7]; decide) (by rw [c1_7]; decide) (by rw [c1_7]; rfl) (by decide) ?_
                  refine z_aload_n C dX11_count_108 (i := 0) rfl rfl ?_
                  refine t_get C dX11_count_109 fl_X11_19 (k := 10) (i := 0) (by decide) rfl (fg_10_2 _ _ _) ?_
                  refine t_callV C (rest := []) (c2 := 0) (s2 := 0) (kd := 32) (i := 0) [] dX11_count_112 lk_X11_80 li_Jx4a65c_size_8abf5 le_Jx4a65c_size_8abf5 (c_Jx4a65c_size_8abf5_r32 hfl h) rfl rfl (by decide) rfl ⟨_, rfl⟩ rfl ⟨Nat.le_of_ble_eq_true rfl, Nat.le_of_ble_eq_true rfl⟩ (Nat.le_of_ble_eq_true rfl) ⟨Nat.le_of_ble_eq_true rfl, Nat.le_of_ble_eq_true rfl, Nat.le_of_ble_eq_true rfl, Nat.le_of_ble_eq_true rfl⟩ (k_Ri fun r112 h => ?_)
                  exact z_iret C dX11_count_115 hr rfl ⟨rfl, _, rfl, h⟩ (Nat.le_of_ble_eq_true rfl) (Nat.le_of_ble_eq_true rfl)
                · by_cases c1_8 : a1 = 8
                  · have h := h.2.2.2.2.2.2.2.2.1 c1_8
                    refine z_tableIn C dX11_count_1 (off := 115) (tgt := 116) (by rw [c1_8]; decide) (by rw [c1_8]; decide) (by rw [c1_8]; rfl) (by decide) ?_
                    refine z_aload_n C dX11_count_116 (i := 0) rfl rfl ?_
                    refine t_get C dX11_count_117 fl_X11_206 (k := 10) (i := 0) (by decide) rfl (fg_10_13 _ _ _) ?_
                    exact z_iret C dX11_count_120 hr rfl ⟨rfl, _, rfl, h⟩ (Nat.le_of_ble_eq_true rfl) (Nat.le_of_ble_eq_true rfl)
                  · by_cases c1_9 : a1 = 9
                    · have h := h.2.2.2.2.2.2.2.2.2.1 c1_9
                      refine z_tableIn C dX11_count_1 (off := 120) (tgt := 121) (by rw [c1_9]; decide) (by rw [c1_9]; decide) (by rw [c1_9]; rfl) (by decide) ?_
                      refine z_aload_n C dX11_count_121 (i := 0) rfl rfl ?_
                      refine t_get C dX11_count_122 fl_X11_38 (k := 10) (i := 0) (by decide) rfl (fg_10_7 _ _ _) ?_
                      refine t_callV C (rest := []) (c2 := 0) (s2 := 0) (kd := 11) (i := 0) [] dX11_count_125 lk_X11_335 li_X1_payments le_X1_payments (c_X1_payments hfl h) rfl rfl (by decide) rfl ⟨_, rfl⟩ rfl ⟨Nat.le_of_ble_eq_true rfl, Nat.le_of_ble_eq_true rfl⟩ (Nat.le_of_ble_eq_true rfl) ⟨Nat.le_of_ble_eq_true rfl, Nat.le_of_ble_eq_true rfl, Nat.le_of_ble_eq_true rfl, Nat.le_of_ble_eq_true rfl⟩ (k_Ri fun r125 h => ?_)
                      exact z_iret C dX11_count_128 hr rfl ⟨rfl, _, rfl, h⟩ (Nat.le_of_ble_eq_true rfl) (Nat.le_of_ble_eq_true rfl)
                    · by_cases c1_10 : a1 = 10
                      · have h := h.2.2.2.2.2.2.2.2.2.2.1 c1_10
                        refine z_tableIn C dX11_count_1 (off := 128) (tgt := 129) (by rw [c1_10]; decide) (by rw [c1_10]; decide) (by rw [c1_10]; rfl) (by decide) ?_
                        refine z_aload_n C dX11_count_129 (i := 0) rfl rfl ?_
                        refine t_get C dX11_count_130 fl_X11_22 (k := 10) (i := 0) (by decide) rfl (fg_10_3 _ _ _) ?_
                        refine t_callV C (rest := []) (c2 := 0) (s2 := 0) (kd := 33) (i := 0) [] dX11_count_133 lk_X11_80 li_Jx4a65c_size_8abf5 le_Jx4a65c_size_8abf5 (c_Jx4a65c_size_8abf5_r33 hfl h) rfl rfl (by decide) rfl ⟨_, rfl⟩ rfl ⟨Nat.le_of_ble_eq_true rfl, Nat.le_of_ble_eq_true rfl⟩ (Nat.le_of_ble_eq_true rfl) ⟨Nat.le_of_ble_eq_true rfl, Nat.le_of_ble_eq_true rfl, Nat.le_of_ble_eq_true rfl, Nat.le_of_ble_eq_true rfl⟩ (k_Ri fun r133 h => ?_)
                        exact z_iret C dX11_count_136 hr rfl ⟨rfl, _, rfl, h⟩ (Nat.le_of_ble_eq_true rfl) (Nat.le_of_ble_eq_true rfl)
                      · by_cases c1_11 : a1 = 11
                        · have h := h.2.2.2.2.2.2.2.2.2.2.2.1 c1_11
                          refine z_tableIn C dX11_count_1 (off := 136) (tgt := 137) (by rw [c1_11]; decide) (by rw [c1_11]; decide) (by rw [c1_11]; rfl) (by decide) ?_
                          refine z_aload_n C dX11_count_137 (i := 0) rfl rfl ?_
                          refine t_get C dX11_count_138 fl_X11_38 (k := 10) (i := 0) (by decide) rfl (fg_10_7 _ _ _) ?_
                          refine t_callV C (rest := []) (c2 := 0) (s2 := 0) (kd := 11) (i := 0) [] dX11_count_141 lk_X11_339 li_X1_mendings le_X1_mendings (c_X1_mendings hfl h) rfl rfl (by decide) rfl ⟨_, rfl⟩ rfl ⟨Nat.le_of_ble_eq_true rfl, Nat.le_of_ble_eq_true rfl⟩ (Nat.le_of_ble_eq_true rfl) ⟨Nat.le_of_ble_eq_true rfl, Nat.le_of_ble_eq_true rfl, Nat.le_of_ble_eq_true rfl, Nat.le_of_ble_eq_true rfl⟩ (k_Ri fun r141 h => ?_)
                          exact z_iret C dX11_count_144 hr rfl ⟨rfl, _, rfl, h⟩ (Nat.le_of_ble_eq_true rfl) (Nat.le_of_ble_eq_true rfl)
                        · have h := h.2.2.2.2.2.2.2.2.2.2.2.2 ⟨c1_0, c1_1, c1_2, c1_3, c1_4, c1_5, c1_6, c1_7, c1_8, c1_9, c1_10, c1_11⟩
                          refine z_tableOut C dX11_count_1 (tgt := 145) (zsw_out (lt_s (p := fun a => ¬ a1 = nI a) (lt_s (p := fun a => ¬ a1 = nI a) (lt_s (p := fun a => ¬ a1 = nI a) (lt_s (p := fun a => ¬ a1 = nI a) (lt_s (p := fun a => ¬ a1 = nI a) (lt_s (p := fun a => ¬ a1 = nI a) (lt_s (p := fun a => ¬ a1 = nI a) (lt_s (p := fun a => ¬ a1 = nI a) (lt_s (p := fun a => ¬ a1 = nI a) (lt_s (p := fun a => ¬ a1 = nI a) (lt_s (p := fun a => ¬ a1 = nI a) (lt_s (p := fun a => ¬ a1 = nI a) lt_0 c1_0) c1_1) c1_2) c1_3) c1_4) c1_5) c1_6) c1_7) c1_8) c1_9) c1_10) c1_11)) (by decide) ?_
                          refine z_iconst C dX11_count_145 (v := (-1)) (by decide) ?_
                          exact z_iret C dX11_count_146 hr rfl ⟨rfl, _, rfl, h⟩ (Nat.le_of_ble_eq_true rfl) (Nat.le_of_ble_eq_true rfl)
end
