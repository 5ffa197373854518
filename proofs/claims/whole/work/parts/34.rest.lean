section
variable {Z : zZ} {p : Program} {l : Launch} {e : Env} {s : State} {m : MethodId} {args : Array Value} {below : List Frame} {meth : Method} {c : Code} {ad0 : Nat → Nat} {h0 : zH}
def w_X10_awardAs_2 (P : zTs → Prop)  : Nat → zTs → Nat → Nat → Int32 → Int32 → Prop
  | 0, _, _, _, _, _ => False
  | n9 + 1, st, a0, a1, a2, a3 => (3 ≤ a3 → ∀ s26 : zTs, s26 = zuO st 21 a0 10 (some a1) → (∀ s31 : zTs, s31 = zuF s26 21 a0 11 a2 → (∀ s36 : zTs, s36 = zuF s31 21 a0 4 3 → (∀ s44 : zTs, s44 = zuF s36 21 a0 7 (zgF s36 25 a1 0) → (P s44))))) ∧ (¬ 3 ≤ a3 → vp_in a3 3 ∧ (∀ s17 : zTs, s17 = zuR st 67 a0 (a3 : Int32).toNatClampNeg none → (∀ x18 : Int32, x18 = a3 + 1 → ((w_X10_awardAs_2 P n9) s17 a0 a1 a2 x18))))
set_option maxHeartbeats 4000000 in
set_option maxRecDepth 100000 in
theorem j_X10_awardAs_2 {P : zTs → Prop}  (hfl : l.stackTraces = false) (C : zC Z p s m args meth c cX10_awardAs 4 RX10) (hr : meth.sig.returnType = none) (hn9 : True)  : ∀ (n9 : Nat) (st : zTs) (a0 : Nat) (a1 : Nat) (a2 : Int32) (a3 : Int32), w_X10_awardAs_2 P n9 st a0 a1 a2 a3 → zG Z ad0 h0 p l e ({ frames := 1, cells := 0, slots := 0, locals := 12 } : Room) s m args below meth c (MQ below (zQ Z ad0 h0 (zWv Z zm1 P)) args s 0 0 (zA Z)) 0 0 (zh Z zm1 st) 4 2 [some (.ref (21 + 256 * a0)), some (.ref (25 + 256 * a1)), some (.int (a2)), some (.int (a3))] [] := by
  intro n9
  induction n9 with
  | zero => intro st a0 a1 a2 a3 h; exact h.elim
  | succ n9 hK2 =>
    intro st a0 a1 a2 a3 h
    rw [w_X10_awardAs_2] at h
    refine z_iload_n C dX10_awardAs_2 (i := 3) rfl rfl ?_
    refine z_aload_n C dX10_awardAs_3 (i := 0) rfl rfl ?_
    refine t_get C dX10_awardAs_4 fl_X10_32 (k := 21) (i := a0) (by decide) rfl (fg_21_12 _ _ _) ?_
    refine t_lenq C dX10_awardAs_7 (k0 := 67) (i := a0) (by decide) rfl sh_67 rfl (v := 3) (by decide) ?_
    refine z_icmp_ge C dX10_awardAs_8 (tgt := 24) (by decide) (fun c8 => ?_) (fun c8 => ?_)
    · have h := h.1 c8
      refine z_aload_n C dX10_awardAs_24 (i := 0) rfl rfl ?_
      refine z_aload_n C dX10_awardAs_25 (i := 1) rfl rfl ?_
      refine t_put C dX10_awardAs_26 fq_X10_99 (Or.inl rfl) (k := 21) (i := a0) (by decide) rfl ⟨rfl, rfl⟩ (fp_21_10 _ _ _ _ (some a1)) ?_
      refine t_tops (fun s26 es26 => ?_)
      have h := h s26 es26
      refine z_aload_n C dX10_awardAs_29 (i := 0) rfl rfl ?_
      refine z_iload_n C dX10_awardAs_30 (i := 2) rfl rfl ?_
      refine t_put C dX10_awardAs_31 fq_X10_27 (Or.inl rfl) (k := 21) (i := a0) (by decide) rfl ⟨rfl, rfl⟩ (fp_21_11 _ _ _ _ _) ?_
      refine t_tops (fun s31 es31 => ?_)
      have h := h s31 es31
      refine z_aload_n C dX10_awardAs_34 (i := 0) rfl rfl ?_
      refine z_iconst C dX10_awardAs_35 (v := 3) (by decide) ?_
      refine t_put C dX10_awardAs_36 fq_X10_57 (Or.inl rfl) (k := 21) (i := a0) (by decide) rfl ⟨rfl, rfl⟩ (fp_21_4 _ _ _ _ _) ?_
      refine t_tops (fun s36 es36 => ?_)
      have h := h s36 es36
      refine z_aload_n C dX10_awardAs_39 (i := 0) rfl rfl ?_
      refine z_aload_n C dX10_awardAs_40 (i := 1) rfl rfl ?_
      refine t_get C dX10_awardAs_41 fl_X10_103 (k := 25) (i := a1) (by decide) rfl (fg_25_0 _ _ _) ?_
      refine t_put C dX10_awardAs_44 fq_X10_18 (Or.inl rfl) (k := 21) (i := a0) (by decide) rfl ⟨rfl, rfl⟩ (fp_21_7 _ _ _ _ _) ?_
      refine t_tops (fun s44 es44 => ?_)
      have h := h s44 es44
      exact z_vret C dX10_awardAs_47 hr ⟨_, rfl, rfl, h⟩ (Nat.le_of_ble_eq_true rfl) (Nat.le_of_ble_eq_true rfl)
    · have h := h.2 c8
      refine z_aload_n C dX10_awardAs_11 (i := 0) rfl rfl ?_
      refine t_get C dX10_awardAs_12 fl_X10_32 (k := 21) (i := a0) (by decide) rfl (fg_21_12 _ _ _) ?_
      refine z_iload_n C dX10_awardAs_15 (i := 3) rfl rfl ?_
      refine z_aconst_null C dX10_awardAs_16 ?_
      obtain ⟨g17, h⟩ := h
      refine t_astqN C dX10_awardAs_17 (k0 := 67) (i := a0) (by decide) rfl (fun _ => sh_67) rfl g17 ?_
      refine t_tops (fun s17 es17 => ?_)
      have h := h s17 es17
      obtain ⟨x18, ex18⟩ : ∃ z : Int32, z = a3 + 1 := ⟨_, rfl⟩
      have h := h x18 ex18
      refine z_iinc C dX10_awardAs_18 (v := x18) (lc' := [some (.ref (21 + 256 * a0)), some (.ref (25 + 256 * a1)), some (.int (a2)), some (.int (x18))]) rfl (by decide) (by rw [ex18]; rfl) rfl ?_
      refine z_goto C dX10_awardAs_21 (tgt := 2) (by decide) ?_
      exact t_drop [true, true, true, true] rfl (hK2 s17 a0 a1 a2 x18 h)
def w_X10_awardAs (st : zTs) (i : Nat) (a1 : Nat) (a2 : Int32) (P : zTs → Prop) : Prop := w_X10_awardAs_2 P zfu st i a1 a2 (0)
set_option maxHeartbeats 4000000 in
set_option maxRecDepth 100000 in
theorem c_X10_awardAs {Z : zZ} {l : Launch} (hfl : l.stackTraces = false) {st : zTs} {i : Nat} {a1 : Nat} {a2 : Int32} {P : zTs → Prop} (h : w_X10_awardAs st i a1 a2 P) : zN Z l yX10_awardAs cX10_awardAs 4 none ({ frames := 1, cells := 0, slots := 0, locals := 12 } : Room) (zh Z zm1 st) [.ref (21 + 256 * i), .ref (25 + 256 * a1), .int (a2)] (zWv Z zm1 P) := by
  unfold w_X10_awardAs at h
  refine z_enterN (by decide) (Nat.le_of_ble_eq_true rfl) (lc0 := [some (.ref (21 + 256 * i)), some (.ref (25 + 256 * a1)), some (.int (a2)), none]) rfl ?_
  intro p e s m args below meth c ad0 C hr _
  have hn9 : True := trivial
  replace C : zC Z p s m args meth c cX10_awardAs 4 RX10 := C
  refine z_iconst C dX10_awardAs_0 (v := 0) (by decide) ?_
  refine z_istore_n C dX10_awardAs_1 (i := 3) (lc' := [some (.ref (21 + 256 * i)), some (.ref (25 + 256 * a1)), some (.int (a2)), some (.int (0))]) rfl (by decide) rfl ?_
  exact t_drop [true, true, true, true] rfl (j_X10_awardAs_2 hfl C hr hn9  zfu st i a1 a2 (0) h)
end
