/-! reading a work, and the calls that do no more than that or change its state -/
theorem v15_4 : vp_in 4 15 := q_vpi (by decide) (by decide)
theorem v15_5 : vp_in 5 15 := q_vpi (by decide) (by decide)
theorem v15_6 : vp_in 6 15 := q_vpi (by decide) (by decide)
theorem v15_7 : vp_in 7 15 := q_vpi (by decide) (by decide)
theorem v15_8 : vp_in 8 15 := q_vpi (by decide) (by decide)
theorem v15_9 : vp_in 9 15 := q_vpi (by decide) (by decide)
theorem v15_13 : vp_in 13 15 := q_vpi (by decide) (by decide)
theorem v15_14 : vp_in 14 15 := q_vpi (by decide) (by decide)
theorem im_keptOf {P : Int32 → Prop} {t : zTs} {a w : Int32} {W : Nat} (hv : vp_in a 30) (hw : vp_in w 15) (e : w.toNatClampNeg = W) (h : P (zgA t 116 0 (15 * a.toNatClampNeg + W))) : w_X12_keptOf t a w P := by
  have hb : a.toNatClampNeg < 30 := Nat.lt_of_not_le (fun c => hv (.inr c))
  have hc : w.toNatClampNeg < 15 := Nat.lt_of_not_le (fun c => hw (.inr c))
  obtain ⟨e1, v⟩ := q_pl (m := 15) (a := a) (b := w) (M := 15) (N := 450) rfl (fun c => hv (.inl c)) (fun c => hw (.inl c)) (by omega) (by omega)
  unfold w_X12_keptOf
  rw [e1, e]
  exact ⟨v, h⟩
theorem im_arrives {P : Int32 → Prop} {t : zTs} {a : Int32} (hv : vp_in a 30) (h : P (zgA t 117 0 a.toNatClampNeg + zgA t 116 0 (15 * a.toNatClampNeg + 4))) : w_X12_arrives t a P := ⟨hv, im_keptOf (W := 4) hv v15_4 rfl h⟩
theorem im_lastAnswer {P : Int32 → Prop} {s t : zTs} {a : Int32} (m : qmc s t) (hv : vp_in a 30) (g : GKr s a.toNatClampNeg) (h0 : 0 ≤ zgA s 117 0 a.toNatClampNeg) (h1 : zgA s 117 0 a.toNatClampNeg ≤ 1000000) (h : P (qla s a.toNatClampNeg)) : w_X12_lastAnswer t a P := by
  obtain ⟨⟨n1, e4, e5, e6, e7⟩, e8, ⟨p0, p1, r0, r1, y0, y1, -⟩, -⟩ := GKr_un g
  have hr : zgF s 24 (zgP s 21 a.toNatClampNeg 3) 4 < 127 := by have := g.2.2; lia
  have h' : P (qcf (zgA t 116 0 (15 * a.toNatClampNeg + 5)) 2900 (zgA t 117 0 a.toNatClampNeg + zgA t 116 0 (15 * a.toNatClampNeg + 4)) (zgA t 116 0 (15 * a.toNatClampNeg + 6))) := by
    simp (disch := decide) only [m.1]
    exact h
  unfold w_X12_lastAnswer
  refine im_arrives hv ?_
  refine im_keptOf (W := 6) hv v15_6 rfl ?_
  refine im_keptOf (W := 5) hv v15_5 rfl ?_
  refine im_countedFrom ?_ ?_ (Or.inl ?_) ?_ ?_ ?_ h'
  · rw [m.1 116 (by decide), e5]; exact r0
  · rw [m.1 116 (by decide), e5]; exact r1
  · rw [m.1 116 (by decide), e5]; exact hr
  · simp (disch := decide) only [m.1]; lia
  · simp (disch := decide) only [m.1]; lia
  · rw [m.1 116 (by decide), e6]; exact y1
theorem im_ahead {P : Int32 → Prop} {s t : zTs} {a : Int32} (m : qmc s t) (hv : vp_in a 30) (hD : GD s) (g : GK5 s a.toNatClampNeg) (hh : qhd s a.toNatClampNeg) (c : zgA s 126 0 a.toNatClampNeg = 0) (h : P (zgF s 21 a.toNatClampNeg 4)) : w_X12_ahead t a P := by
  obtain ⟨g1, g2, g3, g4, g5⟩ := g
  have d : zgF t 100 0 3 = zgF s 10 0 15 := (m.2 3 (by decide)).trans hD.1
  obtain ⟨b1, b2, b3, b4, b5, b6, b7, -⟩ := id g5
  have l1 : zgA s 117 0 a.toNatClampNeg ≤ 1000000 := Int32.le_trans b3 hD.2.2
  have m7 : zgA t 116 0 (15 * a.toNatClampNeg + 7) = zgA s 116 0 (15 * a.toNatClampNeg + 7) := m.1 116 (by decide) _ _
  unfold w_X12_ahead
  simp (disch := decide) only [m.1, d]
  rcases GKs_eight g5 with c4 | c4 | c4 | c4 | c4 | ⟨c4, -⟩
  · obtain ⟨u1, u2, u3, u4, -⟩ := GKs_plan g5 c4
    rw [c4] at h
    exact ⟨hv, fun e => absurd e u3, fun _ => ⟨hv, fun e => absurd e (by rw [u4]; decide), fun _ => h⟩⟩
  · obtain ⟨u1, u2, u3, -⟩ := GKs_free g5 c4
    rw [c4] at h
    exact ⟨hv, fun _ => h, fun e => absurd u3 e⟩
  · obtain ⟨u1, u2, u3, u4, u5, u6, u7, u8, u9, ua⟩ := GKs_ask g5 c4
    rw [c4] at h
    exact ⟨hv, fun e => absurd e u3, fun _ => ⟨hv, fun _ => ⟨hv, fun _ => ⟨hv, fun _ => ⟨hv, fun _ => im_lastAnswer m hv g1 u4 l1 ⟨fun e => (hh ⟨c4, by rw [u9]; exact e⟩).elim, fun _ => h⟩, fun e => absurd (by rw [u7]; decide) e⟩, fun e => absurd (by rw [u6]; decide) e⟩, fun e => absurd u5 e⟩, fun e => absurd u4 e⟩⟩
  · obtain ⟨u1, u2, u3, u4, g⟩ := GKs_allow g5 c4
    rw [c4] at h
    rcases g with ⟨x, y⟩ | ⟨x, y, z, -⟩
    · exact ⟨hv, fun e => absurd e u3, fun _ => ⟨hv, fun _ => ⟨hv, fun e => absurd e (by rw [x]; decide), fun _ => h⟩, fun e => absurd u4 e⟩⟩
    · rcases z with z | ⟨z1, z2, z3⟩
      · exact ⟨hv, fun e => absurd e u3, fun _ => ⟨hv, fun _ => ⟨hv, fun _ => ⟨hv, fun _ => ⟨hv, fun e => absurd e (by rw [z]; decide), fun _ => ⟨hv, fun _ => h, fun e => absurd z e⟩⟩, fun e => absurd (by rw [y]; decide) e⟩, fun e => absurd x e⟩, fun e => absurd u4 e⟩⟩
      · exact ⟨hv, fun e => absurd e u3, fun _ => ⟨hv, fun _ => ⟨hv, fun _ => ⟨hv, fun _ => ⟨hv, fun _ => im_lastAnswer m hv g1 u4 l1 ⟨fun _ => im_keptOf (W := 7) hv v15_7 rfl ⟨fun _ => h, fun e => absurd (m7.trans z3) e⟩, fun e => absurd z2 e⟩, fun e => absurd (by rw [z1]; decide) e⟩, fun e => absurd (by rw [y]; decide) e⟩, fun e => absurd x e⟩, fun e => absurd u4 e⟩⟩
  · obtain ⟨u1, u2, u3, u4, u5, u6, u7, u8, g⟩ := GKs_disp g5 c4
    rw [c4] at h
    rcases g with ⟨x, y⟩ | ⟨x, y, z⟩ | ⟨x, y, z, w, -⟩
    · exact ⟨hv, fun e => absurd e u3, fun _ => ⟨hv, fun _ => ⟨hv, fun _ => ⟨hv, fun e => absurd x (Int32.not_le.mpr e), fun _ => h⟩, fun e => absurd u5 e⟩, fun e => absurd u4 e⟩⟩
    · exact ⟨hv, fun e => absurd e u3, fun _ => ⟨hv, fun _ => ⟨hv, fun _ => ⟨hv, fun _ => ⟨hv, fun e => absurd e (by rw [y]; decide), fun _ => ⟨hv, fun e => absurd e (by rw [y]; decide), fun _ => h⟩⟩, fun e => absurd (by rw [x]; decide) e⟩, fun e => absurd u5 e⟩, fun e => absurd u4 e⟩⟩
    · exact ⟨hv, fun e => absurd e u3, fun _ => ⟨hv, fun _ => ⟨hv, fun _ => ⟨hv, fun _ => ⟨hv, fun _ => im_lastAnswer m hv g1 u4 l1 ⟨fun _ => im_keptOf (W := 7) hv v15_7 rfl ⟨fun e => absurd (m7.symm.trans e) w, fun _ => h⟩, fun e => absurd z e⟩, fun e => absurd (by rw [y]; decide) e⟩, fun e => absurd (by rw [x]; decide) e⟩, fun e => absurd u5 e⟩, fun e => absurd u4 e⟩⟩
  · exact absurd c c4
theorem im_stateOf {P : Int32 → Prop} {s t : zTs} {a : Int32} (m : qmc s t) (hv : vp_in a 30) (hD : GD s) (g : GK5 s a.toNatClampNeg) (hh : qhd s a.toNatClampNeg) (h : P (zgF s 21 a.toNatClampNeg 4)) : w_X12_stateOf t a P := by
  unfold w_X12_stateOf
  rw [m.1 126 (by decide)]
  by_cases c : zgA s 126 0 a.toNatClampNeg = 0
  · exact ⟨hv, fun _ => im_ahead m hv hD g hh c h, fun e => absurd (by rw [c]; decide) e⟩
  · obtain ⟨t1, t2, -⟩ := GKs_gone g.2.2.2.2 c
    rw [t2] at h
    exact ⟨hv, fun e => by exfalso; lia, fun _ => ⟨hv, h⟩⟩
theorem im_allowedFrom {P : Int32 → Prop} {s t : zTs} {a : Int32} (m : qmc s t) (hv : vp_in a 30) (g : GK5 s a.toNatClampNeg) (c : zgF s 21 a.toNatClampNeg 4 = 3) (h : P (zgF s 21 a.toNatClampNeg 7)) : w_X12_allowedFrom t a P := by
  obtain ⟨g1, g2, g3, g4, g5⟩ := g
  obtain ⟨u1, u2, u3, u4, g⟩ := GKs_allow g5 c
  obtain ⟨-, -, -, -, es, s0, s1, -⟩ := g2
  unfold w_X12_allowedFrom
  rw [m.1 120 (by decide), m.1 114 (by decide), m.1 122 (by decide), es]
  rcases g with ⟨x, y⟩ | ⟨x, -, -, y⟩
  · rw [y] at h
    exact ⟨hv, fun e => absurd e (by rw [x]; decide), fun _ => ⟨hv, h⟩⟩
  · refine ⟨hv, fun _ => im_arrives hv ⟨hv, im_keptOf hv (q_vpi (by simp only [q_ti]; lia) (by simp only [q_ti]; lia)) rfl ?_⟩, fun e => absurd x e⟩
    simp (disch := decide) only [m.1]
    rw [y] at h
    exact h
theorem im_disputeFrom {P : Int32 → Prop} {s t : zTs} {a : Int32} (m : qmc s t) (hv : vp_in a 30) (hD : GD s) (g : GK5 s a.toNatClampNeg) (c : zgF s 21 a.toNatClampNeg 4 = 4) (h : P (zgF s 21 a.toNatClampNeg 8)) : w_X12_disputeFrom t a P := by
  obtain ⟨g1, g2, g3, g4, g5⟩ := g
  obtain ⟨b1, b2, b3, b4, b5, b6, b7, -⟩ := id g5
  obtain ⟨u1, u2, u3, u4, u5, u6, u7, u8, g⟩ := GKs_disp g5 c
  unfold w_X12_disputeFrom
  simp (disch := decide) only [m.1]
  rcases g with ⟨x, y⟩ | ⟨x, y, z⟩ | ⟨x, y, z, w, y8⟩
  · rw [y] at h
    exact ⟨hv, fun e => absurd x (Int32.not_le.mpr e), fun _ => ⟨hv, h⟩⟩
  · rw [z] at h
    exact ⟨hv, fun _ => ⟨hv, fun _ => ⟨hv, h⟩, fun e => absurd y e⟩, fun e => absurd (by rw [x]; decide) e⟩
  · rw [y8] at h
    exact ⟨hv, fun _ => ⟨hv, fun e => absurd e (by rw [y]; decide), fun _ => im_lastAnswer m hv g1 u4 (Int32.le_trans b3 hD.2.2) h⟩, fun e => absurd (by rw [x]; decide) e⟩
/-- hours and share of a work -/
def qfh (s : zTs) (w : Nat) : Int32 := if zgA s 120 0 w = 0 then zgA s 116 0 (15 * w + 13) else zgA s 123 0 w / 100
def qeh (s : zTs) (w : Nat) : Int32 := if zgA s 120 0 w = 0 then zgA s 116 0 (15 * w + 14) else zgA s 123 0 w - zgA s 123 0 w / 100 * 100
def qsh (s : zTs) (w : Nat) : Int32 := if zgA s 120 0 w = 0 then 100 else zgA s 124 0 w
theorem qfh_mc {s t : zTs} {w : Nat} (m : qmc s t) : qfh t w = qfh s w := by
  unfold qfh
  simp (disch := decide) only [m.1]
theorem qeh_mc {s t : zTs} {w : Nat} (m : qmc s t) : qeh t w = qeh s w := by
  unfold qeh
  simp (disch := decide) only [m.1]
theorem qsh_mc {s t : zTs} {w : Nat} (m : qmc s t) : qsh t w = qsh s w := by
  unfold qsh
  simp (disch := decide) only [m.1]
theorem im_hoursFrom {P : Int32 → Prop} {s t : zTs} {a : Int32} (m : qmc s t) (hv : vp_in a 30) (h : P (qfh s a.toNatClampNeg)) : w_X12_hoursFrom t a P := by
  rw [← qfh_mc m] at h
  unfold w_X12_hoursFrom
  unfold qfh at h
  by_cases c : zgA t 120 0 a.toNatClampNeg = 0
  · rw [if_pos c] at h
    exact ⟨hv, fun _ => im_keptOf (W := 13) hv v15_13 rfl h, fun e => absurd c e⟩
  · rw [if_neg c] at h
    exact ⟨hv, fun e => absurd e c, fun _ => ⟨hv, h⟩⟩
theorem im_hoursTo {P : Int32 → Prop} {s t : zTs} {a : Int32} (m : qmc s t) (hv : vp_in a 30) (h : P (qeh s a.toNatClampNeg)) : w_X12_hoursTo t a P := by
  rw [← qeh_mc m] at h
  unfold w_X12_hoursTo
  unfold qeh at h
  by_cases c : zgA t 120 0 a.toNatClampNeg = 0
  · rw [if_pos c] at h
    exact ⟨hv, fun _ => im_keptOf (W := 14) hv v15_14 rfl h, fun e => absurd c e⟩
  · rw [if_neg c] at h
    exact ⟨hv, fun e => absurd e c, fun _ => ⟨hv, h⟩⟩
theorem im_shareOf {P : Int32 → Prop} {s t : zTs} {a : Int32} (m : qmc s t) (hv : vp_in a 30) (h : P (qsh s a.toNatClampNeg)) : w_X12_shareOf t a P := by
  rw [← qsh_mc m] at h
  unfold w_X12_shareOf
  unfold qsh at h
  by_cases c : zgA t 120 0 a.toNatClampNeg = 0
  · rw [if_pos c] at h
    exact ⟨hv, fun _ => h, fun e => absurd c e⟩
  · rw [if_neg c] at h
    exact ⟨hv, fun e => absurd e c, fun _ => ⟨hv, h⟩⟩
theorem i_firstHour {P : Int32 → Prop} {s : zTs} {k : Nat} (g1 : GKr s k) (g4 : GKv s k) (h : P (qfh s k)) : w_X10_firstHour s k P := by
  obtain ⟨-, ⟨-, -, -, -, -, e13, e14⟩, -⟩ := GKr_un g1
  unfold w_X10_firstHour
  unfold qfh at h
  rcases g4 with ⟨o, c⟩ | ⟨q, o, -, c, -, e, -⟩
  · rw [if_pos c, e13] at h
    exact ⟨fun _ => h, fun y hy => by rw [o] at hy; cases hy⟩
  · rw [if_neg (by rw [c]; decide), ← e] at h
    refine ⟨fun z => (by rw [o] at z; cases z), fun y hy => ?_⟩
    rw [o] at hy
    cases hy
    exact h
theorem i_endHour {P : Int32 → Prop} {s : zTs} {k : Nat} (g1 : GKr s k) (g4 : GKv s k) (h : P (qeh s k)) : w_X10_endHour s k P := by
  obtain ⟨-, ⟨-, -, -, -, -, e13, e14⟩, -⟩ := GKr_un g1
  unfold w_X10_endHour
  unfold qeh at h
  rcases g4 with ⟨o, c⟩ | ⟨q, o, -, c, -, e, -⟩
  · rw [if_pos c, e14] at h
    exact ⟨fun _ => h, fun y hy => by rw [o] at hy; cases hy⟩
  · rw [if_neg (by rw [c]; decide), ← e] at h
    refine ⟨fun z => (by rw [o] at z; cases z), fun y hy => ?_⟩
    rw [o] at hy
    cases hy
    exact h
theorem i_share {P : Int32 → Prop} {s : zTs} {k : Nat} (g4 : GKv s k) (h : P (qsh s k)) : w_X10_share s k P := by
  unfold w_X10_share
  unfold qsh at h
  rcases g4 with ⟨o, c⟩ | ⟨q, o, -, c, -, -, -, -, e, -⟩
  · rw [if_pos c] at h
    exact ⟨fun _ => h, fun y hy => by rw [o] at hy; cases hy⟩
  · rw [if_neg (by rw [c]; decide), ← e] at h
    refine ⟨fun z => (by rw [o] at z; cases z), fun y hy => ?_⟩
    rw [o] at hy
    cases hy
    exact h
theorem GKv_01 {s : zTs} {k : Nat} (g4 : GKv s k) : zgA s 120 0 k = 0 ∨ zgA s 120 0 k = 1 := by
  rcases g4 with ⟨o, c⟩ | ⟨q, o, -, c, -⟩
  · exact .inl c
  · exact .inr c
/-- whether an appeal may be -/
def qma (s : zTs) (w : Nat) : Prop := zgA s 120 0 w = 1 ∧ (zgF s 21 w 4 = 3 ∨ zgF s 21 w 4 = 5)
theorem im_mayAppeal {P : Int32 → Prop} {s t : zTs} {a : Int32} (m : qmc s t) (hv : vp_in a 30) (hD : GD s) (g : GK5 s a.toNatClampNeg) (hh : qhd s a.toNatClampNeg) (h1 : qma s a.toNatClampNeg → P 1) (h0 : ¬ qma s a.toNatClampNeg → P 0) : w_X12_mayAppeal t a P := by
  unfold w_X12_mayAppeal
  rw [m.1 120 (by decide)]
  refine ⟨hv, fun e => h0 (fun z => ?_), fun e => ?_⟩
  · rw [z.1] at e; exact absurd e (by decide)
  · have e1 : zgA s 120 0 a.toNatClampNeg = 1 := (GKv_01 g.2.2.2.1).resolve_left e
    refine im_stateOf m hv hD g hh ⟨fun c => h1 ⟨e1, .inl c⟩, fun c => ?_⟩
    exact im_stateOf m hv hD g hh ⟨fun c' => h1 ⟨e1, .inr c'⟩, fun c' => h0 (fun z => z.2.elim c c')⟩
theorem i_mayBeAppealed {P : Int32 → Prop} {s : zTs} {k : Nat} (g4 : GKv s k) (h1 : qma s k → P 1) (h0 : ¬ qma s k → P 0) : w_X10_mayBeAppealed s k P := by
  unfold w_X10_mayBeAppealed
  rcases g4 with ⟨o, c⟩ | ⟨q, o, -, c, -⟩
  · exact ⟨fun _ => h0 (fun z => by rw [z.1] at c; exact absurd c (by decide)), fun y hy => by rw [o] at hy; cases hy⟩
  · refine ⟨fun z => (by rw [o] at z; cases z), fun y hy => ⟨fun e => h1 ⟨c, .inl e⟩, fun e => ⟨fun e' => h1 ⟨c, .inr e'⟩, fun e' => h0 (fun z => z.2.elim e e')⟩⟩⟩
/-- the last day for an appeal, and for one's own surveyor -/
def qlp (s : zTs) (w : Nat) : Int32 := qcf (zgA s 116 0 (15 * w + 5)) 2900 (zgA s 121 0 w) (zgA s 116 0 (15 * w + 9))
def qdp (s : zTs) (w : Nat) : Int32 := qcf (zgA s 116 0 (15 * w + 5)) 2900 (zgF s 21 w 8) (zgA s 116 0 (15 * w + 8))
theorem im_lastAppeal {P : Int32 → Prop} {s t : zTs} {a : Int32} (m : qmc s t) (hv : vp_in a 30) (hD : GD s) (g : GK5 s a.toNatClampNeg) (c : zgA s 120 0 a.toNatClampNeg = 1) (h : P (qlp s a.toNatClampNeg)) : w_X12_lastAppeal t a P := by
  obtain ⟨g1, g2, g3, g4, g5⟩ := g
  obtain ⟨⟨n1, e4, e5, e6, e7⟩, ⟨e8, e9, -⟩, ⟨p0, p1, r0, r1, y0, y1, z0, z1, x0, x1⟩, -⟩ := GKr_un g1
  have hr : zgF s 24 (zgP s 21 a.toNatClampNeg 3) 4 < 127 := by have := g1.2.2; lia
  have hd2 := hD.2.2
  have h' : P (qcf (zgA t 116 0 (15 * a.toNatClampNeg + 5)) 2900 (zgA t 121 0 a.toNatClampNeg) (zgA t 116 0 (15 * a.toNatClampNeg + 9))) := by
    simp (disch := decide) only [m.1]
    exact h
  unfold w_X12_lastAppeal
  refine ⟨hv, im_keptOf (W := 9) hv v15_9 rfl ?_⟩
  refine im_keptOf (W := 5) hv v15_5 rfl ?_
  rcases g4 with ⟨-, o⟩ | ⟨q, -, -, -, -, -, -, -, -, -, -, -, a0, a1⟩
  · rw [c] at o; exact absurd o (by decide)
  · refine im_countedFrom ?_ ?_ (Or.inl ?_) ?_ ?_ ?_ h'
    · rw [m.1 116 (by decide), e5]; exact r0
    · rw [m.1 116 (by decide), e5]; exact r1
    · rw [m.1 116 (by decide), e5]; exact hr
    · rw [m.1 121 (by decide)]; exact a0
    · rw [m.1 121 (by decide)]; lia
    · rw [m.1 116 (by decide), e9]; exact x1
theorem i_appealBy {P : Int32 → Prop} {s : zTs} {k : Nat} (hD : GD s) (g : GK5 s k) (c : zgA s 120 0 k = 1) (h : P (qlp s k)) : w_X10_appealBy s k P := by
  obtain ⟨g1, g2, g3, g4, g5⟩ := g
  obtain ⟨⟨n1, e4, e5, e6, e7⟩, ⟨e8, e9, -⟩, ⟨p0, p1, r0, r1, y0, y1, z0, z1, x0, x1⟩, -⟩ := GKr_un g1
  have hr : zgF s 24 (zgP s 21 k 3) 4 < 127 := by have := g1.2.2; lia
  have hd2 := hD.2.2
  unfold w_X10_appealBy
  rcases g4 with ⟨-, o⟩ | ⟨q, -, -, -, -, -, -, -, -, -, -, a2, a0, a1⟩
  · rw [c] at o; exact absurd o (by decide)
  · refine i_countFrom r0 r1 (Or.inl hr) (by rw [a2]; exact a0) (by rw [a2]; lia) x0 x1 ?_
    rw [← e5, a2, ← e9]
    exact h
theorem i_range {X : Nat → Prop} {P : Prop} {s : zTs} {b lo hi : Int32} (h1 : (b < lo ∨ hi < b) → X 1) (h2 : ¬ b < lo → ¬ hi < b → P) : w_X11_checkRange s b lo hi X P := ⟨fun c => h1 (.inl c), fun c => ⟨fun e => h2 c (Int32.not_lt.mpr e), fun e => h1 (.inr (Int32.not_le.mp e))⟩⟩
theorem i_bad0 {P : Int32 → zTs → Prop} {s : zTs} {v : Int32} (h : P 0 s) : w_X12_bad s 0 v P := ⟨fun _ => ⟨.inl rfl, h⟩, fun e => absurd rfl e⟩
theorem i_bad1 {P : Int32 → zTs → Prop} {s : zTs} {v : Int32} (h : P 1 (zuF s 100 0 0 v)) : w_X12_bad s 1 v P := ⟨fun e => absurd e (by decide), fun _ t ht => by subst ht; exact ⟨.inr rfl, h⟩⟩
theorem i_bad1e {r : Int32} {s : zTs} {v : Int32} {K : Int32 → zTs → Prop} (h : qR s) (hv : ¬ v = 0) : w_X12_bad s 1 v (fun (r25 : Int32) (s25 : zTs) => ((r25 = 0 → K r25 s25) ∧ (¬ r25 = 0 → zOK v r 0 s25))) := i_bad1 ⟨fun e => absurd e (by decide), fun _ => zOK_t h hv⟩
