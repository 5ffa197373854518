/-! conditions, the model's side -/
def q01 (b : Bool) : Int32 := if b then 1 else 0
theorem q01_0 {b : Bool} : q01 b = 0 ↔ b = false := by
  cases b
  · exact ⟨fun _ => rfl, fun _ => rfl⟩
  · exact ⟨fun z => absurd z (by decide), fun z => absurd z (by decide)⟩
/-- the pile is the stack l -/
def QP (F : Nat → Int32) (l : List Bool) : Prop := ∀ i, i < l.length → F (l.length - 1 - i) = q01 (l.getD i false)
theorem QP_push {F : Nat → Int32} {l : List Bool} {b : Bool} (h : QP F l) : QP (fun j => if j = l.length then q01 b else F j) (b :: l) := by
  intro i hi
  have hi : i < l.length + 1 := hi
  show (if l.length + 1 - 1 - i = l.length then q01 b else F (l.length + 1 - 1 - i)) = _
  cases i with
  | zero => rw [if_pos (by omega)]; rfl
  | succ i =>
    rw [if_neg (by omega), show l.length + 1 - 1 - (i + 1) = l.length - 1 - i by omega, h i (by omega)]
    rfl
theorem QP_set {F : Nat → Int32} {b b' : Bool} {r : List Bool} (h : QP F (b :: r)) : QP (fun j => if j = r.length then q01 b' else F j) (b' :: r) := by
  intro i hi
  have hi : i < r.length + 1 := hi
  show (if r.length + 1 - 1 - i = r.length then q01 b' else F (r.length + 1 - 1 - i)) = _
  cases i with
  | zero => rw [if_pos (by omega)]; rfl
  | succ i =>
    rw [if_neg (by omega)]
    have := h (i + 1) hi
    exact this
theorem QP_tl {F : Nat → Int32} {b : Bool} {r : List Bool} (h : QP F (b :: r)) : QP F r ∧ F r.length = q01 b := by
  refine ⟨fun i hi => ?_, ?_⟩
  · have := h (i + 1) (by show i + 1 < r.length + 1; omega)
    have this : F (r.length + 1 - 1 - (i + 1)) = q01 (r.getD i false) := this
    rw [show r.length + 1 - 1 - (i + 1) = r.length - 1 - i by omega] at this
    exact this
  · have := h 0 (by show 0 < r.length + 1; omega)
    have this : F (r.length + 1 - 1 - 0) = q01 b := this
    rw [show r.length + 1 - 1 - 0 = r.length by omega] at this
    exact this
theorem q_nsub {n : Nat} (h : 0 < n) (h2 : n < 2147483648) : Int32.ofNat n + -1 = Int32.ofNat (n - 1) := by
  rw [← Int32.sub_eq_add_neg]
  exact q_pred h h2
theorem lm_holds {P : Int32 → zTs → Prop} {st : zTs} {cn n : Nat} {d c h : Int32} {t : Nat → Int32} {dp : Nat → Nat} (hn : n ≤ 400) (hcn : cn + n < 800) (hq : QD n t dp) (hend : zgA st 107 0 (cn + n) = 0)
    (hst : ∀ j, j < n → (t j = -1 ∧ zgA st 107 0 (cn + j) = 1) ∨ (t j = -2 ∧ zgA st 107 0 (cn + j) = 2) ∨ (t j = -3 ∧ zgA st 107 0 (cn + j) = 3) ∨ (¬ t j = -1 ∧ ¬ t j = -2 ∧ ¬ t j = -3 ∧ ∃ m b v : Nat, m < 3 ∧ b < 2 ∧ v ≤ 9999 ∧ t j = Int32.ofNat ((2 * m + b) * 10000 + v) ∧ zgA st 107 0 (cn + j) = Int32.ofNat (4 + b) ∧ zgA st 108 0 (cn + j) = Int32.ofNat (3 * v + m)))
    (fin : ∀ F, P (q01 ((qst t d c h n).getD 0 false)) (zuB st 111 0 F)) : ∀ (m j : Nat) (F : Nat → Int32), j ≤ n → n - j < m → QP F (qst t d c h j) → w_X12_holds_22 P m (zuB st 111 0 F) d c h (Int32.ofNat (qst t d c h j).length) (Int32.ofNat (cn + j)) := by
  intro m
  induction m with
  | zero => intro j F h0 h1; omega
  | succ m ih =>
    intro j F h0 h1 hF
    have len := QD_len (d := d) (c := c) (h := h) hq j h0
    have vK : vp_in (Int32.ofNat (cn + j)) 800 := q_nv (by omega) (by omega)
    have co : zgA (zuB st 111 0 F) 107 0 (Int32.ofNat (cn + j)).toNatClampNeg = zgA st 107 0 (cn + j) := by rw [q_on (by omega)]; simp only [q_NuF, q_FuF, q_PuF, q_OuF, q_AuF, q_RuF, q_LuF, q_JuF, q_NuP, q_FuP, q_PuP, q_OuP, q_AuP, q_RuP, q_LuP, q_JuP, q_NuO, q_FuO, q_PuO, q_OuO, q_AuO, q_RuO, q_LuO, q_JuO, q_NuA, q_FuA, q_PuA, q_OuA, q_AuA, q_RuA, q_LuA, q_JuA, q_NuR, q_FuR, q_PuR, q_OuR, q_AuR, q_RuR, q_LuR, q_JuR, q_NuJ, q_FuJ, q_PuJ, q_OuJ, q_AuJ, q_RuJ, q_LuJ, q_JuJ, q_NuL, q_FuL, q_PuL, q_OuL, q_AuL, q_RuL, q_LuL, q_JuL, q_NuB, q_FuB, q_PuB, q_OuB, q_AuB, q_RuB, q_LuB, q_JuB, q_NuW, q_FuW, q_PuW, q_OuW, q_AuW, q_RuW, q_LuW, q_JuW, q_NuV, q_FuV, q_PuV, q_OuV, q_AuV, q_RuV, q_LuV, q_JuV, q_NuU, q_FuU, q_PuU, q_OuU, q_AuU, q_RuU, q_LuU, q_JuU, q_NuX, q_FuX, q_PuX, q_OuX, q_AuX, q_RuX, q_LuX, q_JuX, q_NuR4, q_FuR4, q_PuR4, q_OuR4, q_AuR4, q_RuR4, q_LuR4, q_JuR4, Nat.reduceEqDiff, reduceIte, and_true, true_and, and_false, false_and, and_self, if_true, if_false, not_true_eq_false, not_false_eq_true]
    have li : zgA (zuB st 111 0 F) 108 0 (Int32.ofNat (cn + j)).toNatClampNeg = zgA st 108 0 (cn + j) := by rw [q_on (by omega)]; simp only [q_NuF, q_FuF, q_PuF, q_OuF, q_AuF, q_RuF, q_LuF, q_JuF, q_NuP, q_FuP, q_PuP, q_OuP, q_AuP, q_RuP, q_LuP, q_JuP, q_NuO, q_FuO, q_PuO, q_OuO, q_AuO, q_RuO, q_LuO, q_JuO, q_NuA, q_FuA, q_PuA, q_OuA, q_AuA, q_RuA, q_LuA, q_JuA, q_NuR, q_FuR, q_PuR, q_OuR, q_AuR, q_RuR, q_LuR, q_JuR, q_NuJ, q_FuJ, q_PuJ, q_OuJ, q_AuJ, q_RuJ, q_LuJ, q_JuJ, q_NuL, q_FuL, q_PuL, q_OuL, q_AuL, q_RuL, q_LuL, q_JuL, q_NuB, q_FuB, q_PuB, q_OuB, q_AuB, q_RuB, q_LuB, q_JuB, q_NuW, q_FuW, q_PuW, q_OuW, q_AuW, q_RuW, q_LuW, q_JuW, q_NuV, q_FuV, q_PuV, q_OuV, q_AuV, q_RuV, q_LuV, q_JuV, q_NuU, q_FuU, q_PuU, q_OuU, q_AuU, q_RuU, q_LuU, q_JuU, q_NuX, q_FuX, q_PuX, q_OuX, q_AuX, q_RuX, q_LuX, q_JuX, q_NuR4, q_FuR4, q_PuR4, q_OuR4, q_AuR4, q_RuR4, q_LuR4, q_JuR4, Nat.reduceEqDiff, reduceIte, and_true, true_and, and_false, false_and, and_self, if_true, if_false, not_true_eq_false, not_false_eq_true]
    rw [w_X12_holds_22, co, li]
    refine ⟨vK, fun z => ?_, fun z => ?_⟩
    · have e : j = n := by
        refine Classical.byContradiction (fun y => ?_)
        rcases hst j (by omega) with x | x | x | x
        · rw [x.2] at z; exact absurd z (by decide)
        · rw [x.2] at z; exact absurd z (by decide)
        · rw [x.2] at z; exact absurd z (by decide)
        · obtain ⟨-, -, -, m', b, v, m1, m2, m3, m4, m5, m6⟩ := x
          rw [m5] at z
          have := congrArg Int32.toInt z
          rw [q_of (by omega), show (0 : Int32).toInt = 0 from rfl] at this
          omega
      subst e
      have l1 : (qst t d c h j).length = 1 := len.trans hq.2.1
      have f0 := hF 0 (by omega)
      rw [l1] at f0
      have f0 : F 0 = q01 ((qst t d c h j).getD 0 false) := f0
      have e0 : zgA (zuB st 111 0 F) 111 0 (0 : Int32).toNatClampNeg = q01 ((qst t d c h j).getD 0 false) := by
        rw [show (0 : Int32).toNatClampNeg = 0 from rfl, q_AB]; exact f0
      rw [e0]
      refine ⟨q_vpi (by decide) (by decide), ?_, fin F⟩
      cases (qst t d c h j).getD 0 false
      · exact .inl rfl
      · exact .inr rfl
    · have hj : j < n := by
        refine Classical.byContradiction (fun y => z ?_)
        rw [show j = n by omega]
        exact hend
      obtain ⟨h19, h2⟩ := hq.2.2 j hj
      have nx : ∀ F', QP F' (qst t d c h (j + 1)) → w_X12_holds_254 P (w_X12_holds_22 P m) (zuB st 111 0 F') d c h (Int32.ofNat (qst t d c h (j + 1)).length) (Int32.ofNat (cn + j)) := by
        intro F' hF' u hu
        subst hu
        rw [q_os (by omega)]
        exact ih (j + 1) F' (by omega) (by omega) hF'
      refine ⟨vK, fun x39 e39 => ?_⟩
      rcases hst j hj with ⟨x1, x2⟩ | ⟨x1, x2⟩ | ⟨x1, x2⟩ | ⟨n1, n2, n3, m', b, v, m1, m2, m3, m4, m5, m6⟩
      · -- not
        rw [x2] at e39
        subst e39
        obtain ⟨bt, r, el⟩ := q_l1 (l := qst t d c h j) (by
          rcases h2 with x | x | x | x
          · omega
          · omega
          · omega
          · exact absurd x1 x.1)
        have eq : qst t d c h (j + 1) = (!bt) :: r := by rw [qst, if_pos x1, el]; rfl
        rw [el] at hF len ⊢
        rw [eq] at nx
        have len : r.length + 1 = dp j := len
        have e1 : Int32.ofNat ((bt :: r).length) - 1 = Int32.ofNat r.length := by
          show Int32.ofNat (r.length + 1) - 1 = _
          rw [q_pred (by omega) (by omega), Nat.add_sub_cancel]
        have vr : vp_in (Int32.ofNat r.length) 800 := q_nv (by omega) (by omega)
        have etop := (QP_tl hF).2
        rw [e1, q_on (by omega), q_AB, etop]
        refine ⟨fun _ => ⟨vr, fun y => ⟨vr, fun u hu => ?_⟩, fun y => ⟨vr, fun u hu => ?_⟩⟩, fun y => absurd rfl y⟩
        · subst hu
          have yb := q01_0.mp y
          rw [v_nar1, zuA_fuse, q_on (by omega)]
          have := nx _ (QP_set (b' := !bt) hF)
          rw [yb] at this ⊢
          exact this
        · subst hu
          have yb : bt = true := by
            cases hbt : bt with
            | true => rfl
            | false => exact absurd (q01_0.mpr hbt) y
          rw [v_nar0, zuA_fuse, q_on (by omega)]
          have := nx _ (QP_set (b' := !bt) hF)
          rw [yb] at this ⊢
          exact this
      · -- and
        rw [x2] at e39
        subst e39
        obtain ⟨bt, a, r, el⟩ := q_l2 (l := qst t d c h j) (by
          rcases h2 with x | x | x | x
          · rw [x1] at x; exact absurd x.1 (by decide)
          · omega
          · omega
          · exact absurd x1 x.2.1)
        have eq : qst t d c h (j + 1) = (a && bt) :: r := by rw [qst, if_neg (by rw [x1]; decide), if_pos x1, el]; rfl
        rw [el] at hF len ⊢
        rw [eq] at nx
        have len : r.length + 1 + 1 = dp j := len
        have e1 : Int32.ofNat ((bt :: a :: r).length) + -1 = Int32.ofNat (r.length + 1) := by
          show Int32.ofNat (r.length + 1 + 1) + -1 = _
          rw [q_nsub (by omega) (by omega), Nat.add_sub_cancel]
        have e2 : Int32.ofNat (r.length + 1) - 1 = Int32.ofNat r.length := by rw [q_pred (by omega) (by omega), Nat.add_sub_cancel]
        obtain ⟨t1, t2⟩ := QP_tl hF
        obtain ⟨t3, t4⟩ := QP_tl t1
        have vr : vp_in (Int32.ofNat r.length) 800 := q_nv (by omega) (by omega)
        have vr1 : vp_in (Int32.ofNat (r.length + 1)) 800 := q_nv (by omega) (by omega)
        have t2 : F (r.length + 1) = q01 bt := t2
        have go : ∀ b0 : Int32, b0 = q01 (a && bt) → (vp_nar .boolean b0 = b0) → w_X12_holds_162 P (w_X12_holds_22 P m) (zuB st 111 0 F) d c h (Int32.ofNat (r.length + 1)) (Int32.ofNat (cn + j)) b0 (Int32.ofNat r.length) := by
          intro b0 hb hv
          refine ⟨vr, fun u hu => ?_⟩
          subst hu
          rw [hv, zuA_fuse, q_on (by omega), hb]
          exact nx _ (QP_set (b' := a && bt) t1)
        have G : w_X12_holds_88 P (w_X12_holds_22 P m) (zuB st 111 0 F) d c h (Int32.ofNat ((bt :: a :: r).length)) (Int32.ofNat (cn + j)) 2 := by
          intro x hx
          rw [e1] at hx
          subst hx
          rw [e2, q_on (by omega), q_on (by omega), q_AB, q_AB, t4, t2]
          refine ⟨fun _ => ⟨vr, fun y => go 0 ?_ v_nar0, fun y => ⟨vr1, fun w => go 0 ?_ v_nar0, fun w => go 1 ?_ v_nar1⟩⟩, fun y => absurd rfl y⟩
          · rw [q01_0.mp y]; rfl
          · rw [q01_0.mp w, Bool.and_false]; rfl
          · have ya : a = true := by
              cases ha : a with
              | true => rfl
              | false => exact absurd (q01_0.mpr ha) y
            have yb : bt = true := by
              cases hb : bt with
              | true => rfl
              | false => exact absurd (q01_0.mpr hb) w
            rw [ya, yb]; rfl
        exact ⟨fun y => absurd y (by decide), fun _ => ⟨fun _ => G, fun y => absurd rfl y⟩⟩
      · -- or
        rw [x2] at e39
        subst e39
        obtain ⟨bt, a, r, el⟩ := q_l2 (l := qst t d c h j) (by
          rcases h2 with x | x | x | x
          · rw [x1] at x; exact absurd x.1 (by decide)
          · omega
          · omega
          · exact absurd x1 x.2.2.1)
        have eq : qst t d c h (j + 1) = (a || bt) :: r := by rw [qst, if_neg (by rw [x1]; decide), if_neg (by rw [x1]; decide), if_pos x1, el]; rfl
        rw [el] at hF len ⊢
        rw [eq] at nx
        have len : r.length + 1 + 1 = dp j := len
        have e1 : Int32.ofNat ((bt :: a :: r).length) + -1 = Int32.ofNat (r.length + 1) := by
          show Int32.ofNat (r.length + 1 + 1) + -1 = _
          rw [q_nsub (by omega) (by omega), Nat.add_sub_cancel]
        have e2 : Int32.ofNat (r.length + 1) - 1 = Int32.ofNat r.length := by rw [q_pred (by omega) (by omega), Nat.add_sub_cancel]
        obtain ⟨t1, t2⟩ := QP_tl hF
        obtain ⟨t3, t4⟩ := QP_tl t1
        have vr : vp_in (Int32.ofNat r.length) 800 := q_nv (by omega) (by omega)
        have vr1 : vp_in (Int32.ofNat (r.length + 1)) 800 := q_nv (by omega) (by omega)
        have t2 : F (r.length + 1) = q01 bt := t2
        have go : ∀ b0 : Int32, b0 = q01 (a || bt) → (vp_nar .boolean b0 = b0) → w_X12_holds_162 P (w_X12_holds_22 P m) (zuB st 111 0 F) d c h (Int32.ofNat (r.length + 1)) (Int32.ofNat (cn + j)) b0 (Int32.ofNat r.length) := by
          intro b0 hb hv
          refine ⟨vr, fun u hu => ?_⟩
          subst hu
          rw [hv, zuA_fuse, q_on (by omega), hb]
          exact nx _ (QP_set (b' := a || bt) t1)
        have G : w_X12_holds_88 P (w_X12_holds_22 P m) (zuB st 111 0 F) d c h (Int32.ofNat ((bt :: a :: r).length)) (Int32.ofNat (cn + j)) 3 := by
          intro x hx
          rw [e1] at hx
          subst hx
          rw [e2, q_on (by omega), q_on (by omega), q_AB, q_AB, t4, t2]
          refine ⟨fun y => absurd y (by decide), fun _ => ⟨vr, fun y => ⟨vr1, fun w => go 0 ?_ v_nar0, fun w => go 1 ?_ v_nar1⟩, fun y => go 1 ?_ v_nar1⟩⟩
          · rw [q01_0.mp y, q01_0.mp w]; rfl
          · have yb : bt = true := by
              cases hb : bt with
              | true => rfl
              | false => exact absurd (q01_0.mpr hb) w
            rw [yb, Bool.or_true]; rfl
          · have ya : a = true := by
              cases ha : a with
              | true => rfl
              | false => exact absurd (q01_0.mpr ha) y
            rw [ya]; rfl
        exact ⟨fun y => absurd y (by decide), fun _ => ⟨fun y => absurd y (by decide), fun _ => ⟨fun _ => G, fun y => absurd rfl y⟩⟩⟩
      · -- a comparison
        rw [m5] at e39
        have eq : qst t d c h (j + 1) = qcp (t j) d c h :: qst t d c h j := by rw [qst, if_neg n1, if_neg n2, if_neg n3]
        rw [eq] at nx
        have lenl : (qst t d c h j).length ≤ 19 := by omega
        have vl : vp_in (Int32.ofNat (qst t d c h j).length) 800 := q_nv (by omega) (by omega)
        have go : ∀ b0 : Int32, b0 = q01 (qcp (t j) d c h) → (vp_nar .boolean b0 = b0) → w_X12_holds_250 P (w_X12_holds_22 P m) (zuB st 111 0 F) d c h (Int32.ofNat (qst t d c h j).length) (Int32.ofNat (cn + j)) b0 (Int32.ofNat (qst t d c h j).length) := by
          intro b0 hb hv
          refine ⟨vl, fun u hu x hx => ?_⟩
          subst hu
          subst hx
          rw [hv, zuA_fuse, q_on (by omega), hb, q_os (by omega)]
          exact nx _ (QP_push hF)
        have val := q_cmp (d := d) (c := c) (h := h) m1 m2 m3
        rw [← m4] at val
        have cmp : ∀ y : Int32, y = (if m' = 0 then d else if m' = 1 then c else h) → w_X12_holds_209 P (w_X12_holds_22 P m) (zuB st 111 0 F) d c h (Int32.ofNat (qst t d c h j).length) (Int32.ofNat (cn + j)) x39 (Int32.ofNat v) y := by
          intro y hy
          rw [← hy] at val
          subst e39
          have hb : b = 0 ∨ b = 1 := by omega
          rcases hb with rfl | rfl
          · rw [if_pos rfl] at val
            refine ⟨fun _ => ⟨fun q => go 0 ?_ v_nar0, fun q => go 1 ?_ v_nar1⟩, fun q => absurd rfl q⟩
            · rw [val, decide_eq_false (fun w => w q)]; rfl
            · rw [val, decide_eq_true q]; rfl
          · rw [if_neg (by decide)] at val
            refine ⟨fun q => absurd q (by decide), fun _ => ⟨fun q => go 0 ?_ v_nar0, fun q => go 1 ?_ v_nar1⟩⟩
            · rw [val, decide_eq_false (fun w => w q)]; rfl
            · rw [val, decide_eq_true q]; rfl
        have not1 : ¬ x39 = 1 ∧ ¬ x39 = 2 ∧ ¬ x39 = 3 := by
          subst e39
          have hb : b = 0 ∨ b = 1 := by omega
          rcases hb with rfl | rfl <;> decide
        have f1 : Int32.ofNat (3 * v + m') - Int32.ofNat (3 * v + m') / 3 * 3 = Int32.ofNat m' := by
          have := q_nmod (a := 3 * v + m') (b := 3) (by omega) (by decide) (by decide)
          rw [show (3 * v + m') % 3 = m' by omega] at this
          exact this
        have f2 : Int32.ofNat (3 * v + m') / 3 = Int32.ofNat v := by
          have := q_nd (a := 3 * v + m') (b := 3) (by omega) (by decide) (by decide)
          rw [show (3 * v + m') / 3 = v by omega] at this
          exact this
        refine ⟨fun y => absurd y not1.1, fun _ => ⟨fun y => absurd y not1.2.1, fun _ => ⟨fun y => absurd y not1.2.2, fun _ => ⟨vK, fun x175 e175 => ⟨vK, fun x186 e186 => ?_⟩⟩⟩⟩⟩
        rw [m6, f1] at e175
        rw [m6, f2] at e186
        subst e175
        subst e186
        have hm : m' = 0 ∨ m' = 1 ∨ m' = 2 := by omega
        rcases hm with rfl | rfl | rfl
        · exact ⟨fun _ => cmp d rfl, fun y => absurd rfl y⟩
        · exact ⟨fun y => absurd y (by decide), fun _ => ⟨fun _ => cmp c rfl, fun y => absurd rfl y⟩⟩
        · exact ⟨fun y => absurd y (by decide), fun _ => ⟨fun y => absurd y (by decide), fun _ => cmp h rfl⟩⟩
/-- what a condition says -/
def qcd (n : Nat) (t : Nat → Int32) (d c h : Int32) : Bool := if n = 0 then true else (qst t d c h n).getD 0 false
theorem GRc_QD {c : Int32} {co li t : Nat → Int32} {n : Nat} (h : GRc c co li n t) (hn : ¬ n = 0) : n ≤ 400 ∧ 0 ≤ c.toInt ∧ c.toInt + n < 800 ∧ co (c.toNatClampNeg + n) = 0 ∧ (∃ dp, QD n t dp) ∧ ∀ j, j < n → (t j = -1 ∧ co (c.toNatClampNeg + j) = 1) ∨ (t j = -2 ∧ co (c.toNatClampNeg + j) = 2) ∨ (t j = -3 ∧ co (c.toNatClampNeg + j) = 3) ∨ (¬ t j = -1 ∧ ¬ t j = -2 ∧ ¬ t j = -3 ∧ ∃ m b v : Nat, m < 3 ∧ b < 2 ∧ v ≤ 9999 ∧ t j = Int32.ofNat ((2 * m + b) * 10000 + v) ∧ co (c.toNatClampNeg + j) = Int32.ofNat (4 + b) ∧ li (c.toNatClampNeg + j) = Int32.ofNat (3 * v + m)) := by
  have neg : ∀ m b v : Nat, m < 3 → b < 2 → v ≤ 9999 → ∀ x : Int32, x = Int32.ofNat ((2 * m + b) * 10000 + v) → ¬ x = -1 ∧ ¬ x = -2 ∧ ¬ x = -3 := by
    intro m b v h1 h2 h3 x hx
    have e : x.toInt = (((2 * m + b) * 10000 + v : Nat) : Int) := by rw [hx, q_of (by omega)]
    refine ⟨fun z => ?_, fun z => ?_, fun z => ?_⟩
    · rw [z, show (-1 : Int32).toInt = -1 from rfl] at e; omega
    · rw [z, show (-2 : Int32).toInt = -2 from rfl] at e; omega
    · rw [z, show (-3 : Int32).toInt = -3 from rfl] at e; omega
  rcases h with ⟨h0, -⟩ | ⟨-, h1, h2, h3, h4, dp, d0, dn, h5⟩
  · exact absurd h0 hn
  · refine ⟨h1, h2, h3, h4, ⟨dp, d0, dn, fun j hj => ?_⟩, fun j hj => ?_⟩
    · obtain ⟨y1, y2⟩ := h5 j hj
      refine ⟨y1, ?_⟩
      rcases y2 with ⟨x1, x2, x3, x4⟩ | ⟨x1, x2, x3, x4⟩ | ⟨x1, x2, x3, x4⟩ | ⟨m, b, v, m1, m2, m3, m4, m5, m6, m7⟩
      · exact .inl ⟨x1, x3, x4⟩
      · exact .inr (.inl ⟨x1, x3, x4⟩)
      · exact .inr (.inr (.inl ⟨x1, x3, x4⟩))
      · obtain ⟨n1, n2, n3⟩ := neg m b v m1 m2 m3 _ m4
        exact .inr (.inr (.inr ⟨n1, n2, n3, m7⟩))
    · obtain ⟨y1, y2⟩ := h5 j hj
      rcases y2 with ⟨x1, x2, x3, x4⟩ | ⟨x1, x2, x3, x4⟩ | ⟨x1, x2, x3, x4⟩ | ⟨m, b, v, m1, m2, m3, m4, m5, m6, m7⟩
      · exact .inl ⟨x1, x2⟩
      · exact .inr (.inl ⟨x1, x2⟩)
      · exact .inr (.inr (.inl ⟨x1, x2⟩))
      · obtain ⟨n1, n2, n3⟩ := neg m b v m1 m2 m3 _ m4
        exact .inr (.inr (.inr ⟨n1, n2, n3, m, b, v, m1, m2, m3, m4, m5, m6⟩))
theorem i_needs {P : Int32 → Prop} {st : zTs} {r y : Nat} {a d c h co : Int32} {cd li : Nat → Int32} (ha : vp_in a 4) (hy : zgR st 68 r a.toNatClampNeg = some y) (hc : GRc co cd li (zgL st 69 y) (zgA st 69 y)) (fin : P (q01 (qcd (zgL st 69 y) (zgA st 69 y) d c h))) : w_X5_needsNotice st r a d c h P := by
  refine ⟨ha, y, hy, fun z => ?_, fun z => ?_⟩
  · have n0 : zgL st 69 y = 0 := by
      rcases hc with ⟨h0, -⟩ | ⟨h0, h1, -⟩
      · exact h0
      · have := congrArg Int32.toInt z
        rw [q_of (by omega), show (0 : Int32).toInt = 0 from rfl] at this
        omega
    unfold qcd at fin
    rw [if_pos n0] at fin
    exact fin
  · have n0 : ¬ zgL st 69 y = 0 := fun w => z (by rw [w]; rfl)
    obtain ⟨h1, h2, h3, h4, ⟨dp, hq⟩, h6⟩ := GRc_QD hc n0
    unfold qcd at fin
    rw [if_neg n0] at fin
    exact l_needs rfl h1 hq fin zfu 0 0 (by omega) (by unfold zfu; omega) (fun i hi => by rw [qb_0 i hi]; rfl)
theorem im_holds {P : Int32 → zTs → Prop} {st : zTs} {a d c h : Int32} {n : Nat} {t : Nat → Int32} (ha : vp_in a 4) (hc : GRc (zgA st 105 0 a.toNatClampNeg) (zgA st 107 0) (zgA st 108 0) n t) (fin : ∀ F, P (q01 (qcd n t d c h)) (zuB st 111 0 F)) : w_X12_holds st a d c h P := by
  refine ⟨ha, fun z => ⟨ha, fun x hx => ?_⟩, fun z => ?_⟩
  · have n0 : ¬ n = 0 := by
      intro w
      rcases hc with ⟨-, h1⟩ | ⟨h0, -⟩
      · rw [h1] at z; exact absurd z (by decide)
      · omega
    obtain ⟨h1, h2, h3, h4, ⟨dp, hq⟩, h6⟩ := GRc_QD hc n0
    subst hx
    unfold qcd at fin
    rw [if_neg n0] at fin
    have e := q_nat (x := zgA st 105 0 a.toNatClampNeg) (Int32.not_lt.mpr z)
    have e2 := q_t0 z
    have W := lm_holds (P := P) (cn := (zgA st 105 0 a.toNatClampNeg).toNatClampNeg) (d := d) (c := c) (h := h) h1 (by omega) hq h4 h6 fin zfu 0 (zgA st 111 0) (by omega) (by unfold zfu; omega) (fun i hi => absurd hi (by show ¬ i < 0; omega))
    rw [zuA_self, Nat.add_zero, ← e] at W
    exact W
  · have n0 : n = 0 := by
      rcases hc with ⟨h0, -⟩ | ⟨h0, h1, h2, -⟩
      · exact h0
      · exfalso
        exact z (by rw [Int32.le_iff_toInt_le]; exact h2)
    have := fin (zgA st 111 0)
    unfold qcd at this
    rw [if_pos n0, zuA_self] at this
    exact this
