/-! new cells -/
/-- new so far -/
def qnw (H : Nat → Nat) (n f g j g' k' : Nat) : Prop := (f ≤ g' ∧ g' < g ∧ H g' ≤ k' ∧ k' < H g' + n) ∨ (g' = g ∧ H g ≤ k' ∧ k' < H g + j)
def QX (U : Nat → Int32) (v : Int32) (o : Nat) (M : Nat → Nat → Prop) (F : Nat → Int32) : Prop := ∀ g' k', g' < 12 → k' < 20 → (M g' k' → F (o + (20 * g' + k')) = v) ∧ (¬ M g' k' → F (o + (20 * g' + k')) = U (20 * g' + k'))
def qhh (H : Nat → Nat) (n f g j g' : Nat) : Nat := if f ≤ g' ∧ g' < g then H g' + n else if g' = g then H g + j else H g'
def QO (o w : Nat) (O F : Nat → Int32) : Prop := ∀ c, (c < o ∨ o + w ≤ c) → F c = O c
theorem QX_0 {U : Nat → Int32} {v : Int32} {o n f : Nat} {H : Nat → Nat} {F : Nat → Int32} (h : ∀ c, c < 240 → F (o + c) = U c) : QX U v o (qnw H n f f 0) F := by
  intro g' k' h1 h2
  refine ⟨fun z => ?_, fun _ => h _ (by omega)⟩
  unfold qnw at z
  omega
theorem QX_s {U : Nat → Int32} {v : Int32} {o n f g j : Nat} {H : Nat → Nat} {F : Nat → Int32} (h : QX U v o (qnw H n f g j) F) (hg : g < 12) (hk : H g + j < 20) : QX U v o (qnw H n f g (j + 1)) (fun i => if i = o + (20 * g + (H g + j)) then v else F i) := by
  intro g' k' h1 h2
  obtain ⟨y, nn⟩ := h g' k' h1 h2
  by_cases e : g' = g ∧ k' = H g + j
  · obtain ⟨rfl, rfl⟩ := e
    refine ⟨fun _ => ?_, fun z => absurd (.inr ⟨rfl, by omega, by omega⟩) z⟩
    show (if o + (20 * g' + (H g' + j)) = o + (20 * g' + (H g' + j)) then v else F (o + (20 * g' + (H g' + j)))) = _
    rw [if_pos rfl]
  · have ne : ¬ o + (20 * g' + k') = o + (20 * g + (H g + j)) := by omega
    have eq : qnw H n f g (j + 1) g' k' ↔ qnw H n f g j g' k' := by
      unfold qnw
      by_cases c : g' = g
      · subst c
        constructor
        · intro z; omega
        · intro z; omega
      · constructor
        · intro z; omega
        · intro z; omega
    refine ⟨fun z => ?_, fun z => ?_⟩
    · show (if o + (20 * g' + k') = o + (20 * g + (H g + j)) then v else F (o + (20 * g' + k'))) = _
      rw [if_neg ne]
      exact y (eq.mp z)
    · show (if o + (20 * g' + k') = o + (20 * g + (H g + j)) then v else F (o + (20 * g' + k'))) = _
      rw [if_neg ne]
      exact nn (fun x => z (eq.mpr x))
theorem qnw_n {H : Nat → Nat} {n f g : Nat} (hf : f ≤ g) : qnw H n f (g + 1) 0 = qnw H n f g n := by
  funext g' k'
  apply propext
  unfold qnw
  by_cases c : g' = g
  · subst c
    constructor
    · intro z; omega
    · intro z; omega
  · by_cases c2 : g' = g + 1
    · subst c2
      constructor
      · intro z; omega
      · intro z; omega
    · constructor
      · intro z; omega
      · intro z; omega
theorem qhh_n {H : Nat → Nat} {n f g g' : Nat} (hf : f ≤ g) : qhh H n f (g + 1) 0 g' = qhh H n f g n g' := by
  unfold qhh
  by_cases c : g' = g
  · subst c
    rw [if_pos ⟨hf, by omega⟩, if_neg (fun z => by omega), if_pos rfl]
  · by_cases c2 : f ≤ g' ∧ g' < g
    · rw [if_pos ⟨c2.1, by omega⟩, if_pos c2]
    · rw [if_neg (fun z => by omega), if_neg c2, if_neg c]
      split
      · rename_i e; rw [e, Nat.add_zero]
      · rfl
theorem qhh_s {H : Nat → Nat} {n f g j g' : Nat} : qhh H n f g (j + 1) g' = if g' = g then H g + j + 1 else qhh H n f g j g' := by
  unfold qhh
  by_cases c : g' = g
  · subst c
    rw [if_neg (fun z => by omega), if_pos rfl, if_pos rfl]
    omega
  · by_cases c2 : f ≤ g' ∧ g' < g
    · rw [if_pos c2, if_neg c, if_pos c2]
    · rw [if_neg c2, if_neg c, if_neg c, if_neg c2, if_neg c]
/-- the class's wall with new rows -/
def qwl (s : zTs) (W : Nat) (B D C U A : Nat → Int32) : zTs := zuB (zuB (zuB (zuB (zuB s 57 W B) 58 W D) 59 W C) 60 W U) 56 W A
theorem qwl_add {s : zTs} {W c g : Nat} {B D C U A : Nat → Int32} {x1 x2 x3 x4 x5 : Int32} : zuA (zuA (zuA (zuA (zuA (qwl s W B D C U A) 57 W c x1) 58 W c x2) 59 W c x3) 60 W c x4) 56 W g x5 = qwl s W (fun j => if j = c then x1 else B j) (fun j => if j = c then x2 else D j) (fun j => if j = c then x3 else C j) (fun j => if j = c then x4 else U j) (fun j => if j = g then x5 else A j) := by
  unfold qwl
  simp (disch := decide) only [zuA_comm, zuA_fuse]
def qcw (s : zTs) (H : Nat → Nat) (n f W g j : Nat) (sd today cost : Int32) (B D C U A : Nat → Int32) : Prop := QX (zgA s 57 W) sd 0 (qnw H n f g j) B ∧ QX (zgA s 58 W) today 0 (qnw H n f g j) D ∧ QX (zgA s 59 W) cost 0 (qnw H n f g j) C ∧ QX (zgA s 60 W) (1 <<< (sd &&& 31)) 0 (qnw H n f g j) U ∧ ∀ g', g' < 12 → A g' = Int32.ofNat (qhh H n f g j g')
theorem i_addCell {P : zTs → Prop} {s : zTs} {W g j : Nat} {sd today cost : Int32} {H : Nat → Nat} {B D C U A : Nat → Int32} (hg : g < 12) (hk : H g + j < 20) (hA : A g = Int32.ofNat (H g + j)) (h : P (qwl s W (fun i => if i = 20 * g + (H g + j) then sd else B i) (fun i => if i = 20 * g + (H g + j) then today else D i) (fun i => if i = 20 * g + (H g + j) then cost else C i) (fun i => if i = 20 * g + (H g + j) then 1 <<< (sd &&& 31) else U i) (fun i => if i = g then Int32.ofNat (H g + j + 1) else A i))) : w_X8_addCell (qwl s W B D C U A) W (Int32.ofNat g) sd today cost P := by
  have eA : ∀ s' : zTs, zgA s' 56 W g = A g → zgA s' 56 W (Int32.ofNat g).toNatClampNeg = Int32.ofNat (H g + j) := fun s' e => by rw [q_on (by omega), e, hA]
  have e0 : zgA (qwl s W B D C U A) 56 W g = A g := by unfold qwl; exact q_AB
  obtain ⟨v, e⟩ := q_ixc (g := g) (k := H g + j) hg hk
  have vg : vp_in (Int32.ofNat g) 12 := q_nv hg (by omega)
  unfold w_X8_addCell
  rw [eA _ e0]
  refine ⟨vg, fun _ => ⟨vg, fun x hx => ?_⟩, fun z => absurd ((q_nlt (b := 20) (by omega) (by decide)).mpr hk) z⟩
  subst hx
  rw [e]
  refine ⟨v, fun u1 h1 => ⟨v, fun u2 h2 => ⟨v, fun u3 h3 => ⟨v, fun u4 h4 => ⟨vg, vg, fun u5 h5 => ?_⟩⟩⟩⟩⟩
  have e4 : zgA u4 56 W g = A g := by
    subst h4
    subst h3
    subst h2
    subst h1
    simp only [q_NuF, q_FuF, q_PuF, q_OuF, q_AuF, q_RuF, q_LuF, q_JuF, q_NuP, q_FuP, q_PuP, q_OuP, q_AuP, q_RuP, q_LuP, q_JuP, q_NuO, q_FuO, q_PuO, q_OuO, q_AuO, q_RuO, q_LuO, q_JuO, q_NuA, q_FuA, q_PuA, q_OuA, q_AuA, q_RuA, q_LuA, q_JuA, q_NuR, q_FuR, q_PuR, q_OuR, q_AuR, q_RuR, q_LuR, q_JuR, q_NuJ, q_FuJ, q_PuJ, q_OuJ, q_AuJ, q_RuJ, q_LuJ, q_JuJ, q_NuL, q_FuL, q_PuL, q_OuL, q_AuL, q_RuL, q_LuL, q_JuL, q_NuB, q_FuB, q_PuB, q_OuB, q_AuB, q_RuB, q_LuB, q_JuB, q_NuW, q_FuW, q_PuW, q_OuW, q_AuW, q_RuW, q_LuW, q_JuW, q_NuV, q_FuV, q_PuV, q_OuV, q_AuV, q_RuV, q_LuV, q_JuV, q_NuU, q_FuU, q_PuU, q_OuU, q_AuU, q_RuU, q_LuU, q_JuU, q_NuX, q_FuX, q_PuX, q_OuX, q_AuX, q_RuX, q_LuX, q_JuX, q_NuR4, q_FuR4, q_PuR4, q_OuR4, q_AuR4, q_RuR4, q_LuR4, q_JuR4, Nat.reduceEqDiff, reduceIte, and_true, true_and, and_false, false_and, and_self, if_true, if_false, not_true_eq_false, not_false_eq_true]
    exact e0
  rw [eA _ e4, q_on (by omega), q_os (by omega)] at h5
  subst h5
  subst h4
  subst h3
  subst h2
  subst h1
  rw [qwl_add]
  exact h
theorem l_build1 {P : Int32 → zTs → Prop} {X : Nat → zTs → Prop} {K : zTs → Int32 → Int32 → Int32 → Nat → Int32 → Prop} {s : zTs} {W k g n f : Nat} {to cost : Int32} {H : Nat → Nat} (hg : g < 12) (hn : n ≤ 20) (hH : H g + n ≤ 20) (hW : zgP s 21 k 0 = W) (fin : ∀ B D C U A, qcw s H n f W g n (zgF s 21 k 1) (zgF s 10 0 15) cost B D C U A → K (qwl s W B D C U A) to (Int32.ofNat n) cost k (Int32.ofNat g + 1)) : ∀ (m j : Nat) (B D C U A : Nat → Int32), j ≤ n → n - j < m → qcw s H n f W g j (zgF s 21 k 1) (zgF s 10 0 15) cost B D C U A → w_X11_build_81 P X K m (qwl s W B D C U A) to (Int32.ofNat n) cost k (Int32.ofNat g) (Int32.ofNat j) := by
  intro m
  induction m with
  | zero => intro j B D C U A h0 h1; omega
  | succ m ih =>
    intro j B D C U A h0 h1 hq
    rw [w_X11_build_81]
    refine ⟨fun c x hx => ?_, fun c => ?_⟩
    · rw [q_nle (by omega) (by omega)] at c
      have : j = n := by omega
      subst this
      subst hx
      exact fin B D C U A hq
    · rw [q_nle (by omega) (by omega)] at c
      have p1 : zgP (qwl s W B D C U A) 21 k 0 = W := by unfold qwl; simp only [q_NuF, q_FuF, q_PuF, q_OuF, q_AuF, q_RuF, q_LuF, q_JuF, q_NuP, q_FuP, q_PuP, q_OuP, q_AuP, q_RuP, q_LuP, q_JuP, q_NuO, q_FuO, q_PuO, q_OuO, q_AuO, q_RuO, q_LuO, q_JuO, q_NuA, q_FuA, q_PuA, q_OuA, q_AuA, q_RuA, q_LuA, q_JuA, q_NuR, q_FuR, q_PuR, q_OuR, q_AuR, q_RuR, q_LuR, q_JuR, q_NuJ, q_FuJ, q_PuJ, q_OuJ, q_AuJ, q_RuJ, q_LuJ, q_JuJ, q_NuL, q_FuL, q_PuL, q_OuL, q_AuL, q_RuL, q_LuL, q_JuL, q_NuB, q_FuB, q_PuB, q_OuB, q_AuB, q_RuB, q_LuB, q_JuB, q_NuW, q_FuW, q_PuW, q_OuW, q_AuW, q_RuW, q_LuW, q_JuW, q_NuV, q_FuV, q_PuV, q_OuV, q_AuV, q_RuV, q_LuV, q_JuV, q_NuU, q_FuU, q_PuU, q_OuU, q_AuU, q_RuU, q_LuU, q_JuU, q_NuX, q_FuX, q_PuX, q_OuX, q_AuX, q_RuX, q_LuX, q_JuX, q_NuR4, q_FuR4, q_PuR4, q_OuR4, q_AuR4, q_RuR4, q_LuR4, q_JuR4, Nat.reduceEqDiff, reduceIte, and_true, true_and, and_false, false_and, and_self, if_true, if_false, not_true_eq_false, not_false_eq_true]; exact hW
      have p2 : zgF (qwl s W B D C U A) 21 k 1 = zgF s 21 k 1 := by unfold qwl; simp only [q_NuF, q_FuF, q_PuF, q_OuF, q_AuF, q_RuF, q_LuF, q_JuF, q_NuP, q_FuP, q_PuP, q_OuP, q_AuP, q_RuP, q_LuP, q_JuP, q_NuO, q_FuO, q_PuO, q_OuO, q_AuO, q_RuO, q_LuO, q_JuO, q_NuA, q_FuA, q_PuA, q_OuA, q_AuA, q_RuA, q_LuA, q_JuA, q_NuR, q_FuR, q_PuR, q_OuR, q_AuR, q_RuR, q_LuR, q_JuR, q_NuJ, q_FuJ, q_PuJ, q_OuJ, q_AuJ, q_RuJ, q_LuJ, q_JuJ, q_NuL, q_FuL, q_PuL, q_OuL, q_AuL, q_RuL, q_LuL, q_JuL, q_NuB, q_FuB, q_PuB, q_OuB, q_AuB, q_RuB, q_LuB, q_JuB, q_NuW, q_FuW, q_PuW, q_OuW, q_AuW, q_RuW, q_LuW, q_JuW, q_NuV, q_FuV, q_PuV, q_OuV, q_AuV, q_RuV, q_LuV, q_JuV, q_NuU, q_FuU, q_PuU, q_OuU, q_AuU, q_RuU, q_LuU, q_JuU, q_NuX, q_FuX, q_PuX, q_OuX, q_AuX, q_RuX, q_LuX, q_JuX, q_NuR4, q_FuR4, q_PuR4, q_OuR4, q_AuR4, q_RuR4, q_LuR4, q_JuR4, Nat.reduceEqDiff, reduceIte, and_true, true_and, and_false, false_and, and_self, if_true, if_false, not_true_eq_false, not_false_eq_true]
      have p3 : zgF (qwl s W B D C U A) 10 0 15 = zgF s 10 0 15 := by unfold qwl; simp only [q_NuF, q_FuF, q_PuF, q_OuF, q_AuF, q_RuF, q_LuF, q_JuF, q_NuP, q_FuP, q_PuP, q_OuP, q_AuP, q_RuP, q_LuP, q_JuP, q_NuO, q_FuO, q_PuO, q_OuO, q_AuO, q_RuO, q_LuO, q_JuO, q_NuA, q_FuA, q_PuA, q_OuA, q_AuA, q_RuA, q_LuA, q_JuA, q_NuR, q_FuR, q_PuR, q_OuR, q_AuR, q_RuR, q_LuR, q_JuR, q_NuJ, q_FuJ, q_PuJ, q_OuJ, q_AuJ, q_RuJ, q_LuJ, q_JuJ, q_NuL, q_FuL, q_PuL, q_OuL, q_AuL, q_RuL, q_LuL, q_JuL, q_NuB, q_FuB, q_PuB, q_OuB, q_AuB, q_RuB, q_LuB, q_JuB, q_NuW, q_FuW, q_PuW, q_OuW, q_AuW, q_RuW, q_LuW, q_JuW, q_NuV, q_FuV, q_PuV, q_OuV, q_AuV, q_RuV, q_LuV, q_JuV, q_NuU, q_FuU, q_PuU, q_OuU, q_AuU, q_RuU, q_LuU, q_JuU, q_NuX, q_FuX, q_PuX, q_OuX, q_AuX, q_RuX, q_LuX, q_JuX, q_NuR4, q_FuR4, q_PuR4, q_OuR4, q_AuR4, q_RuR4, q_LuR4, q_JuR4, Nat.reduceEqDiff, reduceIte, and_true, true_and, and_false, false_and, and_self, if_true, if_false, not_true_eq_false, not_false_eq_true]
      obtain ⟨y1, y2, y3, y4, y5⟩ := hq
      have hA : A g = Int32.ofNat (H g + j) := by
        rw [y5 g hg]; unfold qhh; rw [if_neg (fun z => by omega), if_pos rfl]
      rw [p1, p2, p3]
      refine i_addCell hg (by omega) hA (fun x hx => ?_)
      subst hx
      rw [q_os (by omega)]
      refine ih (j + 1) _ _ _ _ _ (by omega) (by omega) ⟨?_, ?_, ?_, ?_, fun g' hg' => ?_⟩
      · have := QX_s y1 hg (by omega)
        rw [Nat.zero_add] at this
        exact this
      · have := QX_s y2 hg (by omega)
        rw [Nat.zero_add] at this
        exact this
      · have := QX_s y3 hg (by omega)
        rw [Nat.zero_add] at this
        exact this
      · have := QX_s y4 hg (by omega)
        rw [Nat.zero_add] at this
        exact this
      · rw [qhh_s]
        show (if g' = g then _ else A g') = _
        split
        · rfl
        · exact y5 g' hg'
/-- a sum of heights -/
def qsu (A : Nat → Int32) : Nat → Int32
  | 0 => 0
  | j + 1 => qsu A j + A j
theorem l_cells {P : Int32 → Prop} {st : zTs} {W : Nat} (fin : P (qsu (zgA st 56 W) 12)) : ∀ (m j : Nat), j ≤ 12 → 12 - j < m → w_X8_cellsInAll_4 P st m W (qsu (zgA st 56 W) j) (Int32.ofNat j) := by
  intro m
  induction m with
  | zero => intro j h0 h1; omega
  | succ m ih =>
    intro j h0 h1
    rw [w_X8_cellsInAll_4, q_on (by omega)]
    refine ⟨fun c => ?_, fun c => ?_⟩
    · have c := (q_nle (a := 12) (by decide) (by omega)).mp c
      have : j = 12 := by omega
      subst this
      exact fin
    · have c : ¬ 12 ≤ j := fun z => c ((q_nle (a := 12) (by decide) (by omega)).mpr z)
      refine ⟨q_nv (by omega) (by omega), fun x hx y hy => ?_⟩
      subst hx
      subst hy
      rw [q_os (by omega)]
      exact ih (j + 1) (by omega) (by omega)
theorem l_build {P : Int32 → zTs → Prop} {X : Nat → zTs → Prop} {s : zTs} {W k n f t : Nat} {cost : Int32} {H : Nat → Nat} (ht : t < 12) (hn : n ≤ 20) (hH : ∀ g, f ≤ g → g ≤ t → H g + n ≤ 20) (hW : zgP s 21 k 0 = W) (fin : ∀ B D C U A, qcw s H n f W (t + 1) 0 (zgF s 21 k 1) (zgF s 10 0 15) cost B D C U A → P (qsu A 12) (qwl s W B D C U A)) : ∀ (m g : Nat) (B D C U A : Nat → Int32), f ≤ g → g ≤ t + 1 → t + 1 - g < m → qcw s H n f W g 0 (zgF s 21 k 1) (zgF s 10 0 15) cost B D C U A → w_X11_build_72 P X m (qwl s W B D C U A) (Int32.ofNat t) (Int32.ofNat n) cost k (Int32.ofNat g) := by
  intro m
  induction m with
  | zero => intro g B D C U A h0 h1 h2; omega
  | succ m ih =>
    intro g B D C U A h0 h1 h2 hq
    rw [w_X11_build_72]
    refine ⟨fun c => ?_, fun c => ?_⟩
    · rw [q_nlt (by omega) (by omega)] at c
      have e : g = t + 1 := by omega
      subst e
      have p1 : zgP (qwl s W B D C U A) 21 k 0 = W := by unfold qwl; simp only [q_NuF, q_FuF, q_PuF, q_OuF, q_AuF, q_RuF, q_LuF, q_JuF, q_NuP, q_FuP, q_PuP, q_OuP, q_AuP, q_RuP, q_LuP, q_JuP, q_NuO, q_FuO, q_PuO, q_OuO, q_AuO, q_RuO, q_LuO, q_JuO, q_NuA, q_FuA, q_PuA, q_OuA, q_AuA, q_RuA, q_LuA, q_JuA, q_NuR, q_FuR, q_PuR, q_OuR, q_AuR, q_RuR, q_LuR, q_JuR, q_NuJ, q_FuJ, q_PuJ, q_OuJ, q_AuJ, q_RuJ, q_LuJ, q_JuJ, q_NuL, q_FuL, q_PuL, q_OuL, q_AuL, q_RuL, q_LuL, q_JuL, q_NuB, q_FuB, q_PuB, q_OuB, q_AuB, q_RuB, q_LuB, q_JuB, q_NuW, q_FuW, q_PuW, q_OuW, q_AuW, q_RuW, q_LuW, q_JuW, q_NuV, q_FuV, q_PuV, q_OuV, q_AuV, q_RuV, q_LuV, q_JuV, q_NuU, q_FuU, q_PuU, q_OuU, q_AuU, q_RuU, q_LuU, q_JuU, q_NuX, q_FuX, q_PuX, q_OuX, q_AuX, q_RuX, q_LuX, q_JuX, q_NuR4, q_FuR4, q_PuR4, q_OuR4, q_AuR4, q_RuR4, q_LuR4, q_JuR4, Nat.reduceEqDiff, reduceIte, and_true, true_and, and_false, false_and, and_self, if_true, if_false, not_true_eq_false, not_false_eq_true]; exact hW
      have p2 : zgA (qwl s W B D C U A) 56 W = A := by funext j; unfold qwl; exact q_AB
      rw [p1]
      have := fin B D C U A hq
      exact l_cells (st := qwl s W B D C U A) (W := W) (by rw [p2]; exact this) zfu 0 (by omega) (by unfold zfu; omega)
    · rw [q_nlt (by omega) (by omega)] at c
      refine l_build1 (f := f) (by omega) hn (hH g h0 (by omega)) hW (fun B D C U A hq' => ?_) zfu 0 B D C U A (by omega) (by unfold zfu; omega) hq
      rw [q_os (by omega)]
      refine ih (g + 1) B D C U A (by omega) (by omega) (by omega) ?_
      obtain ⟨y1, y2, y3, y4, y5⟩ := hq'
      unfold qcw
      rw [qnw_n h0]
      exact ⟨y1, y2, y3, y4, fun g' hg' => by rw [qhh_n h0]; exact y5 g' hg'⟩
/-- the highest of some heights -/
def qmx (H : Nat → Nat) (f : Nat) : Nat → Nat
  | 0 => 0
  | j + 1 => max (qmx H f j) (H (f + j))
theorem qmx_le {H : Nat → Nat} {f b : Nat} : ∀ j, qmx H f j ≤ b ↔ ∀ i, i < j → H (f + i) ≤ b := by
  intro j
  induction j with
  | zero => exact ⟨fun _ i hi => by omega, fun _ => by show 0 ≤ b; omega⟩
  | succ j ih =>
    rw [qmx]
    constructor
    · intro h i hi
      by_cases e : i = j
      · rw [e]; omega
      · exact ih.mp (by omega) i (by omega)
    · intro h
      have h1 := ih.mpr (fun i hi => h i (by omega))
      have h2 := h j (by omega)
      omega
theorem l_highest {P : Int32 → Prop} {st : zTs} {W f t : Nat} {H : Nat → Nat} (ht : t < 12) (hH : ∀ g, g < 12 → zgA st 56 W g = Int32.ofNat (H g) ∧ H g ≤ 20) (fin : P (Int32.ofNat (qmx H f (t + 1 - f)))) : ∀ (m g : Nat), f ≤ g → g ≤ t + 1 → t + 1 - g < m → w_X8_highest_5 P st m W (Int32.ofNat t) (Int32.ofNat (qmx H f (g - f))) (Int32.ofNat g) := by
  intro m
  induction m with
  | zero => intro g h0 h1 h2; omega
  | succ m ih =>
    intro g h0 h1 h2
    rw [w_X8_highest_5, q_on (by omega)]
    refine ⟨fun c => ?_, fun c => ?_⟩
    · rw [q_nlt (by omega) (by omega)] at c
      have e : g = t + 1 := by omega
      subst e
      exact fin
    · rw [q_nlt (by omega) (by omega)] at c
      obtain ⟨e1, e2⟩ := hH g (by omega)
      have hq : qmx H f (g - f) ≤ 20 := (qmx_le _).mpr (fun i hi => (hH _ (by omega)).2)
      have nx := ih (g + 1) (by omega) (by omega) (by omega)
      rw [show g + 1 - f = (g - f) + 1 by omega, qmx, show f + (g - f) = g by omega] at nx
      rw [e1]
      refine ⟨q_nv (by omega) (by omega), fun c2 x hx => ?_, fun c2 x hx => ?_⟩
      · rw [q_nlt (by omega) (by omega)] at c2
        subst hx
        rw [q_os (by omega)]
        rw [show max (qmx H f (g - f)) (H g) = H g by omega] at nx
        exact nx
      · rw [q_nlt (by omega) (by omega)] at c2
        subst hx
        rw [q_os (by omega)]
        rw [show max (qmx H f (g - f)) (H g) = qmx H f (g - f) by omega] at nx
        exact nx
/-- the model's cells with new rows -/
def qml (s : zTs) (B C D U A : Nat → Int32) : zTs := zuB (zuB (zuB (zuB (zuB s 145 0 B) 146 0 C) 147 0 D) 148 0 U) 144 0 A
theorem qml_add {s : zTs} {c g : Nat} {B C D U A : Nat → Int32} {x1 x2 x3 x4 x5 : Int32} : zuA (zuA (zuA (zuA (zuA (qml s B C D U A) 145 0 c x1) 146 0 c x2) 147 0 c x3) 148 0 c x4) 144 0 g x5 = qml s (fun j => if j = c then x1 else B j) (fun j => if j = c then x2 else C j) (fun j => if j = c then x3 else D j) (fun j => if j = c then x4 else U j) (fun j => if j = g then x5 else A j) := by
  unfold qml
  simp (disch := decide) only [zuA_comm, zuA_fuse]
/-- as qcw, over the model's rows; s0 holds what they began with -/
def qmw (s0 : zTs) (H : Nat → Nat) (n f w g j : Nat) (sd today cost : Int32) (B C D U A : Nat → Int32) : Prop := (QX (fun c => zgA s0 145 0 (240 * w + c)) sd (240 * w) (qnw H n f g j) B ∧ QO (240 * w) 240 (zgA s0 145 0) B) ∧ (QX (fun c => zgA s0 146 0 (240 * w + c)) cost (240 * w) (qnw H n f g j) C ∧ QO (240 * w) 240 (zgA s0 146 0) C) ∧ (QX (fun c => zgA s0 147 0 (240 * w + c)) today (240 * w) (qnw H n f g j) D ∧ QO (240 * w) 240 (zgA s0 147 0) D) ∧ (QX (fun c => zgA s0 148 0 (240 * w + c)) (1 <<< (sd &&& 31)) (240 * w) (qnw H n f g j) U ∧ QO (240 * w) 240 (zgA s0 148 0) U) ∧ (∀ g', g' < 12 → A (12 * w + g') = Int32.ofNat (qhh H n f g j g')) ∧ QO (12 * w) 12 (zgA s0 144 0) A
theorem QO_s {o w c : Nat} {O F : Nat → Int32} {v : Int32} (h : QO o w O F) (hc : o ≤ c ∧ c < o + w) : QO o w O (fun i => if i = c then v else F i) := by
  intro x hx
  show (if x = c then v else F x) = _
  rw [if_neg (by omega)]
  exact h x hx
theorem lm_build1 {P : Int32 → zTs → Prop} {K : zTs → Int32 → Int32 → Int32 → Int32 → Int32 → Int32 → Int32 → Prop} {s0 s : zTs} {a w to cost all sd : Int32} {g n f : Nat} {H : Nat → Nat} (hv : vp_in a 30) (hw : ¬ w < 0) (hw6 : w.toNatClampNeg < 6) (hg : g < 12) (hn : n ≤ 20) (hH : H g + n ≤ 20) (hs : zgA s 113 0 a.toNatClampNeg = sd) (fin : ∀ B C D U A, qmw s0 H n f w.toNatClampNeg g n sd (zgF s 100 0 3) cost B C D U A → K (qml s B C D U A) a to (Int32.ofNat n) cost w all (Int32.ofNat g + 1)) : ∀ (m j : Nat) (B C D U A : Nat → Int32), j ≤ n → n - j < m → qmw s0 H n f w.toNatClampNeg g j sd (zgF s 100 0 3) cost B C D U A → w_X12_build_140 P K m (qml s B C D U A) a to (Int32.ofNat n) cost w all (Int32.ofNat g) (Int32.ofNat j) := by
  intro m
  induction m with
  | zero => intro j B C D U A h0 h1; omega
  | succ m ih =>
    intro j B C D U A h0 h1 hq
    rw [w_X12_build_140]
    refine ⟨fun c x hx => ?_, fun c => ?_⟩
    · rw [q_nle (by omega) (by omega)] at c
      have : j = n := by omega
      subst this
      subst hx
      exact fin B C D U A hq
    · rw [q_nle (by omega) (by omega)] at c
      obtain ⟨⟨y1, o1⟩, ⟨y2, o2⟩, ⟨y3, o3⟩, ⟨y4, o4⟩, y5, o5⟩ := hq
      obtain ⟨v12, e12⟩ := q_ix12 hw hw6 hg
      obtain ⟨v20, e20⟩ := q_ix20 (g := g) (k := H g + j) hw hw6 hg (by omega)
      have hA : A (12 * w.toNatClampNeg + g) = Int32.ofNat (H g + j) := by
        rw [y5 g hg]; unfold qhh; rw [if_neg (fun z => by omega), if_pos rfl]
      have eA : ∀ s' : zTs, zgA s' 144 0 (12 * w.toNatClampNeg + g) = A (12 * w.toNatClampNeg + g) → zgA s' 144 0 (12 * w + Int32.ofNat g).toNatClampNeg = Int32.ofNat (H g + j) := fun s' e => by rw [e12, e, hA]
      have e0 : zgA (qml s B C D U A) 144 0 (12 * w.toNatClampNeg + g) = A (12 * w.toNatClampNeg + g) := by unfold qml; exact q_AB
      have e113 : zgA (qml s B C D U A) 113 0 a.toNatClampNeg = sd := by unfold qml; simp only [q_NuF, q_FuF, q_PuF, q_OuF, q_AuF, q_RuF, q_LuF, q_JuF, q_NuP, q_FuP, q_PuP, q_OuP, q_AuP, q_RuP, q_LuP, q_JuP, q_NuO, q_FuO, q_PuO, q_OuO, q_AuO, q_RuO, q_LuO, q_JuO, q_NuA, q_FuA, q_PuA, q_OuA, q_AuA, q_RuA, q_LuA, q_JuA, q_NuR, q_FuR, q_PuR, q_OuR, q_AuR, q_RuR, q_LuR, q_JuR, q_NuJ, q_FuJ, q_PuJ, q_OuJ, q_AuJ, q_RuJ, q_LuJ, q_JuJ, q_NuL, q_FuL, q_PuL, q_OuL, q_AuL, q_RuL, q_LuL, q_JuL, q_NuB, q_FuB, q_PuB, q_OuB, q_AuB, q_RuB, q_LuB, q_JuB, q_NuW, q_FuW, q_PuW, q_OuW, q_AuW, q_RuW, q_LuW, q_JuW, q_NuV, q_FuV, q_PuV, q_OuV, q_AuV, q_RuV, q_LuV, q_JuV, q_NuU, q_FuU, q_PuU, q_OuU, q_AuU, q_RuU, q_LuU, q_JuU, q_NuX, q_FuX, q_PuX, q_OuX, q_AuX, q_RuX, q_LuX, q_JuX, q_NuR4, q_FuR4, q_PuR4, q_OuR4, q_AuR4, q_RuR4, q_LuR4, q_JuR4, Nat.reduceEqDiff, reduceIte, and_true, true_and, and_false, false_and, and_self, if_true, if_false, not_true_eq_false, not_false_eq_true]; exact hs
      have e3 : zgF (qml s B C D U A) 100 0 3 = zgF s 100 0 3 := by unfold qml; simp only [q_NuF, q_FuF, q_PuF, q_OuF, q_AuF, q_RuF, q_LuF, q_JuF, q_NuP, q_FuP, q_PuP, q_OuP, q_AuP, q_RuP, q_LuP, q_JuP, q_NuO, q_FuO, q_PuO, q_OuO, q_AuO, q_RuO, q_LuO, q_JuO, q_NuA, q_FuA, q_PuA, q_OuA, q_AuA, q_RuA, q_LuA, q_JuA, q_NuR, q_FuR, q_PuR, q_OuR, q_AuR, q_RuR, q_LuR, q_JuR, q_NuJ, q_FuJ, q_PuJ, q_OuJ, q_AuJ, q_RuJ, q_LuJ, q_JuJ, q_NuL, q_FuL, q_PuL, q_OuL, q_AuL, q_RuL, q_LuL, q_JuL, q_NuB, q_FuB, q_PuB, q_OuB, q_AuB, q_RuB, q_LuB, q_JuB, q_NuW, q_FuW, q_PuW, q_OuW, q_AuW, q_RuW, q_LuW, q_JuW, q_NuV, q_FuV, q_PuV, q_OuV, q_AuV, q_RuV, q_LuV, q_JuV, q_NuU, q_FuU, q_PuU, q_OuU, q_AuU, q_RuU, q_LuU, q_JuU, q_NuX, q_FuX, q_PuX, q_OuX, q_AuX, q_RuX, q_LuX, q_JuX, q_NuR4, q_FuR4, q_PuR4, q_OuR4, q_AuR4, q_RuR4, q_LuR4, q_JuR4, Nat.reduceEqDiff, reduceIte, and_true, true_and, and_false, false_and, and_self, if_true, if_false, not_true_eq_false, not_false_eq_true]
      rw [eA _ e0, e113]
      refine ⟨v12, fun x hx => ?_⟩
      subst hx
      rw [e20]
      refine ⟨hv, v20, fun u1 h1 => ⟨v20, fun u2 h2 => ⟨v20, fun u3 h3 => ⟨hv, v20, fun u4 h4 => ⟨v12, v12, fun u5 h5 x hx => ?_⟩⟩⟩⟩⟩
      have e3' : zgF u2 100 0 3 = zgF s 100 0 3 := by
        subst h2
        subst h1
        simp only [q_NuF, q_FuF, q_PuF, q_OuF, q_AuF, q_RuF, q_LuF, q_JuF, q_NuP, q_FuP, q_PuP, q_OuP, q_AuP, q_RuP, q_LuP, q_JuP, q_NuO, q_FuO, q_PuO, q_OuO, q_AuO, q_RuO, q_LuO, q_JuO, q_NuA, q_FuA, q_PuA, q_OuA, q_AuA, q_RuA, q_LuA, q_JuA, q_NuR, q_FuR, q_PuR, q_OuR, q_AuR, q_RuR, q_LuR, q_JuR, q_NuJ, q_FuJ, q_PuJ, q_OuJ, q_AuJ, q_RuJ, q_LuJ, q_JuJ, q_NuL, q_FuL, q_PuL, q_OuL, q_AuL, q_RuL, q_LuL, q_JuL, q_NuB, q_FuB, q_PuB, q_OuB, q_AuB, q_RuB, q_LuB, q_JuB, q_NuW, q_FuW, q_PuW, q_OuW, q_AuW, q_RuW, q_LuW, q_JuW, q_NuV, q_FuV, q_PuV, q_OuV, q_AuV, q_RuV, q_LuV, q_JuV, q_NuU, q_FuU, q_PuU, q_OuU, q_AuU, q_RuU, q_LuU, q_JuU, q_NuX, q_FuX, q_PuX, q_OuX, q_AuX, q_RuX, q_LuX, q_JuX, q_NuR4, q_FuR4, q_PuR4, q_OuR4, q_AuR4, q_RuR4, q_LuR4, q_JuR4, Nat.reduceEqDiff, reduceIte, and_true, true_and, and_false, false_and, and_self, if_true, if_false, not_true_eq_false, not_false_eq_true]
        exact e3
      have e113' : zgA u3 113 0 a.toNatClampNeg = sd := by
        subst h3
        subst h2
        subst h1
        simp only [q_NuF, q_FuF, q_PuF, q_OuF, q_AuF, q_RuF, q_LuF, q_JuF, q_NuP, q_FuP, q_PuP, q_OuP, q_AuP, q_RuP, q_LuP, q_JuP, q_NuO, q_FuO, q_PuO, q_OuO, q_AuO, q_RuO, q_LuO, q_JuO, q_NuA, q_FuA, q_PuA, q_OuA, q_AuA, q_RuA, q_LuA, q_JuA, q_NuR, q_FuR, q_PuR, q_OuR, q_AuR, q_RuR, q_LuR, q_JuR, q_NuJ, q_FuJ, q_PuJ, q_OuJ, q_AuJ, q_RuJ, q_LuJ, q_JuJ, q_NuL, q_FuL, q_PuL, q_OuL, q_AuL, q_RuL, q_LuL, q_JuL, q_NuB, q_FuB, q_PuB, q_OuB, q_AuB, q_RuB, q_LuB, q_JuB, q_NuW, q_FuW, q_PuW, q_OuW, q_AuW, q_RuW, q_LuW, q_JuW, q_NuV, q_FuV, q_PuV, q_OuV, q_AuV, q_RuV, q_LuV, q_JuV, q_NuU, q_FuU, q_PuU, q_OuU, q_AuU, q_RuU, q_LuU, q_JuU, q_NuX, q_FuX, q_PuX, q_OuX, q_AuX, q_RuX, q_LuX, q_JuX, q_NuR4, q_FuR4, q_PuR4, q_OuR4, q_AuR4, q_RuR4, q_LuR4, q_JuR4, Nat.reduceEqDiff, reduceIte, and_true, true_and, and_false, false_and, and_self, if_true, if_false, not_true_eq_false, not_false_eq_true]
        exact e113
      have e4 : zgA u4 144 0 (12 * w.toNatClampNeg + g) = A (12 * w.toNatClampNeg + g) := by
        subst h4
        subst h3
        subst h2
        subst h1
        simp only [q_NuF, q_FuF, q_PuF, q_OuF, q_AuF, q_RuF, q_LuF, q_JuF, q_NuP, q_FuP, q_PuP, q_OuP, q_AuP, q_RuP, q_LuP, q_JuP, q_NuO, q_FuO, q_PuO, q_OuO, q_AuO, q_RuO, q_LuO, q_JuO, q_NuA, q_FuA, q_PuA, q_OuA, q_AuA, q_RuA, q_LuA, q_JuA, q_NuR, q_FuR, q_PuR, q_OuR, q_AuR, q_RuR, q_LuR, q_JuR, q_NuJ, q_FuJ, q_PuJ, q_OuJ, q_AuJ, q_RuJ, q_LuJ, q_JuJ, q_NuL, q_FuL, q_PuL, q_OuL, q_AuL, q_RuL, q_LuL, q_JuL, q_NuB, q_FuB, q_PuB, q_OuB, q_AuB, q_RuB, q_LuB, q_JuB, q_NuW, q_FuW, q_PuW, q_OuW, q_AuW, q_RuW, q_LuW, q_JuW, q_NuV, q_FuV, q_PuV, q_OuV, q_AuV, q_RuV, q_LuV, q_JuV, q_NuU, q_FuU, q_PuU, q_OuU, q_AuU, q_RuU, q_LuU, q_JuU, q_NuX, q_FuX, q_PuX, q_OuX, q_AuX, q_RuX, q_LuX, q_JuX, q_NuR4, q_FuR4, q_PuR4, q_OuR4, q_AuR4, q_RuR4, q_LuR4, q_JuR4, Nat.reduceEqDiff, reduceIte, and_true, true_and, and_false, false_and, and_self, if_true, if_false, not_true_eq_false, not_false_eq_true]
        exact e0
      rw [eA _ e4, e12, q_os (by omega)] at h5
      rw [e113'] at h4
      rw [e3'] at h3
      subst h5
      subst h4
      subst h3
      subst h2
      subst h1
      subst hx
      rw [qml_add, q_os (by omega)]
      refine ih (j + 1) _ _ _ _ _ (by omega) (by omega) ⟨⟨QX_s y1 hg (by omega), QO_s o1 (by omega)⟩, ⟨QX_s y2 hg (by omega), QO_s o2 (by omega)⟩, ⟨QX_s y3 hg (by omega), QO_s o3 (by omega)⟩, ⟨QX_s y4 hg (by omega), QO_s o4 (by omega)⟩, fun g' hg' => ?_, QO_s o5 (by omega)⟩
      rw [qhh_s]
      show (if 12 * w.toNatClampNeg + g' = 12 * w.toNatClampNeg + g then _ else A (12 * w.toNatClampNeg + g')) = _
      by_cases e : g' = g
      · rw [if_pos (by rw [e]), if_pos e]
      · rw [if_neg (by omega), if_neg e]
        exact y5 g' hg'
theorem lm_cells {P : Int32 → zTs → Prop} {st : zTs} {w : Int32} (hw : ¬ w < 0) (hw6 : w.toNatClampNeg < 6) {Q : Nat → Int32} (hQ : ∀ g, g < 12 → zgA st 144 0 (12 * w.toNatClampNeg + g) = Q g) (fin : P (qsu Q 12) st) : ∀ (m j : Nat), j ≤ 12 → 12 - j < m → w_X12_build_254 P m st w (qsu Q j) (Int32.ofNat j) := by
  intro m
  induction m with
  | zero => intro j h0 h1; omega
  | succ m ih =>
    intro j h0 h1
    rw [w_X12_build_254]
    refine ⟨fun c => ?_, fun c => ?_⟩
    · have c := (q_nle (a := 12) (by decide) (by omega)).mp c
      have : j = 12 := by omega
      subst this
      exact fin
    · have c : ¬ 12 ≤ j := fun z => c ((q_nle (a := 12) (by decide) (by omega)).mpr z)
      obtain ⟨v12, e12⟩ := q_ix12 (g := j) hw hw6 (by omega)
      rw [e12, hQ j (by omega)]
      refine ⟨v12, fun x hx y hy => ?_⟩
      subst hx
      subst hy
      rw [q_os (by omega)]
      exact ih (j + 1) (by omega) (by omega)
theorem lm_build {P : Int32 → zTs → Prop} {s0 s : zTs} {a w cost sd : Int32} {n f t : Nat} {H : Nat → Nat} (hv : vp_in a 30) (hw : ¬ w < 0) (hw6 : w.toNatClampNeg < 6) (ht : t < 12) (hn : n ≤ 20) (hH : ∀ g, f ≤ g → g ≤ t → H g + n ≤ 20) (hs : zgA s 113 0 a.toNatClampNeg = sd) (fin : ∀ B C D U A, qmw s0 H n f w.toNatClampNeg (t + 1) 0 sd (zgF s 100 0 3) cost B C D U A → P (qsu (fun g => Int32.ofNat (qhh H n f (t + 1) 0 g)) 12) (qml s B C D U A)) : ∀ (m g : Nat) (B C D U A : Nat → Int32), f ≤ g → g ≤ t + 1 → t + 1 - g < m → qmw s0 H n f w.toNatClampNeg g 0 sd (zgF s 100 0 3) cost B C D U A → w_X12_build_131 P m (qml s B C D U A) a (Int32.ofNat t) (Int32.ofNat n) cost w 0 (Int32.ofNat g) := by
  intro m
  induction m with
  | zero => intro g B C D U A h0 h1 h2; omega
  | succ m ih =>
    intro g B C D U A h0 h1 h2 hq
    rw [w_X12_build_131]
    refine ⟨fun c => ?_, fun c => ?_⟩
    · rw [q_nlt (by omega) (by omega)] at c
      have e : g = t + 1 := by omega
      subst e
      have y5 := hq.2.2.2.2.1
      refine lm_cells hw hw6 (Q := fun g => Int32.ofNat (qhh H n f (t + 1) 0 g)) (fun g hg => ?_) (fin B C D U A hq) zfu 0 (by omega) (by unfold zfu; omega)
      unfold qml
      rw [q_AB]
      exact y5 g hg
    · rw [q_nlt (by omega) (by omega)] at c
      refine lm_build1 (s0 := s0) (f := f) hv hw hw6 (by omega) hn (hH g h0 (by omega)) hs (fun B C D U A hq' => ?_) zfu 0 B C D U A (by omega) (by unfold zfu; omega) hq
      rw [q_os (by omega)]
      refine ih (g + 1) B C D U A (by omega) (by omega) (by omega) ?_
      obtain ⟨y1, y2, y3, y4, y5, o5⟩ := hq'
      unfold qmw
      rw [qnw_n h0]
      exact ⟨y1, y2, y3, y4, fun g' hg' => by rw [qhh_n h0]; exact y5 g' hg', o5⟩
theorem lm_room {P : Int32 → zTs → Prop} {st : zTs} {a cost w all fr : Int32} {n f t : Nat} {H : Nat → Nat} (hw : ¬ w < 0) (hw6 : w.toNatClampNeg < 6) (ht : t < 12) (hn : n ≤ 20) (hH : ∀ g, g < 12 → zgA st 144 0 (12 * w.toNatClampNeg + g) = Int32.ofNat (H g) ∧ H g ≤ 20) (y : (∀ g, f ≤ g → g ≤ t → H g + n ≤ 20) → w_X12_build_131 P zfu st a (Int32.ofNat t) (Int32.ofNat n) cost w all fr) (no : ¬ (∀ g, f ≤ g → g ≤ t → H g + n ≤ 20) → P (-2) st) : ∀ (m g : Nat), f ≤ g → g ≤ t + 1 → t + 1 - g < m → (∀ g', f ≤ g' → g' < g → H g' + n ≤ 20) → w_X12_build_92 P m st a fr (Int32.ofNat t) (Int32.ofNat n) cost w all (Int32.ofNat g) := by
  intro m
  induction m with
  | zero => intro g h0 h1 h2; omega
  | succ m ih =>
    intro g h0 h1 h2 hd
    rw [w_X12_build_92]
    refine ⟨fun c => ?_, fun c => ?_⟩
    · rw [q_nlt (by omega) (by omega)] at c
      exact y (fun g' h3 h4 => hd g' h3 (by omega))
    · rw [q_nlt (by omega) (by omega)] at c
      obtain ⟨v12, e12⟩ := q_ix12 (g := g) hw hw6 (by omega)
      obtain ⟨e1, e2⟩ := hH g (by omega)
      have es : Int32.ofNat (H g) + Int32.ofNat n = Int32.ofNat (H g + n) := by
        refine q_of_toInt ?_
        rw [q_add (by rw [q_of (by omega), q_of (by omega)]; omega) (by rw [q_of (by omega), q_of (by omega)]; omega), q_of (by omega), q_of (by omega)]
        omega
      rw [e12, e1, es]
      refine ⟨v12, fun c2 x hx => ?_, fun c2 => ?_⟩
      · have c2 := (q_nle (b := 20) (by omega) (by decide)).mp c2
        subst hx
        rw [q_os (by omega)]
        refine ih (g + 1) (by omega) (by omega) (by omega) (fun g' h3 h4 => ?_)
        by_cases e : g' = g
        · rw [e]; exact c2
        · exact hd g' h3 (by omega)
      · exact no (fun z => c2 ((q_nle (b := 20) (by omega) (by decide)).mpr (z g h0 (by omega))))
theorem GC_build {s T : zTs} {W n f t : Nat} {sd cost : Int32} {B D C U A B2 C2 D2 U2 A2 : Nat → Int32} (h : GC s) (hi : W < zgN s 20) (hsd : sd = 0 ∨ sd = 1) (c0 : 0 ≤ cost) (c1 : cost ≤ 100000) (hd : 0 ≤ zgF s 10 0 15) (ht : t < 12) (hH : ∀ g, f ≤ g → g ≤ t → (zgA s 56 W g).toNatClampNeg + n ≤ 20)
    (hq : qcw s (fun g => (zgA s 56 W g).toNatClampNeg) n f W (t + 1) 0 sd (zgF s 10 0 15) cost B D C U A) (hm : qmw s (fun g => (zgA s 56 W g).toNatClampNeg) n f W (t + 1) 0 sd (zgF s 10 0 15) cost B2 C2 D2 U2 A2)
    (t0 : zgN T 20 = zgN s 20) (t1 : zgF T 10 0 15 = zgF s 10 0 15) (t57 : ∀ i' j, zgA T 57 i' j = if i' = W then B j else zgA s 57 i' j) (t58 : ∀ i' j, zgA T 58 i' j = if i' = W then D j else zgA s 58 i' j) (t59 : ∀ i' j, zgA T 59 i' j = if i' = W then C j else zgA s 59 i' j) (t60 : ∀ i' j, zgA T 60 i' j = if i' = W then U j else zgA s 60 i' j) (t56 : ∀ i' j, zgA T 56 i' j = if i' = W then A j else zgA s 56 i' j)
    (t145 : ∀ j, zgA T 145 0 j = B2 j) (t146 : ∀ j, zgA T 146 0 j = C2 j) (t147 : ∀ j, zgA T 147 0 j = D2 j) (t148 : ∀ j, zgA T 148 0 j = U2 j) (t144 : ∀ j, zgA T 144 0 j = A2 j) : GC T := by
  obtain ⟨k1, k2, k3⟩ := GC_at h hi
  obtain ⟨h1, h2, h3⟩ := h
  obtain ⟨q1, q2, q3, q4, q5⟩ := hq
  obtain ⟨⟨m1, o1⟩, ⟨m2, o2⟩, ⟨m3, o3⟩, ⟨m4, o4⟩, m5, o5⟩ := hm
  have hh20 : ∀ g, g < 12 → qhh (fun g => (zgA s 56 W g).toNatClampNeg) n f (t + 1) 0 g ≤ 20 := by
    intro g hg
    have := (k1 g hg).2.2
    unfold qhh
    split
    · rename_i c; exact hH g c.1 (by omega)
    · split
      · rename_i c
        rw [← c]
        show (zgA s 56 W g).toNatClampNeg + 0 ≤ 20
        omega
      · exact this
  unfold GC
  rw [t0]
  refine ⟨fun i' hi' => ?_, fun g hg => ?_, fun c hc => ?_⟩
  · obtain ⟨x1, x2, x3⟩ := h1 i' hi'
    by_cases e : i' = W
    · subst e
      refine ⟨fun g hg => ?_, fun c hc => ?_, fun g k hg hk hh => ?_⟩
      · have hl := hh20 g hg
        rw [t144, t56, if_pos rfl, m5 g hg, q5 g hg]
        refine ⟨rfl, ?_, ?_⟩
        · rw [Int32.le_iff_toInt_le, q_of (by omega), show (0 : Int32).toInt = 0 from rfl]; omega
        · rw [Int32.le_iff_toInt_le, q_of (by omega), show (20 : Int32).toInt = 20 from rfl]; omega
      · obtain ⟨z1, z2, z3, z4, z5, z6, z7, z8⟩ := k2 c hc
        obtain ⟨a1, b1⟩ := q1 (c / 20) (c % 20) (by omega) (by omega)
        obtain ⟨a2, b2⟩ := q2 (c / 20) (c % 20) (by omega) (by omega)
        obtain ⟨a3, b3⟩ := q3 (c / 20) (c % 20) (by omega) (by omega)
        obtain ⟨a4, b4⟩ := q4 (c / 20) (c % 20) (by omega) (by omega)
        obtain ⟨c1', d1⟩ := m1 (c / 20) (c % 20) (by omega) (by omega)
        obtain ⟨c2, d2⟩ := m2 (c / 20) (c % 20) (by omega) (by omega)
        obtain ⟨c3, d3⟩ := m3 (c / 20) (c % 20) (by omega) (by omega)
        obtain ⟨c4, d4⟩ := m4 (c / 20) (c % 20) (by omega) (by omega)
        rw [show 20 * (c / 20) + c % 20 = c by omega] at *
        rw [Nat.zero_add] at a1 b1 a2 b2 a3 b3 a4 b4
        rw [t145, t57, t147, t58, t146, t59, t148, t60, t1, if_pos rfl, if_pos rfl, if_pos rfl, if_pos rfl]
        by_cases z : qnw (fun g => (zgA s 56 i' g).toNatClampNeg) n f (t + 1) 0 (c / 20) (c % 20)
        · rw [a1 z, a2 z, a3 z, a4 z, c1' z, c2 z, c3 z, c4 z]
          exact ⟨rfl, rfl, rfl, rfl, hd, Int32.le_refl _, c0, c1⟩
        · rw [b1 z, b2 z, b3 z, b4 z, d1 z, d2 z, d3 z, d4 z]
          exact ⟨z1, z2, z3, z4, z5, z6, z7, z8⟩
      · rw [t56, if_pos rfl, q5 g hg, q_of (by have := hh20 g hg; omega)] at hh
        obtain ⟨a1, b1⟩ := q1 g k hg hk
        obtain ⟨a4, b4⟩ := q4 g k hg hk
        rw [Nat.zero_add] at a1 b1 a4 b4
        rw [t57, t60, if_pos rfl, if_pos rfl]
        by_cases z : qnw (fun g => (zgA s 56 i' g).toNatClampNeg) n f (t + 1) 0 g k
        · rw [a1 z, a4 z]
          rcases hsd with y | y <;> rw [y]
          · exact .inl ⟨rfl, .inl (by decide)⟩
          · exact .inr ⟨rfl, .inl (by decide)⟩
        · rw [b1 z, b4 z]
          refine k3 g k hg ?_
          unfold qnw at z
          unfold qhh at hh
          by_cases y : f ≤ g ∧ g < t + 1
          · rw [if_pos y] at hh
            have hh' : (k : Int) < (((zgA s 56 i' g).toNatClampNeg + n : Nat) : Int) := hh
            have z' : ¬ (((zgA s 56 i' g).toNatClampNeg ≤ k) ∧ k < (zgA s 56 i' g).toNatClampNeg + n) := fun q => z (.inl ⟨y.1, y.2, q.1, q.2⟩)
            omega
          · rw [if_neg y] at hh
            by_cases y2 : g = t + 1
            · rw [if_pos y2, Nat.add_zero] at hh
              have hh' : (k : Int) < ((zgA s 56 i' (t + 1)).toNatClampNeg : Int) := hh
              rw [y2]
              omega
            · rw [if_neg y2] at hh
              have hh' : (k : Int) < ((zgA s 56 i' g).toNatClampNeg : Int) := hh
              omega
    · refine ⟨fun g hg => ?_, fun c hc => ?_, fun g k hg hk hh => ?_⟩
      · rw [t144, t56, if_neg e, o5 _ (by omega)]
        exact x1 g hg
      · rw [t145, t57, t147, t58, t146, t59, t148, t60, t1, if_neg e, if_neg e, if_neg e, if_neg e, o1 _ (by omega), o2 _ (by omega), o3 _ (by omega), o4 _ (by omega)]
        exact x2 c hc
      · rw [t56, if_neg e] at hh
        rw [t57, t60, if_neg e, if_neg e]
        exact x3 g k hg hk hh
  · rw [t144, o5 _ (by omega)]
    exact h2 g hg
  · rw [t145, t146, t147, t148, o1 _ (by omega), o2 _ (by omega), o3 _ (by omega), o4 _ (by omega)]
    exact h3 c hc
