/-! use of cells -/
theorem i_min {P : Int32 → Prop} {st : zTs} {x y : Int32} {a b : Nat} (ex : x = Int32.ofNat a) (ey : y = Int32.ofNat b) (ha : a < 2147483648) (hb : b < 2147483648) (h : P (Int32.ofNat (min a b))) : w_J9_min_7cf53 st x y P := by
  subst ex
  subst ey
  refine ⟨fun c => ?_, fun c => ?_⟩
  · rw [q_nlt hb ha] at c
    rw [show min a b = b by omega] at h
    exact h
  · rw [q_nlt hb ha] at c
    rw [show min a b = a by omega] at h
    exact h
/-- marked so far -/
def qmk (nk : Nat → Nat) (f g k g' k' : Nat) : Prop := (f ≤ g' ∧ g' < g ∧ k' < nk g') ∨ (g' = g ∧ k' < k)
def QM (U : Nat → Int32) (bt : Int32) (o : Nat) (nk : Nat → Nat) (f g k : Nat) (F : Nat → Int32) : Prop := ∀ g' k', g' < 12 → k' < 20 → (qmk nk f g k g' k' → F (o + (20 * g' + k')) = U (20 * g' + k') ||| bt) ∧ (¬ qmk nk f g k g' k' → F (o + (20 * g' + k')) = U (20 * g' + k'))
theorem QM_0 {U : Nat → Int32} {bt : Int32} {o : Nat} {nk : Nat → Nat} {f : Nat} {F : Nat → Int32} (h : ∀ c, c < 240 → F (o + c) = U c) : QM U bt o nk f f 0 F := by
  intro g' k' h1 h2
  refine ⟨fun z => ?_, fun _ => h _ (by omega)⟩
  unfold qmk at z
  omega
theorem QM_at {U : Nat → Int32} {bt : Int32} {o : Nat} {nk : Nat → Nat} {f g k : Nat} {F : Nat → Int32} (h : QM U bt o nk f g k F) (hg : g < 12) (hk : k < 20) : F (o + (20 * g + k)) = U (20 * g + k) := by
  refine (h g k hg hk).2 (fun z => ?_)
  unfold qmk at z
  omega
theorem QM_s {U : Nat → Int32} {bt : Int32} {o : Nat} {nk : Nat → Nat} {f g k : Nat} {F : Nat → Int32} (h : QM U bt o nk f g k F) (hg : g < 12) (hk : k < 20) : QM U bt o nk f g (k + 1) (fun j => if j = o + (20 * g + k) then U (20 * g + k) ||| bt else F j) := by
  intro g' k' h1 h2
  obtain ⟨y, n⟩ := h g' k' h1 h2
  by_cases e : g' = g ∧ k' = k
  · obtain ⟨rfl, rfl⟩ := e
    refine ⟨fun _ => ?_, fun z => absurd (.inr ⟨rfl, by omega⟩) z⟩
    show (if o + (20 * g' + k') = o + (20 * g' + k') then U (20 * g' + k') ||| bt else F (o + (20 * g' + k'))) = _
    rw [if_pos rfl]
  · have ne : ¬ o + (20 * g' + k') = o + (20 * g + k) := by omega
    refine ⟨fun z => ?_, fun z => ?_⟩
    · show (if o + (20 * g' + k') = o + (20 * g + k) then U (20 * g + k) ||| bt else F (o + (20 * g' + k'))) = _
      rw [if_neg ne]
      refine y ?_
      unfold qmk at z ⊢
      omega
    · show (if o + (20 * g' + k') = o + (20 * g + k) then U (20 * g + k) ||| bt else F (o + (20 * g' + k'))) = _
      rw [if_neg ne]
      refine n (fun x => z ?_)
      unfold qmk at x ⊢
      omega
theorem QM_n {U : Nat → Int32} {bt : Int32} {o : Nat} {nk : Nat → Nat} {f g : Nat} {F : Nat → Int32} (hf : f ≤ g) (h : QM U bt o nk f g (nk g) F) : QM U bt o nk f (g + 1) 0 F := by
  intro g' k' h1 h2
  obtain ⟨y, n⟩ := h g' k' h1 h2
  have e : qmk nk f (g + 1) 0 g' k' ↔ qmk nk f g (nk g) g' k' := by
    unfold qmk
    by_cases c : g' = g
    · subst c
      constructor
      · intro z; omega
      · intro z; omega
    · constructor
      · intro z; omega
      · intro z; omega
  exact ⟨fun z => y (e.mp z), fun z => n (fun x => z (e.mpr x))⟩
theorem l_mark1 {P : zTs → Prop} {st : zTs} {i g hn f : Nat} {sd : Int32} {H : Nat → Nat} {U : Nat → Int32} (hg : g < 12) (hn20 : hn ≤ 20) (hH : ∀ g, g < 12 → zgA st 56 i g = Int32.ofNat (H g) ∧ H g ≤ 20) (fin : ∀ F', QM U (1 <<< (sd &&& 31)) 0 (fun g => min hn (H g)) f g (min hn (H g)) F' → P (zuB st 60 i F')) : ∀ (m k : Nat) (F : Nat → Int32), k ≤ min hn (H g) → min hn (H g) - k < m → QM U (1 <<< (sd &&& 31)) 0 (fun g => min hn (H g)) f g k F → w_X8_markUsed_3 P m (zuB st 60 i F) i (Int32.ofNat g) sd (Int32.ofNat hn) (Int32.ofNat k) := by
  intro m
  induction m with
  | zero => intro k F h0 h1; omega
  | succ m ih =>
    intro k F h0 h1 hF
    obtain ⟨e1, e2⟩ := hH g hg
    rw [w_X8_markUsed_3, q_on (by omega)]
    refine ⟨q_nv hg (by omega), i_min (a := hn) (b := H g) rfl (by simp only [q_NuF, q_FuF, q_PuF, q_OuF, q_AuF, q_RuF, q_LuF, q_JuF, q_NuP, q_FuP, q_PuP, q_OuP, q_AuP, q_RuP, q_LuP, q_JuP, q_NuO, q_FuO, q_PuO, q_OuO, q_AuO, q_RuO, q_LuO, q_JuO, q_NuA, q_FuA, q_PuA, q_OuA, q_AuA, q_RuA, q_LuA, q_JuA, q_NuR, q_FuR, q_PuR, q_OuR, q_AuR, q_RuR, q_LuR, q_JuR, q_NuJ, q_FuJ, q_PuJ, q_OuJ, q_AuJ, q_RuJ, q_LuJ, q_JuJ, q_NuL, q_FuL, q_PuL, q_OuL, q_AuL, q_RuL, q_LuL, q_JuL, q_NuB, q_FuB, q_PuB, q_OuB, q_AuB, q_RuB, q_LuB, q_JuB, q_NuW, q_FuW, q_PuW, q_OuW, q_AuW, q_RuW, q_LuW, q_JuW, q_NuV, q_FuV, q_PuV, q_OuV, q_AuV, q_RuV, q_LuV, q_JuV, q_NuU, q_FuU, q_PuU, q_OuU, q_AuU, q_RuU, q_LuU, q_JuU, q_NuX, q_FuX, q_PuX, q_OuX, q_AuX, q_RuX, q_LuX, q_JuX, q_NuR4, q_FuR4, q_PuR4, q_OuR4, q_AuR4, q_RuR4, q_LuR4, q_JuR4, Nat.reduceEqDiff, reduceIte, and_true, true_and, and_false, false_and, and_self, if_true, if_false, not_true_eq_false, not_false_eq_true]; exact e1) (by omega) (by omega) ⟨fun c => ?_, fun c => ?_⟩⟩
    · rw [q_nle (by omega) (by omega)] at c
      have : k = min hn (H g) := by omega
      subst this
      exact fin F hF
    · rw [q_nle (by omega) (by omega)] at c
      obtain ⟨v, e⟩ := q_ixc (g := g) (k := k) hg (by omega)
      have hU := QM_at hF hg (show k < 20 by omega)
      rw [Nat.zero_add] at hU
      rw [e]
      refine ⟨v, v, fun u hu x hx => ?_⟩
      subst hu
      subst hx
      rw [q_AB, hU, zuA_fuse, q_os (by omega)]
      have := QM_s hF hg (show k < 20 by omega)
      rw [Nat.zero_add] at this
      exact ih (k + 1) _ (by omega) (by omega) this
theorem l_mark {P : Int32 → zTs → Prop} {X : Nat → zTs → Prop} {st : zTs} {i hn f t : Nat} {sd T : Int32} {H : Nat → Nat} {U : Nat → Int32} (ht : t < 12) (hn20 : hn ≤ 20) (hH : ∀ g, g < 12 → zgA st 56 i g = Int32.ofNat (H g) ∧ H g ≤ 20) (fin : ∀ F', QM U (1 <<< (sd &&& 31)) 0 (fun g => min hn (H g)) f (t + 1) 0 F' → P T (zuB st 60 i F')) : ∀ (m g : Nat) (F : Nat → Int32), f ≤ g → g ≤ t + 1 → t + 1 - g < m → QM U (1 <<< (sd &&& 31)) 0 (fun g => min hn (H g)) f g 0 F → w_X11_use_98 P X m (zuB st 60 i F) sd (Int32.ofNat t) (Int32.ofNat hn) i T (Int32.ofNat g) := by
  intro m
  induction m with
  | zero => intro g F h0 h1 h2; omega
  | succ m ih =>
    intro g F h0 h1 h2 hF
    rw [w_X11_use_98]
    refine ⟨fun c => ?_, fun c => ?_⟩
    · rw [q_nlt (by omega) (by omega)] at c
      have e : g = t + 1 := by omega
      subst e
      exact fin F hF
    · rw [q_nlt (by omega) (by omega)] at c
      refine l_mark1 (f := f) (U := U) (by omega) hn20 hH (fun F' hF' x hx => ?_) zfu 0 F (by omega) (by unfold zfu; omega) hF
      subst hx
      rw [q_os (by omega)]
      exact ih (g + 1) F' (by omega) (by omega) (by omega) (QM_n h0 hF')
theorem lm_mark1 {P : Int32 → zTs → Prop} {K : zTs → Int32 → Int32 → Int32 → Int32 → Int32 → Int32 → Prop} {st : zTs} {a sd to T : Int32} {g hn f : Nat} {H : Nat → Nat} {U : Nat → Int32} {O : Nat → Int32} (ha : ¬ a < 0) (hi : a.toNatClampNeg < 6) (hg : g < 12) (hn20 : hn ≤ 20) (hH : ∀ g, g < 12 → zgA st 144 0 (12 * a.toNatClampNeg + g) = Int32.ofNat (H g) ∧ H g ≤ 20) (fin : ∀ F', QM U (1 <<< (sd &&& 31)) (240 * a.toNatClampNeg) (fun g => min hn (H g)) f g (min hn (H g)) F' → (∀ c, (c < 240 * a.toNatClampNeg ∨ 240 * a.toNatClampNeg + 240 ≤ c) → F' c = O c) → K (zuB st 148 0 F') a sd to (Int32.ofNat hn) T (Int32.ofNat g + 1)) : ∀ (m k : Nat) (F : Nat → Int32), k ≤ min hn (H g) → min hn (H g) - k < m → QM U (1 <<< (sd &&& 31)) (240 * a.toNatClampNeg) (fun g => min hn (H g)) f g k F → (∀ c, (c < 240 * a.toNatClampNeg ∨ 240 * a.toNatClampNeg + 240 ≤ c) → F c = O c) → w_X12_use_190 P K m (zuB st 148 0 F) a sd to (Int32.ofNat hn) T (Int32.ofNat g) (Int32.ofNat k) := by
  intro m
  induction m with
  | zero => intro k F h0 h1; omega
  | succ m ih =>
    intro k F h0 h1 hF hO
    obtain ⟨e1, e2⟩ := hH g hg
    obtain ⟨v12, e12⟩ := q_ix12 ha hi hg
    have eA : zgA (zuB st 148 0 F) 144 0 (12 * a + Int32.ofNat g).toNatClampNeg = Int32.ofNat (H g) := by
      rw [e12]; simp only [q_NuF, q_FuF, q_PuF, q_OuF, q_AuF, q_RuF, q_LuF, q_JuF, q_NuP, q_FuP, q_PuP, q_OuP, q_AuP, q_RuP, q_LuP, q_JuP, q_NuO, q_FuO, q_PuO, q_OuO, q_AuO, q_RuO, q_LuO, q_JuO, q_NuA, q_FuA, q_PuA, q_OuA, q_AuA, q_RuA, q_LuA, q_JuA, q_NuR, q_FuR, q_PuR, q_OuR, q_AuR, q_RuR, q_LuR, q_JuR, q_NuJ, q_FuJ, q_PuJ, q_OuJ, q_AuJ, q_RuJ, q_LuJ, q_JuJ, q_NuL, q_FuL, q_PuL, q_OuL, q_AuL, q_RuL, q_LuL, q_JuL, q_NuB, q_FuB, q_PuB, q_OuB, q_AuB, q_RuB, q_LuB, q_JuB, q_NuW, q_FuW, q_PuW, q_OuW, q_AuW, q_RuW, q_LuW, q_JuW, q_NuV, q_FuV, q_PuV, q_OuV, q_AuV, q_RuV, q_LuV, q_JuV, q_NuU, q_FuU, q_PuU, q_OuU, q_AuU, q_RuU, q_LuU, q_JuU, q_NuX, q_FuX, q_PuX, q_OuX, q_AuX, q_RuX, q_LuX, q_JuX, q_NuR4, q_FuR4, q_PuR4, q_OuR4, q_AuR4, q_RuR4, q_LuR4, q_JuR4, Nat.reduceEqDiff, reduceIte, and_true, true_and, and_false, false_and, and_self, if_true, if_false, not_true_eq_false, not_false_eq_true]; exact e1
    have done : min hn (H g) ≤ k → w_X12_use_244 P K (zuB st 148 0 F) a sd to (Int32.ofNat hn) T (Int32.ofNat g) := by
      intro c x hx
      subst hx
      have : k = min hn (H g) := by omega
      subst this
      exact fin F hF hO
    rw [w_X12_use_190, eA]
    refine ⟨fun c => ?_, fun c => ⟨v12, fun c2 => ?_, fun c2 => ?_⟩⟩
    · rw [q_nle (by omega) (by omega)] at c
      exact done (by omega)
    · rw [q_nle (by omega) (by omega)] at c2
      exact done (by omega)
    · rw [q_nle (by omega) (by omega)] at c c2
      obtain ⟨v, e⟩ := q_ix20 (g := g) (k := k) ha hi hg (by omega)
      have hU := QM_at hF hg (show k < 20 by omega)
      rw [e]
      refine ⟨v, v, fun u hu x hx => ?_⟩
      subst hu
      subst hx
      rw [q_AB, hU, zuA_fuse, q_os (by omega)]
      refine ih (k + 1) _ (by omega) (by omega) (QM_s hF hg (show k < 20 by omega)) (fun c' hc' => ?_)
      rw [if_neg (by omega)]
      exact hO c' hc'
/-- the end of the model's use -/
theorem lm_mark {P : Int32 → zTs → Prop} {st : zTs} {a sd T : Int32} {hn f t : Nat} {H : Nat → Nat} {U O : Nat → Int32} (ha : ¬ a < 0) (hi : a.toNatClampNeg < 6) (ht : t < 12) (hn20 : hn ≤ 20) (hH : ∀ g, g < 12 → zgA st 144 0 (12 * a.toNatClampNeg + g) = Int32.ofNat (H g) ∧ H g ≤ 20) (fin : ∀ F', QM U (1 <<< (sd &&& 31)) (240 * a.toNatClampNeg) (fun g => min hn (H g)) f (t + 1) 0 F' → (∀ c, (c < 240 * a.toNatClampNeg ∨ 240 * a.toNatClampNeg + 240 ≤ c) → F' c = O c) → ((T ≤ 0 → P T (zuB st 148 0 F')) ∧ (¬ T ≤ 0 → vp_in ((2 * a) + sd) 12 ∧ (vp_in (((2 * a) + 1) - sd) 12 ∧ (w_X12_pays (zuB st 148 0 F') (zgA (zuB st 148 0 F') 101 0 ((2 * a) + sd : Int32).toNatClampNeg) (zgA (zuB st 148 0 F') 101 0 (((2 * a) + 1) - sd : Int32).toNatClampNeg) T (fun (s280 : zTs) => (P T s280))))))) : ∀ (m g : Nat) (F : Nat → Int32), f ≤ g → g ≤ t + 1 → t + 1 - g < m → QM U (1 <<< (sd &&& 31)) (240 * a.toNatClampNeg) (fun g => min hn (H g)) f g 0 F → (∀ c, (c < 240 * a.toNatClampNeg ∨ 240 * a.toNatClampNeg + 240 ≤ c) → F c = O c) → w_X12_use_180 P m (zuB st 148 0 F) a sd (Int32.ofNat t) (Int32.ofNat hn) T (Int32.ofNat g) := by
  intro m
  induction m with
  | zero => intro g F h0 h1 h2; omega
  | succ m ih =>
    intro g F h0 h1 h2 hF hO
    rw [w_X12_use_180]
    refine ⟨fun c => ?_, fun c => ?_⟩
    · rw [q_nlt (by omega) (by omega)] at c
      have e : g = t + 1 := by omega
      subst e
      exact fin F hF hO
    · rw [q_nlt (by omega) (by omega)] at c
      refine lm_mark1 (f := f) (U := U) (O := O) ha hi (by omega) hn20 hH (fun F' hF' hO' => ?_) zfu 0 F (by omega) (by unfold zfu; omega) hF hO
      rw [q_os (by omega)]
      exact ih (g + 1) F' (by omega) (by omega) (by omega) (QM_n h0 hF') hO'
/-- sums of what is due -/
def qds (W : Nat → Nat → Int32) (g : Nat) : Nat → Int32
  | 0 => 0
  | k + 1 => qds W g k + W g k
def qdt (W : Nat → Nat → Int32) (nk : Nat → Nat) (f : Nat) : Nat → Int32
  | 0 => 0
  | j + 1 => qdt W nk f j + qds W (f + j) (nk (f + j))
def qwv (s : zTs) (i : Nat) (fade today sd : Int32) (g k : Nat) : Int32 := if ((zgA s 60 i (20 * g + k) >>> (sd &&& 31)) &&& 1) = 0 then qcl fade today (zgA s 58 i (20 * g + k)) (zgA s 59 i (20 * g + k)) / 2 else 0
theorem qds_hi {W : Nat → Nat → Int32} {g n : Nat} (hW : ∀ k, k < n → 0 ≤ (W g k).toInt ∧ (W g k).toInt ≤ 50000) (hn : n ≤ 20) : ∀ k, k ≤ n → 0 ≤ (qds W g k).toInt ∧ (qds W g k).toInt ≤ 50000 * k := by
  intro k
  induction k with
  | zero => intro _; show 0 ≤ (0 : Int32).toInt ∧ (0 : Int32).toInt ≤ 50000 * ((0 : Nat) : Int); exact ⟨by decide, by decide⟩
  | succ k ih =>
    intro hk
    obtain ⟨i1, i2⟩ := ih (by omega)
    obtain ⟨w1, w2⟩ := hW k (by omega)
    rw [qds, q_add (by omega) (by omega)]
    omega
theorem qdt_hi {W : Nat → Nat → Int32} {nk : Nat → Nat} {f t : Nat} (hW : ∀ g, f ≤ g → g ≤ t → ∀ k, k < nk g → 0 ≤ (W g k).toInt ∧ (W g k).toInt ≤ 50000) (hn : ∀ g, nk g ≤ 20) (ht : t < 12) : ∀ j, f + j ≤ t + 1 → 0 ≤ (qdt W nk f j).toInt ∧ (qdt W nk f j).toInt ≤ 1000000 * j := by
  intro j
  induction j with
  | zero => intro _; show 0 ≤ (0 : Int32).toInt ∧ (0 : Int32).toInt ≤ 1000000 * ((0 : Nat) : Int); exact ⟨by decide, by decide⟩
  | succ j ih =>
    intro hj
    obtain ⟨i1, i2⟩ := ih (by omega)
    have := hn (f + j)
    obtain ⟨w1, w2⟩ := qds_hi (hW (f + j) (by omega) (by omega)) (hn (f + j)) (nk (f + j)) (Nat.le_refl _)
    rw [qdt, q_add (by omega) (by omega)]
    omega
theorem l_due1 {P : Int32 → Prop} {st : zTs} {i g hn : Nat} {sd today fade : Int32} {H : Nat → Nat} (hg : g < 12) (hn20 : hn ≤ 20) (hH : zgA st 56 i g = Int32.ofNat (H g) ∧ H g ≤ 20) (fin : P (qds (qwv st i fade today sd) g (min hn (H g)))) : ∀ (m k : Nat) (x : Int32), k ≤ min hn (H g) → min hn (H g) - k < m → x = qds (qwv st i fade today sd) g k → w_X8_dueForUse_6 P st m i (Int32.ofNat g) sd (Int32.ofNat hn) today fade x (Int32.ofNat k) := by
  intro m
  induction m with
  | zero => intro k x h0 h1; omega
  | succ m ih =>
    intro k x h0 h1 hx
    obtain ⟨e1, e2⟩ := hH
    rw [w_X8_dueForUse_6, q_on (by omega)]
    refine ⟨q_nv hg (by omega), i_min (a := hn) (b := H g) rfl e1 (by omega) (by omega) ⟨fun c => ?_, fun c => ?_⟩⟩
    · rw [q_nle (by omega) (by omega)] at c
      have : k = min hn (H g) := by omega
      subst this
      rw [hx]
      exact fin
    · rw [q_nle (by omega) (by omega)] at c
      obtain ⟨v, e⟩ := q_ixc (g := g) (k := k) hg (by omega)
      have nx := ih (k + 1) (x + qwv st i fade today sd g k) (by omega) (by omega) (by rw [hx, qds])
      unfold qwv at nx
      unfold w_X8_usersOf
      rw [e]
      refine ⟨v, fun c2 => ?_, fun c2 => ?_⟩
      · rw [if_pos c2] at nx
        refine i_valueOf hg (by omega) (fun y hy z hz => ?_)
        subst hy
        subst hz
        rw [q_os (by omega)]
        exact nx
      · rw [if_neg c2, Int32.add_zero] at nx
        intro z hz
        subst hz
        rw [q_os (by omega)]
        exact nx
theorem l_due {P : Int32 → zTs → Prop} {X : Nat → zTs → Prop} {st : zTs} {i hn f t : Nat} {sd f' : Int32} {H : Nat → Nat} (ht : t < 12) (hn20 : hn ≤ 20) (hH : ∀ g, g < 12 → zgA st 56 i g = Int32.ofNat (H g) ∧ H g ≤ 20) (fin : w_X8_ownerOf st i sd (fun (r74 : Int32) => (w_X8_ownerOf st i (1 - sd) (fun (r82 : Int32) => (w_X11_payUnlessFull st r74 r82 (qdt (qwv st i (zgF st 24 (zgP st 10 0 16) 9) (zgF st 10 0 15) sd) (fun g => min hn (H g)) f (t + 1 - f)) (fun (r87 : Int32) (s87 : zTs) => ((r87 = 0 → P (-1) s87) ∧ (¬ r87 = 0 → w_X11_use_98 P X zfu s87 sd (Int32.ofNat t) (Int32.ofNat hn) i (qdt (qwv st i (zgF st 24 (zgP st 10 0 16) 9) (zgF st 10 0 15) sd) (fun g => min hn (H g)) f (t + 1 - f)) f')))))))) : ∀ (m g : Nat) (x : Int32), f ≤ g → g ≤ t + 1 → t + 1 - g < m → x = qdt (qwv st i (zgF st 24 (zgP st 10 0 16) 9) (zgF st 10 0 15) sd) (fun g => min hn (H g)) f (g - f) → w_X11_use_31 P X m st sd f' (Int32.ofNat t) (Int32.ofNat hn) i x (Int32.ofNat g) := by
  intro m
  induction m with
  | zero => intro g x h0 h1 h2; omega
  | succ m ih =>
    intro g x h0 h1 h2 hx
    rw [w_X11_use_31]
    refine ⟨fun c => ?_, fun c => ?_⟩
    · rw [q_nlt (by omega) (by omega)] at c
      have e : g = t + 1 := by omega
      subst e
      rw [hx]
      exact fin
    · rw [q_nlt (by omega) (by omega)] at c
      refine l_due1 (H := H) (by omega) hn20 (hH g (by omega)) (fun y hy z hz => ?_) zfu 0 0 (by omega) (by unfold zfu; omega) rfl
      subst hy
      subst hz
      rw [q_os (by omega)]
      refine ih (g + 1) _ (by omega) (by omega) (by omega) ?_
      rw [show g + 1 - f = (g - f) + 1 by omega, qdt, show f + (g - f) = g by omega, hx]
theorem lm_due1 {P : Int32 → zTs → Prop} {K : zTs → Int32 → Int32 → Int32 → Int32 → Int32 → Int32 → Int32 → Prop} {st : zTs} {a sd fr to T : Int32} {g hn : Nat} {H : Nat → Nat} {W : Nat → Nat → Int32} (ha : ¬ a < 0) (hi : a.toNatClampNeg < 6) (hg : g < 12) (hn20 : hn ≤ 20) (hH : zgA st 144 0 (12 * a.toNatClampNeg + g) = Int32.ofNat (H g) ∧ H g ≤ 20) (hW : ∀ k, k < H g → ∀ (x : Int32) (Q : Int32 → Prop), vp_in x 1440 → x.toNatClampNeg = 240 * a.toNatClampNeg + (20 * g + k) → Q (W g k) → w_X12_isDue st x sd (fun (r130 : Int32) => ((r130 = 0 → Q 0) ∧ (¬ r130 = 0 → w_X12_valueOf st x (fun (r139 : Int32) => Q (r139 / 2))))))
    (fin : K st a sd fr to (Int32.ofNat hn) (T + qds W g (min hn (H g))) (Int32.ofNat g + 1)) : ∀ (m k : Nat) (x : Int32), k ≤ min hn (H g) → min hn (H g) - k < m → x = T + qds W g k → w_X12_use_85 P K m st a sd fr to (Int32.ofNat hn) x (Int32.ofNat g) (Int32.ofNat k) := by
  intro m
  induction m with
  | zero => intro k x h0 h1; omega
  | succ m ih =>
    intro k x h0 h1 hx
    obtain ⟨e1, e2⟩ := hH
    obtain ⟨v12, e12⟩ := q_ix12 ha hi hg
    have done : min hn (H g) ≤ k → w_X12_use_157 P K st a sd fr to (Int32.ofNat hn) x (Int32.ofNat g) := by
      intro c y hy
      subst hy
      have : k = min hn (H g) := by omega
      subst this
      rw [hx]
      exact fin
    rw [w_X12_use_85, e12, e1]
    refine ⟨fun c => ?_, fun c => ⟨v12, fun c2 => ?_, fun c2 y hy => ?_⟩⟩
    · rw [q_nle (by omega) (by omega)] at c
      exact done (by omega)
    · rw [q_nle (by omega) (by omega)] at c2
      exact done (by omega)
    · rw [q_nle (by omega) (by omega)] at c c2
      obtain ⟨v, e⟩ := q_ix20 (g := g) (k := k) ha hi hg (by omega)
      subst hy
      refine hW k (by omega) _ (fun b0 => w_X12_use_148 P K (w_X12_use_85 P K m) st a sd fr to (Int32.ofNat hn) (Int32.ofNat g) (Int32.ofNat k) b0 x) v e ?_
      intro y hy z hz
      subst hy
      subst hz
      rw [q_os (by omega)]
      refine ih (k + 1) _ (by omega) (by omega) ?_
      rw [hx, qds, Int32.add_assoc]
theorem lm_due {P : Int32 → zTs → Prop} {st : zTs} {a sd fr : Int32} {hn f t : Nat} {H : Nat → Nat} {W : Nat → Nat → Int32} (ha : ¬ a < 0) (hi : a.toNatClampNeg < 6) (ht : t < 12) (hn20 : hn ≤ 20) (hH : ∀ g, g < 12 → zgA st 144 0 (12 * a.toNatClampNeg + g) = Int32.ofNat (H g) ∧ H g ≤ 20) (hW : ∀ g, g < 12 → ∀ k, k < H g → ∀ (x : Int32) (Q : Int32 → Prop), vp_in x 1440 → x.toNatClampNeg = 240 * a.toNatClampNeg + (20 * g + k) → Q (W g k) → w_X12_isDue st x sd (fun (r130 : Int32) => ((r130 = 0 → Q 0) ∧ (¬ r130 = 0 → w_X12_valueOf st x (fun (r139 : Int32) => Q (r139 / 2))))))
    (fin : (qdt W (fun g => min hn (H g)) f (t + 1 - f) ≤ 0 → w_X12_use_177 P st a sd fr (Int32.ofNat t) (Int32.ofNat hn) (qdt W (fun g => min hn (H g)) f (t + 1 - f))) ∧ (¬ qdt W (fun g => min hn (H g)) f (t + 1 - f) ≤ 0 → w_X12_isFull st (fun (r169 : Int32) => ((r169 = 0 → w_X12_use_177 P st a sd fr (Int32.ofNat t) (Int32.ofNat hn) (qdt W (fun g => min hn (H g)) f (t + 1 - f))) ∧ (¬ r169 = 0 → P (-1) st))))) : ∀ (m g : Nat) (x : Int32), f ≤ g → g ≤ t + 1 → t + 1 - g < m → x = qdt W (fun g => min hn (H g)) f (g - f) → w_X12_use_75 P m st a sd fr (Int32.ofNat t) (Int32.ofNat hn) x (Int32.ofNat g) := by
  intro m
  induction m with
  | zero => intro g x h0 h1 h2; omega
  | succ m ih =>
    intro g x h0 h1 h2 hx
    rw [w_X12_use_75]
    refine ⟨fun c => ?_, fun c => ?_⟩
    · rw [q_nlt (by omega) (by omega)] at c
      have e : g = t + 1 := by omega
      subst e
      rw [hx]
      exact fin
    · rw [q_nlt (by omega) (by omega)] at c
      refine lm_due1 (T := x) (H := H) (W := W) ha hi (by omega) hn20 (hH g (by omega)) (hW g (by omega)) ?_ zfu 0 x (by omega) (by unfold zfu; omega) (by rw [qds, Int32.add_zero])
      rw [q_os (by omega)]
      refine ih (g + 1) _ (by omega) (by omega) (by omega) ?_
      rw [show g + 1 - f = (g - f) + 1 by omega, qdt, show f + (g - f) = g by omega, hx]
theorem qcl_hi {fade today D C : Int32} (f0 : 0 ≤ fade) (f1 : fade ≤ 100) (D0 : 0 ≤ D) (D1 : D ≤ today) (t1 : today ≤ 1000000) (C0 : 0 ≤ C) (C1 : C ≤ 100000) : 0 ≤ (qcl fade today D C).toInt ∧ (qcl fade today D C).toInt ≤ 100000 := by
  have hx := qcl_x f0 f1 D0 D1 t1
  have key : ∀ y : Int32, 0 ≤ y → y ≤ 100 → 0 ≤ ((C * y) / 100).toInt ∧ ((C * y) / 100).toInt ≤ 100000 := by
    intro y y0 y1
    rw [Int32.le_iff_toInt_le] at C0 C1 y0 y1
    have z : (0 : Int32).toInt = 0 := rfl
    have s2 : (100 : Int32).toInt = 100 := rfl
    have s3 : (100000 : Int32).toInt = 100000 := rfl
    have pr := q_prod (x := C.toInt) (y := y.toInt) (A := 100000) (B := 100) (by omega) (by omega) (by omega) (by omega) (by omega)
    have pz : 0 ≤ C.toInt * y.toInt := Int.mul_nonneg (by omega) (by omega)
    have e1 : (C * y).toInt = C.toInt * y.toInt := q_mul (by omega) (by omega)
    rw [q_div (by rw [e1]; omega) (by rw [s2]; decide), e1, s2]
    omega
  unfold qcl
  split
  · rename_i c
    exact key _ (Int32.le_of_lt c) hx
  · exact key 0 (by decide) (by decide)
theorem qwv_hi {s : zTs} {i g k : Nat} {fade today sd : Int32} (f0 : 0 ≤ fade) (f1 : fade ≤ 100) (D0 : 0 ≤ zgA s 58 i (20 * g + k)) (D1 : zgA s 58 i (20 * g + k) ≤ today) (t1 : today ≤ 1000000) (C0 : 0 ≤ zgA s 59 i (20 * g + k)) (C1 : zgA s 59 i (20 * g + k) ≤ 100000) : 0 ≤ (qwv s i fade today sd g k).toInt ∧ (qwv s i fade today sd g k).toInt ≤ 50000 := by
  obtain ⟨h1, h2⟩ := qcl_hi f0 f1 D0 D1 t1 C0 C1
  unfold qwv
  split
  · rw [q_div h1 (by decide), show (2 : Int32).toInt = 2 from rfl]; omega
  · exact ⟨by decide, by decide⟩
theorem GC_use {s T : zTs} {i f g : Nat} {bt : Int32} {nk : Nat → Nat} {F F2 : Nat → Int32} (h : GC s) (hi : i < zgN s 20) (hb : bt = 1 ∨ bt = 2) (hF : QM (zgA s 60 i) bt 0 nk f g 0 F) (hF2 : QM (zgA s 60 i) bt (240 * i) nk f g 0 F2) (hO : ∀ c, (c < 240 * i ∨ 240 * i + 240 ≤ c) → F2 c = zgA s 148 0 c)
    (t0 : zgN T 20 = zgN s 20) (t1 : zgF T 10 0 15 = zgF s 10 0 15) (t2 : ∀ k, k = 56 ∨ k = 57 ∨ k = 58 ∨ k = 59 ∨ k = 144 ∨ k = 145 ∨ k = 146 ∨ k = 147 → ∀ i j, zgA T k i j = zgA s k i j) (t3 : ∀ i' j, zgA T 60 i' j = if i' = i then F j else zgA s 60 i' j) (t4 : ∀ j, zgA T 148 0 j = F2 j) : GC T := by
  obtain ⟨k1, k2, k3⟩ := GC_at h hi
  obtain ⟨h1, h2, h3⟩ := h
  have a56 := t2 56 (by decide)
  have a57 := t2 57 (by decide)
  have a58 := t2 58 (by decide)
  have a59 := t2 59 (by decide)
  have a144 := t2 144 (by decide)
  have a145 := t2 145 (by decide)
  have a146 := t2 146 (by decide)
  have a147 := t2 147 (by decide)
  have ceq : ∀ c, c < 240 → F2 (240 * i + c) = F c := by
    intro c hc
    obtain ⟨y1, n1⟩ := hF (c / 20) (c % 20) (by omega) (by omega)
    obtain ⟨y2, n2⟩ := hF2 (c / 20) (c % 20) (by omega) (by omega)
    rw [show 20 * (c / 20) + c % 20 = c by omega] at y1 n1 y2 n2
    rw [Nat.zero_add] at y1 n1
    by_cases z : qmk nk f g 0 (c / 20) (c % 20)
    · rw [y1 z, y2 z]
    · rw [n1 z, n2 z]
  unfold GC
  rw [t0]
  refine ⟨fun i' hi' => ?_, fun g' hg => by rw [a144]; exact h2 g' hg, fun c hc => ?_⟩
  · obtain ⟨x1, x2, x3⟩ := h1 i' hi'
    refine ⟨fun g' hg => by rw [a144, a56]; exact x1 g' hg, fun c hc => ?_, fun g' k hg hk hh => ?_⟩
    · rw [a145, a57, a147, a58, a146, a59, t1, t3, t4]
      obtain ⟨z1, z2, z3, z4, z5⟩ := x2 c hc
      refine ⟨z1, z2, z3, ?_, z5⟩
      by_cases e : i' = i
      · rw [if_pos e, e]; exact ceq c hc
      · rw [if_neg e, hO _ (by omega)]; exact z4
    · rw [a56] at hh
      rw [a57, t3]
      have z := x3 g' k hg hk hh
      by_cases e : i' = i
      · rw [if_pos e]
        subst e
        obtain ⟨y1, n1⟩ := hF g' k hg hk
        rw [Nat.zero_add] at y1 n1
        by_cases q : qmk nk f g 0 g' k
        · rw [y1 q]
          have o11 : (1 : Int32) ||| 1 = 1 := by decide
          have o12 : (1 : Int32) ||| 2 = 3 := by decide
          have o31 : (3 : Int32) ||| 1 = 3 := by decide
          have o32 : (3 : Int32) ||| 2 = 3 := by decide
          have o21 : (2 : Int32) ||| 1 = 3 := by decide
          have o22 : (2 : Int32) ||| 2 = 2 := by decide
          rcases z with ⟨z1, z2⟩ | ⟨z1, z2⟩
          · refine .inl ⟨z1, ?_⟩
            rcases z2 with z2 | z2 <;> rcases hb with hb | hb <;> rw [z2, hb]
            · exact .inl o11
            · exact .inr o12
            · exact .inr o31
            · exact .inr o32
          · refine .inr ⟨z1, ?_⟩
            rcases z2 with z2 | z2 <;> rcases hb with hb | hb <;> rw [z2, hb]
            · exact .inr o21
            · exact .inl o22
            · exact .inr o31
            · exact .inr o32
        · rw [n1 q]; exact z
      · rw [if_neg e]; exact z
  · obtain ⟨z1, z2, z3, z4⟩ := h3 c hc
    rw [a145, a146, a147, t4, hO _ (by omega)]
    exact ⟨z1, z2, z3, z4⟩

theorem im_due {st t : zTs} {a sd : Int32} (m : qmc st t) (hC : GC st) (hD : GD st) (hi : a.toNatClampNeg < zgN st 20) (r10 : zgA st 103 0 10 = zgF st 24 (zgP st 10 0 16) 9) (r20 : 0 ≤ zgF st 24 (zgP st 10 0 16) 9) (r21 : zgF st 24 (zgP st 10 0 16) 9 ≤ 100) (hs : sd = 0 ∨ sd = 1) : ∀ g, g < 12 → ∀ k, k < (zgA st 56 a.toNatClampNeg g).toNatClampNeg → ∀ (x : Int32) (Q : Int32 → Prop), vp_in x 1440 → x.toNatClampNeg = 240 * a.toNatClampNeg + (20 * g + k) → Q (qwv st a.toNatClampNeg (zgF st 24 (zgP st 10 0 16) 9) (zgF st 10 0 15) sd g k) → w_X12_isDue t x sd (fun (r130 : Int32) => ((r130 = 0 → Q 0) ∧ (¬ r130 = 0 → w_X12_valueOf t x (fun (r139 : Int32) => Q (r139 / 2))))) := by
  intro g hg k hk x Q vx ex hq
  obtain ⟨k1, k2, k3⟩ := GC_at hC hi
  have h20 := (k1 g hg).2.2
  obtain ⟨m1, m2, m3, m4, m5, m6, m7, m8⟩ := k2 (20 * g + k) (by omega)
  have bs := k3 g k hg hk
  unfold qwv at hq
  unfold w_X12_isDue
  rw [ex, m.1 145 (by decide), m.1 148 (by decide), m1, m4]
  refine ⟨vx, fun c => ⟨fun _ => ?_, fun z => absurd rfl z⟩, fun c => ⟨vx, fun c2 => ⟨fun z => absurd z (by decide), fun _ => ?_⟩, fun c2 => ⟨fun _ => ?_, fun z => absurd rfl z⟩⟩⟩
  · have nz : ¬ ((zgA st 60 a.toNatClampNeg (20 * g + k) >>> (sd &&& 31)) &&& 1) = 0 := by
      rcases bs with ⟨b1, b2⟩ | ⟨b1, b2⟩
      · rw [b1] at c
        rcases b2 with b2 | b2 <;> rw [b2, ← c] <;> decide
      · rw [b1] at c
        rcases b2 with b2 | b2 <;> rw [b2, ← c] <;> decide
    rw [if_neg nz] at hq
    exact hq
  · rw [if_pos c2] at hq
    refine im_valueOf vx ex ((m.1 103 (by decide) _ _).trans r10) ((m.2 3 (by decide)).trans hD.1) r20 r21 (by rw [m.1 147 (by decide), m2]; exact m5) (by rw [m.1 147 (by decide), m2]; exact m6) hD.2.2 (by rw [m.1 146 (by decide), m3]; exact m7) (by rw [m.1 146 (by decide), m3]; exact m8) ?_
    rw [m.1 147 (by decide), m.1 146 (by decide), m2, m3]
    exact hq
  · rw [if_neg c2] at hq
    exact hq
