/-! a clause: the rule's object, the conditions kept -/
theorem zuCF {s : zTs} {k i j k' i' : Nat} {x : Int32} {f : Nat → Int32} (h : ¬ k = k') : zuF (zuC s k' i' f) k i j x = zuC (zuF s k i j x) k' i' f := by
  have e : zp2 (zp2 (zgF s) k' i' f) k i (zp1 (zp2 (zgF s) k' i' f k i) j x) = zp2 (zp2 (zgF s) k i (zp1 (zgF s k i) j x)) k' i' f := by
    funext a b c
    rw [zp2_ne (fun z => h z.1)]
    unfold zp2 zp1
    by_cases h1 : a = k ∧ b = i
    · have h2 : ¬ (a = k' ∧ b = i') := fun z => h (h1.1.symm.trans z.1)
      rw [if_pos h1, if_neg h2, if_pos h1]
    · by_cases h2 : a = k' ∧ b = i'
      · rw [if_neg h1, if_pos h2, if_pos h2]
      · rw [if_neg h1, if_neg h2, if_neg h2, if_neg h1]
  show (_, zp2 (zp2 (zgF s) k' i' f) k i (zp1 (zp2 (zgF s) k' i' f k i) j x), _) = (_, zp2 (zp2 (zgF s) k i (zp1 (zgF s k i) j x)) k' i' f, _)
  rw [e]
  rfl
theorem zuBV {s : zTs} {k n k' i' : Nat} {f : Nat → Int32} (h : ¬ k = k') : zuV (zuB s k' i' f) k n = zuB (zuV s k n) k' i' f := by
  have e : zp2 (zp2 (zgA s) k' i' f) k (s.1 k) (fun _ => (0 : Int32)) = zp2 (zp2 (zgA s) k (s.1 k) (fun _ => 0)) k' i' f := by
    funext a b c
    unfold zp2
    by_cases h1 : a = k ∧ b = s.1 k
    · have h2 : ¬ (a = k' ∧ b = i') := fun z => h (h1.1.symm.trans z.1)
      rw [if_pos h1, if_neg h2, if_pos h1]
    · by_cases h2 : a = k' ∧ b = i'
      · rw [if_neg h1, if_pos h2, if_pos h2]
      · rw [if_neg h1, if_neg h2, if_neg h2, if_neg h1]
  show (_, _, _, _, zp2 (zp2 (zgA s) k' i' f) k (s.1 k) (fun _ => (0 : Int32)), _) = (_, _, _, _, zp2 (zp2 (zgA s) k (s.1 k) (fun _ => 0)) k' i' f, _)
  rw [e]
  rfl
theorem zuBB {s : zTs} {k i k' i' : Nat} {f g : Nat → Int32} (h : ¬ k = k') : zuB (zuB s k' i' f) k i g = zuB (zuB s k i g) k' i' f := by
  have e : zp2 (zp2 (zgA s) k' i' f) k i g = zp2 (zp2 (zgA s) k i g) k' i' f := by
    funext a b c
    unfold zp2
    by_cases h1 : a = k ∧ b = i
    · have h2 : ¬ (a = k' ∧ b = i') := fun z => h (h1.1.symm.trans z.1)
      rw [if_pos h1, if_neg h2, if_pos h1]
    · by_cases h2 : a = k' ∧ b = i'
      · rw [if_neg h1, if_pos h2, if_pos h2]
      · rw [if_neg h1, if_neg h2, if_neg h2, if_neg h1]
  show (_, _, _, _, zp2 (zp2 (zgA s) k' i' f) k i g, _) = (_, _, _, _, zp2 (zp2 (zgA s) k i g) k' i' f, _)
  rw [e]
  rfl
theorem YC_oF {s : zTs} {w o j : Nat} {f S : Nat → Int32} {x : Int32} : zuF (YC s w f S) 24 o j x = YC (zuF s 24 o j x) w f S := by
  show zuB (zuF (zuC (zuP s 13 0 6 w) 13 0 f) 24 o j x) 54 0 S = _
  rw [zuCF (by decide)]
  rfl
theorem YC_oA {s : zTs} {w o j : Nat} {f S : Nat → Int32} {x : Int32} : zuA (YC s w f S) 66 o j x = YC (zuA s 66 o j x) w f S := by
  unfold YC
  rw [zuA_comm (by decide)]
  rfl
theorem YC_oR {s : zTs} {w o j : Nat} {f S : Nat → Int32} {x : Option Nat} : zuR (YC s w f S) 68 o j x = YC (zuR s 68 o j x) w f S := rfl
theorem YC_V {s : zTs} {w n : Nat} {f S : Nat → Int32} : zuV (YC s w f S) 69 n = YC (zuV s 69 n) w f S := by
  unfold YC
  rw [zuBV (by decide)]
  rfl
theorem YC_B {s : zTs} {w i : Nat} {f S g : Nat → Int32} : zuB (YC s w f S) 69 i g = YC (zuB s 69 i g) w f S := by
  unfold YC
  rw [zuBB (by decide)]
  rfl
theorem YC_gF {s : zTs} {w k i j : Nat} {f S : Nat → Int32} (h : ¬ k = 13) : zgF (YC s w f S) k i j = zgF s k i j := by unfold YC; simp only [q_NuF, q_FuF, q_PuF, q_OuF, q_AuF, q_RuF, q_LuF, q_JuF, q_NuP, q_FuP, q_PuP, q_OuP, q_AuP, q_RuP, q_LuP, q_JuP, q_NuO, q_FuO, q_PuO, q_OuO, q_AuO, q_RuO, q_LuO, q_JuO, q_NuA, q_FuA, q_PuA, q_OuA, q_AuA, q_RuA, q_LuA, q_JuA, q_NuR, q_FuR, q_PuR, q_OuR, q_AuR, q_RuR, q_LuR, q_JuR, q_NuJ, q_FuJ, q_PuJ, q_OuJ, q_AuJ, q_RuJ, q_LuJ, q_JuJ, q_NuL, q_FuL, q_PuL, q_OuL, q_AuL, q_RuL, q_LuL, q_JuL, q_NuB, q_FuB, q_PuB, q_OuB, q_AuB, q_RuB, q_LuB, q_JuB, q_NuW, q_FuW, q_PuW, q_OuW, q_AuW, q_RuW, q_LuW, q_JuW, q_NuV, q_FuV, q_PuV, q_OuV, q_AuV, q_RuV, q_LuV, q_JuV, q_NuU, q_FuU, q_PuU, q_OuU, q_AuU, q_RuU, q_LuU, q_JuU, q_NuX, q_FuX, q_PuX, q_OuX, q_AuX, q_RuX, q_LuX, q_JuX, q_NuR4, q_FuR4, q_PuR4, q_OuR4, q_AuR4, q_RuR4, q_LuR4, q_JuR4, q_FuC, h, Nat.reduceEqDiff, reduceIte, and_true, true_and, and_false, false_and, and_self, if_true, if_false, not_true_eq_false, not_false_eq_true]
theorem YC_gN {s : zTs} {w k : Nat} {f S : Nat → Int32} : zgN (YC s w f S) k = zgN s k := by unfold YC; simp only [q_NuF, q_FuF, q_PuF, q_OuF, q_AuF, q_RuF, q_LuF, q_JuF, q_NuP, q_FuP, q_PuP, q_OuP, q_AuP, q_RuP, q_LuP, q_JuP, q_NuO, q_FuO, q_PuO, q_OuO, q_AuO, q_RuO, q_LuO, q_JuO, q_NuA, q_FuA, q_PuA, q_OuA, q_AuA, q_RuA, q_LuA, q_JuA, q_NuR, q_FuR, q_PuR, q_OuR, q_AuR, q_RuR, q_LuR, q_JuR, q_NuJ, q_FuJ, q_PuJ, q_OuJ, q_AuJ, q_RuJ, q_LuJ, q_JuJ, q_NuL, q_FuL, q_PuL, q_OuL, q_AuL, q_RuL, q_LuL, q_JuL, q_NuB, q_FuB, q_PuB, q_OuB, q_AuB, q_RuB, q_LuB, q_JuB, q_NuW, q_FuW, q_PuW, q_OuW, q_AuW, q_RuW, q_LuW, q_JuW, q_NuV, q_FuV, q_PuV, q_OuV, q_AuV, q_RuV, q_LuV, q_JuV, q_NuU, q_FuU, q_PuU, q_OuU, q_AuU, q_RuU, q_LuU, q_JuU, q_NuX, q_FuX, q_PuX, q_OuX, q_AuX, q_RuX, q_LuX, q_JuX, q_NuR4, q_FuR4, q_PuR4, q_OuR4, q_AuR4, q_RuR4, q_LuR4, q_JuR4, q_NuC]
theorem YC_gL {s : zTs} {w k i : Nat} {f S : Nat → Int32} : zgL (YC s w f S) k i = zgL s k i := by unfold YC; simp only [q_NuF, q_FuF, q_PuF, q_OuF, q_AuF, q_RuF, q_LuF, q_JuF, q_NuP, q_FuP, q_PuP, q_OuP, q_AuP, q_RuP, q_LuP, q_JuP, q_NuO, q_FuO, q_PuO, q_OuO, q_AuO, q_RuO, q_LuO, q_JuO, q_NuA, q_FuA, q_PuA, q_OuA, q_AuA, q_RuA, q_LuA, q_JuA, q_NuR, q_FuR, q_PuR, q_OuR, q_AuR, q_RuR, q_LuR, q_JuR, q_NuJ, q_FuJ, q_PuJ, q_OuJ, q_AuJ, q_RuJ, q_LuJ, q_JuJ, q_NuL, q_FuL, q_PuL, q_OuL, q_AuL, q_RuL, q_LuL, q_JuL, q_NuB, q_FuB, q_PuB, q_OuB, q_AuB, q_RuB, q_LuB, q_JuB, q_NuW, q_FuW, q_PuW, q_OuW, q_AuW, q_RuW, q_LuW, q_JuW, q_NuV, q_FuV, q_PuV, q_OuV, q_AuV, q_RuV, q_LuV, q_JuV, q_NuU, q_FuU, q_PuU, q_OuU, q_AuU, q_RuU, q_LuU, q_JuU, q_NuX, q_FuX, q_PuX, q_OuX, q_AuX, q_RuX, q_LuX, q_JuX, q_NuR4, q_FuR4, q_PuR4, q_OuR4, q_AuR4, q_RuR4, q_LuR4, q_JuR4, q_LuC]
def YBF (o : Nat) (s t : zTs) : Prop := (∀ k, ¬ k = 69 → zgN t k = zgN s k) ∧ zgN s 69 ≤ zgN t 69 ∧ (∀ k i j, ¬ (k = 24 ∧ i = o) → zgF t k i j = zgF s k i j) ∧ zgP t = zgP s ∧ zgO t = zgO s ∧ (∀ k i j, ¬ (k = 66 ∧ i = o) → ¬ (k = 69 ∧ zgN s 69 ≤ i) → zgA t k i j = zgA s k i j) ∧ (∀ k i j, ¬ (k = 68 ∧ i = o) → zgR t k i j = zgR s k i j) ∧ (∀ k i, ¬ (k = 69 ∧ zgN s 69 ≤ i) → zgL t k i = zgL s k i) ∧ zgJ t = zgJ s
theorem YBF_rf {o : Nat} {s : zTs} : YBF o s s := ⟨fun _ _ => rfl, Nat.le_refl _, fun _ _ _ _ => rfl, rfl, rfl, fun _ _ _ _ _ => rfl, fun _ _ _ _ => rfl, fun _ _ _ => rfl, rfl⟩
theorem YBF_tr {o : Nat} {s t u : zTs} (a : YBF o s t) (b : YBF o t u) : YBF o s u := by
  obtain ⟨a1, a2, a3, a4, a5, a6, a7, a8, a9⟩ := a
  obtain ⟨b1, b2, b3, b4, b5, b6, b7, b8, b9⟩ := b
  exact ⟨fun k h => (b1 k h).trans (a1 k h), by omega, fun k i j h => (b3 k i j h).trans (a3 k i j h), b4.trans a4, b5.trans a5, fun k i j h g => (b6 k i j h (fun z => g ⟨z.1, by omega⟩)).trans (a6 k i j h g), fun k i j h => (b7 k i j h).trans (a7 k i j h), fun k i g => (b8 k i (fun z => g ⟨z.1, by omega⟩)).trans (a8 k i g), b9.trans a9⟩
theorem YBF_F {o j : Nat} {s t : zTs} {x : Int32} (a : YBF o s t) : YBF o s (zuF t 24 o j x) := by
  refine YBF_tr a ⟨fun _ _ => rfl, Nat.le_refl _, fun k i j' h => ?_, rfl, rfl, fun _ _ _ _ _ => rfl, fun _ _ _ _ => rfl, fun _ _ _ => rfl, rfl⟩
  rw [q_FuF, if_neg (fun z => h ⟨z.1, z.2.1⟩)]
theorem YBF_A {o j : Nat} {s t : zTs} {x : Int32} (a : YBF o s t) : YBF o s (zuA t 66 o j x) := by
  refine YBF_tr a ⟨fun _ _ => rfl, Nat.le_refl _, fun _ _ _ _ => rfl, rfl, rfl, fun k i j' h _ => ?_, fun _ _ _ _ => rfl, fun _ _ _ => rfl, rfl⟩
  rw [q_AuA, if_neg (fun z => h ⟨z.1, z.2.1⟩)]
theorem YBF_R {o j : Nat} {s t : zTs} {x : Option Nat} (a : YBF o s t) : YBF o s (zuR t 68 o j x) := by
  refine YBF_tr a ⟨fun _ _ => rfl, Nat.le_refl _, fun _ _ _ _ => rfl, rfl, rfl, fun _ _ _ _ _ => rfl, fun k i j' h => ?_, fun _ _ _ => rfl, rfl⟩
  rw [q_RuR, if_neg (fun z => h ⟨z.1, z.2.1⟩)]
theorem YBF_V {o n : Nat} {s t : zTs} (a : YBF o s t) : YBF o s (zuV t 69 n) := by
  refine YBF_tr a ⟨fun k h => ?_, ?_, fun _ _ _ _ => rfl, rfl, rfl, fun k i j _ h => ?_, fun _ _ _ _ => rfl, fun k i h => ?_, rfl⟩
  · rw [q_NuV, if_neg h]
  · rw [q_NuV, if_pos rfl]; omega
  · rw [q_AuV, if_neg (fun z => h ⟨z.1, by omega⟩)]
  · rw [q_LuV, if_neg (fun z => h ⟨z.1, by omega⟩)]
theorem YBF_B {o i : Nat} {s t : zTs} {g : Nat → Int32} (hi : zgN s 69 ≤ i) (a : YBF o s t) : YBF o s (zuB t 69 i g) := by
  obtain ⟨a1, a2, a3, a4, a5, a6, a7, a8, a9⟩ := a
  refine ⟨a1, a2, a3, a4, a5, fun k i' j h h' => ?_, a7, a8, a9⟩
  rw [q_AuB, if_neg (fun z => h' ⟨z.1, by omega⟩)]
  exact a6 k i' j h h'
/-- the copy of the steps that are written -/
theorem i_copy {P : Nat → zTs → Prop} {s : zTs} {w n : Nat} {f S : Nat → Int32} (hn : n < 400) (h : ∀ s', (∀ o, YBF o s s') → zgN s' 69 = zgN s 69 + 1 → zgL s' 69 (zgN s 69) = n → (∀ j, j < n → zgA s' 69 (zgN s 69) j = S j) → zgF s' = zgF s → zgR s' = zgR s → (∀ i j, zgA s' 66 i j = zgA s 66 i j) → P (zgN s 69) (YC s' w f S)) : w_J7_copyOf_59c91_r54i (YC s w f S) (Int32.ofNat n) P := by
  refine ⟨fun z => ?_, fun _ => ⟨⟨q_n0 (by omega), by rw [q_on (by omega)]; omega⟩, fun n15 h15 s15 e15 => ⟨fun z => ?_, fun z => ?_⟩⟩⟩
  · have := congrArg Int32.toNatClampNeg z
    rw [q_on (by omega), show (400 : Int32).toNatClampNeg = 400 from rfl] at this
    omega
  · rw [YC_gN] at h15
    subst h15
    rw [q_on (by omega), YC_V] at e15
    subst e15
    rw [q_on (by omega)]
    refine ⟨⟨q_n0 (by omega), by omega, ?_⟩, fun s28 e28 => ?_⟩
    · rw [YC_gL, q_LuV, if_pos ⟨rfl, rfl⟩]; exact Nat.le_refl _
    · rw [YC_B] at e28
      subst e28
      refine h _ (fun o => YBF_B (Nat.le_refl _) (YBF_V YBF_rf)) ?_ ?_ (fun j hj => ?_) rfl rfl (fun i j => ?_)
      · show zgN (zuV s 69 n) 69 = _
        rw [q_NuV, if_pos rfl]
      · show zgL (zuV s 69 n) 69 (zgN s 69) = _
        rw [q_LuV, if_pos ⟨rfl, rfl⟩]
      · rw [q_AuB, if_pos ⟨rfl, rfl⟩]
        unfold va_cpy
        rw [if_pos ⟨Nat.zero_le _, by omega⟩]
        show zgA (YC (zuV s 69 n) w f S) 54 0 (0 + (j - 0)) = S j
        rw [YC_gS, Nat.zero_add, Nat.sub_zero]
      · rw [q_AuB, if_neg (fun z => absurd z.1 (by decide)), q_AuV, if_neg (fun z => absurd z.1 (by decide))]
  · exfalso
    rw [show (400 : Int32) = Int32.ofNat 400 from rfl, Int32.not_lt, q_nle (by omega) (by omega)] at z
    omega
def YRI (s : zTs) (o : Nat) (A4 A6 A9 A10 : Nat → Int32) (k : Nat) : Prop := GRr A4 (fun j => zgF s 24 o j) (fun j => zgA s 66 o j) ∧ ∀ j, j < 4 → ∃ y, zgR s 68 o j = some y ∧ y < zgN s 69 ∧ GRc (A6 j) A9 A10 (zgL s 69 y) (zgA s 69 y) ∧ (A6 j = -1 ∨ (A6 j).toNatClampNeg + zgL s 69 y < k)
theorem GRc_ex {c : Int32} {co li co' li' t : Nat → Int32} {n k : Nat} (he : ∀ i, i < k → co' i = co i ∧ li' i = li i) (hk : c = -1 ∨ c.toNatClampNeg + n < k) (h : GRc c co li n t) : GRc c co' li' n t := by
  rcases h with h | ⟨h1, h2, h3, h4, h5, dp, d0, dn, hd⟩
  · exact .inl h
  · have lk : c.toNatClampNeg + n < k := by
      refine hk.resolve_left (fun e => ?_)
      subst e
      revert h3; decide
    refine .inr ⟨h1, h2, h3, h4, (he _ lk).1.trans h5, dp, d0, dn, fun j hj => ?_⟩
    obtain ⟨x, y⟩ := hd j hj
    rw [(he (c.toNatClampNeg + j) (by omega)).1, (he (c.toNatClampNeg + j) (by omega)).2]
    exact ⟨x, y⟩
theorem GRc_new {k : Nat} {l : List ySt} {co co' li li' t : Nat → Int32} (hw : ywf 19 l) (hl : k + l.length < 800) (h9 : l.length ≤ 400) (a9 : yar (fun x => x.2.1) co co' k l) (a10 : yar (fun x => x.2.2) li li' k l) (hz : co' (k + l.length) = 0) (ht : ∀ j, ∀ h : j < l.length, t j = (l[j]).1) : GRc (Int32.ofNat k) co' li' l.length t := by
  obtain ⟨dp, d0, dn, hd⟩ := hw 0
  have pos : 0 < l.length := by
    rcases Nat.eq_zero_or_pos l.length with c | c
    · rw [c, d0] at dn; omega
    · exact c
  refine .inr ⟨pos, h9, by rw [q_of (by omega)]; omega, by rw [q_of (by omega)]; omega, by rw [q_on (by omega)]; exact hz, dp, d0, dn, fun j hj => ?_⟩
  obtain ⟨x, y⟩ := hd j hj
  refine ⟨by omega, ?_⟩
  rw [q_on (by omega), a9.2 j hj, a10.2 j hj, ht j hj]
  rcases y with ⟨y1, y2, y3, y4⟩ | ⟨y1, y2, y3, y4⟩ | ⟨y1, y2, y3, y4⟩ | ⟨m, c, v, m3, c2, v9, y1, y2, y3, y4⟩
  · exact .inl ⟨y1, y2, y3, y4⟩
  · exact .inr (.inl ⟨y1, y2, y3, y4⟩)
  · exact .inr (.inr (.inl ⟨y1, y2, y3, y4⟩))
  · exact .inr (.inr (.inr ⟨m, c, v, m3, c2, v9, y1, y2, y3, y4⟩))
