/-! the book -/
theorem q_v60 {i : Int32} : vp_in i 60 = (0 ≤ i ∧ i < 60) := by rw [q_vp]; simp only [q_ti]; apply propext; lia
theorem q_v300 {i : Int32} : vp_in i 300 = (0 ≤ i ∧ i < 300) := by rw [q_vp]; simp only [q_ti]; apply propext; lia
/-- a sum as known on a day -/
def qks (mn : Int32) (M S D : Nat → Int32) (p d : Int32) : Nat → Int32 → Int32 → Int32
  | 0, v, _ => v
  | n + 1, v, i => if mn ≤ i then v else qks mn M S D p d n (if M i.toNatClampNeg = p ∧ D i.toNatClampNeg ≤ d then S i.toNatClampNeg else v) (i + 1)
theorem l_sumKnown {P : Int32 → Prop} {st : zTs} {a1 a2 : Int32} (h2 : zgF st 11 0 8 ≤ 60) : ∀ (n : Nat) (v i : Int32), 0 ≤ i → i ≤ zgF st 11 0 8 → (zgF st 11 0 8).toInt - i.toInt < n → P (qks (zgF st 11 0 8) (zgA st 48 0) (zgA st 49 0) (zgA st 50 0) a1 a2 n v i) → w_X1_sumKnown_10 P st n a1 a2 v i := by
  simp only [q_ti]
  intro n
  induction n with
  | zero => intro v i h0 h1 hn h; exfalso; lia
  | succ n ih =>
    intro v i h0 h1 hn h
    rw [w_X1_sumKnown_10]
    rw [qks] at h
    simp only [w_X1_sumKnown_49, forall_eq, q_v60]
    repeat' split at h
    all_goals (repeat' first | (with_reducible intro _) | (with_reducible apply And.intro))
    all_goals first | exact h | lia | (exfalso; lia) | (apply ih <;> first | exact h | lia) | skip
