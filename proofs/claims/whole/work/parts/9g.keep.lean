/-! what the reading of a rule leaves as it is -/
def YQ (s t : zTs) : Prop := (∀ k, ¬ k ∈ [24, 66, 68, 69] → zgN t k = zgN s k) ∧ (∀ k i j, ¬ k ∈ [10, 13, 24, 100] → zgF t k i j = zgF s k i j) ∧ (∀ j, ¬ j = 11 → zgF t 10 0 j = zgF s 10 0 j) ∧ (∀ j, ¬ j ∈ [0, 6, 7, 8, 9, 10, 11, 12, 21] → zgF t 100 0 j = zgF s 100 0 j) ∧ (∀ k i j, ¬ k ∈ [10, 13] → zgP t k i j = zgP s k i j) ∧ zgO t = zgO s ∧ (∀ k i j, ¬ k ∈ [54, 66, 69, 103, 104, 105, 106, 107, 108, 109, 110] → zgA t k i j = zgA s k i j) ∧ (∀ k i j, ¬ k = 68 → zgR t k i j = zgR s k i j) ∧ (∀ k i, ¬ k = 69 → zgL t k i = zgL s k i)
theorem YQ_1 {s t : zTs} (h : YQ s t) (hD : GD s) (hO : GO s) (hS : GS s) (hB : GB s) : GD t ∧ GO t ∧ GS t ∧ GB t := by
  obtain ⟨n, f, f10, f100, p, o, a, r, l⟩ := h
  unfold GD GO GS GB at *
  simp (disch := decide) only [n, f, f10, f100, p, o, a, r, l]
  exact ⟨hD, hO, hS, hB⟩
theorem YQ_2 {s t : zTs} (h : YQ s t) (hW : GW s) (hC : GC s) (hH : GH s) (hG : GG s) : GW t ∧ GC t ∧ GH t ∧ GG t := by
  obtain ⟨n, f, f10, f100, p, o, a, r, l⟩ := h
  unfold GW GC GH GG GL at *
  simp (disch := decide) only [n, f, f10, f100, p, o, a, r, l]
  exact ⟨hW, hC, hH, hG⟩
