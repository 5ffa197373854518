/-! what the reading of a rule leaves as it is -/
def YQ (s t : zTs) : Prop := (∀ k, ¬ k ∈ [24, 66, 68, 69] → zgN t k = zgN s k) ∧ (∀ k i j, ¬ k ∈ [10, 13, 24, 100] → zgF t k i j = zgF s k i j) ∧ (∀ j, ¬ j = 11 → zgF t 10 0 j = zgF s 10 0 j) ∧ (∀ j, ¬ j ∈ [0, 6, 7, 8, 9, 10, 11, 12, 21] → zgF t 100 0 j = zgF s 100 0 j) ∧ (∀ k i j, ¬ k ∈ [10, 13] → zgP t k i j = zgP s k i j) ∧ (∀ k i j, ¬ k = 24 → zgO t k i j = zgO s k i j) ∧ (∀ k i j, ¬ k ∈ [54, 66, 69, 103, 104, 105, 106, 107, 108, 109, 110] → zgA t k i j = zgA s k i j) ∧ (∀ k i j, ¬ k = 68 → zgR t k i j = zgR s k i j) ∧ (∀ k i, ¬ k ∈ [66, 69] → zgL t k i = zgL s k i)
theorem YQ_1 {s t : zTs} (h : YQ s t) (hD : GD s) (hO : GO s) (hS : GS s) (hB : GB s) : GD t ∧ GO t ∧ GS t ∧ GB t := by
  obtain ⟨n, f, f10, f100, p, o, a, r, l⟩ := h
  unfold GD GO GS GB at *
  simp (disch := decide) only [n, f, f10, f100, p, o, a, r, l]
  exact ⟨hD, hO, hS, hB⟩
theorem YQ_2 {s t : zTs} (h : YQ s t) (hW : GW s) (hC : GC s) (hH : GH s) (hG : GG s) : GW t ∧ GC t ∧ GH t ∧ GG t := by
  obtain ⟨n, f, f10, f100, p, o, a, r, l⟩ := h
  unfold GW GC GH GG GL at *
  simp (disch := decide) only [n, f, f10, f100, p, o, a, r, l]
  exact ⟨hW, hC, hH, hG⟩
theorem YQ_K {s t : zTs} (h : YQ s t) (hn : zgN s 24 ≤ zgN t 24) (hf : ∀ i j, i < zgN s 24 → zgF t 24 i j = zgF s 24 i j) (ha : ∀ i j, i < zgN s 24 → zgA t 66 i j = zgA s 66 i j) (hK : GK s) : GK t := by
  obtain ⟨n, f, f10, f100, p, o, a, r, l⟩ := h
  have er : ∀ k, GKr s k → GKr t k := by
    intro k g
    obtain ⟨g1, g2, g3⟩ := g
    have ep : zgP t 21 k 3 = zgP s 21 k 3 := p 21 k 3 (by decide)
    unfold GKr
    rw [ep]
    have e1 : (fun j => zgA t 116 0 (15 * k + j)) = fun j => zgA s 116 0 (15 * k + j) := funext fun j => a 116 0 _ (by decide)
    have e2 : (fun j => zgF t 24 (zgP s 21 k 3) j) = fun j => zgF s 24 (zgP s 21 k 3) j := funext fun j => hf _ j g2
    have e3 : (fun j => zgA t 66 (zgP s 21 k 3) j) = fun j => zgA s 66 (zgP s 21 k 3) j := funext fun j => ha _ j g2
    rw [e1, e2, e3, hf _ 4 g2]
    exact ⟨g1, by omega, g3⟩
  have ev : ∀ k, GKa s k ∧ GKp s k ∧ GKv s k ∧ GKs s k → GKa t k ∧ GKp t k ∧ GKv t k ∧ GKs t k := by
    intro k g
    unfold GKa GKp GKv GKs qla at *
    simp (disch := decide) only [n, f, f10, f100, p, o, a, r, l]
    exact g
  unfold GK at hK ⊢
  obtain ⟨k1, k2, k3, k4, k5, k6, k7⟩ := hK
  unfold GL at k1 ⊢
  simp (disch := decide) only [n, f, f10, f100, p, o, a, r, l]
  exact ⟨k1, k2, k3, k4, k5, fun k hk => ⟨er k (k6 k hk).1, ev k (k6 k hk).2⟩, k7⟩
