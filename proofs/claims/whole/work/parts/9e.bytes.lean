/-! bytes of the tape, class and model -/
theorem y_and {x : Int32} (h0 : -128 ≤ x) (h1 : x ≤ 127) : ((x &&& 255) = x ∧ 0 ≤ x) ∨ (x < 0 ∧ 128 ≤ (x &&& 255) ∧ (x &&& 255) ≤ 255) := by
  have k : ∀ a : Fin 16, ∀ b : Fin 16, ((Int32.ofNat (16 * a.1 + b.1) - 128 &&& 255) = Int32.ofNat (16 * a.1 + b.1) - 128 ∧ 0 ≤ Int32.ofNat (16 * a.1 + b.1) - 128) ∨ (Int32.ofNat (16 * a.1 + b.1) - 128 < 0 ∧ 128 ≤ (Int32.ofNat (16 * a.1 + b.1) - 128 &&& 255) ∧ (Int32.ofNat (16 * a.1 + b.1) - 128 &&& 255) ≤ 255) := by decide
  have y0 : 0 ≤ x + 128 := by lia
  have y1 : x + 128 ≤ 255 := by lia
  have e := q_of_toInt (q_t0 y0)
  have l : (x + 128).toNatClampNeg < 256 := by
    have := q_t0 y0
    rw [Int32.le_iff_toInt_le, show (255 : Int32).toInt = 255 from rfl] at y1
    omega
  have k2 := k ⟨(x + 128).toNatClampNeg / 16, by omega⟩ ⟨(x + 128).toNatClampNeg % 16, by omega⟩
  rw [show 16 * ((x + 128).toNatClampNeg / 16) + (x + 128).toNatClampNeg % 16 = (x + 128).toNatClampNeg by omega, ← e, show x + 128 - 128 = x by lia] at k2
  exact k2
def ybt (T : Nat → Int32) (L q : Nat) : Int32 := if q < L then T q &&& 255 else 0
theorem ybt_0 {T : Nat → Int32} {L : Nat} : ∀ j, L ≤ j → ybt T L j = 0 := fun j h => if_neg (by omega)
theorem y_tape {T : Nat → Int32} {L : Nat} (hL : L ≤ 400) (hT : ∀ j, -128 ≤ T j ∧ T j ≤ 127) : yTB T (ybt T L) L := by
  refine ⟨hL, ybt_0, fun q hq => ?_⟩
  have e : ybt T L q = T q &&& 255 := if_pos hq
  rw [e]
  refine ⟨rfl, ?_⟩
  obtain ⟨h1, h2⟩ := hT q
  rcases y_and h1 h2 with ⟨a, b⟩ | ⟨a, b, c⟩
  · rw [a]; exact .inl ⟨rfl, b, h2⟩
  · exact .inr ⟨a, b, c⟩
theorem y_tapeM {t : zTs} {T : Nat → Int32} {L : Nat} (hL : L ≤ 400) (hT : ∀ j, -128 ≤ T j ∧ T j ≤ 127) (h : ∀ j, zgA t 102 0 j = T j) : YB t (ybt T L) L := by
  refine ⟨hL, ybt_0, fun q hq => ?_, fun q => ?_⟩
  · rw [h]
    exact (if_pos hq).symm
  · unfold ybt
    by_cases hq : q < L
    · rw [if_pos hq]
      obtain ⟨h1, h2⟩ := hT q
      rcases y_and h1 h2 with ⟨a, b⟩ | ⟨a, b, c⟩
      · rw [a]; exact ⟨b, by lia⟩
      · exact ⟨by lia, c⟩
    · rw [if_neg hq]; exact ⟨by decide, by decide⟩
