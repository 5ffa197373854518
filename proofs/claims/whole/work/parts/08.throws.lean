/-- the exceptions by their numbers -/
def zXn : Nat → String := fun k => match k with
  | 0 => "java/lang/IndexOutOfBoundsException"
  | 1 => "java/lang/IllegalArgumentException"
  | _ => "java/lang/IllegalStateException"
def zxn : List String := ["java/lang/RuntimeException", "java/lang/Exception"]
def zbad : List Cond := (zcast.map fun q => Cond.castable q.1 q.2) ++ (zdecl.map fun y => Cond.declares y)
/-- the words of 'new X(text)' and its throw -/
def zTw (own : String) (ik ic kx : Nat) : Prop := Cond.classLink own ik (zXn kx) ∈ zw ∧ Cond.initialized (zXn kx) ∈ zw ∧ (∀ w ∈ (vx_atS own ic (zXn kx) zxn).filter goodWord, w ∈ zw) ∧ (∀ w ∈ (vx_atS own ic (zXn kx) zxn).filter (fun w => !goodWord w), w ∈ zbad) ∧ ∀ w ∈ Cond.classLink own ik (zXn kx) :: Cond.initialized (zXn kx) :: vx_atS own ic (zXn kx) zxn, vx_ot w = true
theorem zmem_of {ws : List Cond} (h1 : ∀ w ∈ ws, w ∈ lw_tbl) (h2 : ws.all goodWord = true) : ∀ w ∈ ws, w ∈ zw := fun w hw => List.mem_filter.mpr ⟨h1 w hw, List.all_eq_true.mp h2 w hw⟩
theorem tw_0 : zTw RX11 445 449 0 := ⟨zw_2 178 (by decide +kernel) (by decide +kernel), zw_1 16 (by decide +kernel) (by decide +kernel), zmem_of (by decide +kernel) (by decide +kernel), by decide +kernel, by decide +kernel⟩
theorem tw_1 : zTw RX11 467 471 1 := ⟨zw_3 75 (by decide +kernel) (by decide +kernel), zw_1 24 (by decide +kernel) (by decide +kernel), zmem_of (by decide +kernel) (by decide +kernel), by decide +kernel, by decide +kernel⟩
theorem tw_2 : zTw RX11 115 119 2 := ⟨zw_2 100 (by decide +kernel) (by decide +kernel), zw_1 15 (by decide +kernel) (by decide +kernel), zmem_of (by decide +kernel) (by decide +kernel), by decide +kernel, by decide +kernel⟩
