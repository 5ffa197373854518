/-! LAYER B: the class's calls against the model's, over the state. Written by wip/whole/b/gen_base.py -/
theorem q_NuF {s : zTs} (k i j : Nat) (x : Int32) : zgN (zuF s k i j x) = zgN s := Eq.trans rfl rfl
theorem q_FuF {s : zTs} (k i j : Nat) (x : Int32) (k' i' j' : Nat) : zgF (zuF s k i j x) k' i' j' = if k' = k ∧ i' = i ∧ j' = j then x else zgF s k' i' j' := by
  show zp2 (zgF s) k i (zp1 (zgF s k i) j x) k' i' j' = _
  unfold zp2 zp1
  by_cases h : k' = k ∧ i' = i
  · rw [if_pos h]
    by_cases hj : j' = j
    · rw [if_pos hj, if_pos ⟨h.1, h.2, hj⟩]
    · rw [if_neg hj, if_neg (fun z => hj z.2.2), h.1, h.2]
  · rw [if_neg h, if_neg (fun z => h ⟨z.1, z.2.1⟩)]
theorem q_PuF {s : zTs} (k i j : Nat) (x : Int32) : zgP (zuF s k i j x) = zgP s := Eq.trans rfl rfl
theorem q_OuF {s : zTs} (k i j : Nat) (x : Int32) : zgO (zuF s k i j x) = zgO s := Eq.trans rfl rfl
theorem q_AuF {s : zTs} (k i j : Nat) (x : Int32) : zgA (zuF s k i j x) = zgA s := Eq.trans rfl rfl
theorem q_RuF {s : zTs} (k i j : Nat) (x : Int32) : zgR (zuF s k i j x) = zgR s := Eq.trans rfl rfl
theorem q_LuF {s : zTs} (k i j : Nat) (x : Int32) : zgL (zuF s k i j x) = zgL s := Eq.trans rfl rfl
theorem q_JuF {s : zTs} (k i j : Nat) (x : Int32) : zgJ (zuF s k i j x) = zgJ s := Eq.trans rfl rfl
theorem q_NuP {s : zTs} (k i j : Nat) (x : Nat) : zgN (zuP s k i j x) = zgN s := Eq.trans rfl rfl
theorem q_FuP {s : zTs} (k i j : Nat) (x : Nat) : zgF (zuP s k i j x) = zgF s := Eq.trans rfl rfl
theorem q_PuP {s : zTs} (k i j : Nat) (x : Nat) (k' i' j' : Nat) : zgP (zuP s k i j x) k' i' j' = if k' = k ∧ i' = i ∧ j' = j then x else zgP s k' i' j' := by
  show zp2 (zgP s) k i (zp1 (zgP s k i) j x) k' i' j' = _
  unfold zp2 zp1
  by_cases h : k' = k ∧ i' = i
  · rw [if_pos h]
    by_cases hj : j' = j
    · rw [if_pos hj, if_pos ⟨h.1, h.2, hj⟩]
    · rw [if_neg hj, if_neg (fun z => hj z.2.2), h.1, h.2]
  · rw [if_neg h, if_neg (fun z => h ⟨z.1, z.2.1⟩)]
theorem q_OuP {s : zTs} (k i j : Nat) (x : Nat) : zgO (zuP s k i j x) = zgO s := Eq.trans rfl rfl
theorem q_AuP {s : zTs} (k i j : Nat) (x : Nat) : zgA (zuP s k i j x) = zgA s := Eq.trans rfl rfl
theorem q_RuP {s : zTs} (k i j : Nat) (x : Nat) : zgR (zuP s k i j x) = zgR s := Eq.trans rfl rfl
theorem q_LuP {s : zTs} (k i j : Nat) (x : Nat) : zgL (zuP s k i j x) = zgL s := Eq.trans rfl rfl
theorem q_JuP {s : zTs} (k i j : Nat) (x : Nat) : zgJ (zuP s k i j x) = zgJ s := Eq.trans rfl rfl
theorem q_NuO {s : zTs} (k i j : Nat) (x : Option Nat) : zgN (zuO s k i j x) = zgN s := Eq.trans rfl rfl
theorem q_FuO {s : zTs} (k i j : Nat) (x : Option Nat) : zgF (zuO s k i j x) = zgF s := Eq.trans rfl rfl
theorem q_PuO {s : zTs} (k i j : Nat) (x : Option Nat) : zgP (zuO s k i j x) = zgP s := Eq.trans rfl rfl
theorem q_OuO {s : zTs} (k i j : Nat) (x : Option Nat) (k' i' j' : Nat) : zgO (zuO s k i j x) k' i' j' = if k' = k ∧ i' = i ∧ j' = j then x else zgO s k' i' j' := by
  show zp2 (zgO s) k i (zp1 (zgO s k i) j x) k' i' j' = _
  unfold zp2 zp1
  by_cases h : k' = k ∧ i' = i
  · rw [if_pos h]
    by_cases hj : j' = j
    · rw [if_pos hj, if_pos ⟨h.1, h.2, hj⟩]
    · rw [if_neg hj, if_neg (fun z => hj z.2.2), h.1, h.2]
  · rw [if_neg h, if_neg (fun z => h ⟨z.1, z.2.1⟩)]
theorem q_AuO {s : zTs} (k i j : Nat) (x : Option Nat) : zgA (zuO s k i j x) = zgA s := Eq.trans rfl rfl
theorem q_RuO {s : zTs} (k i j : Nat) (x : Option Nat) : zgR (zuO s k i j x) = zgR s := Eq.trans rfl rfl
theorem q_LuO {s : zTs} (k i j : Nat) (x : Option Nat) : zgL (zuO s k i j x) = zgL s := Eq.trans rfl rfl
theorem q_JuO {s : zTs} (k i j : Nat) (x : Option Nat) : zgJ (zuO s k i j x) = zgJ s := Eq.trans rfl rfl
theorem q_NuA {s : zTs} (k i j : Nat) (x : Int32) : zgN (zuA s k i j x) = zgN s := Eq.trans rfl rfl
theorem q_FuA {s : zTs} (k i j : Nat) (x : Int32) : zgF (zuA s k i j x) = zgF s := Eq.trans rfl rfl
theorem q_PuA {s : zTs} (k i j : Nat) (x : Int32) : zgP (zuA s k i j x) = zgP s := Eq.trans rfl rfl
theorem q_OuA {s : zTs} (k i j : Nat) (x : Int32) : zgO (zuA s k i j x) = zgO s := Eq.trans rfl rfl
theorem q_AuA {s : zTs} (k i j : Nat) (x : Int32) (k' i' j' : Nat) : zgA (zuA s k i j x) k' i' j' = if k' = k ∧ i' = i ∧ j' = j then x else zgA s k' i' j' := by
  show zp2 (zgA s) k i (zp1 (zgA s k i) j x) k' i' j' = _
  unfold zp2 zp1
  by_cases h : k' = k ∧ i' = i
  · rw [if_pos h]
    by_cases hj : j' = j
    · rw [if_pos hj, if_pos ⟨h.1, h.2, hj⟩]
    · rw [if_neg hj, if_neg (fun z => hj z.2.2), h.1, h.2]
  · rw [if_neg h, if_neg (fun z => h ⟨z.1, z.2.1⟩)]
theorem q_RuA {s : zTs} (k i j : Nat) (x : Int32) : zgR (zuA s k i j x) = zgR s := Eq.trans rfl rfl
theorem q_LuA {s : zTs} (k i j : Nat) (x : Int32) : zgL (zuA s k i j x) = zgL s := Eq.trans rfl rfl
theorem q_JuA {s : zTs} (k i j : Nat) (x : Int32) : zgJ (zuA s k i j x) = zgJ s := Eq.trans rfl rfl
theorem q_NuR {s : zTs} (k i j : Nat) (x : Option Nat) : zgN (zuR s k i j x) = zgN s := Eq.trans rfl rfl
theorem q_FuR {s : zTs} (k i j : Nat) (x : Option Nat) : zgF (zuR s k i j x) = zgF s := Eq.trans rfl rfl
theorem q_PuR {s : zTs} (k i j : Nat) (x : Option Nat) : zgP (zuR s k i j x) = zgP s := Eq.trans rfl rfl
theorem q_OuR {s : zTs} (k i j : Nat) (x : Option Nat) : zgO (zuR s k i j x) = zgO s := Eq.trans rfl rfl
theorem q_AuR {s : zTs} (k i j : Nat) (x : Option Nat) : zgA (zuR s k i j x) = zgA s := Eq.trans rfl rfl
theorem q_RuR {s : zTs} (k i j : Nat) (x : Option Nat) (k' i' j' : Nat) : zgR (zuR s k i j x) k' i' j' = if k' = k ∧ i' = i ∧ j' = j then x else zgR s k' i' j' := by
  show zp2 (zgR s) k i (zp1 (zgR s k i) j x) k' i' j' = _
  unfold zp2 zp1
  by_cases h : k' = k ∧ i' = i
  · rw [if_pos h]
    by_cases hj : j' = j
    · rw [if_pos hj, if_pos ⟨h.1, h.2, hj⟩]
    · rw [if_neg hj, if_neg (fun z => hj z.2.2), h.1, h.2]
  · rw [if_neg h, if_neg (fun z => h ⟨z.1, z.2.1⟩)]
theorem q_LuR {s : zTs} (k i j : Nat) (x : Option Nat) : zgL (zuR s k i j x) = zgL s := Eq.trans rfl rfl
theorem q_JuR {s : zTs} (k i j : Nat) (x : Option Nat) : zgJ (zuR s k i j x) = zgJ s := Eq.trans rfl rfl
theorem q_NuJ {s : zTs} (k i j : Nat) (x : Int64) : zgN (zuJ s k i j x) = zgN s := Eq.trans rfl rfl
theorem q_FuJ {s : zTs} (k i j : Nat) (x : Int64) : zgF (zuJ s k i j x) = zgF s := Eq.trans rfl rfl
theorem q_PuJ {s : zTs} (k i j : Nat) (x : Int64) : zgP (zuJ s k i j x) = zgP s := Eq.trans rfl rfl
theorem q_OuJ {s : zTs} (k i j : Nat) (x : Int64) : zgO (zuJ s k i j x) = zgO s := Eq.trans rfl rfl
theorem q_AuJ {s : zTs} (k i j : Nat) (x : Int64) : zgA (zuJ s k i j x) = zgA s := Eq.trans rfl rfl
theorem q_RuJ {s : zTs} (k i j : Nat) (x : Int64) : zgR (zuJ s k i j x) = zgR s := Eq.trans rfl rfl
theorem q_LuJ {s : zTs} (k i j : Nat) (x : Int64) : zgL (zuJ s k i j x) = zgL s := Eq.trans rfl rfl
theorem q_JuJ {s : zTs} (k i j : Nat) (x : Int64) (k' i' j' : Nat) : zgJ (zuJ s k i j x) k' i' j' = if k' = k ∧ i' = i ∧ j' = j then x else zgJ s k' i' j' := by
  show zp2 (zgJ s) k i (zp1 (zgJ s k i) j x) k' i' j' = _
  unfold zp2 zp1
  by_cases h : k' = k ∧ i' = i
  · rw [if_pos h]
    by_cases hj : j' = j
    · rw [if_pos hj, if_pos ⟨h.1, h.2, hj⟩]
    · rw [if_neg hj, if_neg (fun z => hj z.2.2), h.1, h.2]
  · rw [if_neg h, if_neg (fun z => h ⟨z.1, z.2.1⟩)]
theorem q_NuL {s : zTs} (k i x : Nat) : zgN (zuL s k i x) = zgN s := Eq.trans rfl rfl
theorem q_FuL {s : zTs} (k i x : Nat) : zgF (zuL s k i x) = zgF s := Eq.trans rfl rfl
theorem q_PuL {s : zTs} (k i x : Nat) : zgP (zuL s k i x) = zgP s := Eq.trans rfl rfl
theorem q_OuL {s : zTs} (k i x : Nat) : zgO (zuL s k i x) = zgO s := Eq.trans rfl rfl
theorem q_AuL {s : zTs} (k i x : Nat) : zgA (zuL s k i x) = zgA s := Eq.trans rfl rfl
theorem q_RuL {s : zTs} (k i x : Nat) : zgR (zuL s k i x) = zgR s := Eq.trans rfl rfl
theorem q_LuL {s : zTs} (k i x k' i' : Nat) : zgL (zuL s k i x) k' i' = if k' = k ∧ i' = i then x else zgL s k' i' := Eq.trans rfl rfl
theorem q_JuL {s : zTs} (k i x : Nat) : zgJ (zuL s k i x) = zgJ s := Eq.trans rfl rfl
theorem q_NuB {s : zTs} (k i : Nat) (f : Nat → Int32) : zgN (zuB s k i f) = zgN s := Eq.trans rfl rfl
theorem q_FuB {s : zTs} (k i : Nat) (f : Nat → Int32) : zgF (zuB s k i f) = zgF s := Eq.trans rfl rfl
theorem q_PuB {s : zTs} (k i : Nat) (f : Nat → Int32) : zgP (zuB s k i f) = zgP s := Eq.trans rfl rfl
theorem q_OuB {s : zTs} (k i : Nat) (f : Nat → Int32) : zgO (zuB s k i f) = zgO s := Eq.trans rfl rfl
theorem q_AuB {s : zTs} (k i : Nat) (f : Nat → Int32) (k' i' j' : Nat) : zgA (zuB s k i f) k' i' j' = if k' = k ∧ i' = i then f j' else zgA s k' i' j' := by
  show zp2 (zgA s) k i f k' i' j' = _
  unfold zp2
  by_cases h : k' = k ∧ i' = i
  · rw [if_pos h, if_pos h]
  · rw [if_neg h, if_neg h]
theorem q_RuB {s : zTs} (k i : Nat) (f : Nat → Int32) : zgR (zuB s k i f) = zgR s := Eq.trans rfl rfl
theorem q_LuB {s : zTs} (k i : Nat) (f : Nat → Int32) : zgL (zuB s k i f) = zgL s := Eq.trans rfl rfl
theorem q_JuB {s : zTs} (k i : Nat) (f : Nat → Int32) : zgJ (zuB s k i f) = zgJ s := Eq.trans rfl rfl
theorem q_NuW {s : zTs} (k : Nat) (k' : Nat) : zgN (zuW s k) k' = if k' = k then zgN s k + 1 else zgN s k' := Eq.trans rfl rfl
theorem q_FuW {s : zTs} (k : Nat) (k' i' j' : Nat) : zgF (zuW s k) k' i' j' = if k' = k ∧ i' = zgN s k then 0 else zgF s k' i' j' := by
  show zp2 (zgF s) k (zgN s k) (fun _ => 0) k' i' j' = _
  unfold zp2
  by_cases h : k' = k ∧ i' = zgN s k
  · rw [if_pos h, if_pos h]
  · rw [if_neg h, if_neg h]
theorem q_PuW {s : zTs} (k : Nat) : zgP (zuW s k) = zgP s := Eq.trans rfl rfl
theorem q_OuW {s : zTs} (k : Nat) (k' i' j' : Nat) : zgO (zuW s k) k' i' j' = if k' = k ∧ i' = zgN s k then none else zgO s k' i' j' := by
  show zp2 (zgO s) k (zgN s k) (fun _ => none) k' i' j' = _
  unfold zp2
  by_cases h : k' = k ∧ i' = zgN s k
  · rw [if_pos h, if_pos h]
  · rw [if_neg h, if_neg h]
theorem q_AuW {s : zTs} (k : Nat) : zgA (zuW s k) = zgA s := Eq.trans rfl rfl
theorem q_RuW {s : zTs} (k : Nat) : zgR (zuW s k) = zgR s := Eq.trans rfl rfl
theorem q_LuW {s : zTs} (k : Nat) : zgL (zuW s k) = zgL s := Eq.trans rfl rfl
theorem q_JuW {s : zTs} (k : Nat) : zgJ (zuW s k) = zgJ s := Eq.trans rfl rfl
theorem q_NuV {s : zTs} (k n : Nat) (k' : Nat) : zgN (zuV s k n) k' = if k' = k then zgN s k + 1 else zgN s k' := Eq.trans rfl rfl
theorem q_FuV {s : zTs} (k n : Nat) : zgF (zuV s k n) = zgF s := Eq.trans rfl rfl
theorem q_PuV {s : zTs} (k n : Nat) : zgP (zuV s k n) = zgP s := Eq.trans rfl rfl
theorem q_OuV {s : zTs} (k n : Nat) : zgO (zuV s k n) = zgO s := Eq.trans rfl rfl
theorem q_AuV {s : zTs} (k n : Nat) (k' i' j' : Nat) : zgA (zuV s k n) k' i' j' = if k' = k ∧ i' = zgN s k then 0 else zgA s k' i' j' := by
  show zp2 (zgA s) k (zgN s k) (fun _ => 0) k' i' j' = _
  unfold zp2
  by_cases h : k' = k ∧ i' = zgN s k
  · rw [if_pos h, if_pos h]
  · rw [if_neg h, if_neg h]
theorem q_RuV {s : zTs} (k n : Nat) : zgR (zuV s k n) = zgR s := Eq.trans rfl rfl
theorem q_LuV {s : zTs} (k n : Nat) (k' i' : Nat) : zgL (zuV s k n) k' i' = if k' = k ∧ i' = zgN s k then n else zgL s k' i' := Eq.trans rfl rfl
theorem q_JuV {s : zTs} (k n : Nat) : zgJ (zuV s k n) = zgJ s := Eq.trans rfl rfl
theorem q_NuU {s : zTs} (k n : Nat) (k' : Nat) : zgN (zuU s k n) k' = if k' = k then zgN s k + 1 else zgN s k' := Eq.trans rfl rfl
theorem q_FuU {s : zTs} (k n : Nat) : zgF (zuU s k n) = zgF s := Eq.trans rfl rfl
theorem q_PuU {s : zTs} (k n : Nat) : zgP (zuU s k n) = zgP s := Eq.trans rfl rfl
theorem q_OuU {s : zTs} (k n : Nat) : zgO (zuU s k n) = zgO s := Eq.trans rfl rfl
theorem q_AuU {s : zTs} (k n : Nat) : zgA (zuU s k n) = zgA s := Eq.trans rfl rfl
theorem q_RuU {s : zTs} (k n : Nat) (k' i' j' : Nat) : zgR (zuU s k n) k' i' j' = if k' = k ∧ i' = zgN s k then none else zgR s k' i' j' := by
  show zp2 (zgR s) k (zgN s k) (fun _ => none) k' i' j' = _
  unfold zp2
  by_cases h : k' = k ∧ i' = zgN s k
  · rw [if_pos h, if_pos h]
  · rw [if_neg h, if_neg h]
theorem q_LuU {s : zTs} (k n : Nat) (k' i' : Nat) : zgL (zuU s k n) k' i' = if k' = k ∧ i' = zgN s k then n else zgL s k' i' := Eq.trans rfl rfl
theorem q_JuU {s : zTs} (k n : Nat) : zgJ (zuU s k n) = zgJ s := Eq.trans rfl rfl
theorem q_NuX {s : zTs} (k n : Nat) (k' : Nat) : zgN (zuX s k n) k' = if k' = k then zgN s k + 1 else zgN s k' := Eq.trans rfl rfl
theorem q_FuX {s : zTs} (k n : Nat) : zgF (zuX s k n) = zgF s := Eq.trans rfl rfl
theorem q_PuX {s : zTs} (k n : Nat) (k' i' j' : Nat) : zgP (zuX s k n) k' i' j' = if k' = k ∧ i' = zgN s k then n else zgP s k' i' j' := by
  show zp2 (zgP s) k (zgN s k) (fun _ => n) k' i' j' = _
  unfold zp2
  by_cases h : k' = k ∧ i' = zgN s k
  · rw [if_pos h, if_pos h]
  · rw [if_neg h, if_neg h]
theorem q_OuX {s : zTs} (k n : Nat) : zgO (zuX s k n) = zgO s := Eq.trans rfl rfl
theorem q_AuX {s : zTs} (k n : Nat) : zgA (zuX s k n) = zgA s := Eq.trans rfl rfl
theorem q_RuX {s : zTs} (k n : Nat) : zgR (zuX s k n) = zgR s := Eq.trans rfl rfl
theorem q_LuX {s : zTs} (k n : Nat) (k' i' : Nat) : zgL (zuX s k n) k' i' = if k' = k ∧ i' = zgN s k then 0 else zgL s k' i' := Eq.trans rfl rfl
theorem q_JuX {s : zTs} (k n : Nat) : zgJ (zuX s k n) = zgJ s := Eq.trans rfl rfl
theorem q_NuR4 {s : zTs} (n k' : Nat) : zgN (zuR4 s n) k' = if k' = 68 then zgN s 68 + 1 else zgN s k' := Eq.trans rfl rfl
theorem q_FuR4 {s : zTs} (n : Nat) : zgF (zuR4 s n) = zgF s := Eq.trans rfl rfl
theorem q_PuR4 {s : zTs} (n : Nat) : zgP (zuR4 s n) = zgP s := Eq.trans rfl rfl
theorem q_OuR4 {s : zTs} (n : Nat) : zgO (zuR4 s n) = zgO s := Eq.trans rfl rfl
theorem q_AuR4 {s : zTs} (n : Nat) : zgA (zuR4 s n) = zgA s := Eq.trans rfl rfl
theorem q_RuR4 {s : zTs} (n k' i' j' : Nat) : zgR (zuR4 s n) k' i' j' = if k' = 68 ∧ i' = zgN s 68 then (if j' < 4 then some (n + j') else none) else zgR s k' i' j' := by
  show zp2 (zgR s) 68 (zgN s 68) (fun j => if j < 4 then some (n + j) else none) k' i' j' = _
  unfold zp2
  by_cases h : k' = 68 ∧ i' = zgN s 68
  · rw [if_pos h, if_pos h]
  · rw [if_neg h, if_neg h]
theorem q_LuR4 {s : zTs} (n : Nat) : zgL (zuR4 s n) = zgL s := Eq.trans rfl rfl
theorem q_JuR4 {s : zTs} (n : Nat) : zgJ (zuR4 s n) = zgJ s := Eq.trans rfl rfl
theorem q_ti (x : Int32) : x.toInt = Lean.Grind.ToInt.toInt x := rfl
theorem q_tn (x : Int32) : x.toNatClampNeg = (Lean.Grind.ToInt.toInt x).toNat := rfl
theorem q_of {n : Nat} (h : n < 2147483648) : (Int32.ofNat n).toInt = (n : Int) := Int32.toInt_ofNat_of_lt h
theorem q_on {n : Nat} (h : n < 2147483648) : (Int32.ofNat n).toNatClampNeg = n := by
  show (Int32.ofNat n).toInt.toNat = n
  rw [q_of h]; omega
theorem q_vp {i : Int32} {n : Nat} : vp_in i n ↔ 0 ≤ i.toInt ∧ i.toInt < n := by
  unfold vp_in
  rw [Int32.lt_iff_toInt_lt]
  show ¬ (i.toInt < 0 ∨ n ≤ i.toInt.toNat) ↔ _
  omega
theorem q_vpi {i : Int32} {n : Nat} (h0 : 0 ≤ i.toInt) (h1 : i.toInt < n) : vp_in i n := q_vp.mpr ⟨h0, h1⟩
theorem q_ite {c A B : Prop} [Decidable c] : ((c → A) ∧ (¬ c → B)) ↔ if c then A else B := by
  by_cases h : c
  · rw [if_pos h]; exact ⟨fun z => z.1 h, fun z => ⟨fun _ => z, fun n => absurd h n⟩⟩
  · rw [if_neg h]; exact ⟨fun z => z.2 h, fun z => ⟨fun n => absurd n h, fun _ => z⟩⟩
theorem q_add {a b : Int32} (h0 : -2147483648 ≤ a.toInt + b.toInt) (h1 : a.toInt + b.toInt < 2147483648) : (a + b).toInt = a.toInt + b.toInt := by
  rw [Int32.toInt_add]; exact Int.bmod_eq_of_le (by omega) (by omega)
theorem q_sub {a b : Int32} (h0 : -2147483648 ≤ a.toInt - b.toInt) (h1 : a.toInt - b.toInt < 2147483648) : (a - b).toInt = a.toInt - b.toInt := by
  rw [Int32.toInt_sub]; exact Int.bmod_eq_of_le (by omega) (by omega)
theorem q_mul {a b : Int32} (h0 : -2147483648 ≤ a.toInt * b.toInt) (h1 : a.toInt * b.toInt < 2147483648) : (a * b).toInt = a.toInt * b.toInt := by
  rw [Int32.toInt_mul]; exact Int.bmod_eq_of_le (by omega) (by omega)
theorem q_eq {a b : Int32} : a = b ↔ a.toInt = b.toInt := Int32.toInt_inj.symm
theorem q_div {a b : Int32} (h0 : 0 ≤ a.toInt) (h1 : 0 < b.toInt) : (a / b).toInt = a.toInt / b.toInt := by
  rw [Int32.toInt_div, Int.tdiv_eq_ediv_of_nonneg h0]
  have h2 := Int32.toInt_lt a
  have h3 : a.toInt / b.toInt ≤ a.toInt := Int.ediv_le_self _ h0
  have h4 : 0 ≤ a.toInt / b.toInt := Int.ediv_nonneg h0 (Int.le_of_lt h1)
  exact Int.bmod_eq_of_le (by omega) (by omega)
