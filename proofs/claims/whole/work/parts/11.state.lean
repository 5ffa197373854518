/-! THE STATE, by kinds of cells (numbers: wip/whole/gen/kinds.py). N: how many of a kind; F: whole numbers in fields; P: references that are never null, by the number of what they name; O: references or null; A: arrays of whole numbers; R: arrays of references; L: lengths that differ; J: arrays of longs. A cell number i of the kind k has the virtual address k + 256 * i. -/
abbrev zTs : Type := (Nat → Nat) × (Nat → Nat → Nat → Int32) × (Nat → Nat → Nat → Nat) × (Nat → Nat → Nat → Option Nat) × (Nat → Nat → Nat → Int32) × (Nat → Nat → Nat → Option Nat) × (Nat → Nat → Nat) × (Nat → Nat → Nat → Int64)
def zgN (s : zTs) : Nat → Nat := s.1
def zgF (s : zTs) : Nat → Nat → Nat → Int32 := s.2.1
def zgP (s : zTs) : Nat → Nat → Nat → Nat := s.2.2.1
def zgO (s : zTs) : Nat → Nat → Nat → Option Nat := s.2.2.2.1
def zgA (s : zTs) : Nat → Nat → Nat → Int32 := s.2.2.2.2.1
def zgR (s : zTs) : Nat → Nat → Nat → Option Nat := s.2.2.2.2.2.1
def zgL (s : zTs) : Nat → Nat → Nat := s.2.2.2.2.2.2.1
def zgJ (s : zTs) : Nat → Nat → Nat → Int64 := s.2.2.2.2.2.2.2
def zp1 {α : Type} (f : Nat → α) (j : Nat) (x : α) : Nat → α := fun j' => if j' = j then x else f j'
def zp2 {α : Type} (f : Nat → Nat → α) (k i : Nat) (x : α) : Nat → Nat → α := fun k' i' => if k' = k ∧ i' = i then x else f k' i'
theorem zp2_at {α : Type} {f : Nat → Nat → α} {k i : Nat} {x : α} : zp2 f k i x k i = x := if_pos ⟨rfl, rfl⟩
theorem zp2_ne {α : Type} {f : Nat → Nat → α} {k i k' i' : Nat} {x : α} (h : ¬ (k' = k ∧ i' = i)) : zp2 f k i x k' i' = f k' i' := if_neg h
def zuN (s : zTs) (k n : Nat) : zTs := (zp1 s.1 k n, s.2)
def zuF (s : zTs) (k i j : Nat) (x : Int32) : zTs := (s.1, zp2 (zgF s) k i (zp1 (zgF s k i) j x), s.2.2)
def zuP (s : zTs) (k i j : Nat) (x : Nat) : zTs := (s.1, s.2.1, zp2 (zgP s) k i (zp1 (zgP s k i) j x), s.2.2.2)
def zuO (s : zTs) (k i j : Nat) (x : Option Nat) : zTs := (s.1, s.2.1, s.2.2.1, zp2 (zgO s) k i (zp1 (zgO s k i) j x), s.2.2.2.2)
def zuA (s : zTs) (k i j : Nat) (x : Int32) : zTs := (s.1, s.2.1, s.2.2.1, s.2.2.2.1, zp2 (zgA s) k i (zp1 (zgA s k i) j x), s.2.2.2.2.2)
def zuR (s : zTs) (k i j : Nat) (x : Option Nat) : zTs := (s.1, s.2.1, s.2.2.1, s.2.2.2.1, s.2.2.2.2.1, zp2 (zgR s) k i (zp1 (zgR s k i) j x), s.2.2.2.2.2.2)
def zuL (s : zTs) (k i x : Nat) : zTs := (s.1, s.2.1, s.2.2.1, s.2.2.2.1, s.2.2.2.2.1, s.2.2.2.2.2.1, zp2 (zgL s) k i x, s.2.2.2.2.2.2.2)
def zuJ (s : zTs) (k i j : Nat) (x : Int64) : zTs := (s.1, s.2.1, s.2.2.1, s.2.2.2.1, s.2.2.2.2.1, s.2.2.2.2.2.1, s.2.2.2.2.2.2.1, zp2 (zgJ s) k i (zp1 (zgJ s k i) j x))
/-- a new object: its whole numbers are 0, its references null -/
def zuW (s : zTs) (k : Nat) : zTs := (zp1 s.1 k (s.1 k + 1), zp2 (zgF s) k (s.1 k) (fun _ => 0), zgP s, zp2 (zgO s) k (s.1 k) (fun _ => none), s.2.2.2.2)
/-- a new array of whole numbers, of n places -/
def zuV (s : zTs) (k n : Nat) : zTs := (zp1 s.1 k (s.1 k + 1), zgF s, zgP s, zgO s, zp2 (zgA s) k (s.1 k) (fun _ => 0), zgR s, zp2 (zgL s) k (s.1 k) n, zgJ s)
/-- a new array of references, all null -/
def zuU (s : zTs) (k n : Nat) : zTs := (zp1 s.1 k (s.1 k + 1), zgF s, zgP s, zgO s, zgA s, zp2 (zgR s) k (s.1 k) (fun _ => none), zp2 (zgL s) k (s.1 k) n, zgJ s)
/-- which references of an object have been set -/
abbrev zMk : Type := Nat → Nat → Nat → Bool
def zm1 : zMk := fun _ _ _ => true
def zms (mk : zMk) (k i j : Nat) : zMk := zp2 mk k i (zp1 (mk k i) j true)
def zm0 (mk : zMk) (k i : Nat) : zMk := zp2 mk k i (fun _ => false)
def zrs (k : Nat) (r : Nat → Option Nat) : vp_A → vp_A := fun x => (x.1, .inr (.inr (.inr (.inr fun j => (r j).map fun y => k + 256 * y))))
def zif (b : Bool) (v : Value) : Value := if b = true then v else .null
def zc_9 (cA : Nat → ClassId) (mk : Nat → Bool) (i : Nat) (F : Nat → Int32) (Pp : Nat → Nat) (O : Nat → Option Nat) (A : Nat → Int32) (Rr : Nat → Option Nat) (ln : Nat) (J : Nat → Int64) : va_E := .inl (cA 3, 1, .inr (.inl fun j => if j = 0 ∧ i = 0 then Int64.ofNat (cA 9) else 0))
def zc_10 (cA : Nat → ClassId) (mk : Nat → Bool) (i : Nat) (F : Nat → Int32) (Pp : Nat → Nat) (O : Nat → Option Nat) (A : Nat → Int32) (Rr : Nat → Option Nat) (ln : Nat) (J : Nat → Int64) : va_E := .inr (10, [zif (mk 0) (.ref 30), zif (mk 1) (.ref 31), zif (mk 2) (.ref 32), zif (mk 3) (.ref 33), zif (mk 4) (.ref 40), zif (mk 5) (.ref 41), zif (mk 6) (.ref 42), zif (mk 7) (.ref 11), zif (mk 8) (.ref 12), zif (mk 9) (.ref 43), zif (mk 10) (.ref 13), .int (F 11), .int (F 12), .int (F 13), .int (F 14), .int (F 15), zif (mk 16) (.ref (24 + 256 * Pp 16))])
def zc_11 (cA : Nat → ClassId) (mk : Nat → Bool) (i : Nat) (F : Nat → Int32) (Pp : Nat → Nat) (O : Nat → Option Nat) (A : Nat → Int32) (Rr : Nat → Option Nat) (ln : Nat) (J : Nat → Int64) : va_E := .inr (1, [zif (mk 0) (.ref 44), zif (mk 1) (.ref 45), zif (mk 2) (.ref 46), zif (mk 3) (.ref 47), .int (F 4), zif (mk 5) (.ref 48), zif (mk 6) (.ref 49), zif (mk 7) (.ref 50), .int (F 8)])
def zc_12 (cA : Nat → ClassId) (mk : Nat → Bool) (i : Nat) (F : Nat → Int32) (Pp : Nat → Nat) (O : Nat → Option Nat) (A : Nat → Int32) (Rr : Nat → Option Nat) (ln : Nat) (J : Nat → Int64) : va_E := .inr (3, [zif (mk 0) (.ref 51), zif (mk 1) (.ref 52), zif (mk 2) (.ref 53), .int (F 3)])
def zc_13 (cA : Nat → ClassId) (mk : Nat → Bool) (i : Nat) (F : Nat → Int32) (Pp : Nat → Nat) (O : Nat → Option Nat) (A : Nat → Int32) (Rr : Nat → Option Nat) (ln : Nat) (J : Nat → Int64) : va_E := .inr (6, [zif (mk 0) (.ref 43), zif (mk 1) (.ref 54), .int (F 2), .int (F 3), .int (F 4), .int (F 5), zif (mk 6) (.ref (201 + 256 * Pp 6)), .int (F 7), .int (F 8), .int (F 9), zif (mk 10) (.ref (24 + 256 * Pp 10)), .int (F 11), .int (F 12)])
def zc_20 (cA : Nat → ClassId) (mk : Nat → Bool) (i : Nat) (F : Nat → Int32) (Pp : Nat → Nat) (O : Nat → Option Nat) (A : Nat → Int32) (Rr : Nat → Option Nat) (ln : Nat) (J : Nat → Int64) : va_E := .inr (8, [zif (mk 0) (.ref (55 + 256 * i)), zif (mk 1) (.ref (56 + 256 * i)), zif (mk 2) (.ref (57 + 256 * i)), zif (mk 3) (.ref (58 + 256 * i)), zif (mk 4) (.ref (59 + 256 * i)), zif (mk 5) (.ref (60 + 256 * i))])
def zc_21 (cA : Nat → ClassId) (mk : Nat → Bool) (i : Nat) (F : Nat → Int32) (Pp : Nat → Nat) (O : Nat → Option Nat) (A : Nat → Int32) (Rr : Nat → Option Nat) (ln : Nat) (J : Nat → Int64) : va_E := .inr (9, [zif (mk 0) (.ref (20 + 256 * Pp 0)), .int (F 1), .int (F 2), zif (mk 3) (.ref (24 + 256 * Pp 3)), .int (F 4), .int (F 5), .int (F 6), .int (F 7), .int (F 8), .int (F 9), va_rf ((O 10).map fun y => 25 + 256 * y), .int (F 11), zif (mk 12) (.ref (67 + 256 * i)), zif (mk 13) (.ref (61 + 256 * i)), .int (F 14), .int (F 15), .int (F 16), .int (F 17)])
def zc_22 (cA : Nat → ClassId) (mk : Nat → Bool) (i : Nat) (F : Nat → Int32) (Pp : Nat → Nat) (O : Nat → Option Nat) (A : Nat → Int32) (Rr : Nat → Option Nat) (ln : Nat) (J : Nat → Int64) : va_E := .inr (7, [.int (F 0), zif (mk 1) (.ref (62 + 256 * i)), zif (mk 2) (.ref (63 + 256 * i)), .int (F 3)])
def zc_23 (cA : Nat → ClassId) (mk : Nat → Bool) (i : Nat) (F : Nat → Int32) (Pp : Nat → Nat) (O : Nat → Option Nat) (A : Nat → Int32) (Rr : Nat → Option Nat) (ln : Nat) (J : Nat → Int64) : va_E := .inr (2, [zif (mk 0) (.ref (64 + 256 * i)), zif (mk 1) (.ref (65 + 256 * i)), .int (F 2)])
def zc_24 (cA : Nat → ClassId) (mk : Nat → Bool) (i : Nat) (F : Nat → Int32) (Pp : Nat → Nat) (O : Nat → Option Nat) (A : Nat → Int32) (Rr : Nat → Option Nat) (ln : Nat) (J : Nat → Int64) : va_E := .inr (5, [.int (F 0), zif (mk 1) (.ref (66 + 256 * i)), zif (mk 2) (.ref (68 + 256 * i)), .int (F 3), .int (F 4), .int (F 5), .int (F 6), .int (F 7), .int (F 8), .int (F 9), .int (F 10), .int (F 11), .int (F 12), .int (F 13)])
def zc_25 (cA : Nat → ClassId) (mk : Nat → Bool) (i : Nat) (F : Nat → Int32) (Pp : Nat → Nat) (O : Nat → Option Nat) (A : Nat → Int32) (Rr : Nat → Option Nat) (ln : Nat) (J : Nat → Int64) : va_E := .inr (4, [.int (F 0), .int (F 1), .int (F 2)])
def zc_30 (cA : Nat → ClassId) (mk : Nat → Bool) (i : Nat) (F : Nat → Int32) (Pp : Nat → Nat) (O : Nat → Option Nat) (A : Nat → Int32) (Rr : Nat → Option Nat) (ln : Nat) (J : Nat → Int64) : va_E := .inr (0, [.int (F 0), zif (mk 1) (.ref (Pp 1)), .int (F 2)])
def zc_31 (cA : Nat → ClassId) (mk : Nat → Bool) (i : Nat) (F : Nat → Int32) (Pp : Nat → Nat) (O : Nat → Option Nat) (A : Nat → Int32) (Rr : Nat → Option Nat) (ln : Nat) (J : Nat → Int64) : va_E := .inr (0, [.int (F 0), zif (mk 1) (.ref (Pp 1)), .int (F 2)])
def zc_32 (cA : Nat → ClassId) (mk : Nat → Bool) (i : Nat) (F : Nat → Int32) (Pp : Nat → Nat) (O : Nat → Option Nat) (A : Nat → Int32) (Rr : Nat → Option Nat) (ln : Nat) (J : Nat → Int64) : va_E := .inr (0, [.int (F 0), zif (mk 1) (.ref (Pp 1)), .int (F 2)])
def zc_33 (cA : Nat → ClassId) (mk : Nat → Bool) (i : Nat) (F : Nat → Int32) (Pp : Nat → Nat) (O : Nat → Option Nat) (A : Nat → Int32) (Rr : Nat → Option Nat) (ln : Nat) (J : Nat → Int64) : va_E := .inr (0, [.int (F 0), zif (mk 1) (.ref (Pp 1)), .int (F 2)])
def zc_34 (cA : Nat → ClassId) (mk : Nat → Bool) (i : Nat) (F : Nat → Int32) (Pp : Nat → Nat) (O : Nat → Option Nat) (A : Nat → Int32) (Rr : Nat → Option Nat) (ln : Nat) (J : Nat → Int64) : va_E := .inl (cA 4, Pp 0, .inr (.inr (.inr (.inr fun j => if j < ln then some (20 + 256 * j) else none))))
def zc_35 (cA : Nat → ClassId) (mk : Nat → Bool) (i : Nat) (F : Nat → Int32) (Pp : Nat → Nat) (O : Nat → Option Nat) (A : Nat → Int32) (Rr : Nat → Option Nat) (ln : Nat) (J : Nat → Int64) : va_E := .inl (cA 4, Pp 0, .inr (.inr (.inr (.inr fun j => if j < ln then some (21 + 256 * j) else none))))
def zc_36 (cA : Nat → ClassId) (mk : Nat → Bool) (i : Nat) (F : Nat → Int32) (Pp : Nat → Nat) (O : Nat → Option Nat) (A : Nat → Int32) (Rr : Nat → Option Nat) (ln : Nat) (J : Nat → Int64) : va_E := .inl (cA 4, Pp 0, .inr (.inr (.inr (.inr fun j => if j < ln then some (22 + 256 * j) else none))))
def zc_37 (cA : Nat → ClassId) (mk : Nat → Bool) (i : Nat) (F : Nat → Int32) (Pp : Nat → Nat) (O : Nat → Option Nat) (A : Nat → Int32) (Rr : Nat → Option Nat) (ln : Nat) (J : Nat → Int64) : va_E := .inl (cA 4, Pp 0, .inr (.inr (.inr (.inr fun j => if j < ln then some (23 + 256 * j) else none))))
def zc_40 (cA : Nat → ClassId) (mk : Nat → Bool) (i : Nat) (F : Nat → Int32) (Pp : Nat → Nat) (O : Nat → Option Nat) (A : Nat → Int32) (Rr : Nat → Option Nat) (ln : Nat) (J : Nat → Int64) : va_E := .inl (cA 0, 12, .inl A)
def zc_41 (cA : Nat → ClassId) (mk : Nat → Bool) (i : Nat) (F : Nat → Int32) (Pp : Nat → Nat) (O : Nat → Option Nat) (A : Nat → Int32) (Rr : Nat → Option Nat) (ln : Nat) (J : Nat → Int64) : va_E := .inl (cA 0, 12, .inl A)
def zc_42 (cA : Nat → ClassId) (mk : Nat → Bool) (i : Nat) (F : Nat → Int32) (Pp : Nat → Nat) (O : Nat → Option Nat) (A : Nat → Int32) (Rr : Nat → Option Nat) (ln : Nat) (J : Nat → Int64) : va_E := .inl (cA 0, 5, .inl A)
def zc_43 (cA : Nat → ClassId) (mk : Nat → Bool) (i : Nat) (F : Nat → Int32) (Pp : Nat → Nat) (O : Nat → Option Nat) (A : Nat → Int32) (Rr : Nat → Option Nat) (ln : Nat) (J : Nat → Int64) : va_E := .inl (cA 1, 400, .inl A)
def zc_44 (cA : Nat → ClassId) (mk : Nat → Bool) (i : Nat) (F : Nat → Int32) (Pp : Nat → Nat) (O : Nat → Option Nat) (A : Nat → Int32) (Rr : Nat → Option Nat) (ln : Nat) (J : Nat → Int64) : va_E := .inl (cA 0, 300, .inl A)
def zc_45 (cA : Nat → ClassId) (mk : Nat → Bool) (i : Nat) (F : Nat → Int32) (Pp : Nat → Nat) (O : Nat → Option Nat) (A : Nat → Int32) (Rr : Nat → Option Nat) (ln : Nat) (J : Nat → Int64) : va_E := .inl (cA 0, 300, .inl A)
def zc_46 (cA : Nat → ClassId) (mk : Nat → Bool) (i : Nat) (F : Nat → Int32) (Pp : Nat → Nat) (O : Nat → Option Nat) (A : Nat → Int32) (Rr : Nat → Option Nat) (ln : Nat) (J : Nat → Int64) : va_E := .inl (cA 0, 300, .inl A)
def zc_47 (cA : Nat → ClassId) (mk : Nat → Bool) (i : Nat) (F : Nat → Int32) (Pp : Nat → Nat) (O : Nat → Option Nat) (A : Nat → Int32) (Rr : Nat → Option Nat) (ln : Nat) (J : Nat → Int64) : va_E := .inl (cA 0, 300, .inl A)
def zc_48 (cA : Nat → ClassId) (mk : Nat → Bool) (i : Nat) (F : Nat → Int32) (Pp : Nat → Nat) (O : Nat → Option Nat) (A : Nat → Int32) (Rr : Nat → Option Nat) (ln : Nat) (J : Nat → Int64) : va_E := .inl (cA 0, 60, .inl A)
def zc_49 (cA : Nat → ClassId) (mk : Nat → Bool) (i : Nat) (F : Nat → Int32) (Pp : Nat → Nat) (O : Nat → Option Nat) (A : Nat → Int32) (Rr : Nat → Option Nat) (ln : Nat) (J : Nat → Int64) : va_E := .inl (cA 0, 60, .inl A)
def zc_50 (cA : Nat → ClassId) (mk : Nat → Bool) (i : Nat) (F : Nat → Int32) (Pp : Nat → Nat) (O : Nat → Option Nat) (A : Nat → Int32) (Rr : Nat → Option Nat) (ln : Nat) (J : Nat → Int64) : va_E := .inl (cA 0, 60, .inl A)
def zc_51 (cA : Nat → ClassId) (mk : Nat → Bool) (i : Nat) (F : Nat → Int32) (Pp : Nat → Nat) (O : Nat → Option Nat) (A : Nat → Int32) (Rr : Nat → Option Nat) (ln : Nat) (J : Nat → Int64) : va_E := .inl (cA 0, 441, .inl A)
def zc_52 (cA : Nat → ClassId) (mk : Nat → Bool) (i : Nat) (F : Nat → Int32) (Pp : Nat → Nat) (O : Nat → Option Nat) (A : Nat → Int32) (Rr : Nat → Option Nat) (ln : Nat) (J : Nat → Int64) : va_E := .inl (cA 0, 441, .inl A)
def zc_53 (cA : Nat → ClassId) (mk : Nat → Bool) (i : Nat) (F : Nat → Int32) (Pp : Nat → Nat) (O : Nat → Option Nat) (A : Nat → Int32) (Rr : Nat → Option Nat) (ln : Nat) (J : Nat → Int64) : va_E := .inl (cA 0, 20, .inl A)
def zc_54 (cA : Nat → ClassId) (mk : Nat → Bool) (i : Nat) (F : Nat → Int32) (Pp : Nat → Nat) (O : Nat → Option Nat) (A : Nat → Int32) (Rr : Nat → Option Nat) (ln : Nat) (J : Nat → Int64) : va_E := .inl (cA 0, 400, .inl A)
def zc_55 (cA : Nat → ClassId) (mk : Nat → Bool) (i : Nat) (F : Nat → Int32) (Pp : Nat → Nat) (O : Nat → Option Nat) (A : Nat → Int32) (Rr : Nat → Option Nat) (ln : Nat) (J : Nat → Int64) : va_E := .inl (cA 0, 2, .inl A)
def zc_56 (cA : Nat → ClassId) (mk : Nat → Bool) (i : Nat) (F : Nat → Int32) (Pp : Nat → Nat) (O : Nat → Option Nat) (A : Nat → Int32) (Rr : Nat → Option Nat) (ln : Nat) (J : Nat → Int64) : va_E := .inl (cA 0, 12, .inl A)
def zc_57 (cA : Nat → ClassId) (mk : Nat → Bool) (i : Nat) (F : Nat → Int32) (Pp : Nat → Nat) (O : Nat → Option Nat) (A : Nat → Int32) (Rr : Nat → Option Nat) (ln : Nat) (J : Nat → Int64) : va_E := .inl (cA 0, 240, .inl A)
def zc_58 (cA : Nat → ClassId) (mk : Nat → Bool) (i : Nat) (F : Nat → Int32) (Pp : Nat → Nat) (O : Nat → Option Nat) (A : Nat → Int32) (Rr : Nat → Option Nat) (ln : Nat) (J : Nat → Int64) : va_E := .inl (cA 0, 240, .inl A)
def zc_59 (cA : Nat → ClassId) (mk : Nat → Bool) (i : Nat) (F : Nat → Int32) (Pp : Nat → Nat) (O : Nat → Option Nat) (A : Nat → Int32) (Rr : Nat → Option Nat) (ln : Nat) (J : Nat → Int64) : va_E := .inl (cA 0, 240, .inl A)
def zc_60 (cA : Nat → ClassId) (mk : Nat → Bool) (i : Nat) (F : Nat → Int32) (Pp : Nat → Nat) (O : Nat → Option Nat) (A : Nat → Int32) (Rr : Nat → Option Nat) (ln : Nat) (J : Nat → Int64) : va_E := .inl (cA 0, 240, .inl A)
def zc_61 (cA : Nat → ClassId) (mk : Nat → Bool) (i : Nat) (F : Nat → Int32) (Pp : Nat → Nat) (O : Nat → Option Nat) (A : Nat → Int32) (Rr : Nat → Option Nat) (ln : Nat) (J : Nat → Int64) : va_E := .inl (cA 0, 3, .inl A)
def zc_62 (cA : Nat → ClassId) (mk : Nat → Bool) (i : Nat) (F : Nat → Int32) (Pp : Nat → Nat) (O : Nat → Option Nat) (A : Nat → Int32) (Rr : Nat → Option Nat) (ln : Nat) (J : Nat → Int64) : va_E := .inl (cA 0, 20, .inl A)
def zc_63 (cA : Nat → ClassId) (mk : Nat → Bool) (i : Nat) (F : Nat → Int32) (Pp : Nat → Nat) (O : Nat → Option Nat) (A : Nat → Int32) (Rr : Nat → Option Nat) (ln : Nat) (J : Nat → Int64) : va_E := .inl (cA 0, 20, .inl A)
def zc_64 (cA : Nat → ClassId) (mk : Nat → Bool) (i : Nat) (F : Nat → Int32) (Pp : Nat → Nat) (O : Nat → Option Nat) (A : Nat → Int32) (Rr : Nat → Option Nat) (ln : Nat) (J : Nat → Int64) : va_E := .inl (cA 0, 40, .inl A)
def zc_65 (cA : Nat → ClassId) (mk : Nat → Bool) (i : Nat) (F : Nat → Int32) (Pp : Nat → Nat) (O : Nat → Option Nat) (A : Nat → Int32) (Rr : Nat → Option Nat) (ln : Nat) (J : Nat → Int64) : va_E := .inl (cA 0, 40, .inl A)
def zc_66 (cA : Nat → ClassId) (mk : Nat → Bool) (i : Nat) (F : Nat → Int32) (Pp : Nat → Nat) (O : Nat → Option Nat) (A : Nat → Int32) (Rr : Nat → Option Nat) (ln : Nat) (J : Nat → Int64) : va_E := .inl (cA 0, 4, .inl A)
def zc_67 (cA : Nat → ClassId) (mk : Nat → Bool) (i : Nat) (F : Nat → Int32) (Pp : Nat → Nat) (O : Nat → Option Nat) (A : Nat → Int32) (Rr : Nat → Option Nat) (ln : Nat) (J : Nat → Int64) : va_E := .inl (cA 5, 3, .inr (.inr (.inr (.inr fun j => (Rr j).map fun y => 25 + 256 * y))))
def zc_68 (cA : Nat → ClassId) (mk : Nat → Bool) (i : Nat) (F : Nat → Int32) (Pp : Nat → Nat) (O : Nat → Option Nat) (A : Nat → Int32) (Rr : Nat → Option Nat) (ln : Nat) (J : Nat → Int64) : va_E := .inl (cA 6, 4, .inr (.inr (.inr (.inr fun j => (Rr j).map fun y => 69 + 256 * y))))
def zc_69 (cA : Nat → ClassId) (mk : Nat → Bool) (i : Nat) (F : Nat → Int32) (Pp : Nat → Nat) (O : Nat → Option Nat) (A : Nat → Int32) (Rr : Nat → Option Nat) (ln : Nat) (J : Nat → Int64) : va_E := .inl (cA 0, ln, .inl A)
def zc_100 (cA : Nat → ClassId) (mk : Nat → Bool) (i : Nat) (F : Nat → Int32) (Pp : Nat → Nat) (O : Nat → Option Nat) (A : Nat → Int32) (Rr : Nat → Option Nat) (ln : Nat) (J : Nat → Int64) : va_E := .inr (11, [.int (F 0), .int (F 1), .int (F 2), .int (F 3), zif (mk 4) (.ref 101), zif (mk 5) (.ref 102), .int (F 6), .int (F 7), .int (F 8), .int (F 9), .int (F 10), .int (F 11), .int (F 12), zif (mk 13) (.ref 103), zif (mk 14) (.ref 104), zif (mk 15) (.ref 105), zif (mk 16) (.ref 106), zif (mk 17) (.ref 107), zif (mk 18) (.ref 108), zif (mk 19) (.ref 109), zif (mk 20) (.ref 110), .int (F 21), zif (mk 22) (.ref 111), .int (F 23), zif (mk 24) (.ref 112), zif (mk 25) (.ref 113), zif (mk 26) (.ref 114), zif (mk 27) (.ref 115), zif (mk 28) (.ref 116), zif (mk 29) (.ref 117), zif (mk 30) (.ref 118), zif (mk 31) (.ref 119), zif (mk 32) (.ref 120), zif (mk 33) (.ref 121), zif (mk 34) (.ref 122), zif (mk 35) (.ref 123), zif (mk 36) (.ref 124), zif (mk 37) (.ref 125), zif (mk 38) (.ref 126), zif (mk 39) (.ref 127), zif (mk 40) (.ref 128), .int (F 41), zif (mk 42) (.ref 129), zif (mk 43) (.ref 130), zif (mk 44) (.ref 131), zif (mk 45) (.ref 132), zif (mk 46) (.ref 133), zif (mk 47) (.ref 134), .int (F 48), .int (F 49), zif (mk 50) (.ref 135), zif (mk 51) (.ref 136), zif (mk 52) (.ref 137), zif (mk 53) (.ref 138), zif (mk 54) (.ref 139), zif (mk 55) (.ref 140), zif (mk 56) (.ref 141), zif (mk 57) (.ref 142), zif (mk 58) (.ref 143), zif (mk 59) (.ref 144), zif (mk 60) (.ref 145), zif (mk 61) (.ref 146), zif (mk 62) (.ref 147), zif (mk 63) (.ref 148), zif (mk 64) (.ref 149), zif (mk 65) (.ref 150), .int (F 66), .int (F 67), zif (mk 68) (.ref 151), zif (mk 69) (.ref 152), zif (mk 70) (.ref 153), zif (mk 71) (.ref 154), zif (mk 72) (.ref 155), zif (mk 73) (.ref 156), zif (mk 74) (.ref 157), zif (mk 75) (.ref 158), .int (F 76), zif (mk 77) (.ref 159), zif (mk 78) (.ref 160), zif (mk 79) (.ref 161)])
def zc_101 (cA : Nat → ClassId) (mk : Nat → Bool) (i : Nat) (F : Nat → Int32) (Pp : Nat → Nat) (O : Nat → Option Nat) (A : Nat → Int32) (Rr : Nat → Option Nat) (ln : Nat) (J : Nat → Int64) : va_E := .inl (cA 0, 12, .inl A)
def zc_102 (cA : Nat → ClassId) (mk : Nat → Bool) (i : Nat) (F : Nat → Int32) (Pp : Nat → Nat) (O : Nat → Option Nat) (A : Nat → Int32) (Rr : Nat → Option Nat) (ln : Nat) (J : Nat → Int64) : va_E := .inl (cA 1, 400, .inl A)
def zc_103 (cA : Nat → ClassId) (mk : Nat → Bool) (i : Nat) (F : Nat → Int32) (Pp : Nat → Nat) (O : Nat → Option Nat) (A : Nat → Int32) (Rr : Nat → Option Nat) (ln : Nat) (J : Nat → Int64) : va_E := .inl (cA 0, 15, .inl A)
def zc_104 (cA : Nat → ClassId) (mk : Nat → Bool) (i : Nat) (F : Nat → Int32) (Pp : Nat → Nat) (O : Nat → Option Nat) (A : Nat → Int32) (Rr : Nat → Option Nat) (ln : Nat) (J : Nat → Int64) : va_E := .inl (cA 0, 15, .inl A)
def zc_105 (cA : Nat → ClassId) (mk : Nat → Bool) (i : Nat) (F : Nat → Int32) (Pp : Nat → Nat) (O : Nat → Option Nat) (A : Nat → Int32) (Rr : Nat → Option Nat) (ln : Nat) (J : Nat → Int64) : va_E := .inl (cA 0, 4, .inl A)
def zc_106 (cA : Nat → ClassId) (mk : Nat → Bool) (i : Nat) (F : Nat → Int32) (Pp : Nat → Nat) (O : Nat → Option Nat) (A : Nat → Int32) (Rr : Nat → Option Nat) (ln : Nat) (J : Nat → Int64) : va_E := .inl (cA 0, 4, .inl A)
def zc_107 (cA : Nat → ClassId) (mk : Nat → Bool) (i : Nat) (F : Nat → Int32) (Pp : Nat → Nat) (O : Nat → Option Nat) (A : Nat → Int32) (Rr : Nat → Option Nat) (ln : Nat) (J : Nat → Int64) : va_E := .inl (cA 0, 800, .inl A)
def zc_108 (cA : Nat → ClassId) (mk : Nat → Bool) (i : Nat) (F : Nat → Int32) (Pp : Nat → Nat) (O : Nat → Option Nat) (A : Nat → Int32) (Rr : Nat → Option Nat) (ln : Nat) (J : Nat → Int64) : va_E := .inl (cA 0, 800, .inl A)
def zc_109 (cA : Nat → ClassId) (mk : Nat → Bool) (i : Nat) (F : Nat → Int32) (Pp : Nat → Nat) (O : Nat → Option Nat) (A : Nat → Int32) (Rr : Nat → Option Nat) (ln : Nat) (J : Nat → Int64) : va_E := .inl (cA 0, 800, .inl A)
def zc_110 (cA : Nat → ClassId) (mk : Nat → Bool) (i : Nat) (F : Nat → Int32) (Pp : Nat → Nat) (O : Nat → Option Nat) (A : Nat → Int32) (Rr : Nat → Option Nat) (ln : Nat) (J : Nat → Int64) : va_E := .inl (cA 0, 800, .inl A)
def zc_111 (cA : Nat → ClassId) (mk : Nat → Bool) (i : Nat) (F : Nat → Int32) (Pp : Nat → Nat) (O : Nat → Option Nat) (A : Nat → Int32) (Rr : Nat → Option Nat) (ln : Nat) (J : Nat → Int64) : va_E := .inl (cA 2, 800, .inl A)
def zc_112 (cA : Nat → ClassId) (mk : Nat → Bool) (i : Nat) (F : Nat → Int32) (Pp : Nat → Nat) (O : Nat → Option Nat) (A : Nat → Int32) (Rr : Nat → Option Nat) (ln : Nat) (J : Nat → Int64) : va_E := .inl (cA 0, 30, .inl A)
def zc_113 (cA : Nat → ClassId) (mk : Nat → Bool) (i : Nat) (F : Nat → Int32) (Pp : Nat → Nat) (O : Nat → Option Nat) (A : Nat → Int32) (Rr : Nat → Option Nat) (ln : Nat) (J : Nat → Int64) : va_E := .inl (cA 0, 30, .inl A)
def zc_114 (cA : Nat → ClassId) (mk : Nat → Bool) (i : Nat) (F : Nat → Int32) (Pp : Nat → Nat) (O : Nat → Option Nat) (A : Nat → Int32) (Rr : Nat → Option Nat) (ln : Nat) (J : Nat → Int64) : va_E := .inl (cA 0, 30, .inl A)
def zc_115 (cA : Nat → ClassId) (mk : Nat → Bool) (i : Nat) (F : Nat → Int32) (Pp : Nat → Nat) (O : Nat → Option Nat) (A : Nat → Int32) (Rr : Nat → Option Nat) (ln : Nat) (J : Nat → Int64) : va_E := .inl (cA 2, 30, .inl A)
def zc_116 (cA : Nat → ClassId) (mk : Nat → Bool) (i : Nat) (F : Nat → Int32) (Pp : Nat → Nat) (O : Nat → Option Nat) (A : Nat → Int32) (Rr : Nat → Option Nat) (ln : Nat) (J : Nat → Int64) : va_E := .inl (cA 0, 450, .inl A)
def zc_117 (cA : Nat → ClassId) (mk : Nat → Bool) (i : Nat) (F : Nat → Int32) (Pp : Nat → Nat) (O : Nat → Option Nat) (A : Nat → Int32) (Rr : Nat → Option Nat) (ln : Nat) (J : Nat → Int64) : va_E := .inl (cA 0, 30, .inl A)
def zc_118 (cA : Nat → ClassId) (mk : Nat → Bool) (i : Nat) (F : Nat → Int32) (Pp : Nat → Nat) (O : Nat → Option Nat) (A : Nat → Int32) (Rr : Nat → Option Nat) (ln : Nat) (J : Nat → Int64) : va_E := .inl (cA 0, 30, .inl A)
def zc_119 (cA : Nat → ClassId) (mk : Nat → Bool) (i : Nat) (F : Nat → Int32) (Pp : Nat → Nat) (O : Nat → Option Nat) (A : Nat → Int32) (Rr : Nat → Option Nat) (ln : Nat) (J : Nat → Int64) : va_E := .inl (cA 0, 30, .inl A)
def zc_120 (cA : Nat → ClassId) (mk : Nat → Bool) (i : Nat) (F : Nat → Int32) (Pp : Nat → Nat) (O : Nat → Option Nat) (A : Nat → Int32) (Rr : Nat → Option Nat) (ln : Nat) (J : Nat → Int64) : va_E := .inl (cA 2, 30, .inl A)
def zc_121 (cA : Nat → ClassId) (mk : Nat → Bool) (i : Nat) (F : Nat → Int32) (Pp : Nat → Nat) (O : Nat → Option Nat) (A : Nat → Int32) (Rr : Nat → Option Nat) (ln : Nat) (J : Nat → Int64) : va_E := .inl (cA 0, 30, .inl A)
def zc_122 (cA : Nat → ClassId) (mk : Nat → Bool) (i : Nat) (F : Nat → Int32) (Pp : Nat → Nat) (O : Nat → Option Nat) (A : Nat → Int32) (Rr : Nat → Option Nat) (ln : Nat) (J : Nat → Int64) : va_E := .inl (cA 0, 30, .inl A)
def zc_123 (cA : Nat → ClassId) (mk : Nat → Bool) (i : Nat) (F : Nat → Int32) (Pp : Nat → Nat) (O : Nat → Option Nat) (A : Nat → Int32) (Rr : Nat → Option Nat) (ln : Nat) (J : Nat → Int64) : va_E := .inl (cA 0, 30, .inl A)
def zc_124 (cA : Nat → ClassId) (mk : Nat → Bool) (i : Nat) (F : Nat → Int32) (Pp : Nat → Nat) (O : Nat → Option Nat) (A : Nat → Int32) (Rr : Nat → Option Nat) (ln : Nat) (J : Nat → Int64) : va_E := .inl (cA 0, 30, .inl A)
def zc_125 (cA : Nat → ClassId) (mk : Nat → Bool) (i : Nat) (F : Nat → Int32) (Pp : Nat → Nat) (O : Nat → Option Nat) (A : Nat → Int32) (Rr : Nat → Option Nat) (ln : Nat) (J : Nat → Int64) : va_E := .inl (cA 0, 30, .inl A)
def zc_126 (cA : Nat → ClassId) (mk : Nat → Bool) (i : Nat) (F : Nat → Int32) (Pp : Nat → Nat) (O : Nat → Option Nat) (A : Nat → Int32) (Rr : Nat → Option Nat) (ln : Nat) (J : Nat → Int64) : va_E := .inl (cA 0, 30, .inl A)
def zc_127 (cA : Nat → ClassId) (mk : Nat → Bool) (i : Nat) (F : Nat → Int32) (Pp : Nat → Nat) (O : Nat → Option Nat) (A : Nat → Int32) (Rr : Nat → Option Nat) (ln : Nat) (J : Nat → Int64) : va_E := .inl (cA 0, 30, .inl A)
def zc_128 (cA : Nat → ClassId) (mk : Nat → Bool) (i : Nat) (F : Nat → Int32) (Pp : Nat → Nat) (O : Nat → Option Nat) (A : Nat → Int32) (Rr : Nat → Option Nat) (ln : Nat) (J : Nat → Int64) : va_E := .inl (cA 0, 30, .inl A)
def zc_129 (cA : Nat → ClassId) (mk : Nat → Bool) (i : Nat) (F : Nat → Int32) (Pp : Nat → Nat) (O : Nat → Option Nat) (A : Nat → Int32) (Rr : Nat → Option Nat) (ln : Nat) (J : Nat → Int64) : va_E := .inl (cA 0, 12, .inl A)
def zc_130 (cA : Nat → ClassId) (mk : Nat → Bool) (i : Nat) (F : Nat → Int32) (Pp : Nat → Nat) (O : Nat → Option Nat) (A : Nat → Int32) (Rr : Nat → Option Nat) (ln : Nat) (J : Nat → Int64) : va_E := .inl (cA 0, 12, .inl A)
def zc_131 (cA : Nat → ClassId) (mk : Nat → Bool) (i : Nat) (F : Nat → Int32) (Pp : Nat → Nat) (O : Nat → Option Nat) (A : Nat → Int32) (Rr : Nat → Option Nat) (ln : Nat) (J : Nat → Int64) : va_E := .inl (cA 0, 90, .inl A)
def zc_132 (cA : Nat → ClassId) (mk : Nat → Bool) (i : Nat) (F : Nat → Int32) (Pp : Nat → Nat) (O : Nat → Option Nat) (A : Nat → Int32) (Rr : Nat → Option Nat) (ln : Nat) (J : Nat → Int64) : va_E := .inl (cA 0, 90, .inl A)
def zc_133 (cA : Nat → ClassId) (mk : Nat → Bool) (i : Nat) (F : Nat → Int32) (Pp : Nat → Nat) (O : Nat → Option Nat) (A : Nat → Int32) (Rr : Nat → Option Nat) (ln : Nat) (J : Nat → Int64) : va_E := .inl (cA 0, 90, .inl A)
def zc_134 (cA : Nat → ClassId) (mk : Nat → Bool) (i : Nat) (F : Nat → Int32) (Pp : Nat → Nat) (O : Nat → Option Nat) (A : Nat → Int32) (Rr : Nat → Option Nat) (ln : Nat) (J : Nat → Int64) : va_E := .inl (cA 0, 90, .inl A)
def zc_135 (cA : Nat → ClassId) (mk : Nat → Bool) (i : Nat) (F : Nat → Int32) (Pp : Nat → Nat) (O : Nat → Option Nat) (A : Nat → Int32) (Rr : Nat → Option Nat) (ln : Nat) (J : Nat → Int64) : va_E := .inl (cA 0, 300, .inl A)
def zc_136 (cA : Nat → ClassId) (mk : Nat → Bool) (i : Nat) (F : Nat → Int32) (Pp : Nat → Nat) (O : Nat → Option Nat) (A : Nat → Int32) (Rr : Nat → Option Nat) (ln : Nat) (J : Nat → Int64) : va_E := .inl (cA 0, 300, .inl A)
def zc_137 (cA : Nat → ClassId) (mk : Nat → Bool) (i : Nat) (F : Nat → Int32) (Pp : Nat → Nat) (O : Nat → Option Nat) (A : Nat → Int32) (Rr : Nat → Option Nat) (ln : Nat) (J : Nat → Int64) : va_E := .inl (cA 0, 300, .inl A)
def zc_138 (cA : Nat → ClassId) (mk : Nat → Bool) (i : Nat) (F : Nat → Int32) (Pp : Nat → Nat) (O : Nat → Option Nat) (A : Nat → Int32) (Rr : Nat → Option Nat) (ln : Nat) (J : Nat → Int64) : va_E := .inl (cA 0, 300, .inl A)
def zc_139 (cA : Nat → ClassId) (mk : Nat → Bool) (i : Nat) (F : Nat → Int32) (Pp : Nat → Nat) (O : Nat → Option Nat) (A : Nat → Int32) (Rr : Nat → Option Nat) (ln : Nat) (J : Nat → Int64) : va_E := .inl (cA 0, 60, .inl A)
def zc_140 (cA : Nat → ClassId) (mk : Nat → Bool) (i : Nat) (F : Nat → Int32) (Pp : Nat → Nat) (O : Nat → Option Nat) (A : Nat → Int32) (Rr : Nat → Option Nat) (ln : Nat) (J : Nat → Int64) : va_E := .inl (cA 0, 60, .inl A)
def zc_141 (cA : Nat → ClassId) (mk : Nat → Bool) (i : Nat) (F : Nat → Int32) (Pp : Nat → Nat) (O : Nat → Option Nat) (A : Nat → Int32) (Rr : Nat → Option Nat) (ln : Nat) (J : Nat → Int64) : va_E := .inl (cA 0, 60, .inl A)
def zc_142 (cA : Nat → ClassId) (mk : Nat → Bool) (i : Nat) (F : Nat → Int32) (Pp : Nat → Nat) (O : Nat → Option Nat) (A : Nat → Int32) (Rr : Nat → Option Nat) (ln : Nat) (J : Nat → Int64) : va_E := .inl (cA 0, 30, .inl A)
def zc_143 (cA : Nat → ClassId) (mk : Nat → Bool) (i : Nat) (F : Nat → Int32) (Pp : Nat → Nat) (O : Nat → Option Nat) (A : Nat → Int32) (Rr : Nat → Option Nat) (ln : Nat) (J : Nat → Int64) : va_E := .inl (cA 0, 30, .inl A)
def zc_144 (cA : Nat → ClassId) (mk : Nat → Bool) (i : Nat) (F : Nat → Int32) (Pp : Nat → Nat) (O : Nat → Option Nat) (A : Nat → Int32) (Rr : Nat → Option Nat) (ln : Nat) (J : Nat → Int64) : va_E := .inl (cA 0, 72, .inl A)
def zc_145 (cA : Nat → ClassId) (mk : Nat → Bool) (i : Nat) (F : Nat → Int32) (Pp : Nat → Nat) (O : Nat → Option Nat) (A : Nat → Int32) (Rr : Nat → Option Nat) (ln : Nat) (J : Nat → Int64) : va_E := .inl (cA 0, 1440, .inl A)
def zc_146 (cA : Nat → ClassId) (mk : Nat → Bool) (i : Nat) (F : Nat → Int32) (Pp : Nat → Nat) (O : Nat → Option Nat) (A : Nat → Int32) (Rr : Nat → Option Nat) (ln : Nat) (J : Nat → Int64) : va_E := .inl (cA 0, 1440, .inl A)
def zc_147 (cA : Nat → ClassId) (mk : Nat → Bool) (i : Nat) (F : Nat → Int32) (Pp : Nat → Nat) (O : Nat → Option Nat) (A : Nat → Int32) (Rr : Nat → Option Nat) (ln : Nat) (J : Nat → Int64) : va_E := .inl (cA 0, 1440, .inl A)
def zc_148 (cA : Nat → ClassId) (mk : Nat → Bool) (i : Nat) (F : Nat → Int32) (Pp : Nat → Nat) (O : Nat → Option Nat) (A : Nat → Int32) (Rr : Nat → Option Nat) (ln : Nat) (J : Nat → Int64) : va_E := .inl (cA 0, 1440, .inl A)
def zc_149 (cA : Nat → ClassId) (mk : Nat → Bool) (i : Nat) (F : Nat → Int32) (Pp : Nat → Nat) (O : Nat → Option Nat) (A : Nat → Int32) (Rr : Nat → Option Nat) (ln : Nat) (J : Nat → Int64) : va_E := .inl (cA 0, 30, .inl A)
def zc_150 (cA : Nat → ClassId) (mk : Nat → Bool) (i : Nat) (F : Nat → Int32) (Pp : Nat → Nat) (O : Nat → Option Nat) (A : Nat → Int32) (Rr : Nat → Option Nat) (ln : Nat) (J : Nat → Int64) : va_E := .inl (cA 2, 30, .inl A)
def zc_151 (cA : Nat → ClassId) (mk : Nat → Bool) (i : Nat) (F : Nat → Int32) (Pp : Nat → Nat) (O : Nat → Option Nat) (A : Nat → Int32) (Rr : Nat → Option Nat) (ln : Nat) (J : Nat → Int64) : va_E := .inl (cA 0, 5, .inl A)
def zc_152 (cA : Nat → ClassId) (mk : Nat → Bool) (i : Nat) (F : Nat → Int32) (Pp : Nat → Nat) (O : Nat → Option Nat) (A : Nat → Int32) (Rr : Nat → Option Nat) (ln : Nat) (J : Nat → Int64) : va_E := .inl (cA 0, 10, .inl A)
def zc_153 (cA : Nat → ClassId) (mk : Nat → Bool) (i : Nat) (F : Nat → Int32) (Pp : Nat → Nat) (O : Nat → Option Nat) (A : Nat → Int32) (Rr : Nat → Option Nat) (ln : Nat) (J : Nat → Int64) : va_E := .inl (cA 0, 10, .inl A)
def zc_154 (cA : Nat → ClassId) (mk : Nat → Bool) (i : Nat) (F : Nat → Int32) (Pp : Nat → Nat) (O : Nat → Option Nat) (A : Nat → Int32) (Rr : Nat → Option Nat) (ln : Nat) (J : Nat → Int64) : va_E := .inl (cA 0, 200, .inl A)
def zc_155 (cA : Nat → ClassId) (mk : Nat → Bool) (i : Nat) (F : Nat → Int32) (Pp : Nat → Nat) (O : Nat → Option Nat) (A : Nat → Int32) (Rr : Nat → Option Nat) (ln : Nat) (J : Nat → Int64) : va_E := .inl (cA 0, 200, .inl A)
def zc_156 (cA : Nat → ClassId) (mk : Nat → Bool) (i : Nat) (F : Nat → Int32) (Pp : Nat → Nat) (O : Nat → Option Nat) (A : Nat → Int32) (Rr : Nat → Option Nat) (ln : Nat) (J : Nat → Int64) : va_E := .inl (cA 0, 441, .inl A)
def zc_157 (cA : Nat → ClassId) (mk : Nat → Bool) (i : Nat) (F : Nat → Int32) (Pp : Nat → Nat) (O : Nat → Option Nat) (A : Nat → Int32) (Rr : Nat → Option Nat) (ln : Nat) (J : Nat → Int64) : va_E := .inl (cA 0, 441, .inl A)
def zc_158 (cA : Nat → ClassId) (mk : Nat → Bool) (i : Nat) (F : Nat → Int32) (Pp : Nat → Nat) (O : Nat → Option Nat) (A : Nat → Int32) (Rr : Nat → Option Nat) (ln : Nat) (J : Nat → Int64) : va_E := .inl (cA 0, 20, .inl A)
def zc_159 (cA : Nat → ClassId) (mk : Nat → Bool) (i : Nat) (F : Nat → Int32) (Pp : Nat → Nat) (O : Nat → Option Nat) (A : Nat → Int32) (Rr : Nat → Option Nat) (ln : Nat) (J : Nat → Int64) : va_E := .inl (cA 0, 10, .inl A)
def zc_160 (cA : Nat → ClassId) (mk : Nat → Bool) (i : Nat) (F : Nat → Int32) (Pp : Nat → Nat) (O : Nat → Option Nat) (A : Nat → Int32) (Rr : Nat → Option Nat) (ln : Nat) (J : Nat → Int64) : va_E := .inl (cA 0, 400, .inl A)
def zc_161 (cA : Nat → ClassId) (mk : Nat → Bool) (i : Nat) (F : Nat → Int32) (Pp : Nat → Nat) (O : Nat → Option Nat) (A : Nat → Int32) (Rr : Nat → Option Nat) (ln : Nat) (J : Nat → Int64) : va_E := .inl (cA 0, 400, .inl A)
def zshp (k : Nat) : (Nat → ClassId) → (Nat → Bool) → Nat → (Nat → Int32) → (Nat → Nat) → (Nat → Option Nat) → (Nat → Int32) → (Nat → Option Nat) → Nat → (Nat → Int64) → va_E := match k with
  | 9 => zc_9
  | 10 => zc_10
  | 11 => zc_11
  | 12 => zc_12
  | 13 => zc_13
  | 20 => zc_20
  | 21 => zc_21
  | 22 => zc_22
  | 23 => zc_23
  | 24 => zc_24
  | 25 => zc_25
  | 30 => zc_30
  | 31 => zc_31
  | 32 => zc_32
  | 33 => zc_33
  | 34 => zc_34
  | 35 => zc_35
  | 36 => zc_36
  | 37 => zc_37
  | 40 => zc_40
  | 41 => zc_41
  | 42 => zc_42
  | 43 => zc_43
  | 44 => zc_44
  | 45 => zc_45
  | 46 => zc_46
  | 47 => zc_47
  | 48 => zc_48
  | 49 => zc_49
  | 50 => zc_50
  | 51 => zc_51
  | 52 => zc_52
  | 53 => zc_53
  | 54 => zc_54
  | 55 => zc_55
  | 56 => zc_56
  | 57 => zc_57
  | 58 => zc_58
  | 59 => zc_59
  | 60 => zc_60
  | 61 => zc_61
  | 62 => zc_62
  | 63 => zc_63
  | 64 => zc_64
  | 65 => zc_65
  | 66 => zc_66
  | 67 => zc_67
  | 68 => zc_68
  | 69 => zc_69
  | 100 => zc_100
  | 101 => zc_101
  | 102 => zc_102
  | 103 => zc_103
  | 104 => zc_104
  | 105 => zc_105
  | 106 => zc_106
  | 107 => zc_107
  | 108 => zc_108
  | 109 => zc_109
  | 110 => zc_110
  | 111 => zc_111
  | 112 => zc_112
  | 113 => zc_113
  | 114 => zc_114
  | 115 => zc_115
  | 116 => zc_116
  | 117 => zc_117
  | 118 => zc_118
  | 119 => zc_119
  | 120 => zc_120
  | 121 => zc_121
  | 122 => zc_122
  | 123 => zc_123
  | 124 => zc_124
  | 125 => zc_125
  | 126 => zc_126
  | 127 => zc_127
  | 128 => zc_128
  | 129 => zc_129
  | 130 => zc_130
  | 131 => zc_131
  | 132 => zc_132
  | 133 => zc_133
  | 134 => zc_134
  | 135 => zc_135
  | 136 => zc_136
  | 137 => zc_137
  | 138 => zc_138
  | 139 => zc_139
  | 140 => zc_140
  | 141 => zc_141
  | 142 => zc_142
  | 143 => zc_143
  | 144 => zc_144
  | 145 => zc_145
  | 146 => zc_146
  | 147 => zc_147
  | 148 => zc_148
  | 149 => zc_149
  | 150 => zc_150
  | 151 => zc_151
  | 152 => zc_152
  | 153 => zc_153
  | 154 => zc_154
  | 155 => zc_155
  | 156 => zc_156
  | 157 => zc_157
  | 158 => zc_158
  | 159 => zc_159
  | 160 => zc_160
  | 161 => zc_161
  | _ => fun _ _ _ _ _ _ _ _ _ _ => .inr (0, [])
def zsh (cA : Nat → ClassId) (mk : zMk) (st : zTs) (k i : Nat) : va_E := zshp k cA (mk k i) i (zgF st k i) (zgP st k i) (zgO st k i) (zgA st k i) (zgR st k i) (zgL st k i) (zgJ st k i)
def zh (Z : zZ) (mk : zMk) (st : zTs) : zH := fun a => if a % 256 < 200 ∧ a / 256 < zgN st (a % 256) then some (zsh Z.2.1 mk st (a % 256) (a / 256)) else none
theorem zh_md {k i : Nat} (hk : k < 200) : (k + 256 * i) % 256 = k ∧ (k + 256 * i) / 256 = i := by omega
theorem zh_at {Z : zZ} {mk : zMk} {st : zTs} {k i : Nat} (hk : k < 200) (h : zok (zh Z mk st) (.ref (k + 256 * i))) : zh Z mk st (k + 256 * i) = some (zsh Z.2.1 mk st k i) := by
  obtain ⟨e1, e2⟩ := zh_md (k := k) (i := i) hk
  rcases h _ rfl with g | g
  · unfold zh at g ⊢
    rw [e1, e2] at g ⊢
    by_cases c : k < 200 ∧ i < zgN st k
    · rw [if_pos c]
    · rw [if_neg c] at g
      exact absurd rfl g
  · have g2 : 200 ≤ (k + 256 * i) % 256 := g
    exact absurd g2 (by omega)
theorem zh_lt {Z : zZ} {mk : zMk} {st : zTs} {k i : Nat} (hk : k < 200) (h : zok (zh Z mk st) (.ref (k + 256 * i))) : i < zgN st k := by
  obtain ⟨e1, e2⟩ := zh_md (k := k) (i := i) hk
  rcases h _ rfl with g | g
  · unfold zh at g
    rw [e1, e2] at g
    by_cases c : k < 200 ∧ i < zgN st k
    · exact c.2
    · rw [if_neg c] at g
      exact absurd rfl g
  · have g2 : 200 ≤ (k + 256 * i) % 256 := g
    exact absurd g2 (by omega)
theorem zh_up {Z : zZ} {mk mk' : zMk} {st st' : zTs} {k i : Nat} {e1 : va_E} (hk : k < 200) (hN : zgN st' = zgN st) (hs : ∀ k' i', ¬ (k' = k ∧ i' = i) → zsh Z.2.1 mk' st' k' i' = zsh Z.2.1 mk st k' i') (he : zsh Z.2.1 mk' st' k i = e1) (hv : zok (zh Z mk st) (.ref (k + 256 * i))) :
    ∀ b, zh Z mk' st' b = if b = k + 256 * i then some e1 else zh Z mk st b := fun b => by
  obtain ⟨x1, x2⟩ := zh_md (k := k) (i := i) hk
  have hl := zh_lt hk hv
  by_cases hb : b = k + 256 * i
  · subst hb
    rw [if_pos rfl]
    unfold zh
    rw [x1, x2, hN, if_pos ⟨hk, hl⟩, he]
  · rw [if_neg hb]
    unfold zh
    rw [hN]
    by_cases c : b % 256 < 200 ∧ b / 256 < zgN st (b % 256)
    · rw [if_pos c, if_pos c, hs]
      rintro ⟨q1, q2⟩
      omega
    · rw [if_neg c, if_neg c]
theorem zh_nw {Z : zZ} {mk mk' : zMk} {st st' : zTs} {k : Nat} {e1 : va_E} (hk : k < 200) (hN : zgN st' = zp1 (zgN st) k (zgN st k + 1)) (hs : ∀ k' i', ¬ (k' = k ∧ i' = zgN st k) → zsh Z.2.1 mk' st' k' i' = zsh Z.2.1 mk st k' i') (he : zsh Z.2.1 mk' st' k (zgN st k) = e1) :
    zh Z mk st (k + 256 * zgN st k) = none ∧ ∀ b, zh Z mk' st' b = if b = k + 256 * zgN st k then some e1 else zh Z mk st b := by
  obtain ⟨x1, x2⟩ := zh_md (k := k) (i := zgN st k) hk
  refine ⟨?_, fun b => ?_⟩
  · unfold zh
    rw [x1, x2, if_neg (by omega)]
  · by_cases hb : b = k + 256 * zgN st k
    · subst hb
      rw [if_pos rfl]
      unfold zh
      rw [x1, x2, hN, if_pos ⟨hk, by rw [show zp1 (zgN st) k (zgN st k + 1) k = zgN st k + 1 from if_pos rfl]; omega⟩, he]
    · rw [if_neg hb]
      unfold zh
      rw [hN]
      have e : (b % 256 < 200 ∧ b / 256 < zp1 (zgN st) k (zgN st k + 1) (b % 256)) ↔ (b % 256 < 200 ∧ b / 256 < zgN st (b % 256)) := by
        unfold zp1
        by_cases g : b % 256 = k
        · rw [if_pos g, g]
          omega
        · rw [if_neg g]
      by_cases c : b % 256 < 200 ∧ b / 256 < zgN st (b % 256)
      · rw [if_pos (e.mpr c), if_pos c, hs]
        rintro ⟨q1, q2⟩
        omega
      · rw [if_neg (fun q => c (e.mp q)), if_neg c]
/-- what a store of v in the field j of the object i of the kind k (class number ci) does -/
def zPu (cA : Nat → ClassId) (mk : zMk) (st : zTs) (k i : Nat) (mk' : zMk) (st' : zTs) (ci j : Nat) (v : Value) : Prop :=
  zgN st' = zgN st ∧ (∀ k' i', ¬ (k' = k ∧ i' = i) → zsh cA mk' st' k' i' = zsh cA mk st k' i') ∧ ∃ fs, zsh cA mk st k i = .inr (ci, fs) ∧ j < fs.length ∧ zsh cA mk' st' k i = .inr (ci, fs.set j v)
theorem zo_F {cA : Nat → ClassId} {mk : zMk} {st : zTs} {k i j : Nat} {x : Int32} : ∀ k' i', ¬ (k' = k ∧ i' = i) → zsh cA mk (zuF st k i j x) k' i' = zsh cA mk st k' i' := fun k' i' h => by
  unfold zsh
  rw [show zgF (zuF st k i j x) k' i' = zgF st k' i' from zp2_ne h]
  rfl
theorem zo_P {cA : Nat → ClassId} {mk : zMk} {st : zTs} {k i j x : Nat} : ∀ k' i', ¬ (k' = k ∧ i' = i) → zsh cA mk (zuP st k i j x) k' i' = zsh cA mk st k' i' := fun k' i' h => by
  unfold zsh
  rw [show zgP (zuP st k i j x) k' i' = zgP st k' i' from zp2_ne h]
  rfl
theorem zo_Pm {cA : Nat → ClassId} {mk : zMk} {st : zTs} {k i j x : Nat} : ∀ k' i', ¬ (k' = k ∧ i' = i) → zsh cA (zms mk k i j) (zuP st k i j x) k' i' = zsh cA mk st k' i' := fun k' i' h => by
  unfold zsh
  rw [show zgP (zuP st k i j x) k' i' = zgP st k' i' from zp2_ne h, show zms mk k i j k' i' = mk k' i' from zp2_ne h]
  rfl
theorem zo_m {cA : Nat → ClassId} {mk : zMk} {st : zTs} {k i j : Nat} : ∀ k' i', ¬ (k' = k ∧ i' = i) → zsh cA (zms mk k i j) st k' i' = zsh cA mk st k' i' := fun k' i' h => by
  unfold zsh
  rw [show zms mk k i j k' i' = mk k' i' from zp2_ne h]
theorem zo_O {cA : Nat → ClassId} {mk : zMk} {st : zTs} {k i j : Nat} {x : Option Nat} : ∀ k' i', ¬ (k' = k ∧ i' = i) → zsh cA mk (zuO st k i j x) k' i' = zsh cA mk st k' i' := fun k' i' h => by
  unfold zsh
  rw [show zgO (zuO st k i j x) k' i' = zgO st k' i' from zp2_ne h]
  rfl
theorem zo_A {cA : Nat → ClassId} {mk : zMk} {st : zTs} {k i j : Nat} {x : Int32} : ∀ k' i', ¬ (k' = k ∧ i' = i) → zsh cA mk (zuA st k i j x) k' i' = zsh cA mk st k' i' := fun k' i' h => by
  unfold zsh
  rw [show zgA (zuA st k i j x) k' i' = zgA st k' i' from zp2_ne h]
  rfl
theorem zo_R {cA : Nat → ClassId} {mk : zMk} {st : zTs} {k i j : Nat} {x : Option Nat} : ∀ k' i', ¬ (k' = k ∧ i' = i) → zsh cA mk (zuR st k i j x) k' i' = zsh cA mk st k' i' := fun k' i' h => by
  unfold zsh
  rw [show zgR (zuR st k i j x) k' i' = zgR st k' i' from zp2_ne h]
  rfl
theorem zo_J {cA : Nat → ClassId} {mk : zMk} {st : zTs} {k i j : Nat} {x : Int64} : ∀ k' i', ¬ (k' = k ∧ i' = i) → zsh cA mk (zuJ st k i j x) k' i' = zsh cA mk st k' i' := fun k' i' h => by
  unfold zsh
  rw [show zgJ (zuJ st k i j x) k' i' = zgJ st k' i' from zp2_ne h]
  rfl
theorem zs_F {st : zTs} {k i j : Nat} {x : Int32} : zgF (zuF st k i j x) k i = zp1 (zgF st k i) j x := zp2_at
theorem zs_P {st : zTs} {k i j x : Nat} : zgP (zuP st k i j x) k i = zp1 (zgP st k i) j x := zp2_at
theorem zs_O {st : zTs} {k i j : Nat} {x : Option Nat} : zgO (zuO st k i j x) k i = zp1 (zgO st k i) j x := zp2_at
theorem zs_A {st : zTs} {k i j : Nat} {x : Int32} : zgA (zuA st k i j x) k i = zp1 (zgA st k i) j x := zp2_at
theorem zs_R {st : zTs} {k i j : Nat} {x : Option Nat} : zgR (zuR st k i j x) k i = zp1 (zgR st k i) j x := zp2_at
theorem zs_J {st : zTs} {k i j : Nat} {x : Int64} : zgJ (zuJ st k i j x) k i = zp1 (zgJ st k i) j x := zp2_at
theorem zs_m {mk : zMk} {k i j : Nat} : zms mk k i j k i = zp1 (mk k i) j true := zp2_at
section FLD
variable (cA : Nat → ClassId) (mk : zMk) (st : zTs) (i : Nat)
theorem fg_10_0 : ∃ fs, zsh cA zm1 st 10 i = .inr (10, fs) ∧ fs[0]? = some (.ref 30) := ⟨_, rfl, rfl⟩
theorem fp_10_0 : zPu cA mk st 10 i (zms mk 10 i 0) st 10 0 (.ref 30) := ⟨rfl, zo_m, _, rfl, Nat.le_of_ble_eq_true rfl, by unfold zsh; rw [zs_m]; rfl⟩
theorem fg_10_1 : ∃ fs, zsh cA zm1 st 10 i = .inr (10, fs) ∧ fs[1]? = some (.ref 31) := ⟨_, rfl, rfl⟩
theorem fp_10_1 : zPu cA mk st 10 i (zms mk 10 i 1) st 10 1 (.ref 31) := ⟨rfl, zo_m, _, rfl, Nat.le_of_ble_eq_true rfl, by unfold zsh; rw [zs_m]; rfl⟩
theorem fg_10_2 : ∃ fs, zsh cA zm1 st 10 i = .inr (10, fs) ∧ fs[2]? = some (.ref 32) := ⟨_, rfl, rfl⟩
theorem fp_10_2 : zPu cA mk st 10 i (zms mk 10 i 2) st 10 2 (.ref 32) := ⟨rfl, zo_m, _, rfl, Nat.le_of_ble_eq_true rfl, by unfold zsh; rw [zs_m]; rfl⟩
theorem fg_10_3 : ∃ fs, zsh cA zm1 st 10 i = .inr (10, fs) ∧ fs[3]? = some (.ref 33) := ⟨_, rfl, rfl⟩
theorem fp_10_3 : zPu cA mk st 10 i (zms mk 10 i 3) st 10 3 (.ref 33) := ⟨rfl, zo_m, _, rfl, Nat.le_of_ble_eq_true rfl, by unfold zsh; rw [zs_m]; rfl⟩
theorem fg_10_4 : ∃ fs, zsh cA zm1 st 10 i = .inr (10, fs) ∧ fs[4]? = some (.ref 40) := ⟨_, rfl, rfl⟩
theorem fp_10_4 : zPu cA mk st 10 i (zms mk 10 i 4) st 10 4 (.ref 40) := ⟨rfl, zo_m, _, rfl, Nat.le_of_ble_eq_true rfl, by unfold zsh; rw [zs_m]; rfl⟩
theorem fg_10_5 : ∃ fs, zsh cA zm1 st 10 i = .inr (10, fs) ∧ fs[5]? = some (.ref 41) := ⟨_, rfl, rfl⟩
theorem fp_10_5 : zPu cA mk st 10 i (zms mk 10 i 5) st 10 5 (.ref 41) := ⟨rfl, zo_m, _, rfl, Nat.le_of_ble_eq_true rfl, by unfold zsh; rw [zs_m]; rfl⟩
theorem fg_10_6 : ∃ fs, zsh cA zm1 st 10 i = .inr (10, fs) ∧ fs[6]? = some (.ref 42) := ⟨_, rfl, rfl⟩
theorem fp_10_6 : zPu cA mk st 10 i (zms mk 10 i 6) st 10 6 (.ref 42) := ⟨rfl, zo_m, _, rfl, Nat.le_of_ble_eq_true rfl, by unfold zsh; rw [zs_m]; rfl⟩
theorem fg_10_7 : ∃ fs, zsh cA zm1 st 10 i = .inr (10, fs) ∧ fs[7]? = some (.ref 11) := ⟨_, rfl, rfl⟩
theorem fp_10_7 : zPu cA mk st 10 i (zms mk 10 i 7) st 10 7 (.ref 11) := ⟨rfl, zo_m, _, rfl, Nat.le_of_ble_eq_true rfl, by unfold zsh; rw [zs_m]; rfl⟩
theorem fg_10_8 : ∃ fs, zsh cA zm1 st 10 i = .inr (10, fs) ∧ fs[8]? = some (.ref 12) := ⟨_, rfl, rfl⟩
theorem fp_10_8 : zPu cA mk st 10 i (zms mk 10 i 8) st 10 8 (.ref 12) := ⟨rfl, zo_m, _, rfl, Nat.le_of_ble_eq_true rfl, by unfold zsh; rw [zs_m]; rfl⟩
theorem fg_10_9 : ∃ fs, zsh cA zm1 st 10 i = .inr (10, fs) ∧ fs[9]? = some (.ref 43) := ⟨_, rfl, rfl⟩
theorem fp_10_9 : zPu cA mk st 10 i (zms mk 10 i 9) st 10 9 (.ref 43) := ⟨rfl, zo_m, _, rfl, Nat.le_of_ble_eq_true rfl, by unfold zsh; rw [zs_m]; rfl⟩
theorem fg_10_10 : ∃ fs, zsh cA zm1 st 10 i = .inr (10, fs) ∧ fs[10]? = some (.ref 13) := ⟨_, rfl, rfl⟩
theorem fp_10_10 : zPu cA mk st 10 i (zms mk 10 i 10) st 10 10 (.ref 13) := ⟨rfl, zo_m, _, rfl, Nat.le_of_ble_eq_true rfl, by unfold zsh; rw [zs_m]; rfl⟩
theorem fg_10_11 : ∃ fs, zsh cA zm1 st 10 i = .inr (10, fs) ∧ fs[11]? = some (.int (zgF st 10 i 11)) := ⟨_, rfl, rfl⟩
theorem fp_10_11 (x : Int32) : zPu cA mk st 10 i mk (zuF st 10 i 11 x) 10 11 (.int x) := ⟨rfl, zo_F, _, rfl, Nat.le_of_ble_eq_true rfl, by unfold zsh; rw [zs_F]; rfl⟩
theorem fg_10_12 : ∃ fs, zsh cA zm1 st 10 i = .inr (10, fs) ∧ fs[12]? = some (.int (zgF st 10 i 12)) := ⟨_, rfl, rfl⟩
theorem fp_10_12 (x : Int32) : zPu cA mk st 10 i mk (zuF st 10 i 12 x) 10 12 (.int x) := ⟨rfl, zo_F, _, rfl, Nat.le_of_ble_eq_true rfl, by unfold zsh; rw [zs_F]; rfl⟩
theorem fg_10_13 : ∃ fs, zsh cA zm1 st 10 i = .inr (10, fs) ∧ fs[13]? = some (.int (zgF st 10 i 13)) := ⟨_, rfl, rfl⟩
theorem fp_10_13 (x : Int32) : zPu cA mk st 10 i mk (zuF st 10 i 13 x) 10 13 (.int x) := ⟨rfl, zo_F, _, rfl, Nat.le_of_ble_eq_true rfl, by unfold zsh; rw [zs_F]; rfl⟩
theorem fg_10_14 : ∃ fs, zsh cA zm1 st 10 i = .inr (10, fs) ∧ fs[14]? = some (.int (zgF st 10 i 14)) := ⟨_, rfl, rfl⟩
theorem fp_10_14 (x : Int32) : zPu cA mk st 10 i mk (zuF st 10 i 14 x) 10 14 (.int x) := ⟨rfl, zo_F, _, rfl, Nat.le_of_ble_eq_true rfl, by unfold zsh; rw [zs_F]; rfl⟩
theorem fg_10_15 : ∃ fs, zsh cA zm1 st 10 i = .inr (10, fs) ∧ fs[15]? = some (.int (zgF st 10 i 15)) := ⟨_, rfl, rfl⟩
theorem fp_10_15 (x : Int32) : zPu cA mk st 10 i mk (zuF st 10 i 15 x) 10 15 (.int x) := ⟨rfl, zo_F, _, rfl, Nat.le_of_ble_eq_true rfl, by unfold zsh; rw [zs_F]; rfl⟩
theorem fg_10_16 : ∃ fs, zsh cA zm1 st 10 i = .inr (10, fs) ∧ fs[16]? = some (.ref (24 + 256 * zgP st 10 i 16)) := ⟨_, rfl, rfl⟩
theorem fp_10_16 (x : Nat) : zPu cA zm1 st 10 i zm1 (zuP st 10 i 16 x) 10 16 (.ref (24 + 256 * x)) := ⟨rfl, zo_P, _, rfl, Nat.le_of_ble_eq_true rfl, by unfold zsh; rw [zs_P]; rfl⟩
theorem fm_10_16 (x : Nat) : zPu cA mk st 10 i (zms mk 10 i 16) (zuP st 10 i 16 x) 10 16 (.ref (24 + 256 * x)) := ⟨rfl, zo_Pm, _, rfl, Nat.le_of_ble_eq_true rfl, by unfold zsh; rw [zs_P, zs_m]; rfl⟩
theorem fg_11_0 : ∃ fs, zsh cA zm1 st 11 i = .inr (1, fs) ∧ fs[0]? = some (.ref 44) := ⟨_, rfl, rfl⟩
theorem fp_11_0 : zPu cA mk st 11 i (zms mk 11 i 0) st 1 0 (.ref 44) := ⟨rfl, zo_m, _, rfl, Nat.le_of_ble_eq_true rfl, by unfold zsh; rw [zs_m]; rfl⟩
theorem fg_11_1 : ∃ fs, zsh cA zm1 st 11 i = .inr (1, fs) ∧ fs[1]? = some (.ref 45) := ⟨_, rfl, rfl⟩
theorem fp_11_1 : zPu cA mk st 11 i (zms mk 11 i 1) st 1 1 (.ref 45) := ⟨rfl, zo_m, _, rfl, Nat.le_of_ble_eq_true rfl, by unfold zsh; rw [zs_m]; rfl⟩
theorem fg_11_2 : ∃ fs, zsh cA zm1 st 11 i = .inr (1, fs) ∧ fs[2]? = some (.ref 46) := ⟨_, rfl, rfl⟩
theorem fp_11_2 : zPu cA mk st 11 i (zms mk 11 i 2) st 1 2 (.ref 46) := ⟨rfl, zo_m, _, rfl, Nat.le_of_ble_eq_true rfl, by unfold zsh; rw [zs_m]; rfl⟩
theorem fg_11_3 : ∃ fs, zsh cA zm1 st 11 i = .inr (1, fs) ∧ fs[3]? = some (.ref 47) := ⟨_, rfl, rfl⟩
theorem fp_11_3 : zPu cA mk st 11 i (zms mk 11 i 3) st 1 3 (.ref 47) := ⟨rfl, zo_m, _, rfl, Nat.le_of_ble_eq_true rfl, by unfold zsh; rw [zs_m]; rfl⟩
theorem fg_11_4 : ∃ fs, zsh cA zm1 st 11 i = .inr (1, fs) ∧ fs[4]? = some (.int (zgF st 11 i 4)) := ⟨_, rfl, rfl⟩
theorem fp_11_4 (x : Int32) : zPu cA mk st 11 i mk (zuF st 11 i 4 x) 1 4 (.int x) := ⟨rfl, zo_F, _, rfl, Nat.le_of_ble_eq_true rfl, by unfold zsh; rw [zs_F]; rfl⟩
theorem fg_11_5 : ∃ fs, zsh cA zm1 st 11 i = .inr (1, fs) ∧ fs[5]? = some (.ref 48) := ⟨_, rfl, rfl⟩
theorem fp_11_5 : zPu cA mk st 11 i (zms mk 11 i 5) st 1 5 (.ref 48) := ⟨rfl, zo_m, _, rfl, Nat.le_of_ble_eq_true rfl, by unfold zsh; rw [zs_m]; rfl⟩
theorem fg_11_6 : ∃ fs, zsh cA zm1 st 11 i = .inr (1, fs) ∧ fs[6]? = some (.ref 49) := ⟨_, rfl, rfl⟩
theorem fp_11_6 : zPu cA mk st 11 i (zms mk 11 i 6) st 1 6 (.ref 49) := ⟨rfl, zo_m, _, rfl, Nat.le_of_ble_eq_true rfl, by unfold zsh; rw [zs_m]; rfl⟩
theorem fg_11_7 : ∃ fs, zsh cA zm1 st 11 i = .inr (1, fs) ∧ fs[7]? = some (.ref 50) := ⟨_, rfl, rfl⟩
theorem fp_11_7 : zPu cA mk st 11 i (zms mk 11 i 7) st 1 7 (.ref 50) := ⟨rfl, zo_m, _, rfl, Nat.le_of_ble_eq_true rfl, by unfold zsh; rw [zs_m]; rfl⟩
theorem fg_11_8 : ∃ fs, zsh cA zm1 st 11 i = .inr (1, fs) ∧ fs[8]? = some (.int (zgF st 11 i 8)) := ⟨_, rfl, rfl⟩
theorem fp_11_8 (x : Int32) : zPu cA mk st 11 i mk (zuF st 11 i 8 x) 1 8 (.int x) := ⟨rfl, zo_F, _, rfl, Nat.le_of_ble_eq_true rfl, by unfold zsh; rw [zs_F]; rfl⟩
theorem fg_12_0 : ∃ fs, zsh cA zm1 st 12 i = .inr (3, fs) ∧ fs[0]? = some (.ref 51) := ⟨_, rfl, rfl⟩
theorem fp_12_0 : zPu cA mk st 12 i (zms mk 12 i 0) st 3 0 (.ref 51) := ⟨rfl, zo_m, _, rfl, Nat.le_of_ble_eq_true rfl, by unfold zsh; rw [zs_m]; rfl⟩
theorem fg_12_1 : ∃ fs, zsh cA zm1 st 12 i = .inr (3, fs) ∧ fs[1]? = some (.ref 52) := ⟨_, rfl, rfl⟩
theorem fp_12_1 : zPu cA mk st 12 i (zms mk 12 i 1) st 3 1 (.ref 52) := ⟨rfl, zo_m, _, rfl, Nat.le_of_ble_eq_true rfl, by unfold zsh; rw [zs_m]; rfl⟩
theorem fg_12_2 : ∃ fs, zsh cA zm1 st 12 i = .inr (3, fs) ∧ fs[2]? = some (.ref 53) := ⟨_, rfl, rfl⟩
theorem fp_12_2 : zPu cA mk st 12 i (zms mk 12 i 2) st 3 2 (.ref 53) := ⟨rfl, zo_m, _, rfl, Nat.le_of_ble_eq_true rfl, by unfold zsh; rw [zs_m]; rfl⟩
theorem fg_12_3 : ∃ fs, zsh cA zm1 st 12 i = .inr (3, fs) ∧ fs[3]? = some (.int (zgF st 12 i 3)) := ⟨_, rfl, rfl⟩
theorem fp_12_3 (x : Int32) : zPu cA mk st 12 i mk (zuF st 12 i 3 x) 3 3 (.int x) := ⟨rfl, zo_F, _, rfl, Nat.le_of_ble_eq_true rfl, by unfold zsh; rw [zs_F]; rfl⟩
theorem fg_13_0 : ∃ fs, zsh cA zm1 st 13 i = .inr (6, fs) ∧ fs[0]? = some (.ref 43) := ⟨_, rfl, rfl⟩
theorem fp_13_0 : zPu cA mk st 13 i (zms mk 13 i 0) st 6 0 (.ref 43) := ⟨rfl, zo_m, _, rfl, Nat.le_of_ble_eq_true rfl, by unfold zsh; rw [zs_m]; rfl⟩
theorem fg_13_1 : ∃ fs, zsh cA zm1 st 13 i = .inr (6, fs) ∧ fs[1]? = some (.ref 54) := ⟨_, rfl, rfl⟩
theorem fp_13_1 : zPu cA mk st 13 i (zms mk 13 i 1) st 6 1 (.ref 54) := ⟨rfl, zo_m, _, rfl, Nat.le_of_ble_eq_true rfl, by unfold zsh; rw [zs_m]; rfl⟩
theorem fg_13_2 : ∃ fs, zsh cA zm1 st 13 i = .inr (6, fs) ∧ fs[2]? = some (.int (zgF st 13 i 2)) := ⟨_, rfl, rfl⟩
theorem fp_13_2 (x : Int32) : zPu cA mk st 13 i mk (zuF st 13 i 2 x) 6 2 (.int x) := ⟨rfl, zo_F, _, rfl, Nat.le_of_ble_eq_true rfl, by unfold zsh; rw [zs_F]; rfl⟩
theorem fg_13_3 : ∃ fs, zsh cA zm1 st 13 i = .inr (6, fs) ∧ fs[3]? = some (.int (zgF st 13 i 3)) := ⟨_, rfl, rfl⟩
theorem fp_13_3 (x : Int32) : zPu cA mk st 13 i mk (zuF st 13 i 3 x) 6 3 (.int x) := ⟨rfl, zo_F, _, rfl, Nat.le_of_ble_eq_true rfl, by unfold zsh; rw [zs_F]; rfl⟩
theorem fg_13_4 : ∃ fs, zsh cA zm1 st 13 i = .inr (6, fs) ∧ fs[4]? = some (.int (zgF st 13 i 4)) := ⟨_, rfl, rfl⟩
theorem fp_13_4 (x : Int32) : zPu cA mk st 13 i mk (zuF st 13 i 4 x) 6 4 (.int x) := ⟨rfl, zo_F, _, rfl, Nat.le_of_ble_eq_true rfl, by unfold zsh; rw [zs_F]; rfl⟩
theorem fg_13_5 : ∃ fs, zsh cA zm1 st 13 i = .inr (6, fs) ∧ fs[5]? = some (.int (zgF st 13 i 5)) := ⟨_, rfl, rfl⟩
theorem fp_13_5 (x : Int32) : zPu cA mk st 13 i mk (zuF st 13 i 5 x) 6 5 (.int x) := ⟨rfl, zo_F, _, rfl, Nat.le_of_ble_eq_true rfl, by unfold zsh; rw [zs_F]; rfl⟩
theorem fg_13_6 : ∃ fs, zsh cA zm1 st 13 i = .inr (6, fs) ∧ fs[6]? = some (.ref (201 + 256 * zgP st 13 i 6)) := ⟨_, rfl, rfl⟩
theorem fp_13_6 (x : Nat) : zPu cA zm1 st 13 i zm1 (zuP st 13 i 6 x) 6 6 (.ref (201 + 256 * x)) := ⟨rfl, zo_P, _, rfl, Nat.le_of_ble_eq_true rfl, by unfold zsh; rw [zs_P]; rfl⟩
theorem fm_13_6 (x : Nat) : zPu cA mk st 13 i (zms mk 13 i 6) (zuP st 13 i 6 x) 6 6 (.ref (201 + 256 * x)) := ⟨rfl, zo_Pm, _, rfl, Nat.le_of_ble_eq_true rfl, by unfold zsh; rw [zs_P, zs_m]; rfl⟩
theorem fg_13_7 : ∃ fs, zsh cA zm1 st 13 i = .inr (6, fs) ∧ fs[7]? = some (.int (zgF st 13 i 7)) := ⟨_, rfl, rfl⟩
theorem fp_13_7 (x : Int32) : zPu cA mk st 13 i mk (zuF st 13 i 7 x) 6 7 (.int x) := ⟨rfl, zo_F, _, rfl, Nat.le_of_ble_eq_true rfl, by unfold zsh; rw [zs_F]; rfl⟩
theorem fg_13_8 : ∃ fs, zsh cA zm1 st 13 i = .inr (6, fs) ∧ fs[8]? = some (.int (zgF st 13 i 8)) := ⟨_, rfl, rfl⟩
theorem fp_13_8 (x : Int32) : zPu cA mk st 13 i mk (zuF st 13 i 8 x) 6 8 (.int x) := ⟨rfl, zo_F, _, rfl, Nat.le_of_ble_eq_true rfl, by unfold zsh; rw [zs_F]; rfl⟩
theorem fg_13_9 : ∃ fs, zsh cA zm1 st 13 i = .inr (6, fs) ∧ fs[9]? = some (.int (zgF st 13 i 9)) := ⟨_, rfl, rfl⟩
theorem fp_13_9 (x : Int32) : zPu cA mk st 13 i mk (zuF st 13 i 9 x) 6 9 (.int x) := ⟨rfl, zo_F, _, rfl, Nat.le_of_ble_eq_true rfl, by unfold zsh; rw [zs_F]; rfl⟩
theorem fg_13_10 : ∃ fs, zsh cA zm1 st 13 i = .inr (6, fs) ∧ fs[10]? = some (.ref (24 + 256 * zgP st 13 i 10)) := ⟨_, rfl, rfl⟩
theorem fp_13_10 (x : Nat) : zPu cA zm1 st 13 i zm1 (zuP st 13 i 10 x) 6 10 (.ref (24 + 256 * x)) := ⟨rfl, zo_P, _, rfl, Nat.le_of_ble_eq_true rfl, by unfold zsh; rw [zs_P]; rfl⟩
theorem fm_13_10 (x : Nat) : zPu cA mk st 13 i (zms mk 13 i 10) (zuP st 13 i 10 x) 6 10 (.ref (24 + 256 * x)) := ⟨rfl, zo_Pm, _, rfl, Nat.le_of_ble_eq_true rfl, by unfold zsh; rw [zs_P, zs_m]; rfl⟩
theorem fg_13_11 : ∃ fs, zsh cA zm1 st 13 i = .inr (6, fs) ∧ fs[11]? = some (.int (zgF st 13 i 11)) := ⟨_, rfl, rfl⟩
theorem fp_13_11 (x : Int32) : zPu cA mk st 13 i mk (zuF st 13 i 11 x) 6 11 (.int x) := ⟨rfl, zo_F, _, rfl, Nat.le_of_ble_eq_true rfl, by unfold zsh; rw [zs_F]; rfl⟩
theorem fg_13_12 : ∃ fs, zsh cA zm1 st 13 i = .inr (6, fs) ∧ fs[12]? = some (.int (zgF st 13 i 12)) := ⟨_, rfl, rfl⟩
theorem fp_13_12 (x : Int32) : zPu cA mk st 13 i mk (zuF st 13 i 12 x) 6 12 (.int x) := ⟨rfl, zo_F, _, rfl, Nat.le_of_ble_eq_true rfl, by unfold zsh; rw [zs_F]; rfl⟩
theorem fg_20_0 : ∃ fs, zsh cA zm1 st 20 i = .inr (8, fs) ∧ fs[0]? = some (.ref (55 + 256 * i)) := ⟨_, rfl, rfl⟩
theorem fp_20_0 : zPu cA mk st 20 i (zms mk 20 i 0) st 8 0 (.ref (55 + 256 * i)) := ⟨rfl, zo_m, _, rfl, Nat.le_of_ble_eq_true rfl, by unfold zsh; rw [zs_m]; rfl⟩
theorem fg_20_1 : ∃ fs, zsh cA zm1 st 20 i = .inr (8, fs) ∧ fs[1]? = some (.ref (56 + 256 * i)) := ⟨_, rfl, rfl⟩
theorem fp_20_1 : zPu cA mk st 20 i (zms mk 20 i 1) st 8 1 (.ref (56 + 256 * i)) := ⟨rfl, zo_m, _, rfl, Nat.le_of_ble_eq_true rfl, by unfold zsh; rw [zs_m]; rfl⟩
theorem fg_20_2 : ∃ fs, zsh cA zm1 st 20 i = .inr (8, fs) ∧ fs[2]? = some (.ref (57 + 256 * i)) := ⟨_, rfl, rfl⟩
theorem fp_20_2 : zPu cA mk st 20 i (zms mk 20 i 2) st 8 2 (.ref (57 + 256 * i)) := ⟨rfl, zo_m, _, rfl, Nat.le_of_ble_eq_true rfl, by unfold zsh; rw [zs_m]; rfl⟩
theorem fg_20_3 : ∃ fs, zsh cA zm1 st 20 i = .inr (8, fs) ∧ fs[3]? = some (.ref (58 + 256 * i)) := ⟨_, rfl, rfl⟩
theorem fp_20_3 : zPu cA mk st 20 i (zms mk 20 i 3) st 8 3 (.ref (58 + 256 * i)) := ⟨rfl, zo_m, _, rfl, Nat.le_of_ble_eq_true rfl, by unfold zsh; rw [zs_m]; rfl⟩
theorem fg_20_4 : ∃ fs, zsh cA zm1 st 20 i = .inr (8, fs) ∧ fs[4]? = some (.ref (59 + 256 * i)) := ⟨_, rfl, rfl⟩
theorem fp_20_4 : zPu cA mk st 20 i (zms mk 20 i 4) st 8 4 (.ref (59 + 256 * i)) := ⟨rfl, zo_m, _, rfl, Nat.le_of_ble_eq_true rfl, by unfold zsh; rw [zs_m]; rfl⟩
theorem fg_20_5 : ∃ fs, zsh cA zm1 st 20 i = .inr (8, fs) ∧ fs[5]? = some (.ref (60 + 256 * i)) := ⟨_, rfl, rfl⟩
theorem fp_20_5 : zPu cA mk st 20 i (zms mk 20 i 5) st 8 5 (.ref (60 + 256 * i)) := ⟨rfl, zo_m, _, rfl, Nat.le_of_ble_eq_true rfl, by unfold zsh; rw [zs_m]; rfl⟩
theorem fg_21_0 : ∃ fs, zsh cA zm1 st 21 i = .inr (9, fs) ∧ fs[0]? = some (.ref (20 + 256 * zgP st 21 i 0)) := ⟨_, rfl, rfl⟩
theorem fp_21_0 (x : Nat) : zPu cA zm1 st 21 i zm1 (zuP st 21 i 0 x) 9 0 (.ref (20 + 256 * x)) := ⟨rfl, zo_P, _, rfl, Nat.le_of_ble_eq_true rfl, by unfold zsh; rw [zs_P]; rfl⟩
theorem fm_21_0 (x : Nat) : zPu cA mk st 21 i (zms mk 21 i 0) (zuP st 21 i 0 x) 9 0 (.ref (20 + 256 * x)) := ⟨rfl, zo_Pm, _, rfl, Nat.le_of_ble_eq_true rfl, by unfold zsh; rw [zs_P, zs_m]; rfl⟩
theorem fg_21_1 : ∃ fs, zsh cA zm1 st 21 i = .inr (9, fs) ∧ fs[1]? = some (.int (zgF st 21 i 1)) := ⟨_, rfl, rfl⟩
theorem fp_21_1 (x : Int32) : zPu cA mk st 21 i mk (zuF st 21 i 1 x) 9 1 (.int x) := ⟨rfl, zo_F, _, rfl, Nat.le_of_ble_eq_true rfl, by unfold zsh; rw [zs_F]; rfl⟩
theorem fg_21_2 : ∃ fs, zsh cA zm1 st 21 i = .inr (9, fs) ∧ fs[2]? = some (.int (zgF st 21 i 2)) := ⟨_, rfl, rfl⟩
theorem fp_21_2 (x : Int32) : zPu cA mk st 21 i mk (zuF st 21 i 2 x) 9 2 (.int x) := ⟨rfl, zo_F, _, rfl, Nat.le_of_ble_eq_true rfl, by unfold zsh; rw [zs_F]; rfl⟩
theorem fg_21_3 : ∃ fs, zsh cA zm1 st 21 i = .inr (9, fs) ∧ fs[3]? = some (.ref (24 + 256 * zgP st 21 i 3)) := ⟨_, rfl, rfl⟩
theorem fp_21_3 (x : Nat) : zPu cA zm1 st 21 i zm1 (zuP st 21 i 3 x) 9 3 (.ref (24 + 256 * x)) := ⟨rfl, zo_P, _, rfl, Nat.le_of_ble_eq_true rfl, by unfold zsh; rw [zs_P]; rfl⟩
theorem fm_21_3 (x : Nat) : zPu cA mk st 21 i (zms mk 21 i 3) (zuP st 21 i 3 x) 9 3 (.ref (24 + 256 * x)) := ⟨rfl, zo_Pm, _, rfl, Nat.le_of_ble_eq_true rfl, by unfold zsh; rw [zs_P, zs_m]; rfl⟩
theorem fg_21_4 : ∃ fs, zsh cA zm1 st 21 i = .inr (9, fs) ∧ fs[4]? = some (.int (zgF st 21 i 4)) := ⟨_, rfl, rfl⟩
theorem fp_21_4 (x : Int32) : zPu cA mk st 21 i mk (zuF st 21 i 4 x) 9 4 (.int x) := ⟨rfl, zo_F, _, rfl, Nat.le_of_ble_eq_true rfl, by unfold zsh; rw [zs_F]; rfl⟩
theorem fg_21_5 : ∃ fs, zsh cA zm1 st 21 i = .inr (9, fs) ∧ fs[5]? = some (.int (zgF st 21 i 5)) := ⟨_, rfl, rfl⟩
theorem fp_21_5 (x : Int32) : zPu cA mk st 21 i mk (zuF st 21 i 5 x) 9 5 (.int x) := ⟨rfl, zo_F, _, rfl, Nat.le_of_ble_eq_true rfl, by unfold zsh; rw [zs_F]; rfl⟩
theorem fg_21_6 : ∃ fs, zsh cA zm1 st 21 i = .inr (9, fs) ∧ fs[6]? = some (.int (zgF st 21 i 6)) := ⟨_, rfl, rfl⟩
theorem fp_21_6 (x : Int32) : zPu cA mk st 21 i mk (zuF st 21 i 6 x) 9 6 (.int x) := ⟨rfl, zo_F, _, rfl, Nat.le_of_ble_eq_true rfl, by unfold zsh; rw [zs_F]; rfl⟩
theorem fg_21_7 : ∃ fs, zsh cA zm1 st 21 i = .inr (9, fs) ∧ fs[7]? = some (.int (zgF st 21 i 7)) := ⟨_, rfl, rfl⟩
theorem fp_21_7 (x : Int32) : zPu cA mk st 21 i mk (zuF st 21 i 7 x) 9 7 (.int x) := ⟨rfl, zo_F, _, rfl, Nat.le_of_ble_eq_true rfl, by unfold zsh; rw [zs_F]; rfl⟩
theorem fg_21_8 : ∃ fs, zsh cA zm1 st 21 i = .inr (9, fs) ∧ fs[8]? = some (.int (zgF st 21 i 8)) := ⟨_, rfl, rfl⟩
theorem fp_21_8 (x : Int32) : zPu cA mk st 21 i mk (zuF st 21 i 8 x) 9 8 (.int x) := ⟨rfl, zo_F, _, rfl, Nat.le_of_ble_eq_true rfl, by unfold zsh; rw [zs_F]; rfl⟩
theorem fg_21_9 : ∃ fs, zsh cA zm1 st 21 i = .inr (9, fs) ∧ fs[9]? = some (.int (zgF st 21 i 9)) := ⟨_, rfl, rfl⟩
theorem fp_21_9 (x : Int32) : zPu cA mk st 21 i mk (zuF st 21 i 9 x) 9 9 (.int x) := ⟨rfl, zo_F, _, rfl, Nat.le_of_ble_eq_true rfl, by unfold zsh; rw [zs_F]; rfl⟩
theorem fg_21_10 : ∃ fs, zsh cA zm1 st 21 i = .inr (9, fs) ∧ fs[10]? = some (va_rf ((zgO st 21 i 10).map fun y => 25 + 256 * y)) := ⟨_, rfl, rfl⟩
theorem fp_21_10 (x : Option Nat) : zPu cA mk st 21 i mk (zuO st 21 i 10 x) 9 10 (va_rf (x.map fun y => 25 + 256 * y)) := ⟨rfl, zo_O, _, rfl, Nat.le_of_ble_eq_true rfl, by unfold zsh; rw [zs_O]; rfl⟩
theorem fg_21_11 : ∃ fs, zsh cA zm1 st 21 i = .inr (9, fs) ∧ fs[11]? = some (.int (zgF st 21 i 11)) := ⟨_, rfl, rfl⟩
theorem fp_21_11 (x : Int32) : zPu cA mk st 21 i mk (zuF st 21 i 11 x) 9 11 (.int x) := ⟨rfl, zo_F, _, rfl, Nat.le_of_ble_eq_true rfl, by unfold zsh; rw [zs_F]; rfl⟩
theorem fg_21_12 : ∃ fs, zsh cA zm1 st 21 i = .inr (9, fs) ∧ fs[12]? = some (.ref (67 + 256 * i)) := ⟨_, rfl, rfl⟩
theorem fp_21_12 : zPu cA mk st 21 i (zms mk 21 i 12) st 9 12 (.ref (67 + 256 * i)) := ⟨rfl, zo_m, _, rfl, Nat.le_of_ble_eq_true rfl, by unfold zsh; rw [zs_m]; rfl⟩
theorem fg_21_13 : ∃ fs, zsh cA zm1 st 21 i = .inr (9, fs) ∧ fs[13]? = some (.ref (61 + 256 * i)) := ⟨_, rfl, rfl⟩
theorem fp_21_13 : zPu cA mk st 21 i (zms mk 21 i 13) st 9 13 (.ref (61 + 256 * i)) := ⟨rfl, zo_m, _, rfl, Nat.le_of_ble_eq_true rfl, by unfold zsh; rw [zs_m]; rfl⟩
theorem fg_21_14 : ∃ fs, zsh cA zm1 st 21 i = .inr (9, fs) ∧ fs[14]? = some (.int (zgF st 21 i 14)) := ⟨_, rfl, rfl⟩
theorem fp_21_14 (x : Int32) : zPu cA mk st 21 i mk (zuF st 21 i 14 x) 9 14 (.int x) := ⟨rfl, zo_F, _, rfl, Nat.le_of_ble_eq_true rfl, by unfold zsh; rw [zs_F]; rfl⟩
theorem fg_21_15 : ∃ fs, zsh cA zm1 st 21 i = .inr (9, fs) ∧ fs[15]? = some (.int (zgF st 21 i 15)) := ⟨_, rfl, rfl⟩
theorem fp_21_15 (x : Int32) : zPu cA mk st 21 i mk (zuF st 21 i 15 x) 9 15 (.int x) := ⟨rfl, zo_F, _, rfl, Nat.le_of_ble_eq_true rfl, by unfold zsh; rw [zs_F]; rfl⟩
theorem fg_21_16 : ∃ fs, zsh cA zm1 st 21 i = .inr (9, fs) ∧ fs[16]? = some (.int (zgF st 21 i 16)) := ⟨_, rfl, rfl⟩
theorem fp_21_16 (x : Int32) : zPu cA mk st 21 i mk (zuF st 21 i 16 x) 9 16 (.int x) := ⟨rfl, zo_F, _, rfl, Nat.le_of_ble_eq_true rfl, by unfold zsh; rw [zs_F]; rfl⟩
theorem fg_21_17 : ∃ fs, zsh cA zm1 st 21 i = .inr (9, fs) ∧ fs[17]? = some (.int (zgF st 21 i 17)) := ⟨_, rfl, rfl⟩
theorem fp_21_17 (x : Int32) : zPu cA mk st 21 i mk (zuF st 21 i 17 x) 9 17 (.int x) := ⟨rfl, zo_F, _, rfl, Nat.le_of_ble_eq_true rfl, by unfold zsh; rw [zs_F]; rfl⟩
theorem fg_22_0 : ∃ fs, zsh cA zm1 st 22 i = .inr (7, fs) ∧ fs[0]? = some (.int (zgF st 22 i 0)) := ⟨_, rfl, rfl⟩
theorem fp_22_0 (x : Int32) : zPu cA mk st 22 i mk (zuF st 22 i 0 x) 7 0 (.int x) := ⟨rfl, zo_F, _, rfl, Nat.le_of_ble_eq_true rfl, by unfold zsh; rw [zs_F]; rfl⟩
theorem fg_22_1 : ∃ fs, zsh cA zm1 st 22 i = .inr (7, fs) ∧ fs[1]? = some (.ref (62 + 256 * i)) := ⟨_, rfl, rfl⟩
theorem fp_22_1 : zPu cA mk st 22 i (zms mk 22 i 1) st 7 1 (.ref (62 + 256 * i)) := ⟨rfl, zo_m, _, rfl, Nat.le_of_ble_eq_true rfl, by unfold zsh; rw [zs_m]; rfl⟩
theorem fg_22_2 : ∃ fs, zsh cA zm1 st 22 i = .inr (7, fs) ∧ fs[2]? = some (.ref (63 + 256 * i)) := ⟨_, rfl, rfl⟩
theorem fp_22_2 : zPu cA mk st 22 i (zms mk 22 i 2) st 7 2 (.ref (63 + 256 * i)) := ⟨rfl, zo_m, _, rfl, Nat.le_of_ble_eq_true rfl, by unfold zsh; rw [zs_m]; rfl⟩
theorem fg_22_3 : ∃ fs, zsh cA zm1 st 22 i = .inr (7, fs) ∧ fs[3]? = some (.int (zgF st 22 i 3)) := ⟨_, rfl, rfl⟩
theorem fp_22_3 (x : Int32) : zPu cA mk st 22 i mk (zuF st 22 i 3 x) 7 3 (.int x) := ⟨rfl, zo_F, _, rfl, Nat.le_of_ble_eq_true rfl, by unfold zsh; rw [zs_F]; rfl⟩
theorem fg_23_0 : ∃ fs, zsh cA zm1 st 23 i = .inr (2, fs) ∧ fs[0]? = some (.ref (64 + 256 * i)) := ⟨_, rfl, rfl⟩
theorem fp_23_0 : zPu cA mk st 23 i (zms mk 23 i 0) st 2 0 (.ref (64 + 256 * i)) := ⟨rfl, zo_m, _, rfl, Nat.le_of_ble_eq_true rfl, by unfold zsh; rw [zs_m]; rfl⟩
theorem fg_23_1 : ∃ fs, zsh cA zm1 st 23 i = .inr (2, fs) ∧ fs[1]? = some (.ref (65 + 256 * i)) := ⟨_, rfl, rfl⟩
theorem fp_23_1 : zPu cA mk st 23 i (zms mk 23 i 1) st 2 1 (.ref (65 + 256 * i)) := ⟨rfl, zo_m, _, rfl, Nat.le_of_ble_eq_true rfl, by unfold zsh; rw [zs_m]; rfl⟩
theorem fg_23_2 : ∃ fs, zsh cA zm1 st 23 i = .inr (2, fs) ∧ fs[2]? = some (.int (zgF st 23 i 2)) := ⟨_, rfl, rfl⟩
theorem fp_23_2 (x : Int32) : zPu cA mk st 23 i mk (zuF st 23 i 2 x) 2 2 (.int x) := ⟨rfl, zo_F, _, rfl, Nat.le_of_ble_eq_true rfl, by unfold zsh; rw [zs_F]; rfl⟩
theorem fg_24_0 : ∃ fs, zsh cA zm1 st 24 i = .inr (5, fs) ∧ fs[0]? = some (.int (zgF st 24 i 0)) := ⟨_, rfl, rfl⟩
theorem fp_24_0 (x : Int32) : zPu cA mk st 24 i mk (zuF st 24 i 0 x) 5 0 (.int x) := ⟨rfl, zo_F, _, rfl, Nat.le_of_ble_eq_true rfl, by unfold zsh; rw [zs_F]; rfl⟩
theorem fg_24_1 : ∃ fs, zsh cA zm1 st 24 i = .inr (5, fs) ∧ fs[1]? = some (.ref (66 + 256 * i)) := ⟨_, rfl, rfl⟩
theorem fp_24_1 : zPu cA mk st 24 i (zms mk 24 i 1) st 5 1 (.ref (66 + 256 * i)) := ⟨rfl, zo_m, _, rfl, Nat.le_of_ble_eq_true rfl, by unfold zsh; rw [zs_m]; rfl⟩
theorem fg_24_2 : ∃ fs, zsh cA zm1 st 24 i = .inr (5, fs) ∧ fs[2]? = some (.ref (68 + 256 * i)) := ⟨_, rfl, rfl⟩
theorem fp_24_2 : zPu cA mk st 24 i (zms mk 24 i 2) st 5 2 (.ref (68 + 256 * i)) := ⟨rfl, zo_m, _, rfl, Nat.le_of_ble_eq_true rfl, by unfold zsh; rw [zs_m]; rfl⟩
theorem fg_24_3 : ∃ fs, zsh cA zm1 st 24 i = .inr (5, fs) ∧ fs[3]? = some (.int (zgF st 24 i 3)) := ⟨_, rfl, rfl⟩
theorem fp_24_3 (x : Int32) : zPu cA mk st 24 i mk (zuF st 24 i 3 x) 5 3 (.int x) := ⟨rfl, zo_F, _, rfl, Nat.le_of_ble_eq_true rfl, by unfold zsh; rw [zs_F]; rfl⟩
theorem fg_24_4 : ∃ fs, zsh cA zm1 st 24 i = .inr (5, fs) ∧ fs[4]? = some (.int (zgF st 24 i 4)) := ⟨_, rfl, rfl⟩
theorem fp_24_4 (x : Int32) : zPu cA mk st 24 i mk (zuF st 24 i 4 x) 5 4 (.int x) := ⟨rfl, zo_F, _, rfl, Nat.le_of_ble_eq_true rfl, by unfold zsh; rw [zs_F]; rfl⟩
theorem fg_24_5 : ∃ fs, zsh cA zm1 st 24 i = .inr (5, fs) ∧ fs[5]? = some (.int (zgF st 24 i 5)) := ⟨_, rfl, rfl⟩
theorem fp_24_5 (x : Int32) : zPu cA mk st 24 i mk (zuF st 24 i 5 x) 5 5 (.int x) := ⟨rfl, zo_F, _, rfl, Nat.le_of_ble_eq_true rfl, by unfold zsh; rw [zs_F]; rfl⟩
theorem fg_24_6 : ∃ fs, zsh cA zm1 st 24 i = .inr (5, fs) ∧ fs[6]? = some (.int (zgF st 24 i 6)) := ⟨_, rfl, rfl⟩
theorem fp_24_6 (x : Int32) : zPu cA mk st 24 i mk (zuF st 24 i 6 x) 5 6 (.int x) := ⟨rfl, zo_F, _, rfl, Nat.le_of_ble_eq_true rfl, by unfold zsh; rw [zs_F]; rfl⟩
theorem fg_24_7 : ∃ fs, zsh cA zm1 st 24 i = .inr (5, fs) ∧ fs[7]? = some (.int (zgF st 24 i 7)) := ⟨_, rfl, rfl⟩
theorem fp_24_7 (x : Int32) : zPu cA mk st 24 i mk (zuF st 24 i 7 x) 5 7 (.int x) := ⟨rfl, zo_F, _, rfl, Nat.le_of_ble_eq_true rfl, by unfold zsh; rw [zs_F]; rfl⟩
theorem fg_24_8 : ∃ fs, zsh cA zm1 st 24 i = .inr (5, fs) ∧ fs[8]? = some (.int (zgF st 24 i 8)) := ⟨_, rfl, rfl⟩
theorem fp_24_8 (x : Int32) : zPu cA mk st 24 i mk (zuF st 24 i 8 x) 5 8 (.int x) := ⟨rfl, zo_F, _, rfl, Nat.le_of_ble_eq_true rfl, by unfold zsh; rw [zs_F]; rfl⟩
theorem fg_24_9 : ∃ fs, zsh cA zm1 st 24 i = .inr (5, fs) ∧ fs[9]? = some (.int (zgF st 24 i 9)) := ⟨_, rfl, rfl⟩
theorem fp_24_9 (x : Int32) : zPu cA mk st 24 i mk (zuF st 24 i 9 x) 5 9 (.int x) := ⟨rfl, zo_F, _, rfl, Nat.le_of_ble_eq_true rfl, by unfold zsh; rw [zs_F]; rfl⟩
theorem fg_24_10 : ∃ fs, zsh cA zm1 st 24 i = .inr (5, fs) ∧ fs[10]? = some (.int (zgF st 24 i 10)) := ⟨_, rfl, rfl⟩
theorem fp_24_10 (x : Int32) : zPu cA mk st 24 i mk (zuF st 24 i 10 x) 5 10 (.int x) := ⟨rfl, zo_F, _, rfl, Nat.le_of_ble_eq_true rfl, by unfold zsh; rw [zs_F]; rfl⟩
theorem fg_24_11 : ∃ fs, zsh cA zm1 st 24 i = .inr (5, fs) ∧ fs[11]? = some (.int (zgF st 24 i 11)) := ⟨_, rfl, rfl⟩
theorem fp_24_11 (x : Int32) : zPu cA mk st 24 i mk (zuF st 24 i 11 x) 5 11 (.int x) := ⟨rfl, zo_F, _, rfl, Nat.le_of_ble_eq_true rfl, by unfold zsh; rw [zs_F]; rfl⟩
theorem fg_24_12 : ∃ fs, zsh cA zm1 st 24 i = .inr (5, fs) ∧ fs[12]? = some (.int (zgF st 24 i 12)) := ⟨_, rfl, rfl⟩
theorem fp_24_12 (x : Int32) : zPu cA mk st 24 i mk (zuF st 24 i 12 x) 5 12 (.int x) := ⟨rfl, zo_F, _, rfl, Nat.le_of_ble_eq_true rfl, by unfold zsh; rw [zs_F]; rfl⟩
theorem fg_24_13 : ∃ fs, zsh cA zm1 st 24 i = .inr (5, fs) ∧ fs[13]? = some (.int (zgF st 24 i 13)) := ⟨_, rfl, rfl⟩
theorem fp_24_13 (x : Int32) : zPu cA mk st 24 i mk (zuF st 24 i 13 x) 5 13 (.int x) := ⟨rfl, zo_F, _, rfl, Nat.le_of_ble_eq_true rfl, by unfold zsh; rw [zs_F]; rfl⟩
theorem fg_25_0 : ∃ fs, zsh cA zm1 st 25 i = .inr (4, fs) ∧ fs[0]? = some (.int (zgF st 25 i 0)) := ⟨_, rfl, rfl⟩
theorem fp_25_0 (x : Int32) : zPu cA mk st 25 i mk (zuF st 25 i 0 x) 4 0 (.int x) := ⟨rfl, zo_F, _, rfl, Nat.le_of_ble_eq_true rfl, by unfold zsh; rw [zs_F]; rfl⟩
theorem fg_25_1 : ∃ fs, zsh cA zm1 st 25 i = .inr (4, fs) ∧ fs[1]? = some (.int (zgF st 25 i 1)) := ⟨_, rfl, rfl⟩
theorem fp_25_1 (x : Int32) : zPu cA mk st 25 i mk (zuF st 25 i 1 x) 4 1 (.int x) := ⟨rfl, zo_F, _, rfl, Nat.le_of_ble_eq_true rfl, by unfold zsh; rw [zs_F]; rfl⟩
theorem fg_25_2 : ∃ fs, zsh cA zm1 st 25 i = .inr (4, fs) ∧ fs[2]? = some (.int (zgF st 25 i 2)) := ⟨_, rfl, rfl⟩
theorem fp_25_2 (x : Int32) : zPu cA mk st 25 i mk (zuF st 25 i 2 x) 4 2 (.int x) := ⟨rfl, zo_F, _, rfl, Nat.le_of_ble_eq_true rfl, by unfold zsh; rw [zs_F]; rfl⟩
theorem fg_30_0 : ∃ fs, zsh cA zm1 st 30 i = .inr (0, fs) ∧ fs[0]? = some (.int (zgF st 30 i 0)) := ⟨_, rfl, rfl⟩
theorem fp_30_0 (x : Int32) : zPu cA mk st 30 i mk (zuF st 30 i 0 x) 0 0 (.int x) := ⟨rfl, zo_F, _, rfl, Nat.le_of_ble_eq_true rfl, by unfold zsh; rw [zs_F]; rfl⟩
theorem fg_30_1 : ∃ fs, zsh cA zm1 st 30 i = .inr (0, fs) ∧ fs[1]? = some (.ref (zgP st 30 i 1)) := ⟨_, rfl, rfl⟩
theorem fp_30_1 (x : Nat) : zPu cA zm1 st 30 i zm1 (zuP st 30 i 1 x) 0 1 (.ref (x)) := ⟨rfl, zo_P, _, rfl, Nat.le_of_ble_eq_true rfl, by unfold zsh; rw [zs_P]; rfl⟩
theorem fm_30_1 (x : Nat) : zPu cA mk st 30 i (zms mk 30 i 1) (zuP st 30 i 1 x) 0 1 (.ref (x)) := ⟨rfl, zo_Pm, _, rfl, Nat.le_of_ble_eq_true rfl, by unfold zsh; rw [zs_P, zs_m]; rfl⟩
theorem fg_30_2 : ∃ fs, zsh cA zm1 st 30 i = .inr (0, fs) ∧ fs[2]? = some (.int (zgF st 30 i 2)) := ⟨_, rfl, rfl⟩
theorem fp_30_2 (x : Int32) : zPu cA mk st 30 i mk (zuF st 30 i 2 x) 0 2 (.int x) := ⟨rfl, zo_F, _, rfl, Nat.le_of_ble_eq_true rfl, by unfold zsh; rw [zs_F]; rfl⟩
theorem fg_31_0 : ∃ fs, zsh cA zm1 st 31 i = .inr (0, fs) ∧ fs[0]? = some (.int (zgF st 31 i 0)) := ⟨_, rfl, rfl⟩
theorem fp_31_0 (x : Int32) : zPu cA mk st 31 i mk (zuF st 31 i 0 x) 0 0 (.int x) := ⟨rfl, zo_F, _, rfl, Nat.le_of_ble_eq_true rfl, by unfold zsh; rw [zs_F]; rfl⟩
theorem fg_31_1 : ∃ fs, zsh cA zm1 st 31 i = .inr (0, fs) ∧ fs[1]? = some (.ref (zgP st 31 i 1)) := ⟨_, rfl, rfl⟩
theorem fp_31_1 (x : Nat) : zPu cA zm1 st 31 i zm1 (zuP st 31 i 1 x) 0 1 (.ref (x)) := ⟨rfl, zo_P, _, rfl, Nat.le_of_ble_eq_true rfl, by unfold zsh; rw [zs_P]; rfl⟩
theorem fm_31_1 (x : Nat) : zPu cA mk st 31 i (zms mk 31 i 1) (zuP st 31 i 1 x) 0 1 (.ref (x)) := ⟨rfl, zo_Pm, _, rfl, Nat.le_of_ble_eq_true rfl, by unfold zsh; rw [zs_P, zs_m]; rfl⟩
theorem fg_31_2 : ∃ fs, zsh cA zm1 st 31 i = .inr (0, fs) ∧ fs[2]? = some (.int (zgF st 31 i 2)) := ⟨_, rfl, rfl⟩
theorem fp_31_2 (x : Int32) : zPu cA mk st 31 i mk (zuF st 31 i 2 x) 0 2 (.int x) := ⟨rfl, zo_F, _, rfl, Nat.le_of_ble_eq_true rfl, by unfold zsh; rw [zs_F]; rfl⟩
theorem fg_32_0 : ∃ fs, zsh cA zm1 st 32 i = .inr (0, fs) ∧ fs[0]? = some (.int (zgF st 32 i 0)) := ⟨_, rfl, rfl⟩
theorem fp_32_0 (x : Int32) : zPu cA mk st 32 i mk (zuF st 32 i 0 x) 0 0 (.int x) := ⟨rfl, zo_F, _, rfl, Nat.le_of_ble_eq_true rfl, by unfold zsh; rw [zs_F]; rfl⟩
theorem fg_32_1 : ∃ fs, zsh cA zm1 st 32 i = .inr (0, fs) ∧ fs[1]? = some (.ref (zgP st 32 i 1)) := ⟨_, rfl, rfl⟩
theorem fp_32_1 (x : Nat) : zPu cA zm1 st 32 i zm1 (zuP st 32 i 1 x) 0 1 (.ref (x)) := ⟨rfl, zo_P, _, rfl, Nat.le_of_ble_eq_true rfl, by unfold zsh; rw [zs_P]; rfl⟩
theorem fm_32_1 (x : Nat) : zPu cA mk st 32 i (zms mk 32 i 1) (zuP st 32 i 1 x) 0 1 (.ref (x)) := ⟨rfl, zo_Pm, _, rfl, Nat.le_of_ble_eq_true rfl, by unfold zsh; rw [zs_P, zs_m]; rfl⟩
theorem fg_32_2 : ∃ fs, zsh cA zm1 st 32 i = .inr (0, fs) ∧ fs[2]? = some (.int (zgF st 32 i 2)) := ⟨_, rfl, rfl⟩
theorem fp_32_2 (x : Int32) : zPu cA mk st 32 i mk (zuF st 32 i 2 x) 0 2 (.int x) := ⟨rfl, zo_F, _, rfl, Nat.le_of_ble_eq_true rfl, by unfold zsh; rw [zs_F]; rfl⟩
theorem fg_33_0 : ∃ fs, zsh cA zm1 st 33 i = .inr (0, fs) ∧ fs[0]? = some (.int (zgF st 33 i 0)) := ⟨_, rfl, rfl⟩
theorem fp_33_0 (x : Int32) : zPu cA mk st 33 i mk (zuF st 33 i 0 x) 0 0 (.int x) := ⟨rfl, zo_F, _, rfl, Nat.le_of_ble_eq_true rfl, by unfold zsh; rw [zs_F]; rfl⟩
theorem fg_33_1 : ∃ fs, zsh cA zm1 st 33 i = .inr (0, fs) ∧ fs[1]? = some (.ref (zgP st 33 i 1)) := ⟨_, rfl, rfl⟩
theorem fp_33_1 (x : Nat) : zPu cA zm1 st 33 i zm1 (zuP st 33 i 1 x) 0 1 (.ref (x)) := ⟨rfl, zo_P, _, rfl, Nat.le_of_ble_eq_true rfl, by unfold zsh; rw [zs_P]; rfl⟩
theorem fm_33_1 (x : Nat) : zPu cA mk st 33 i (zms mk 33 i 1) (zuP st 33 i 1 x) 0 1 (.ref (x)) := ⟨rfl, zo_Pm, _, rfl, Nat.le_of_ble_eq_true rfl, by unfold zsh; rw [zs_P, zs_m]; rfl⟩
theorem fg_33_2 : ∃ fs, zsh cA zm1 st 33 i = .inr (0, fs) ∧ fs[2]? = some (.int (zgF st 33 i 2)) := ⟨_, rfl, rfl⟩
theorem fp_33_2 (x : Int32) : zPu cA mk st 33 i mk (zuF st 33 i 2 x) 0 2 (.int x) := ⟨rfl, zo_F, _, rfl, Nat.le_of_ble_eq_true rfl, by unfold zsh; rw [zs_F]; rfl⟩
theorem sh_40 : zsh cA mk st 40 i = .inl (cA 0, 12, .inl (zgA st 40 i)) := rfl
theorem sh_41 : zsh cA mk st 41 i = .inl (cA 0, 12, .inl (zgA st 41 i)) := rfl
theorem sh_42 : zsh cA mk st 42 i = .inl (cA 0, 5, .inl (zgA st 42 i)) := rfl
theorem sh_43 : zsh cA mk st 43 i = .inl (cA 1, 400, .inl (zgA st 43 i)) := rfl
theorem sh_44 : zsh cA mk st 44 i = .inl (cA 0, 300, .inl (zgA st 44 i)) := rfl
theorem sh_45 : zsh cA mk st 45 i = .inl (cA 0, 300, .inl (zgA st 45 i)) := rfl
theorem sh_46 : zsh cA mk st 46 i = .inl (cA 0, 300, .inl (zgA st 46 i)) := rfl
theorem sh_47 : zsh cA mk st 47 i = .inl (cA 0, 300, .inl (zgA st 47 i)) := rfl
theorem sh_48 : zsh cA mk st 48 i = .inl (cA 0, 60, .inl (zgA st 48 i)) := rfl
theorem sh_49 : zsh cA mk st 49 i = .inl (cA 0, 60, .inl (zgA st 49 i)) := rfl
theorem sh_50 : zsh cA mk st 50 i = .inl (cA 0, 60, .inl (zgA st 50 i)) := rfl
theorem sh_51 : zsh cA mk st 51 i = .inl (cA 0, 441, .inl (zgA st 51 i)) := rfl
theorem sh_52 : zsh cA mk st 52 i = .inl (cA 0, 441, .inl (zgA st 52 i)) := rfl
theorem sh_53 : zsh cA mk st 53 i = .inl (cA 0, 20, .inl (zgA st 53 i)) := rfl
theorem sh_54 : zsh cA mk st 54 i = .inl (cA 0, 400, .inl (zgA st 54 i)) := rfl
theorem sh_55 : zsh cA mk st 55 i = .inl (cA 0, 2, .inl (zgA st 55 i)) := rfl
theorem sh_56 : zsh cA mk st 56 i = .inl (cA 0, 12, .inl (zgA st 56 i)) := rfl
theorem sh_57 : zsh cA mk st 57 i = .inl (cA 0, 240, .inl (zgA st 57 i)) := rfl
theorem sh_58 : zsh cA mk st 58 i = .inl (cA 0, 240, .inl (zgA st 58 i)) := rfl
theorem sh_59 : zsh cA mk st 59 i = .inl (cA 0, 240, .inl (zgA st 59 i)) := rfl
theorem sh_60 : zsh cA mk st 60 i = .inl (cA 0, 240, .inl (zgA st 60 i)) := rfl
theorem sh_61 : zsh cA mk st 61 i = .inl (cA 0, 3, .inl (zgA st 61 i)) := rfl
theorem sh_62 : zsh cA mk st 62 i = .inl (cA 0, 20, .inl (zgA st 62 i)) := rfl
theorem sh_63 : zsh cA mk st 63 i = .inl (cA 0, 20, .inl (zgA st 63 i)) := rfl
theorem sh_64 : zsh cA mk st 64 i = .inl (cA 0, 40, .inl (zgA st 64 i)) := rfl
theorem sh_65 : zsh cA mk st 65 i = .inl (cA 0, 40, .inl (zgA st 65 i)) := rfl
theorem sh_66 : zsh cA mk st 66 i = .inl (cA 0, 4, .inl (zgA st 66 i)) := rfl
theorem sh_69 : zsh cA mk st 69 i = .inl (cA 0, (zgL st 69 i), .inl (zgA st 69 i)) := rfl
theorem fg_100_0 : ∃ fs, zsh cA zm1 st 100 i = .inr (11, fs) ∧ fs[0]? = some (.int (zgF st 100 i 0)) := ⟨_, rfl, rfl⟩
theorem fp_100_0 (x : Int32) : zPu cA mk st 100 i mk (zuF st 100 i 0 x) 11 0 (.int x) := ⟨rfl, zo_F, _, rfl, Nat.le_of_ble_eq_true rfl, by unfold zsh; rw [zs_F]; rfl⟩
theorem fg_100_1 : ∃ fs, zsh cA zm1 st 100 i = .inr (11, fs) ∧ fs[1]? = some (.int (zgF st 100 i 1)) := ⟨_, rfl, rfl⟩
theorem fp_100_1 (x : Int32) : zPu cA mk st 100 i mk (zuF st 100 i 1 x) 11 1 (.int x) := ⟨rfl, zo_F, _, rfl, Nat.le_of_ble_eq_true rfl, by unfold zsh; rw [zs_F]; rfl⟩
theorem fg_100_2 : ∃ fs, zsh cA zm1 st 100 i = .inr (11, fs) ∧ fs[2]? = some (.int (zgF st 100 i 2)) := ⟨_, rfl, rfl⟩
theorem fp_100_2 (x : Int32) : zPu cA mk st 100 i mk (zuF st 100 i 2 x) 11 2 (.int x) := ⟨rfl, zo_F, _, rfl, Nat.le_of_ble_eq_true rfl, by unfold zsh; rw [zs_F]; rfl⟩
theorem fg_100_3 : ∃ fs, zsh cA zm1 st 100 i = .inr (11, fs) ∧ fs[3]? = some (.int (zgF st 100 i 3)) := ⟨_, rfl, rfl⟩
theorem fp_100_3 (x : Int32) : zPu cA mk st 100 i mk (zuF st 100 i 3 x) 11 3 (.int x) := ⟨rfl, zo_F, _, rfl, Nat.le_of_ble_eq_true rfl, by unfold zsh; rw [zs_F]; rfl⟩
theorem fg_100_4 : ∃ fs, zsh cA zm1 st 100 i = .inr (11, fs) ∧ fs[4]? = some (.ref 101) := ⟨_, rfl, rfl⟩
theorem fp_100_4 : zPu cA mk st 100 i (zms mk 100 i 4) st 11 4 (.ref 101) := ⟨rfl, zo_m, _, rfl, Nat.le_of_ble_eq_true rfl, by unfold zsh; rw [zs_m]; rfl⟩
theorem fg_100_5 : ∃ fs, zsh cA zm1 st 100 i = .inr (11, fs) ∧ fs[5]? = some (.ref 102) := ⟨_, rfl, rfl⟩
theorem fp_100_5 : zPu cA mk st 100 i (zms mk 100 i 5) st 11 5 (.ref 102) := ⟨rfl, zo_m, _, rfl, Nat.le_of_ble_eq_true rfl, by unfold zsh; rw [zs_m]; rfl⟩
theorem fg_100_6 : ∃ fs, zsh cA zm1 st 100 i = .inr (11, fs) ∧ fs[6]? = some (.int (zgF st 100 i 6)) := ⟨_, rfl, rfl⟩
theorem fp_100_6 (x : Int32) : zPu cA mk st 100 i mk (zuF st 100 i 6 x) 11 6 (.int x) := ⟨rfl, zo_F, _, rfl, Nat.le_of_ble_eq_true rfl, by unfold zsh; rw [zs_F]; rfl⟩
theorem fg_100_7 : ∃ fs, zsh cA zm1 st 100 i = .inr (11, fs) ∧ fs[7]? = some (.int (zgF st 100 i 7)) := ⟨_, rfl, rfl⟩
theorem fp_100_7 (x : Int32) : zPu cA mk st 100 i mk (zuF st 100 i 7 x) 11 7 (.int x) := ⟨rfl, zo_F, _, rfl, Nat.le_of_ble_eq_true rfl, by unfold zsh; rw [zs_F]; rfl⟩
theorem fg_100_8 : ∃ fs, zsh cA zm1 st 100 i = .inr (11, fs) ∧ fs[8]? = some (.int (zgF st 100 i 8)) := ⟨_, rfl, rfl⟩
theorem fp_100_8 (x : Int32) : zPu cA mk st 100 i mk (zuF st 100 i 8 x) 11 8 (.int x) := ⟨rfl, zo_F, _, rfl, Nat.le_of_ble_eq_true rfl, by unfold zsh; rw [zs_F]; rfl⟩
theorem fg_100_9 : ∃ fs, zsh cA zm1 st 100 i = .inr (11, fs) ∧ fs[9]? = some (.int (zgF st 100 i 9)) := ⟨_, rfl, rfl⟩
theorem fp_100_9 (x : Int32) : zPu cA mk st 100 i mk (zuF st 100 i 9 x) 11 9 (.int x) := ⟨rfl, zo_F, _, rfl, Nat.le_of_ble_eq_true rfl, by unfold zsh; rw [zs_F]; rfl⟩
theorem fg_100_10 : ∃ fs, zsh cA zm1 st 100 i = .inr (11, fs) ∧ fs[10]? = some (.int (zgF st 100 i 10)) := ⟨_, rfl, rfl⟩
theorem fp_100_10 (x : Int32) : zPu cA mk st 100 i mk (zuF st 100 i 10 x) 11 10 (.int x) := ⟨rfl, zo_F, _, rfl, Nat.le_of_ble_eq_true rfl, by unfold zsh; rw [zs_F]; rfl⟩
theorem fg_100_11 : ∃ fs, zsh cA zm1 st 100 i = .inr (11, fs) ∧ fs[11]? = some (.int (zgF st 100 i 11)) := ⟨_, rfl, rfl⟩
theorem fp_100_11 (x : Int32) : zPu cA mk st 100 i mk (zuF st 100 i 11 x) 11 11 (.int x) := ⟨rfl, zo_F, _, rfl, Nat.le_of_ble_eq_true rfl, by unfold zsh; rw [zs_F]; rfl⟩
theorem fg_100_12 : ∃ fs, zsh cA zm1 st 100 i = .inr (11, fs) ∧ fs[12]? = some (.int (zgF st 100 i 12)) := ⟨_, rfl, rfl⟩
theorem fp_100_12 (x : Int32) : zPu cA mk st 100 i mk (zuF st 100 i 12 x) 11 12 (.int x) := ⟨rfl, zo_F, _, rfl, Nat.le_of_ble_eq_true rfl, by unfold zsh; rw [zs_F]; rfl⟩
theorem fg_100_13 : ∃ fs, zsh cA zm1 st 100 i = .inr (11, fs) ∧ fs[13]? = some (.ref 103) := ⟨_, rfl, rfl⟩
theorem fp_100_13 : zPu cA mk st 100 i (zms mk 100 i 13) st 11 13 (.ref 103) := ⟨rfl, zo_m, _, rfl, Nat.le_of_ble_eq_true rfl, by unfold zsh; rw [zs_m]; rfl⟩
theorem fg_100_14 : ∃ fs, zsh cA zm1 st 100 i = .inr (11, fs) ∧ fs[14]? = some (.ref 104) := ⟨_, rfl, rfl⟩
theorem fp_100_14 : zPu cA mk st 100 i (zms mk 100 i 14) st 11 14 (.ref 104) := ⟨rfl, zo_m, _, rfl, Nat.le_of_ble_eq_true rfl, by unfold zsh; rw [zs_m]; rfl⟩
theorem fg_100_15 : ∃ fs, zsh cA zm1 st 100 i = .inr (11, fs) ∧ fs[15]? = some (.ref 105) := ⟨_, rfl, rfl⟩
theorem fp_100_15 : zPu cA mk st 100 i (zms mk 100 i 15) st 11 15 (.ref 105) := ⟨rfl, zo_m, _, rfl, Nat.le_of_ble_eq_true rfl, by unfold zsh; rw [zs_m]; rfl⟩
theorem fg_100_16 : ∃ fs, zsh cA zm1 st 100 i = .inr (11, fs) ∧ fs[16]? = some (.ref 106) := ⟨_, rfl, rfl⟩
theorem fp_100_16 : zPu cA mk st 100 i (zms mk 100 i 16) st 11 16 (.ref 106) := ⟨rfl, zo_m, _, rfl, Nat.le_of_ble_eq_true rfl, by unfold zsh; rw [zs_m]; rfl⟩
theorem fg_100_17 : ∃ fs, zsh cA zm1 st 100 i = .inr (11, fs) ∧ fs[17]? = some (.ref 107) := ⟨_, rfl, rfl⟩
theorem fp_100_17 : zPu cA mk st 100 i (zms mk 100 i 17) st 11 17 (.ref 107) := ⟨rfl, zo_m, _, rfl, Nat.le_of_ble_eq_true rfl, by unfold zsh; rw [zs_m]; rfl⟩
theorem fg_100_18 : ∃ fs, zsh cA zm1 st 100 i = .inr (11, fs) ∧ fs[18]? = some (.ref 108) := ⟨_, rfl, rfl⟩
theorem fp_100_18 : zPu cA mk st 100 i (zms mk 100 i 18) st 11 18 (.ref 108) := ⟨rfl, zo_m, _, rfl, Nat.le_of_ble_eq_true rfl, by unfold zsh; rw [zs_m]; rfl⟩
theorem fg_100_19 : ∃ fs, zsh cA zm1 st 100 i = .inr (11, fs) ∧ fs[19]? = some (.ref 109) := ⟨_, rfl, rfl⟩
theorem fp_100_19 : zPu cA mk st 100 i (zms mk 100 i 19) st 11 19 (.ref 109) := ⟨rfl, zo_m, _, rfl, Nat.le_of_ble_eq_true rfl, by unfold zsh; rw [zs_m]; rfl⟩
theorem fg_100_20 : ∃ fs, zsh cA zm1 st 100 i = .inr (11, fs) ∧ fs[20]? = some (.ref 110) := ⟨_, rfl, rfl⟩
theorem fp_100_20 : zPu cA mk st 100 i (zms mk 100 i 20) st 11 20 (.ref 110) := ⟨rfl, zo_m, _, rfl, Nat.le_of_ble_eq_true rfl, by unfold zsh; rw [zs_m]; rfl⟩
theorem fg_100_21 : ∃ fs, zsh cA zm1 st 100 i = .inr (11, fs) ∧ fs[21]? = some (.int (zgF st 100 i 21)) := ⟨_, rfl, rfl⟩
theorem fp_100_21 (x : Int32) : zPu cA mk st 100 i mk (zuF st 100 i 21 x) 11 21 (.int x) := ⟨rfl, zo_F, _, rfl, Nat.le_of_ble_eq_true rfl, by unfold zsh; rw [zs_F]; rfl⟩
theorem fg_100_22 : ∃ fs, zsh cA zm1 st 100 i = .inr (11, fs) ∧ fs[22]? = some (.ref 111) := ⟨_, rfl, rfl⟩
theorem fp_100_22 : zPu cA mk st 100 i (zms mk 100 i 22) st 11 22 (.ref 111) := ⟨rfl, zo_m, _, rfl, Nat.le_of_ble_eq_true rfl, by unfold zsh; rw [zs_m]; rfl⟩
theorem fg_100_23 : ∃ fs, zsh cA zm1 st 100 i = .inr (11, fs) ∧ fs[23]? = some (.int (zgF st 100 i 23)) := ⟨_, rfl, rfl⟩
theorem fp_100_23 (x : Int32) : zPu cA mk st 100 i mk (zuF st 100 i 23 x) 11 23 (.int x) := ⟨rfl, zo_F, _, rfl, Nat.le_of_ble_eq_true rfl, by unfold zsh; rw [zs_F]; rfl⟩
theorem fg_100_24 : ∃ fs, zsh cA zm1 st 100 i = .inr (11, fs) ∧ fs[24]? = some (.ref 112) := ⟨_, rfl, rfl⟩
theorem fp_100_24 : zPu cA mk st 100 i (zms mk 100 i 24) st 11 24 (.ref 112) := ⟨rfl, zo_m, _, rfl, Nat.le_of_ble_eq_true rfl, by unfold zsh; rw [zs_m]; rfl⟩
theorem fg_100_25 : ∃ fs, zsh cA zm1 st 100 i = .inr (11, fs) ∧ fs[25]? = some (.ref 113) := ⟨_, rfl, rfl⟩
theorem fp_100_25 : zPu cA mk st 100 i (zms mk 100 i 25) st 11 25 (.ref 113) := ⟨rfl, zo_m, _, rfl, Nat.le_of_ble_eq_true rfl, by unfold zsh; rw [zs_m]; rfl⟩
theorem fg_100_26 : ∃ fs, zsh cA zm1 st 100 i = .inr (11, fs) ∧ fs[26]? = some (.ref 114) := ⟨_, rfl, rfl⟩
theorem fp_100_26 : zPu cA mk st 100 i (zms mk 100 i 26) st 11 26 (.ref 114) := ⟨rfl, zo_m, _, rfl, Nat.le_of_ble_eq_true rfl, by unfold zsh; rw [zs_m]; rfl⟩
theorem fg_100_27 : ∃ fs, zsh cA zm1 st 100 i = .inr (11, fs) ∧ fs[27]? = some (.ref 115) := ⟨_, rfl, rfl⟩
theorem fp_100_27 : zPu cA mk st 100 i (zms mk 100 i 27) st 11 27 (.ref 115) := ⟨rfl, zo_m, _, rfl, Nat.le_of_ble_eq_true rfl, by unfold zsh; rw [zs_m]; rfl⟩
theorem fg_100_28 : ∃ fs, zsh cA zm1 st 100 i = .inr (11, fs) ∧ fs[28]? = some (.ref 116) := ⟨_, rfl, rfl⟩
theorem fp_100_28 : zPu cA mk st 100 i (zms mk 100 i 28) st 11 28 (.ref 116) := ⟨rfl, zo_m, _, rfl, Nat.le_of_ble_eq_true rfl, by unfold zsh; rw [zs_m]; rfl⟩
theorem fg_100_29 : ∃ fs, zsh cA zm1 st 100 i = .inr (11, fs) ∧ fs[29]? = some (.ref 117) := ⟨_, rfl, rfl⟩
theorem fp_100_29 : zPu cA mk st 100 i (zms mk 100 i 29) st 11 29 (.ref 117) := ⟨rfl, zo_m, _, rfl, Nat.le_of_ble_eq_true rfl, by unfold zsh; rw [zs_m]; rfl⟩
theorem fg_100_30 : ∃ fs, zsh cA zm1 st 100 i = .inr (11, fs) ∧ fs[30]? = some (.ref 118) := ⟨_, rfl, rfl⟩
theorem fp_100_30 : zPu cA mk st 100 i (zms mk 100 i 30) st 11 30 (.ref 118) := ⟨rfl, zo_m, _, rfl, Nat.le_of_ble_eq_true rfl, by unfold zsh; rw [zs_m]; rfl⟩
theorem fg_100_31 : ∃ fs, zsh cA zm1 st 100 i = .inr (11, fs) ∧ fs[31]? = some (.ref 119) := ⟨_, rfl, rfl⟩
theorem fp_100_31 : zPu cA mk st 100 i (zms mk 100 i 31) st 11 31 (.ref 119) := ⟨rfl, zo_m, _, rfl, Nat.le_of_ble_eq_true rfl, by unfold zsh; rw [zs_m]; rfl⟩
theorem fg_100_32 : ∃ fs, zsh cA zm1 st 100 i = .inr (11, fs) ∧ fs[32]? = some (.ref 120) := ⟨_, rfl, rfl⟩
theorem fp_100_32 : zPu cA mk st 100 i (zms mk 100 i 32) st 11 32 (.ref 120) := ⟨rfl, zo_m, _, rfl, Nat.le_of_ble_eq_true rfl, by unfold zsh; rw [zs_m]; rfl⟩
theorem fg_100_33 : ∃ fs, zsh cA zm1 st 100 i = .inr (11, fs) ∧ fs[33]? = some (.ref 121) := ⟨_, rfl, rfl⟩
theorem fp_100_33 : zPu cA mk st 100 i (zms mk 100 i 33) st 11 33 (.ref 121) := ⟨rfl, zo_m, _, rfl, Nat.le_of_ble_eq_true rfl, by unfold zsh; rw [zs_m]; rfl⟩
theorem fg_100_34 : ∃ fs, zsh cA zm1 st 100 i = .inr (11, fs) ∧ fs[34]? = some (.ref 122) := ⟨_, rfl, rfl⟩
theorem fp_100_34 : zPu cA mk st 100 i (zms mk 100 i 34) st 11 34 (.ref 122) := ⟨rfl, zo_m, _, rfl, Nat.le_of_ble_eq_true rfl, by unfold zsh; rw [zs_m]; rfl⟩
theorem fg_100_35 : ∃ fs, zsh cA zm1 st 100 i = .inr (11, fs) ∧ fs[35]? = some (.ref 123) := ⟨_, rfl, rfl⟩
theorem fp_100_35 : zPu cA mk st 100 i (zms mk 100 i 35) st 11 35 (.ref 123) := ⟨rfl, zo_m, _, rfl, Nat.le_of_ble_eq_true rfl, by unfold zsh; rw [zs_m]; rfl⟩
theorem fg_100_36 : ∃ fs, zsh cA zm1 st 100 i = .inr (11, fs) ∧ fs[36]? = some (.ref 124) := ⟨_, rfl, rfl⟩
theorem fp_100_36 : zPu cA mk st 100 i (zms mk 100 i 36) st 11 36 (.ref 124) := ⟨rfl, zo_m, _, rfl, Nat.le_of_ble_eq_true rfl, by unfold zsh; rw [zs_m]; rfl⟩
theorem fg_100_37 : ∃ fs, zsh cA zm1 st 100 i = .inr (11, fs) ∧ fs[37]? = some (.ref 125) := ⟨_, rfl, rfl⟩
theorem fp_100_37 : zPu cA mk st 100 i (zms mk 100 i 37) st 11 37 (.ref 125) := ⟨rfl, zo_m, _, rfl, Nat.le_of_ble_eq_true rfl, by unfold zsh; rw [zs_m]; rfl⟩
theorem fg_100_38 : ∃ fs, zsh cA zm1 st 100 i = .inr (11, fs) ∧ fs[38]? = some (.ref 126) := ⟨_, rfl, rfl⟩
theorem fp_100_38 : zPu cA mk st 100 i (zms mk 100 i 38) st 11 38 (.ref 126) := ⟨rfl, zo_m, _, rfl, Nat.le_of_ble_eq_true rfl, by unfold zsh; rw [zs_m]; rfl⟩
theorem fg_100_39 : ∃ fs, zsh cA zm1 st 100 i = .inr (11, fs) ∧ fs[39]? = some (.ref 127) := ⟨_, rfl, rfl⟩
theorem fp_100_39 : zPu cA mk st 100 i (zms mk 100 i 39) st 11 39 (.ref 127) := ⟨rfl, zo_m, _, rfl, Nat.le_of_ble_eq_true rfl, by unfold zsh; rw [zs_m]; rfl⟩
theorem fg_100_40 : ∃ fs, zsh cA zm1 st 100 i = .inr (11, fs) ∧ fs[40]? = some (.ref 128) := ⟨_, rfl, rfl⟩
theorem fp_100_40 : zPu cA mk st 100 i (zms mk 100 i 40) st 11 40 (.ref 128) := ⟨rfl, zo_m, _, rfl, Nat.le_of_ble_eq_true rfl, by unfold zsh; rw [zs_m]; rfl⟩
theorem fg_100_41 : ∃ fs, zsh cA zm1 st 100 i = .inr (11, fs) ∧ fs[41]? = some (.int (zgF st 100 i 41)) := ⟨_, rfl, rfl⟩
theorem fp_100_41 (x : Int32) : zPu cA mk st 100 i mk (zuF st 100 i 41 x) 11 41 (.int x) := ⟨rfl, zo_F, _, rfl, Nat.le_of_ble_eq_true rfl, by unfold zsh; rw [zs_F]; rfl⟩
theorem fg_100_42 : ∃ fs, zsh cA zm1 st 100 i = .inr (11, fs) ∧ fs[42]? = some (.ref 129) := ⟨_, rfl, rfl⟩
theorem fp_100_42 : zPu cA mk st 100 i (zms mk 100 i 42) st 11 42 (.ref 129) := ⟨rfl, zo_m, _, rfl, Nat.le_of_ble_eq_true rfl, by unfold zsh; rw [zs_m]; rfl⟩
theorem fg_100_43 : ∃ fs, zsh cA zm1 st 100 i = .inr (11, fs) ∧ fs[43]? = some (.ref 130) := ⟨_, rfl, rfl⟩
theorem fp_100_43 : zPu cA mk st 100 i (zms mk 100 i 43) st 11 43 (.ref 130) := ⟨rfl, zo_m, _, rfl, Nat.le_of_ble_eq_true rfl, by unfold zsh; rw [zs_m]; rfl⟩
theorem fg_100_44 : ∃ fs, zsh cA zm1 st 100 i = .inr (11, fs) ∧ fs[44]? = some (.ref 131) := ⟨_, rfl, rfl⟩
theorem fp_100_44 : zPu cA mk st 100 i (zms mk 100 i 44) st 11 44 (.ref 131) := ⟨rfl, zo_m, _, rfl, Nat.le_of_ble_eq_true rfl, by unfold zsh; rw [zs_m]; rfl⟩
theorem fg_100_45 : ∃ fs, zsh cA zm1 st 100 i = .inr (11, fs) ∧ fs[45]? = some (.ref 132) := ⟨_, rfl, rfl⟩
theorem fp_100_45 : zPu cA mk st 100 i (zms mk 100 i 45) st 11 45 (.ref 132) := ⟨rfl, zo_m, _, rfl, Nat.le_of_ble_eq_true rfl, by unfold zsh; rw [zs_m]; rfl⟩
theorem fg_100_46 : ∃ fs, zsh cA zm1 st 100 i = .inr (11, fs) ∧ fs[46]? = some (.ref 133) := ⟨_, rfl, rfl⟩
theorem fp_100_46 : zPu cA mk st 100 i (zms mk 100 i 46) st 11 46 (.ref 133) := ⟨rfl, zo_m, _, rfl, Nat.le_of_ble_eq_true rfl, by unfold zsh; rw [zs_m]; rfl⟩
theorem fg_100_47 : ∃ fs, zsh cA zm1 st 100 i = .inr (11, fs) ∧ fs[47]? = some (.ref 134) := ⟨_, rfl, rfl⟩
theorem fp_100_47 : zPu cA mk st 100 i (zms mk 100 i 47) st 11 47 (.ref 134) := ⟨rfl, zo_m, _, rfl, Nat.le_of_ble_eq_true rfl, by unfold zsh; rw [zs_m]; rfl⟩
theorem fg_100_48 : ∃ fs, zsh cA zm1 st 100 i = .inr (11, fs) ∧ fs[48]? = some (.int (zgF st 100 i 48)) := ⟨_, rfl, rfl⟩
theorem fp_100_48 (x : Int32) : zPu cA mk st 100 i mk (zuF st 100 i 48 x) 11 48 (.int x) := ⟨rfl, zo_F, _, rfl, Nat.le_of_ble_eq_true rfl, by unfold zsh; rw [zs_F]; rfl⟩
theorem fg_100_49 : ∃ fs, zsh cA zm1 st 100 i = .inr (11, fs) ∧ fs[49]? = some (.int (zgF st 100 i 49)) := ⟨_, rfl, rfl⟩
theorem fp_100_49 (x : Int32) : zPu cA mk st 100 i mk (zuF st 100 i 49 x) 11 49 (.int x) := ⟨rfl, zo_F, _, rfl, Nat.le_of_ble_eq_true rfl, by unfold zsh; rw [zs_F]; rfl⟩
theorem fg_100_50 : ∃ fs, zsh cA zm1 st 100 i = .inr (11, fs) ∧ fs[50]? = some (.ref 135) := ⟨_, rfl, rfl⟩
theorem fp_100_50 : zPu cA mk st 100 i (zms mk 100 i 50) st 11 50 (.ref 135) := ⟨rfl, zo_m, _, rfl, Nat.le_of_ble_eq_true rfl, by unfold zsh; rw [zs_m]; rfl⟩
theorem fg_100_51 : ∃ fs, zsh cA zm1 st 100 i = .inr (11, fs) ∧ fs[51]? = some (.ref 136) := ⟨_, rfl, rfl⟩
theorem fp_100_51 : zPu cA mk st 100 i (zms mk 100 i 51) st 11 51 (.ref 136) := ⟨rfl, zo_m, _, rfl, Nat.le_of_ble_eq_true rfl, by unfold zsh; rw [zs_m]; rfl⟩
theorem fg_100_52 : ∃ fs, zsh cA zm1 st 100 i = .inr (11, fs) ∧ fs[52]? = some (.ref 137) := ⟨_, rfl, rfl⟩
theorem fp_100_52 : zPu cA mk st 100 i (zms mk 100 i 52) st 11 52 (.ref 137) := ⟨rfl, zo_m, _, rfl, Nat.le_of_ble_eq_true rfl, by unfold zsh; rw [zs_m]; rfl⟩
theorem fg_100_53 : ∃ fs, zsh cA zm1 st 100 i = .inr (11, fs) ∧ fs[53]? = some (.ref 138) := ⟨_, rfl, rfl⟩
theorem fp_100_53 : zPu cA mk st 100 i (zms mk 100 i 53) st 11 53 (.ref 138) := ⟨rfl, zo_m, _, rfl, Nat.le_of_ble_eq_true rfl, by unfold zsh; rw [zs_m]; rfl⟩
theorem fg_100_54 : ∃ fs, zsh cA zm1 st 100 i = .inr (11, fs) ∧ fs[54]? = some (.ref 139) := ⟨_, rfl, rfl⟩
theorem fp_100_54 : zPu cA mk st 100 i (zms mk 100 i 54) st 11 54 (.ref 139) := ⟨rfl, zo_m, _, rfl, Nat.le_of_ble_eq_true rfl, by unfold zsh; rw [zs_m]; rfl⟩
theorem fg_100_55 : ∃ fs, zsh cA zm1 st 100 i = .inr (11, fs) ∧ fs[55]? = some (.ref 140) := ⟨_, rfl, rfl⟩
theorem fp_100_55 : zPu cA mk st 100 i (zms mk 100 i 55) st 11 55 (.ref 140) := ⟨rfl, zo_m, _, rfl, Nat.le_of_ble_eq_true rfl, by unfold zsh; rw [zs_m]; rfl⟩
theorem fg_100_56 : ∃ fs, zsh cA zm1 st 100 i = .inr (11, fs) ∧ fs[56]? = some (.ref 141) := ⟨_, rfl, rfl⟩
theorem fp_100_56 : zPu cA mk st 100 i (zms mk 100 i 56) st 11 56 (.ref 141) := ⟨rfl, zo_m, _, rfl, Nat.le_of_ble_eq_true rfl, by unfold zsh; rw [zs_m]; rfl⟩
theorem fg_100_57 : ∃ fs, zsh cA zm1 st 100 i = .inr (11, fs) ∧ fs[57]? = some (.ref 142) := ⟨_, rfl, rfl⟩
theorem fp_100_57 : zPu cA mk st 100 i (zms mk 100 i 57) st 11 57 (.ref 142) := ⟨rfl, zo_m, _, rfl, Nat.le_of_ble_eq_true rfl, by unfold zsh; rw [zs_m]; rfl⟩
theorem fg_100_58 : ∃ fs, zsh cA zm1 st 100 i = .inr (11, fs) ∧ fs[58]? = some (.ref 143) := ⟨_, rfl, rfl⟩
theorem fp_100_58 : zPu cA mk st 100 i (zms mk 100 i 58) st 11 58 (.ref 143) := ⟨rfl, zo_m, _, rfl, Nat.le_of_ble_eq_true rfl, by unfold zsh; rw [zs_m]; rfl⟩
theorem fg_100_59 : ∃ fs, zsh cA zm1 st 100 i = .inr (11, fs) ∧ fs[59]? = some (.ref 144) := ⟨_, rfl, rfl⟩
theorem fp_100_59 : zPu cA mk st 100 i (zms mk 100 i 59) st 11 59 (.ref 144) := ⟨rfl, zo_m, _, rfl, Nat.le_of_ble_eq_true rfl, by unfold zsh; rw [zs_m]; rfl⟩
theorem fg_100_60 : ∃ fs, zsh cA zm1 st 100 i = .inr (11, fs) ∧ fs[60]? = some (.ref 145) := ⟨_, rfl, rfl⟩
theorem fp_100_60 : zPu cA mk st 100 i (zms mk 100 i 60) st 11 60 (.ref 145) := ⟨rfl, zo_m, _, rfl, Nat.le_of_ble_eq_true rfl, by unfold zsh; rw [zs_m]; rfl⟩
theorem fg_100_61 : ∃ fs, zsh cA zm1 st 100 i = .inr (11, fs) ∧ fs[61]? = some (.ref 146) := ⟨_, rfl, rfl⟩
theorem fp_100_61 : zPu cA mk st 100 i (zms mk 100 i 61) st 11 61 (.ref 146) := ⟨rfl, zo_m, _, rfl, Nat.le_of_ble_eq_true rfl, by unfold zsh; rw [zs_m]; rfl⟩
theorem fg_100_62 : ∃ fs, zsh cA zm1 st 100 i = .inr (11, fs) ∧ fs[62]? = some (.ref 147) := ⟨_, rfl, rfl⟩
theorem fp_100_62 : zPu cA mk st 100 i (zms mk 100 i 62) st 11 62 (.ref 147) := ⟨rfl, zo_m, _, rfl, Nat.le_of_ble_eq_true rfl, by unfold zsh; rw [zs_m]; rfl⟩
theorem fg_100_63 : ∃ fs, zsh cA zm1 st 100 i = .inr (11, fs) ∧ fs[63]? = some (.ref 148) := ⟨_, rfl, rfl⟩
theorem fp_100_63 : zPu cA mk st 100 i (zms mk 100 i 63) st 11 63 (.ref 148) := ⟨rfl, zo_m, _, rfl, Nat.le_of_ble_eq_true rfl, by unfold zsh; rw [zs_m]; rfl⟩
theorem fg_100_64 : ∃ fs, zsh cA zm1 st 100 i = .inr (11, fs) ∧ fs[64]? = some (.ref 149) := ⟨_, rfl, rfl⟩
theorem fp_100_64 : zPu cA mk st 100 i (zms mk 100 i 64) st 11 64 (.ref 149) := ⟨rfl, zo_m, _, rfl, Nat.le_of_ble_eq_true rfl, by unfold zsh; rw [zs_m]; rfl⟩
theorem fg_100_65 : ∃ fs, zsh cA zm1 st 100 i = .inr (11, fs) ∧ fs[65]? = some (.ref 150) := ⟨_, rfl, rfl⟩
theorem fp_100_65 : zPu cA mk st 100 i (zms mk 100 i 65) st 11 65 (.ref 150) := ⟨rfl, zo_m, _, rfl, Nat.le_of_ble_eq_true rfl, by unfold zsh; rw [zs_m]; rfl⟩
theorem fg_100_66 : ∃ fs, zsh cA zm1 st 100 i = .inr (11, fs) ∧ fs[66]? = some (.int (zgF st 100 i 66)) := ⟨_, rfl, rfl⟩
theorem fp_100_66 (x : Int32) : zPu cA mk st 100 i mk (zuF st 100 i 66 x) 11 66 (.int x) := ⟨rfl, zo_F, _, rfl, Nat.le_of_ble_eq_true rfl, by unfold zsh; rw [zs_F]; rfl⟩
theorem fg_100_67 : ∃ fs, zsh cA zm1 st 100 i = .inr (11, fs) ∧ fs[67]? = some (.int (zgF st 100 i 67)) := ⟨_, rfl, rfl⟩
theorem fp_100_67 (x : Int32) : zPu cA mk st 100 i mk (zuF st 100 i 67 x) 11 67 (.int x) := ⟨rfl, zo_F, _, rfl, Nat.le_of_ble_eq_true rfl, by unfold zsh; rw [zs_F]; rfl⟩
theorem fg_100_68 : ∃ fs, zsh cA zm1 st 100 i = .inr (11, fs) ∧ fs[68]? = some (.ref 151) := ⟨_, rfl, rfl⟩
theorem fp_100_68 : zPu cA mk st 100 i (zms mk 100 i 68) st 11 68 (.ref 151) := ⟨rfl, zo_m, _, rfl, Nat.le_of_ble_eq_true rfl, by unfold zsh; rw [zs_m]; rfl⟩
theorem fg_100_69 : ∃ fs, zsh cA zm1 st 100 i = .inr (11, fs) ∧ fs[69]? = some (.ref 152) := ⟨_, rfl, rfl⟩
theorem fp_100_69 : zPu cA mk st 100 i (zms mk 100 i 69) st 11 69 (.ref 152) := ⟨rfl, zo_m, _, rfl, Nat.le_of_ble_eq_true rfl, by unfold zsh; rw [zs_m]; rfl⟩
theorem fg_100_70 : ∃ fs, zsh cA zm1 st 100 i = .inr (11, fs) ∧ fs[70]? = some (.ref 153) := ⟨_, rfl, rfl⟩
theorem fp_100_70 : zPu cA mk st 100 i (zms mk 100 i 70) st 11 70 (.ref 153) := ⟨rfl, zo_m, _, rfl, Nat.le_of_ble_eq_true rfl, by unfold zsh; rw [zs_m]; rfl⟩
theorem fg_100_71 : ∃ fs, zsh cA zm1 st 100 i = .inr (11, fs) ∧ fs[71]? = some (.ref 154) := ⟨_, rfl, rfl⟩
theorem fp_100_71 : zPu cA mk st 100 i (zms mk 100 i 71) st 11 71 (.ref 154) := ⟨rfl, zo_m, _, rfl, Nat.le_of_ble_eq_true rfl, by unfold zsh; rw [zs_m]; rfl⟩
theorem fg_100_72 : ∃ fs, zsh cA zm1 st 100 i = .inr (11, fs) ∧ fs[72]? = some (.ref 155) := ⟨_, rfl, rfl⟩
theorem fp_100_72 : zPu cA mk st 100 i (zms mk 100 i 72) st 11 72 (.ref 155) := ⟨rfl, zo_m, _, rfl, Nat.le_of_ble_eq_true rfl, by unfold zsh; rw [zs_m]; rfl⟩
theorem fg_100_73 : ∃ fs, zsh cA zm1 st 100 i = .inr (11, fs) ∧ fs[73]? = some (.ref 156) := ⟨_, rfl, rfl⟩
theorem fp_100_73 : zPu cA mk st 100 i (zms mk 100 i 73) st 11 73 (.ref 156) := ⟨rfl, zo_m, _, rfl, Nat.le_of_ble_eq_true rfl, by unfold zsh; rw [zs_m]; rfl⟩
theorem fg_100_74 : ∃ fs, zsh cA zm1 st 100 i = .inr (11, fs) ∧ fs[74]? = some (.ref 157) := ⟨_, rfl, rfl⟩
theorem fp_100_74 : zPu cA mk st 100 i (zms mk 100 i 74) st 11 74 (.ref 157) := ⟨rfl, zo_m, _, rfl, Nat.le_of_ble_eq_true rfl, by unfold zsh; rw [zs_m]; rfl⟩
theorem fg_100_75 : ∃ fs, zsh cA zm1 st 100 i = .inr (11, fs) ∧ fs[75]? = some (.ref 158) := ⟨_, rfl, rfl⟩
theorem fp_100_75 : zPu cA mk st 100 i (zms mk 100 i 75) st 11 75 (.ref 158) := ⟨rfl, zo_m, _, rfl, Nat.le_of_ble_eq_true rfl, by unfold zsh; rw [zs_m]; rfl⟩
theorem fg_100_76 : ∃ fs, zsh cA zm1 st 100 i = .inr (11, fs) ∧ fs[76]? = some (.int (zgF st 100 i 76)) := ⟨_, rfl, rfl⟩
theorem fp_100_76 (x : Int32) : zPu cA mk st 100 i mk (zuF st 100 i 76 x) 11 76 (.int x) := ⟨rfl, zo_F, _, rfl, Nat.le_of_ble_eq_true rfl, by unfold zsh; rw [zs_F]; rfl⟩
theorem fg_100_77 : ∃ fs, zsh cA zm1 st 100 i = .inr (11, fs) ∧ fs[77]? = some (.ref 159) := ⟨_, rfl, rfl⟩
theorem fp_100_77 : zPu cA mk st 100 i (zms mk 100 i 77) st 11 77 (.ref 159) := ⟨rfl, zo_m, _, rfl, Nat.le_of_ble_eq_true rfl, by unfold zsh; rw [zs_m]; rfl⟩
theorem fg_100_78 : ∃ fs, zsh cA zm1 st 100 i = .inr (11, fs) ∧ fs[78]? = some (.ref 160) := ⟨_, rfl, rfl⟩
theorem fp_100_78 : zPu cA mk st 100 i (zms mk 100 i 78) st 11 78 (.ref 160) := ⟨rfl, zo_m, _, rfl, Nat.le_of_ble_eq_true rfl, by unfold zsh; rw [zs_m]; rfl⟩
theorem fg_100_79 : ∃ fs, zsh cA zm1 st 100 i = .inr (11, fs) ∧ fs[79]? = some (.ref 161) := ⟨_, rfl, rfl⟩
theorem fp_100_79 : zPu cA mk st 100 i (zms mk 100 i 79) st 11 79 (.ref 161) := ⟨rfl, zo_m, _, rfl, Nat.le_of_ble_eq_true rfl, by unfold zsh; rw [zs_m]; rfl⟩
theorem sh_101 : zsh cA mk st 101 i = .inl (cA 0, 12, .inl (zgA st 101 i)) := rfl
theorem sh_102 : zsh cA mk st 102 i = .inl (cA 1, 400, .inl (zgA st 102 i)) := rfl
theorem sh_103 : zsh cA mk st 103 i = .inl (cA 0, 15, .inl (zgA st 103 i)) := rfl
theorem sh_104 : zsh cA mk st 104 i = .inl (cA 0, 15, .inl (zgA st 104 i)) := rfl
theorem sh_105 : zsh cA mk st 105 i = .inl (cA 0, 4, .inl (zgA st 105 i)) := rfl
theorem sh_106 : zsh cA mk st 106 i = .inl (cA 0, 4, .inl (zgA st 106 i)) := rfl
theorem sh_107 : zsh cA mk st 107 i = .inl (cA 0, 800, .inl (zgA st 107 i)) := rfl
theorem sh_108 : zsh cA mk st 108 i = .inl (cA 0, 800, .inl (zgA st 108 i)) := rfl
theorem sh_109 : zsh cA mk st 109 i = .inl (cA 0, 800, .inl (zgA st 109 i)) := rfl
theorem sh_110 : zsh cA mk st 110 i = .inl (cA 0, 800, .inl (zgA st 110 i)) := rfl
theorem sh_111 : zsh cA mk st 111 i = .inl (cA 2, 800, .inl (zgA st 111 i)) := rfl
theorem sh_112 : zsh cA mk st 112 i = .inl (cA 0, 30, .inl (zgA st 112 i)) := rfl
theorem sh_113 : zsh cA mk st 113 i = .inl (cA 0, 30, .inl (zgA st 113 i)) := rfl
theorem sh_114 : zsh cA mk st 114 i = .inl (cA 0, 30, .inl (zgA st 114 i)) := rfl
theorem sh_115 : zsh cA mk st 115 i = .inl (cA 2, 30, .inl (zgA st 115 i)) := rfl
theorem sh_116 : zsh cA mk st 116 i = .inl (cA 0, 450, .inl (zgA st 116 i)) := rfl
theorem sh_117 : zsh cA mk st 117 i = .inl (cA 0, 30, .inl (zgA st 117 i)) := rfl
theorem sh_118 : zsh cA mk st 118 i = .inl (cA 0, 30, .inl (zgA st 118 i)) := rfl
theorem sh_119 : zsh cA mk st 119 i = .inl (cA 0, 30, .inl (zgA st 119 i)) := rfl
theorem sh_120 : zsh cA mk st 120 i = .inl (cA 2, 30, .inl (zgA st 120 i)) := rfl
theorem sh_121 : zsh cA mk st 121 i = .inl (cA 0, 30, .inl (zgA st 121 i)) := rfl
theorem sh_122 : zsh cA mk st 122 i = .inl (cA 0, 30, .inl (zgA st 122 i)) := rfl
theorem sh_123 : zsh cA mk st 123 i = .inl (cA 0, 30, .inl (zgA st 123 i)) := rfl
theorem sh_124 : zsh cA mk st 124 i = .inl (cA 0, 30, .inl (zgA st 124 i)) := rfl
theorem sh_125 : zsh cA mk st 125 i = .inl (cA 0, 30, .inl (zgA st 125 i)) := rfl
theorem sh_126 : zsh cA mk st 126 i = .inl (cA 0, 30, .inl (zgA st 126 i)) := rfl
theorem sh_127 : zsh cA mk st 127 i = .inl (cA 0, 30, .inl (zgA st 127 i)) := rfl
theorem sh_128 : zsh cA mk st 128 i = .inl (cA 0, 30, .inl (zgA st 128 i)) := rfl
theorem sh_129 : zsh cA mk st 129 i = .inl (cA 0, 12, .inl (zgA st 129 i)) := rfl
theorem sh_130 : zsh cA mk st 130 i = .inl (cA 0, 12, .inl (zgA st 130 i)) := rfl
theorem sh_131 : zsh cA mk st 131 i = .inl (cA 0, 90, .inl (zgA st 131 i)) := rfl
theorem sh_132 : zsh cA mk st 132 i = .inl (cA 0, 90, .inl (zgA st 132 i)) := rfl
theorem sh_133 : zsh cA mk st 133 i = .inl (cA 0, 90, .inl (zgA st 133 i)) := rfl
theorem sh_134 : zsh cA mk st 134 i = .inl (cA 0, 90, .inl (zgA st 134 i)) := rfl
theorem sh_135 : zsh cA mk st 135 i = .inl (cA 0, 300, .inl (zgA st 135 i)) := rfl
theorem sh_136 : zsh cA mk st 136 i = .inl (cA 0, 300, .inl (zgA st 136 i)) := rfl
theorem sh_137 : zsh cA mk st 137 i = .inl (cA 0, 300, .inl (zgA st 137 i)) := rfl
theorem sh_138 : zsh cA mk st 138 i = .inl (cA 0, 300, .inl (zgA st 138 i)) := rfl
theorem sh_139 : zsh cA mk st 139 i = .inl (cA 0, 60, .inl (zgA st 139 i)) := rfl
theorem sh_140 : zsh cA mk st 140 i = .inl (cA 0, 60, .inl (zgA st 140 i)) := rfl
theorem sh_141 : zsh cA mk st 141 i = .inl (cA 0, 60, .inl (zgA st 141 i)) := rfl
theorem sh_142 : zsh cA mk st 142 i = .inl (cA 0, 30, .inl (zgA st 142 i)) := rfl
theorem sh_143 : zsh cA mk st 143 i = .inl (cA 0, 30, .inl (zgA st 143 i)) := rfl
theorem sh_144 : zsh cA mk st 144 i = .inl (cA 0, 72, .inl (zgA st 144 i)) := rfl
theorem sh_145 : zsh cA mk st 145 i = .inl (cA 0, 1440, .inl (zgA st 145 i)) := rfl
theorem sh_146 : zsh cA mk st 146 i = .inl (cA 0, 1440, .inl (zgA st 146 i)) := rfl
theorem sh_147 : zsh cA mk st 147 i = .inl (cA 0, 1440, .inl (zgA st 147 i)) := rfl
theorem sh_148 : zsh cA mk st 148 i = .inl (cA 0, 1440, .inl (zgA st 148 i)) := rfl
theorem sh_149 : zsh cA mk st 149 i = .inl (cA 0, 30, .inl (zgA st 149 i)) := rfl
theorem sh_150 : zsh cA mk st 150 i = .inl (cA 2, 30, .inl (zgA st 150 i)) := rfl
theorem sh_151 : zsh cA mk st 151 i = .inl (cA 0, 5, .inl (zgA st 151 i)) := rfl
theorem sh_152 : zsh cA mk st 152 i = .inl (cA 0, 10, .inl (zgA st 152 i)) := rfl
theorem sh_153 : zsh cA mk st 153 i = .inl (cA 0, 10, .inl (zgA st 153 i)) := rfl
theorem sh_154 : zsh cA mk st 154 i = .inl (cA 0, 200, .inl (zgA st 154 i)) := rfl
theorem sh_155 : zsh cA mk st 155 i = .inl (cA 0, 200, .inl (zgA st 155 i)) := rfl
theorem sh_156 : zsh cA mk st 156 i = .inl (cA 0, 441, .inl (zgA st 156 i)) := rfl
theorem sh_157 : zsh cA mk st 157 i = .inl (cA 0, 441, .inl (zgA st 157 i)) := rfl
theorem sh_158 : zsh cA mk st 158 i = .inl (cA 0, 20, .inl (zgA st 158 i)) := rfl
theorem sh_159 : zsh cA mk st 159 i = .inl (cA 0, 10, .inl (zgA st 159 i)) := rfl
theorem sh_160 : zsh cA mk st 160 i = .inl (cA 0, 400, .inl (zgA st 160 i)) := rfl
theorem sh_161 : zsh cA mk st 161 i = .inl (cA 0, 400, .inl (zgA st 161 i)) := rfl
end FLD
