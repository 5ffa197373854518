/-! multianewarray over the state -/
section MULTI3
variable {Z : zZ} {p : Program} {l : Launch} {e : Env} {R : Room} {s : State} {m : MethodId} {args : Array Value} {below : List Frame} {meth : Method} {c : Code} {Q : State → Prop} {cells slots : Nat} {ad0 : Nat → Nat} {h0 : zH}
variable {h : zH} {pc nL : Nat} {lc : List (Option Value)} {rest : List Value} {cc : ByteArray} {own : String} {mk : zMk} {st : zTs}
def zPL (Z : zZ) (ad : Nat → Nat) (h : zH) (L : List Nat) (f : Nat → va_E) (H : Heap) : Prop :=
  va_P Z.1 vwCl (va_pl L f) H ∧ va_D (zA Z) (va_pl L f) ∧ (∀ a e, h a = some e → ad a ∈ L ∧ f (ad a) = ze ad e ∧ zcl h e) ∧
    (∀ a b, h a ≠ none → h b ≠ none → ad a = ad b → a = b) ∧ ∀ a, 200 ≤ a % 256 → ad a = Z.2.2.2 a ∧ h a = none
theorem zPL_new {ad : Nat → Nat} {h' : zH} {H : Heap} {a q : Nat} {e1 : va_E} {L : List Nat} {f : Nat → va_E} (hp : zPL Z ad h L f H) (hq : q ∉ L) (hA : zA Z q) (hat : va_at Z.1 vwCl (q, ze ad e1) H) (ha : h a = none) (hcs : ¬ 200 ≤ a % 256) (hh : ∀ b, h' b = if b = a then some e1 else h b) (hc : zcl h e1) : zPL Z (va_up ad a q) h' (L ++ [q]) (va_up f q (ze ad e1)) H := by
  obtain ⟨P1, P2, P3, P4, P5⟩ := hp
  have hd : ∀ b, h b ≠ none → h' b ≠ none := zd_set hh
  have old : ∀ b, b ≠ a → h' b ≠ none → h b ≠ none ∧ va_up ad a q b = ad b ∧ ad b ∈ L := fun b hb x => by
    rw [hh b, if_neg hb] at x
    cases hy : h b with
    | none => exact absurd hy x
    | some y => exact ⟨Option.some_ne_none _, if_neg hb, (P3 b y hy).1⟩
  have s1 : va_P Z.1 vwCl [(q, ze ad e1)] H := fun k x hx => by
    have hz : k < 1 := (List.getElem?_eq_some_iff.mp hx).1
    rw [show k = 0 by omega] at hx
    cases hx
    exact hat
  have s2 : va_D (zA Z) [(q, ze ad e1)] := ⟨fun i j x y hx hy _ => by
    have h1 : i < 1 := (List.getElem?_eq_some_iff.mp hx).1
    have h2 : j < 1 := (List.getElem?_eq_some_iff.mp hy).1
    omega, fun k x hx => by
    have hz : k < 1 := (List.getElem?_eq_some_iff.mp hx).1
    rw [show k = 0 by omega] at hx
    cases hx
    exact hA⟩
  refine ⟨?_, ?_, fun b y hb => ?_, fun b b2 x1 x2 hx => ?_, fun b hb => ⟨?_, ?_⟩⟩
  · rw [← va_pl_push hq]
    exact P1.app s1
  · rw [← va_pl_push hq]
    refine P2.app s2 (fun i j x y hx hy z => hq ?_)
    have h2 : j < 1 := (List.getElem?_eq_some_iff.mp hy).1
    rw [show j = 0 by omega] at hy
    cases hy
    obtain ⟨w, hw, e⟩ := List.mem_map.mp (List.mem_of_getElem? hx)
    rw [← e] at z
    rw [← show w = q from z]
    exact hw
  · rw [hh b] at hb
    by_cases g : b = a
    · subst g
      rw [if_pos rfl] at hb
      cases hb
      refine ⟨by rw [show va_up ad b q b = q from if_pos rfl]; exact List.mem_append_right _ List.mem_cons_self, ?_, zcl_mono hd hc⟩
      rw [show va_up ad b q b = q from if_pos rfl, ze_same ha hcs hc]
      exact if_pos rfl
    · rw [if_neg g] at hb
      obtain ⟨g1, g2, g3⟩ := P3 b y hb
      have e9 : va_up ad a q b = ad b := if_neg g
      rw [e9, ze_same ha hcs g3]
      have hne : ad b ≠ q := fun z => hq (by rw [← z]; exact g1)
      exact ⟨List.mem_append_left _ g1, (if_neg hne).trans g2, zcl_mono hd g3⟩
  · by_cases g : b = a
    · by_cases g2 : b2 = a
      · rw [g, g2]
      · obtain ⟨-, y2, y3⟩ := old b2 g2 x2
        rw [g, y2, show va_up ad a q a = q from if_pos rfl] at hx
        exact absurd (by rw [hx]; exact y3) hq
    · obtain ⟨y1, y2, y3⟩ := old b g x1
      by_cases g2 : b2 = a
      · rw [g2, y2, show va_up ad a q a = q from if_pos rfl] at hx
        exact absurd (by rw [← hx]; exact y3) hq
      · obtain ⟨z1, z2, -⟩ := old b2 g2 x2
        rw [y2, z2] at hx
        exact P4 b b2 y1 z1 hx
  · have g : b ≠ a := fun z => hcs (by rw [← z]; exact hb)
    exact (if_neg g).trans (P5 b hb).1
  · have g : b ≠ a := fun z => hcs (by rw [← z]; exact hb)
    rw [hh b, if_neg g]
    exact (P5 b hb).2
/-- all that the judgement holds, at a heap -/
def zBd (Z : zZ) (ad0 : Nat → Nat) (h0 : zH) (ls : Array Slot) (nL : Nat) (lc : List (Option Value)) (rest : List Value) (V : List Value) (ad : Nat → Nat) (h : zH) (L : List Nat) (f : Nat → va_E) (H : Heap) : Prop :=
  zPL Z ad h L f H ∧ zE ad0 h0 ad h ∧ zL ad ls nL lc ∧ zlo h lc ∧ zso h rest ∧ rest.map (zv ad) = V
theorem zBd_new {ls : Array Slot} {V : List Value} {ad : Nat → Nat} {h' : zH} {H : Heap} {a q : Nat} {e1 : va_E} {L : List Nat} {f : Nat → va_E} (hp : zBd Z ad0 h0 ls nL lc rest V ad h L f H) (hq : q ∉ L) (hA : zA Z q) (hat : va_at Z.1 vwCl (q, ze ad e1) H) (ha : h a = none) (hcs : ¬ 200 ≤ a % 256) (hh : ∀ b, h' b = if b = a then some e1 else h b) (hc : zcl h e1) : zBd Z ad0 h0 ls nL lc rest V (va_up ad a q) h' (L ++ [q]) (va_up f q (ze ad e1)) H :=
  ⟨zPL_new hp.1 hq hA hat ha hcs hh hc, zE_new hp.2.1 ha hh, zL_same ha hcs hp.2.2.2.1 hp.2.2.1, hp.2.2.2.1.mono (zd_set hh), hp.2.2.2.2.1.mono (zd_set hh), (zmap_same ha hcs hp.2.2.2.2.1).trans hp.2.2.2.2.2⟩
def zuR4 (s : zTs) (n : Nat) : zTs := (zp1 s.1 68 (s.1 68 + 1), zgF s, zgP s, zgO s, zgA s, zp2 (zgR s) 68 (s.1 68) (fun j => if j < 4 then some (n + j) else none), zgL s, zgJ s)
def zuV4 (s : zTs) : zTs := zuV (zuV (zuV (zuV s 69 0) 69 0) 69 0) 69 0
/-- four rows of no ints, and the row of them -/
def zuM (s : zTs) : zTs := zuR4 (zuV4 s) (zgN s 69)
theorem zN_R4 {n : Nat} : zgN (zuR4 st n) = zp1 (zgN st) 68 (zgN st 68 + 1) := rfl
theorem zo_R4 {cA : Nat → ClassId} {n : Nat} : ∀ k' i', ¬ (k' = 68 ∧ i' = zgN st 68) → zsh cA mk (zuR4 st n) k' i' = zsh cA mk st k' i' := fun k' i' h => by
  unfold zsh
  rw [show zgR (zuR4 st n) k' i' = zgR st k' i' from zp2_ne h]
  rfl
theorem nw_R4 {cA : Nat → ClassId} {n : Nat} : zsh cA mk (zuR4 st n) 68 (zgN st 68) = .inl (cA 6, 4, .inr (.inr (.inr (.inr (fun j => (if j < 4 then some (n + j) else none : Option Nat).map fun y => 69 + 256 * y))))) := by
  unfold zsh
  rw [show zgR (zuR4 st n) 68 (zgN st 68) = (fun j => if j < 4 then some (n + j) else none) from zp2_at]
  rfl
theorem zMi_cell {c0 : ClassId} : zMi c0 = vp_cell c0 (0, .inl fun _ => 0) := by
  unfold zMi vp_cell arrV
  simp
theorem t_multi (C : zC Z p s m args meth c cc nL own) {idx c2 s2 : Nat} (d : decode cc pc = .ok (.multianewarray idx 2, 4)) (hw : Cond.classLink own idx "[[I" ∈ zw) (hq : cells + 5 ≤ c2 ∧ slots + 4 ≤ s2 ∧ c2 ≤ R.cells ∧ s2 ≤ R.slots) (kk : zG Z ad0 h0 p l e R s m args below meth c Q c2 s2 (zh Z mk (zuM st)) nL (pc + 4) lc (.ref (68 + 256 * zgN st 68) :: rest)) : zG Z ad0 h0 p l e R s m args below meth c Q cells slots (zh Z mk st) nL pc lc (.int 0 :: .int 4 :: rest) := by
  intro ad H locs ls hP hS hE hL hl hv
  obtain ⟨L, f, P1, P2, P3, P4, P5⟩ := id hP
  obtain ⟨k6, g1, g2⟩ := zC_I2 C
  have h6 : s.vm.findClass "[[I" = some (Z.2.1 6) := (C.2.2.2.2.2.1.2 6 (Z.2.1 6, .array .int) rfl).2
  obtain ⟨-, k0, g3, q0, g4⟩ := (C.2.2.2.2.2.1.2 0 (Z.2.1 0, .int) rfl).1 0 (fun _ => .null)
  refine W.multi40 C.1 C.2.1 C.2.2.2.1 (C.2.2.2.2.1 _ hw) h6 g1 g2 g3 g4 d (Nat.le_trans hq.1 hq.2.2.1) (Nat.le_trans hq.2.1 hq.2.2.2) (fun H' Lc hb1 hsz hold hout hin => ?_)
  have hlt : ∀ x ∈ L, x < H.size := fun x hx => by
    obtain ⟨i, hi⟩ := va_pl_get (X := []) (f := f) hx
    exact (P1 i _ hi).lt
  have hA0 : Z.2.2.1 ≤ H.size := Nat.le_trans C.2.2.2.2.2.2.2.1 hS.1
  have P1' : va_P Z.1 vwCl (va_pl L f) H' := P1.kept fun k x hx => hold x.1 ((P1 k x hx).lt)
  have B0 : zBd Z ad0 h0 ls nL lc rest (rest.map (zv ad)) ad (zh Z mk st) L f H' := ⟨⟨P1', P2, P3, P4, P5⟩, hE, hL, hl, hv.tl.tl, rfl⟩
  have hcell : ∀ (ad' : Nat → Nat) (j : Nat), j < 4 → va_at Z.1 vwCl (H.size + 1 + j, ze ad' (.inl (Z.2.1 0, 0, .inl fun _ => 0))) H' := fun ad' j hj => by
    show H'[H.size + 1 + j]? = some (vp_cell _ _)
    rw [hin j hj, zMi_cell]
  have B1 := zBd_new (q := H.size + 1 + 0) B0 (fun z => by have := hlt _ z; omega) (by show Z.2.2.1 ≤ _; omega) (hcell _ 0 (by decide)) (zh_out (k := 69) (by decide)) (zh_ou2 (k := 69) (by decide)) (zh_nw (mk' := mk) (st' := zuV st 69 0) (by decide) zN_V zo_V nw_69).2 trivial
  have B2 := zBd_new (q := H.size + 1 + 1) B1 (fun z => by rcases List.mem_append.mp z with z | z; (have := hlt _ z; omega); (have := List.mem_singleton.mp z; omega)) (by show Z.2.2.1 ≤ _; omega) (hcell _ 1 (by decide)) (zh_out (k := 69) (by decide)) (zh_ou2 (k := 69) (by decide)) (zh_nw (mk' := mk) (st' := zuV (zuV st 69 0) 69 0) (by decide) zN_V zo_V nw_69).2 trivial
  have B3 := zBd_new (q := H.size + 1 + 2) B2 (fun z => by
    rcases List.mem_append.mp z with z | z
    · rcases List.mem_append.mp z with z | z
      · have := hlt _ z; omega
      · have := List.mem_singleton.mp z; omega
    · have := List.mem_singleton.mp z; omega) (by show Z.2.2.1 ≤ _; omega) (hcell _ 2 (by decide)) (zh_out (k := 69) (by decide)) (zh_ou2 (k := 69) (by decide)) (zh_nw (mk' := mk) (st' := zuV (zuV (zuV st 69 0) 69 0) 69 0) (by decide) zN_V zo_V nw_69).2 trivial
  have B4 := zBd_new (q := H.size + 1 + 3) B3 (fun z => by
    rcases List.mem_append.mp z with z | z
    · rcases List.mem_append.mp z with z | z
      · rcases List.mem_append.mp z with z | z
        · have := hlt _ z; omega
        · have := List.mem_singleton.mp z; omega
      · have := List.mem_singleton.mp z; omega
    · have := List.mem_singleton.mp z; omega) (by show Z.2.2.1 ≤ _; omega) (hcell _ 3 (by decide)) (zh_out (k := 69) (by decide)) (zh_ou2 (k := 69) (by decide)) (zh_nw (mk' := mk) (st' := zuV4 st) (by decide) zN_V zo_V nw_69).2 trivial
  have n1 : zgN (zuV st 69 0) 69 = zgN st 69 + 1 := rfl
  have n2 : zgN (zuV (zuV st 69 0) 69 0) 69 = zgN st 69 + 2 := rfl
  have n3 : zgN (zuV (zuV (zuV st 69 0) 69 0) 69 0) 69 = zgN st 69 + 3 := rfl
  rw [n1, n2, n3] at B4
  generalize had : va_up (va_up (va_up (va_up ad (69 + 256 * zgN st 69) (H.size + 1 + 0)) (69 + 256 * (zgN st 69 + 1)) (H.size + 1 + 1)) (69 + 256 * (zgN st 69 + 2)) (H.size + 1 + 2)) (69 + 256 * (zgN st 69 + 3)) (H.size + 1 + 3) = ad4 at B4
  have hv4 : ∀ j, j < 4 → ad4 (69 + 256 * (zgN st 69 + j)) = H.size + 1 + j := fun j hj => by
    rw [← had]
    unfold va_up
    rcases (by omega : j = 0 ∨ j = 1 ∨ j = 2 ∨ j = 3) with rfl | rfl | rfl | rfl
    · rw [if_neg (by omega), if_neg (by omega), if_neg (by omega), if_pos (by omega)]
    · rw [if_neg (by omega), if_neg (by omega), if_pos (by omega)]
    · rw [if_neg (by omega), if_pos (by omega)]
    · rw [if_pos (by omega)]
  have hm4 : ∀ j, j < 4 → zh Z mk (zuV4 st) (69 + 256 * (zgN st 69 + j)) ≠ none := fun j hj => by
    obtain ⟨y1, y2⟩ := zh_md (k := 69) (i := zgN st 69 + j) (by decide)
    unfold zh
    rw [y1, y2, if_pos ⟨by decide, by show _ < zgN st 69 + 1 + 1 + 1 + 1; omega⟩]
    exact Option.some_ne_none _
  have hg : ∀ i a, ((if i < 4 then some (zgN st 69 + i) else none : Option Nat).map fun y => 69 + 256 * y) = some a → i < 4 ∧ a = 69 + 256 * (zgN st 69 + i) := fun i a ha => by
    by_cases g : i < 4
    · rw [if_pos g] at ha
      cases ha
      exact ⟨g, rfl⟩
    · rw [if_neg g] at ha
      cases ha
  have B5 := zBd_new (q := H.size) (h' := zh Z mk (zuM st)) (a := 68 + 256 * zgN st 68) (e1 := .inl (Z.2.1 6, 4, .inr (.inr (.inr (.inr (fun j => (if j < 4 then some (zgN st 69 + j) else none : Option Nat).map fun y => 69 + 256 * y)))))) B4 (fun z => by
    rcases List.mem_append.mp z with z | z
    · rcases List.mem_append.mp z with z | z
      · rcases List.mem_append.mp z with z | z
        · rcases List.mem_append.mp z with z | z
          · have := hlt _ z; omega
          · have := List.mem_singleton.mp z; omega
        · have := List.mem_singleton.mp z; omega
      · have := List.mem_singleton.mp z; omega
    · have := List.mem_singleton.mp z; omega) hA0 (by
    show H'[H.size]? = some (vp_cell _ (4, .inr (.inr (.inr (.inr fun j => ((if j < 4 then some (zgN st 69 + j) else none : Option Nat).map fun y => 69 + 256 * y).map ad4)))))
    rw [hout, vp_cell_q]
    unfold zMc
    refine congrArg some (congrArg (arrV (Z.2.1 6) 4) (funext fun j => ?_))
    by_cases g : j < 4
    · rw [if_pos g, if_pos g]
      show _ = Value.ref (ad4 (69 + 256 * (zgN st 69 + j)))
      rw [hv4 j g]
    · rw [if_neg g, if_neg g]
      rfl) (zh_out (st := zuV4 st) (k := 68) (by decide)) (zh_ou2 (st := zuV4 st) (k := 68) (by decide)) (zh_nw (mk := mk) (mk' := mk) (st := zuV4 st) (st' := zuM st) (k := 68) (by decide) zN_R4 zo_R4 nw_R4).2 (fun i a ha b hb => by
    obtain ⟨x1, rfl⟩ := hg i a ha
    cases hb
    exact Or.inl (hm4 i x1))
  obtain ⟨⟨Q1, Q2, Q3, Q4, Q5⟩, b2, b3, b4, b5, b6⟩ := B5
  have fin := zG.wide hq.1 hq.2.1 kk _ H' (locs ++ Lc) ls ⟨_, _, Q1, Q2, Q3, Q4, Q5⟩ ⟨by rw [hsz]; exact Nat.le_trans hS.1 (by omega), fun x h1 h2 => (hold x (Nat.lt_of_lt_of_le h1 hS.1)).trans (hS.2.1 x h1 h2), fun x hx => by
    rcases List.mem_append.mp hx with z | z
    · exact hS.2.2 x z
    · rw [hb1 x z]; exact hA0⟩ b2 b3 b4 (b5.cn fun b hb => by
    cases hb
    refine Or.inl ?_
    rw [(zh_nw (Z := Z) (mk := mk) (mk' := mk) (st := zuV4 st) (st' := zuM st) (k := 68) (by decide) zN_R4 zo_R4 nw_R4).2, if_pos (show 68 + 256 * zgN st 68 = 68 + 256 * zgN (zuV4 st) 68 from rfl)]
    exact Option.some_ne_none _)
  have e9 : (Value.ref (68 + 256 * zgN st 68) :: rest).map (zv (va_up ad4 (68 + 256 * zgN st 68) H.size)) = .ref H.size :: rest.map (zv ad) := by
    rw [List.map_cons, b6]
    exact congrArg (· :: _) (congrArg Value.ref (if_pos rfl))
  rw [e9] at fin
  exact fin
end MULTI3
