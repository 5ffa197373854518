/-! THE WORLD of constants and classes, built from the start -/
section GZ
variable {args : Array Value} {s : State}
theorem gz_OF {o n d : String} {v w : Value} {t : Nat} {A : Nat → Prop} {U : State} {H : Heap} (h : va_OF o n d v t A U H) (g : va_OF o n d w t A U H) : v = w := by
  obtain ⟨cf, k, i, f, cell, h1, h2, h3, h4, h5, h6⟩ := h
  obtain ⟨cf', k', i', f', cell', g1, g2, g3, g4, g5, g6⟩ := g
  cases h1.symm.trans g1
  cases h3.symm.trans g3
  exact Option.some.inj (h5.symm.trans g5)
theorem gz_T {ty : FieldType} {t N M : Nat} {f g : Nat → Value} {A : Nat → Prop} {U : State} {H : Heap} (h : va_T ty t N f A U H) (h' : va_T ty t M g A U H) (hN : N < 2147483648) (hM : M < 2147483648) : N = M ∧ ∀ j, j < N → f j = g j := by
  obtain ⟨cell, h1, h2, h3, h4, h5, h6, h7⟩ := h
  obtain ⟨cell', g1, g2, g3, g4, g5, g6, g7⟩ := h'
  cases h1.symm.trans g1
  have e : N = M := by
    have q := congrArg Int32.toNatClampNeg (h5.symm.trans g5)
    rwa [q_on hN, q_on hM] at q
  subst e
  exact ⟨rfl, fun j hj => Option.some.inj ((h6 j hj).symm.trans (g6 j hj))⟩
set_option maxHeartbeats 4000000 in
set_option maxRecDepth 100000 in
theorem gz_dif : ∀ i, i < 34 → ∀ j, j < 34 → zlen.getD i 0 = zlen.getD j 0 → (∀ k, k < zlen.getD i 0 → (zbyt.getD i []).getD k 0 = (zbyt.getD j []).getD k 0) → i = j := by
  have c : (List.range 34).all (fun i => (List.range 34).all fun j => decide (i = j) || (!decide (zlen.getD i 0 = zlen.getD j 0) || (List.range (zlen.getD i 0)).any fun k => !decide ((zbyt.getD i []).getD k 0 = (zbyt.getD j []).getD k 0))) = true := by decide +kernel
  intro i hi j hj h1 h2
  have q := List.all_eq_true.mp (List.all_eq_true.mp c i (List.mem_range.mpr hi)) j (List.mem_range.mpr hj)
  rw [Bool.or_eq_true] at q
  rcases q with q | q
  · exact of_decide_eq_true q
  · rw [Bool.or_eq_true] at q
    rcases q with q | q
    · rw [decide_eq_true h1] at q
      cases q
    · obtain ⟨k, k1, k2⟩ := List.any_eq_true.mp q
      rw [decide_eq_true (h2 k (List.mem_range.mp k1))] at k2
      cases k2
theorem gz_len : ∀ i, i < 34 → zlen.getD i 0 < 2147483648 := by
  have c : (List.range 34).all (fun i => decide (zlen.getD i 0 < 2147483648)) = true := by decide +kernel
  exact fun i hi => of_decide_eq_true (List.all_eq_true.mp c i (List.mem_range.mpr hi))
/-- the Strings: each is an object of its own, for their letters differ -/
theorem gz_S {A : Nat → Prop} (h : (Cond.and given_1 narrow_1).before args s = true) (hA : ∀ a : Nat, a < s.heap.size → ¬ A a) : ∃ adK adV : Nat → Nat, vk_S 34 zlen zbyt adK adV A s s.heap ∧ ∀ i : Nat, i < 34 → (gs i).eval args s none [] s = some (.ref (adK i)) := by
  have h0 : ∀ i : Nat, ∃ q : Nat × Nat, i < 34 → (gs i).eval args s none [] s = some (.ref q.1) ∧ va_O "java/lang/String" q.1 A s s.heap ∧ va_OF "java/lang/String" "coder" "B" (.int 0) q.1 A s s.heap ∧ va_OF "java/lang/String" "value" "[B" (.ref q.2) q.1 A s s.heap ∧ va_T .byte q.2 (zlen.getD i 0) (fun j => .int ((zbyt.getD i []).getD j 0)) A s s.heap := by
    intro i
    by_cases hi : i < 34
    · obtain ⟨a, c, cell, k, q1, q2, q3, q4, q5, q6, -⟩ := Cond.exactly_spec (args := args) (first := s) (o := none) (s := s) (idx := []) (t := gs i) (cls := "java/lang/String") (fs_ex h i hi)
      obtain ⟨t, ht, hT⟩ := va_Tof (f := fun j => .int ((zbyt.getD i []).getD j 0)) (A := A) (gz_len i hi) (fs_ar h i hi) (va_eqt (fs_le h i hi)) (fun j hj => va_eqt (fs_el h i hi j hj)) hA
      exact ⟨(a, t), fun _ => ⟨q1, ⟨cell, q3, q5, by rw [q6]; exact q2, hA a (Array.getElem?_eq_some_iff.mp q3).1⟩, vk_OFof q1 (va_eqt (fs_co h i hi)) hA, vk_OFof q1 ht hA, hT⟩⟩
    · exact ⟨(0, 0), fun z => absurd z hi⟩
  obtain ⟨ad, had⟩ := Classical.axiomOfChoice h0
  refine ⟨fun i => (ad i).1, fun i => (ad i).2, ⟨fun i hi => (had i hi).2, fun i j hi hj e => ?_⟩, fun i hi => (had i hi).1⟩
  have e : (ad i).1 = (ad j).1 := e
  obtain ⟨-, -, -, v1, t1⟩ := had i hi
  obtain ⟨-, -, -, v2, t2⟩ := had j hj
  rw [← e] at v2
  have e2 : (ad i).2 = (ad j).2 := Value.ref.inj (gz_OF v1 v2)
  rw [← e2] at t2
  obtain ⟨l1, l2⟩ := gz_T t1 t2 (gz_len i hi) (gz_len j hj)
  exact gz_dif i hi j hj l1 (fun k hk => Value.int.inj (l2 k hk))
/-- the Words -/
theorem gz_W {A : Nat → Prop} (h : (Cond.and given_1 narrow_1).before args s = true) (ht : ∀ w ∈ lw_tbl, w.before args s = true) (hA : ∀ a : Nat, a < s.heap.size → ¬ A a) : ∃ ad : Nat → Nat, va_En "PartyWalls$Word" "LPartyWalls$Word;" zwn zwf ad A s s.heap ∧ ∀ i, i < 24 → (Term.static "PartyWalls$Word" (zwn.getD i "") "LPartyWalls$Word;").eval args s none [] s = some (.ref (ad i)) := by
  have hn : zwn.length = 24 := rfl
  obtain ⟨ad, h1, h2⟩ := va_Enof2 (nm := zwn) (F := zwf) (E := "PartyWalls$Word") (d := "LPartyWalls$Word;") (A := A) (fun i hi => fw_ls ht i (by rw [hn] at hi; exact hi)) (fi_word ht) (fun i hi => fw_ex h i (by rw [hn] at hi; exact hi)) (fun q hq i hi => by
    rw [hn] at hi
    rcases List.mem_cons.mp hq with rfl | hq
    · exact fw_or h i hi
    · rcases List.mem_cons.mp hq with rfl | hq
      · exact fw_op h i hi
      · cases hq) (fun i j hi hj hij => by
    rw [hn] at hi hj
    rcases Nat.lt_or_gt_of_ne hij with l | l
    · exact (fw_ne h j hj i l).symm
    · exact fw_ne h i hi j l) hA
  exact ⟨ad, h1, fun i hi => h2 i (by rw [hn]; exact hi)⟩
theorem gz_ac {ty : FieldType} (h : (Cond.arrayClass ty).before args s = true) : ∃ c : ClassId, ArrOfT s c ty ∧ s.vm.findClass ("[" ++ ty.toString) = some c := by
  obtain ⟨c, k, comp, h1, h2, h3⟩ := Cond.arrayClass_spec (args := args) (first := s) (o := none) (s := s) (idx := []) h
  exact ⟨c, fun n z => ⟨(fun z9 h9 => by cases h9), k, h2, comp, h3⟩, h1⟩
theorem gz_ao {C : String} (h : (Cond.arrayOver (.object C)).before args s = true) : ∃ c : ClassId, ArrOfT s c (.object C) ∧ va_RA s c (.object C) := by
  obtain ⟨comp, c, k, h1, -, h3, h4, h5⟩ := Cond.arrayOver_spec (args := args) (first := s) (o := none) (s := s) (idx := []) h
  exact ⟨c, fun n z => ⟨(fun z9 h9 => by cases h9), k, h3, comp, h4⟩, k, comp, h3, h4, h1, h5⟩
/-- the class of int[][], over that of int[] -/
theorem gz_ai (h : (Cond.arrayOver (.array .int)).before args s = true) : ∃ (comp c : ClassId) (k : Class), s.vm.findClass (FieldType.array .int).toString = some comp ∧ s.vm.classes[c]? = some k ∧ k.kind = .array comp (.array .int) ∧ s.vm.findClass ("[" ++ (FieldType.array .int).toString) = some c := by
  have h : (Cond.arrayOver (.array .int)).holds args s none s [] = true := h
  simp only [Cond.holds, Cond.value, beq_iff_eq] at h
  cases hc : s.vm.findClass (FieldType.array .int).toString with
  | none => simp [hc] at h
  | some comp =>
    simp only [hc, Option.bind_some, Option.bind_eq_some_iff, Option.map_eq_some_iff] at h
    obtain ⟨c, hi, k, hk, hb⟩ := h
    have hp := (Array.findIdx?_eq_some_iff_getElem.mp hi).2.1
    rw [(Array.getElem?_eq_some_iff.mp hk).2] at hp
    refine ⟨comp, c, k, rfl, hk, ?_⟩
    cases hkind : k.kind with
    | array component ty =>
      rw [hkind] at hb hp
      simp at hb hp
      exact ⟨by rw [hp, hb.1], hb.2⟩
    | _ => rw [hkind] at hb; simp at hb
/-- the classes -/
theorem gz_K (ht : ∀ w ∈ lw_tbl, w.before args s = true) : ∃ D : va_G, ∀ (c : Nat) (q : vw_C), vwCl[c]? = some q → u_Kn s q.1 q.2.1 q.2.2 (D.1 c) (D.2 c) := by
  have hz : ∀ w ∈ zw, w.before args s = true := fun w hw => ht w (List.mem_filter.mp hw).1
  have h0 : ∀ c : Nat, ∃ x : ClassId × (Nat → Nat), ∀ q : vw_C, vwCl[c]? = some q → u_Kn s q.1 q.2.1 q.2.2 x.1 x.2 := by
    intro c
    match c with
    | 0 => exact (u_known (C := RJx4a65c) (T := TJx4a65c) (N := 3) (n := 3) hz in_Jx4a65c (tb_at ht 1 42 (by decide +kernel))).elim fun cC hc => hc.elim fun iS hk => ⟨(cC, iS), fun q hq => by cases hq; exact hk⟩
    | 1 => exact (u_known (C := RX1) (T := TX1) (N := 9) (n := 9) hz in_X1 (tb_at ht 1 68 (by decide +kernel))).elim fun cC hc => hc.elim fun iS hk => ⟨(cC, iS), fun q hq => by cases hq; exact hk⟩
    | 2 => exact (u_known (C := RX2) (T := TX2) (N := 3) (n := 3) hz in_X2 (tb_at ht 6 147 (by decide +kernel))).elim fun cC hc => hc.elim fun iS hk => ⟨(cC, iS), fun q hq => by cases hq; exact hk⟩
    | 3 => exact (u_known (C := RX3) (T := TX3) (N := 4) (n := 4) hz in_X3 (tb_at ht 1 103 (by decide +kernel))).elim fun cC hc => hc.elim fun iS hk => ⟨(cC, iS), fun q hq => by cases hq; exact hk⟩
    | 4 => exact (u_known (C := RX4) (T := TX4) (N := 3) (n := 3) hz in_X4 (tb_at ht 5 18 (by decide +kernel))).elim fun cC hc => hc.elim fun iS hk => ⟨(cC, iS), fun q hq => by cases hq; exact hk⟩
    | 5 => exact (u_known (C := RX5) (T := TX5) (N := 14) (n := 14) hz in_X5 (tb_at ht 1 130 (by decide +kernel))).elim fun cC hc => hc.elim fun iS hk => ⟨(cC, iS), fun q hq => by cases hq; exact hk⟩
    | 6 => exact (u_known (C := RX6) (T := TX6) (N := 13) (n := 13) hz in_X6 (tb_at ht 1 122 (by decide +kernel))).elim fun cC hc => hc.elim fun iS hk => ⟨(cC, iS), fun q hq => by cases hq; exact hk⟩
    | 7 => exact (u_known (C := RX7) (T := TX7) (N := 4) (n := 4) hz in_X7 (tb_at ht 6 39 (by decide +kernel))).elim fun cC hc => hc.elim fun iS hk => ⟨(cC, iS), fun q hq => by cases hq; exact hk⟩
    | 8 => exact (u_known (C := RX8) (T := TX8) (N := 6) (n := 6) hz in_X8 (tb_at ht 2 195 (by decide +kernel))).elim fun cC hc => hc.elim fun iS hk => ⟨(cC, iS), fun q hq => by cases hq; exact hk⟩
    | 9 => exact (u_known (C := RX10) (T := TX10) (N := 18) (n := 18) hz in_X10 (tb_at ht 4 67 (by decide +kernel))).elim fun cC hc => hc.elim fun iS hk => ⟨(cC, iS), fun q hq => by cases hq; exact hk⟩
    | 10 => exact (u_known (C := RX11) (T := TX11) (N := 17) (n := 17) hz in_X11 (tb_at ht 1 34 (by decide +kernel))).elim fun cC hc => hc.elim fun iS hk => ⟨(cC, iS), fun q hq => by cases hq; exact hk⟩
    | 11 => exact (u_known (C := RX12) (T := TX12) (N := 80) (n := 80) hz in_X12 (tb_at ht 6 239 (by decide +kernel))).elim fun cC hc => hc.elim fun iS hk => ⟨(cC, iS), fun q hq => by cases hq; exact hk⟩
    | n + 12 => exact ⟨(0, fun _ => 0), fun q hq => by simp [vwCl] at hq⟩
  obtain ⟨D, hD⟩ := Classical.axiomOfChoice h0
  exact ⟨(fun c => (D c).1, fun c => (D c).2), fun c q hq => hD c q hq⟩
def gz_ad (b : Nat) (adK adV adW : Nat → Nat) (aA aM aE aF aC : Nat) : Nat → Nat := fun a => if a % 256 = 200 then adK (a / 256) else if a % 256 = 201 then adW (a / 256) else if a % 256 = 205 then adV (a / 256) else if a = 202 then aA else if a = 203 then aM else if a = 204 then aE else if a = 206 then aF else if a = 207 then aC else b
theorem gz_200 {b : Nat} {adK adV adW : Nat → Nat} {aA aM aE aF aC : Nat} (i : Nat) : gz_ad b adK adV adW aA aM aE aF aC (200 + 256 * i) = adK i := by
  unfold gz_ad
  rw [if_pos (by omega), show (200 + 256 * i) / 256 = i by omega]
theorem gz_201 {b : Nat} {adK adV adW : Nat → Nat} {aA aM aE aF aC : Nat} (i : Nat) : gz_ad b adK adV adW aA aM aE aF aC (201 + 256 * i) = adW i := by
  unfold gz_ad
  rw [if_neg (by omega), if_pos (by omega), show (201 + 256 * i) / 256 = i by omega]
theorem gz_205 {b : Nat} {adK adV adW : Nat → Nat} {aA aM aE aF aC : Nat} (i : Nat) : gz_ad b adK adV adW aA aM aE aF aC (205 + 256 * i) = adV i := by
  unfold gz_ad
  rw [if_neg (by omega), if_neg (by omega), if_pos (by omega), show (205 + 256 * i) / 256 = i by omega]
theorem gz_str (h : (Cond.and given_1 narrow_1).before args s = true) {adK : Nat → Nat} (eS : ∀ i : Nat, i < 34 → (gs i).eval args s none [] s = some (.ref (adK i))) : ∀ i, i < zstrL.length → (Term.string (zstrL.getD i ("", 0, "", 0)).1 (zstrL.getD i ("", 0, "", 0)).2.1).eval args s none [] s = some (.ref (adK (zstrL.getD i ("", 0, "", 0)).2.2.2)) := by
  intro i hi
  by_cases c : i < 34
  · have q := eS (zstrL.getD i ("", 0, "", 0)).2.2.2
    have e : (List.range 34).all (fun i => decide ((zstrL.getD i ("", 0, "", 0)).2.2.2 < 34) && decide ((gso.getD (zstrL.getD i ("", 0, "", 0)).2.2.2 ("", 0)) = ((zstrL.getD i ("", 0, "", 0)).1, (zstrL.getD i ("", 0, "", 0)).2.1))) = true := by decide +kernel
    have e2 := List.all_eq_true.mp e i (List.mem_range.mpr c)
    rw [Bool.and_eq_true] at e2
    have q := q (of_decide_eq_true e2.1)
    unfold gs at q
    rw [of_decide_eq_true e2.2] at q
    exact q
  · obtain ⟨j, rfl⟩ : ∃ j, i = 34 + j := ⟨i - 34, by omega⟩
    have hj : j < 23 := by
      have : zstrL.length = 57 := rfl
      omega
    have e : (List.range 23).all (fun j => decide ((zstrL.getD (34 + j) ("", 0, "", 0)).1 = "PartyWallsModel") && (decide ((zstrL.getD (34 + j) ("", 0, "", 0)).2.1 = (gml.getD j (0, 0)).1) && (decide ((zstrL.getD (34 + j) ("", 0, "", 0)).2.2.2 = (gml.getD j (0, 0)).2) && decide ((gml.getD j (0, 0)).2 < 34)))) = true := by decide +kernel
    have e2 := List.all_eq_true.mp e j (List.mem_range.mpr hj)
    rw [Bool.and_eq_true, Bool.and_eq_true, Bool.and_eq_true] at e2
    obtain ⟨x1, x2, x3, x4⟩ := e2
    rw [of_decide_eq_true x1, of_decide_eq_true x2, of_decide_eq_true x3]
    exact va_eqv (fq_eq h j hj) (eS _ (of_decide_eq_true x4))
end GZ
