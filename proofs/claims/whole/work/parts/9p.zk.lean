/-! Z, with all that stands of it at the start -/
def gz_cA (c0 c1 c2 c3 c4 c5 c6 : ClassId) : Nat → ClassId := fun k => match k with
  | 0 => c0
  | 1 => c1
  | 2 => c2
  | 3 => c3
  | 4 => c4
  | 5 => c5
  | 6 => c6
  | _ => 0
theorem gz_Z {args : Array Value} {s : State} {b : Nat} (h : (Cond.and given_1 narrow_1).before args s = true) (ht : ∀ w ∈ lw_tbl, w.before args s = true) : ∃ Z : zZ, Z.2.2.1 = s.heap.size ∧ va_K Z.1 vwCl (zt Z) s ∧ zK Z s s.heap ∧ Z.2.2.2 208 = b ∧ Z.2.1 9 = 0 := by
  have hA : ∀ a : Nat, a < s.heap.size → ¬ (fun q : Nat => s.heap.size ≤ q) a := fun a z => Nat.not_le.mpr z
  obtain ⟨adK, adV, kS, eS⟩ := gz_S (A := fun q : Nat => s.heap.size ≤ q) h hA
  obtain ⟨adW, kW, eW⟩ := gz_W (A := fun q : Nat => s.heap.size ≤ q) h ht hA
  obtain ⟨aA, eA, tA⟩ := va_Tof (tm := .static "PartyWalls$Word" "ALL" "[LPartyWalls$Word;") (ty := .object "PartyWalls$Word") (N := 24) (f := fun j => .ref (adW j)) (A := fun q : Nat => s.heap.size ≤ q) (by decide) (fa_ar h) (va_eqt (fa_le h)) (fun j hj => va_eqv (fa_el h j hj) (eW j hj)) hA
  obtain ⟨aM, eM, tM⟩ := va_Tof (tm := .static "PartyWalls$1" "$SwitchMap$PartyWalls$Word" "[I") (ty := .int) (N := 24) (f := fun j => .int (zsm.getD j 0)) (A := fun q : Nat => s.heap.size ≤ q) (by decide) (fm_ar h) (va_eqt (fm_le h)) (fun j hj => va_eqt (fm_el h j hj)) hA
  obtain ⟨aE, eE, tE⟩ := va_Tof (tm := .static "java/util/ArrayList" "DEFAULTCAPACITY_EMPTY_ELEMENTDATA" "[Ljava/lang/Object;") (ty := .object "java/lang/Object") (N := 0) (f := fun _ => .null) (A := fun q : Nat => s.heap.size ≤ q) (by decide) (fe_ar h) (va_eqt (fe_le h)) (fun j hj => by omega) hA
  have zA' := va_Zof (fa_ls ht) (fi_word ht) eA hA
  have zM' := va_Zof (fm_ls ht) (fi_sm ht) eM hA
  have zE' := va_Zof (fe_ls ht) (fi_al ht) eE hA
  have zS' := va_Zof (fk_cl ht) (fi_str ht) (va_eqi (fk_cs h)) hA
  obtain ⟨aF, zF'⟩ : ∃ aF : Nat, va_Z "jdk/internal/util/Preconditions" "SIOOBE_FORMATTER" "Ljava/util/function/BiFunction;" .null (fun q : Nat => s.heap.size ≤ q) s s.heap ∨ va_Z "jdk/internal/util/Preconditions" "SIOOBE_FORMATTER" "Ljava/util/function/BiFunction;" (.ref aF) (fun q : Nat => s.heap.size ≤ q) s s.heap := by
    rcases va_Zqof (fk_fl ht) (fi_pre ht) (fk_fo h) hA with z | ⟨t, z⟩
    · exact ⟨0, .inl z⟩
    · exact ⟨t, .inr z⟩
  have zU := vx_Zqof (ft_ul ht) (fi_thr ht) (ft_u h) hA
  have zN' := vx_Zqof (ft_nl ht) (fi_thr ht) (ft_n h) hA
  obtain ⟨aC, zC'⟩ := va_Mi.of (fo_mi h)
  obtain ⟨D, hD⟩ := gz_K (s := s) ht
  obtain ⟨c0, r0, n0⟩ := gz_ac (fo_int ht)
  obtain ⟨c1, r1, n1⟩ := gz_ac (fo_byte ht)
  obtain ⟨c2, r2, n2⟩ := gz_ac (fo_bool ht)
  obtain ⟨c3, r3, n3⟩ := gz_ac (fo_long ht)
  obtain ⟨c4, r4, n4⟩ := gz_ao (fo_ao ht)
  obtain ⟨c5, r5, n5⟩ := gz_ao (fo_ap ht)
  obtain ⟨cm, c6, k6, m1, m2, m3, m4⟩ := gz_ai (fo_ai ht)
  have e0 : cm = c0 := Option.some.inj (m1.symm.trans n0)
  subst e0
  refine ⟨(D, gz_cA cm c1 c2 c3 c4 c5 c6, s.heap.size, gz_ad b adK adV adW aA aM aE aF aC), rfl, ⟨hD, fun k q hk => ?_⟩, ?_, ?_, rfl⟩
  · match k with
    | 0 => obtain rfl := Option.some.inj hk; exact ⟨r0, n0⟩
    | 1 => obtain rfl := Option.some.inj hk; exact ⟨r1, n1⟩
    | 2 => obtain rfl := Option.some.inj hk; exact ⟨r2, n2⟩
    | 3 => obtain rfl := Option.some.inj hk; exact ⟨r3, n3⟩
    | 4 => obtain rfl := Option.some.inj hk; exact ⟨r4, n4⟩
    | 5 => obtain rfl := Option.some.inj hk; exact ⟨r5, n5⟩
    | 6 => obtain rfl := Option.some.inj hk; exact ⟨fun n z => ⟨(fun z9 h9 => by cases h9), k6, m2, cm, m3⟩, m4⟩
    | k + 7 => simp [zt] at hk
  · refine ⟨⟨zU, zN'⟩, fun q hq => ?_, ?_, ⟨?_, ?_⟩, ⟨zA', ?_⟩, ⟨zM', tM⟩, ⟨zE', tE⟩, ⟨zS', zF'⟩, fun q hq => ?_, fun y hy => ?_, ⟨fun q hq => ?_, va_Nw.of rfl (fo_fn ht)⟩, fun q hq => ?_, ⟨va_AO.of (fo_ao ht), va_AO.of (fo_ap ht), zC', k6, m2, m3⟩⟩
    · obtain ⟨i, hi⟩ := List.getElem?_of_mem hq
      have li : i < zstrL.length := (List.getElem?_eq_some_iff.mp hi).1
      have e : zstrL.getD i ("", 0, "", 0) = q := by rw [List.getD_eq_getElem?_getD, hi]; rfl
      have q1 := fq_sr ht i li
      have q2 := gz_str h eS i li
      rw [e] at q1 q2
      show vk_R q.1 q.2.1 q.2.2.1 (gz_ad b adK adV adW aA aM aE aF aC (200 + 256 * q.2.2.2)) s
      rw [gz_200]
      exact vk_R.of q1 q2
    · show vk_S 34 zlen zbyt (fun i => gz_ad b adK adV adW aA aM aE aF aC (200 + 256 * i)) (fun i => gz_ad b adK adV adW aA aM aE aF aC (205 + 256 * i)) _ s s.heap
      rw [show (fun i => gz_ad b adK adV adW aA aM aE aF aC (200 + 256 * i)) = adK from funext gz_200, show (fun i => gz_ad b adK adV adW aA aM aE aF aC (205 + 256 * i)) = adV from funext gz_205]
      exact kS
    · show va_En _ _ zwn zwf (fun i => gz_ad b adK adV adW aA aM aE aF aC (201 + 256 * i)) _ s s.heap
      rw [show (fun i => gz_ad b adK adV adW aA aM aE aF aC (201 + 256 * i)) = adW from funext gz_201]
      exact kW
    · show va_Ef 24 _ _ _ (fun i => .ref (gz_ad b adK adV adW aA aM aE aF aC (200 + 256 * i))) (fun i => gz_ad b adK adV adW aA aM aE aF aC (201 + 256 * i)) _ s s.heap
      rw [show (fun i => gz_ad b adK adV adW aA aM aE aF aC (201 + 256 * i)) = adW from funext gz_201, show (fun i => (.ref (gz_ad b adK adV adW aA aM aE aF aC (200 + 256 * i)) : Value)) = fun i => .ref (adK i) from funext fun i => by rw [gz_200]]
      exact va_Efof (nm := zwn) (tm := gs) (v := fun i => .ref (adK i)) eW (fw_tx h) (fun i hi => eS i (by omega)) hA
    · show va_T _ aA 24 (fun j => .ref (gz_ad b adK adV adW aA aM aE aF aC (201 + 256 * j))) _ s s.heap
      rw [show (fun i => (.ref (gz_ad b adK adV adW aA aM aE aF aC (201 + 256 * i)) : Value)) = fun i => .ref (adW i) from funext fun i => by rw [gz_201]]
      exact tA
    · obtain ⟨i, hi⟩ := List.getElem?_of_mem hq
      have q1 := fc_ca ht i (List.getElem?_eq_some_iff.mp hi).1
      rw [show zcast.getD i ("", "") = q by rw [List.getD_eq_getElem?_getD, hi]; rfl] at q1
      exact va_Nw.of rfl q1
    · obtain ⟨i, hi⟩ := List.getElem?_of_mem hy
      have q1 := fc_de ht i (List.getElem?_eq_some_iff.mp hi).1
      rw [show zdecl.getD i ⟨"", "", ""⟩ = y by rw [List.getD_eq_getElem?_getD, hi]; rfl] at q1
      exact va_Nw.of rfl q1
    · obtain ⟨i, hi⟩ := List.getElem?_of_mem hq
      have q1 := fc_mn ht i (List.getElem?_eq_some_iff.mp hi).1
      rw [show zmnest.getD i ("", 0, ⟨"", "", ""⟩, "") = q by rw [List.getD_eq_getElem?_getD, hi]; rfl] at q1
      exact va_Nw.of rfl q1
    · obtain ⟨i, hi⟩ := List.getElem?_of_mem hq
      have q1 := fc_nc h i (List.getElem?_eq_some_iff.mp hi).1
      rw [show zncast.getD i ("", "") = q by rw [List.getD_eq_getElem?_getD, hi]; rfl] at q1
      exact va_Nc.of q1
  · show gz_ad b adK adV adW aA aM aE aF aC 208 = b
    unfold gz_ad
    rfl
