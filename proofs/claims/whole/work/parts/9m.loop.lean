/-! THE CLAIM OUT OF ONE WALK OF THE LAW'S BODY. Your part is whole_start (and what it stands on); all else here is the same for every law, but numbers. -/
def R_law : String := "PartyWallsLaw"
def lw_P (b : Addr) (xs : List Int32) (args : Array Value) (s : State) : Prop := args = #[.ref b] ∧ s.IntsAt b xs ∧ xs.length ≤ 3584 ∧ (Jvm.Cond.and given_1 narrow_1).before args s = true
def lw_Q (_ : Array Value) (s : State) (o : Outcome) (t : State) : Prop := o = .returned (some (.int 1)) ∧ Framed s o t [] 601024 7293034
def lw_Z (below : List Frame) (a : Array Value) (s : State) : State → Prop := fun t => ∃ o, t.status = .running ∧ Ended t below o ∧ lw_Q a s o t
/-- the law's own end, with 1 on the stack, nothing written that was there before, its room as the claim has it -/
theorem lw_ret {p : Program} {l : Launch} {e : Env} {s : State} {m : MethodId} {below : List Frame} {meth : Method} {c : Code} {b : Nat} (hx : p.tables.exec = Jvm.exec) (hb : c.code = code) (hr : meth.sig.returnType = ret) (hlocks : meth.locks = false) {pc : Nat} {H : Heap} {ls : Array Slot} (hdg : decode code pc = .ok (.ireturn, 1)) : W p l e room_1 s m #[Value.ref b] below meth c H [] 601024 7293034 (lw_Z below #[Value.ref b] s) (F0 m pc ls [.int 1]) := by
  intro T hT X
  obtain ⟨fs, hret, hrun, hended, hW, hframe⟩ := X.leave (v := some (.int 1)) (hlocks := hlocks) (fun h => by rw [hr] at h; cases h)
  have hmeth' : T.vm.method? m = some meth := X.method'
  refine ⟨T.setFrames fs, ?_, .returned (some (.int 1)), hrun, hended, rfl, ⟨_, rfl⟩, hW, hframe⟩
  jvm_step X.here [X.here.top, hx, hb, hdg, hmeth', hr, ret, narrow_b1]
  (try refine ⟨rfl, ?_⟩); (try refine ⟨rfl, ?_⟩)
  first | (intro acts; rw [hret _ acts rfl rfl rfl]) | rw [hret _ _ rfl rfl rfl]
  exact Steps.refl _
/-- what holds at the law's entry: the machine, the code, the tables' words (any of lw_tbl by 'hts w (by decide +kernel)'), the script of L ints xs at the cell b, what the Statement gives of the start (any of its parts by flat_of_before) -/
def lw_At (p : Program) (s : State) (m : MethodId) (meth : Method) (c : Code) (b L : Nat) (xs : Nat → Int32) : Prop :=
  p.tables.exec = Jvm.exec ∧ c.code = code ∧ meth.sig.returnType = ret ∧ c.maxLocals = 8 ∧ s.vm.findClass R_law = some m.cls ∧ (∀ w ∈ lw_tbl, w.before #[Value.ref b] s = true) ∧ va_X b L xs s s.heap ∧ b < s.heap.size ∧ meth.locks = false ∧ (Jvm.Cond.and given_1 narrow_1).before #[Value.ref b] s = true
/-- the law's end -/
theorem law_end {Z : zZ} {p : Program} {l : Launch} {e : Env} {s : State} {m : MethodId} {b : Nat} {below : List Frame} {meth : Method} {c : Code} {ad0 : Nat → Nat} {h0 : zH} {h : zH} {cells slots : Nat} {lc : List (Option Value)} (C : zC Z p s m #[.ref b] meth c cL_law 8 RL) (hr : meth.sig.returnType = ret) (hZ : s.heap.size ≤ Z.2.2.1) (hc : cells ≤ 601024) (hs : slots ≤ 7293034) : zG Z ad0 h0 p l e room_1 s m #[.ref b] below meth c (lw_Z below #[.ref b] s) cells slots h 8 3268 lc [] := by
  refine z_iconst C dL_law_3268 (v := 1) (by decide) ?_
  intro ad H locs ls hP hS hE hL hl hv
  refine W.widen hc hs ?_
  refine va_forget (fun q hq => Nat.le_trans hZ (hS.2.2 q hq)) ?_
  exact lw_ret C.1 C.2.1 hr C.2.2.2.2.2.2.1 dL_law_3269

set_option maxHeartbeats 4000000 in
set_option maxRecDepth 100000 in
/-- the law's loop -/
theorem law_loop {p : Program} {l : Launch} {e : Env} {s : State} {m : MethodId} {b : Nat} {below : List Frame} {meth : Method} {c : Code} {ad0 : Nat → Nat} {h0 : zH} {L : Nat} {xs : Nat → Int32} (hfl : l.stackTraces = false) (hr : meth.sig.returnType = ret) (hL : L ≤ 3584) : ∀ (n : Nat) (Z : zZ) (j : Nat) (st : zTs) (cells slots : Nat), j ≤ 512 → n + j = 513 → zC Z p s m #[.ref b] meth c cL_law 8 RL → zSx Z s L xs → s.heap.size ≤ Z.2.2.1 → qR st → cells + 30 * n ≤ 601024 → slots + 8828 * n ≤ 7293034 → zG Z ad0 h0 p l e room_1 s m #[.ref b] below meth c (lw_Z below #[.ref b] s) cells slots (zh Z zm1 st) 8 23 [some (.ref 208), some (.ref 10), some (.ref 100), some (.ref 9), some (.int (Int32.ofNat (7 * j))), none, none, none] [] := by
  intro n
  induction n with
  | zero => intro Z j st cells slots j1 j2; omega
  | succ n ih =>
    intro Z j st cells slots j1 j2 C X hZ h hc hs
    refine z_iload C dL_law_23 (i := 4) rfl ?_
    refine z_aload_n C dL_law_25 (i := 0) rfl rfl ?_
    refine t_slen C X dL_law_26 ?_
    refine z_bipush C dL_law_27 (v := 7) (by decide) ?_
    refine z_isub C dL_law_29 ?_
    have eL : (Int32.ofNat L - 7).toInt = (L : Int) - 7 := by
      rw [Int32.toInt_sub, q_of (by omega), show (7 : Int32).toInt = 7 from rfl]
      exact Int.bmod_eq_of_le (by omega) (by omega)
    refine z_icmp_gt C dL_law_30 (tgt := 3268) (by decide) (fun _ => law_end C hr hZ (by omega) (by omega)) (fun z => ?_)
    have hj : 7 * j + 7 ≤ L := by
      rw [Int32.lt_iff_toInt_lt, eL, q_of (by omega)] at z
      omega
    have hv : ∀ k : Nat, k < 7 → vp_in (Int32.ofNat (7 * j) + Int32.ofNat k) L := fun k hk => by
      rw [q_nadd (by omega)]
      exact q_nv (by omega) (by omega)
    have hK : ∀ x st1, qR st1 → zG Z ad0 h0 p l e room_1 s m #[.ref b] below meth c (lw_Z below #[.ref b] s) (cells + 30) (slots + 8828) (zh (zZx Z x) zm1 st1) 8 3262 [some (.ref 208), some (.ref 10), some (.ref 100), some (.ref 9), some (.int (Int32.ofNat (7 * j))), none, none, none] [] := by
      intro x st1 q1
      refine zG_x x ?_
      refine z_iinc (zC_x C x) dL_law_3262 (v := Int32.ofNat (7 * (j + 1))) (lc' := [some (.ref 208), some (.ref 10), some (.ref 100), some (.ref 9), some (.int (Int32.ofNat (7 * (j + 1)))), none, none, none]) rfl (by decide) ?_ rfl ?_
      · rw [show Int32.ofInt 7 = Int32.ofNat 7 from rfl, q_nadd (by omega)]
        rfl
      · refine z_goto (zC_x C x) dL_law_3265 (tgt := 23) (by decide) ?_
        exact ih (zZx Z x) (j + 1) st1 (cells + 30) (slots + 8828) (by omega) (by omega) (zC_x C x) X hZ q1 (by omega) (by omega)
    have hc1 : cells + 30 ≤ room_1.cells := by show cells + 30 ≤ 601024; omega
    have hs1 : slots + 8828 ≤ room_1.slots := by show slots + 8828 ≤ 7293034; omega
    refine z_aload_n C dL_law_33 (i := 0) rfl rfl ?_
    refine z_iload C dL_law_34 (i := 4) rfl ?_
    refine t_sld C X dL_law_36 (q_nv (by omega) (by omega)) ?_
    refine z_bipush C dL_law_37 (v := 63) (by decide) ?_
    refine z_iand C dL_law_39 ?_
    generalize xs (Int32.ofNat (7 * j)).toNatClampNeg &&& 63 = x
    by_cases hx : x.toInt < 0 ∨ 42 < x.toInt
    · refine z_tableOut C dL_law_40 (tgt := 3262) hx (by decide) ?_
      have hk := hK (Z.2.1 9) st h
      rw [zZx_self] at hk
      exact zG.wide (Nat.le_add_right _ _) (Nat.le_add_right _ _) hk
    · obtain ⟨k, hk, k42⟩ : ∃ k : Nat, x.toInt = (k : Int) ∧ k ≤ 42 := ⟨x.toInt.toNat, by omega, by omega⟩
      have h1 : ¬ x.toInt < 0 := fun z => hx (Or.inl z)
      have h2 : ¬ 42 < x.toInt := fun z => hx (Or.inr z)
      by_cases c0_42 : k ≤ 21
      · by_cases c0_21 : k ≤ 10
        · by_cases c0_10 : k ≤ 5
          · by_cases c0_5 : k ≤ 2
            · by_cases c0_2 : k ≤ 1
              · by_cases c0_1 : k ≤ 0
                · obtain rfl : k = 0 := by omega
                  refine z_tableIn C dL_law_40 (off := 188) (tgt := 228) h1 h2 (by rw [hk]; rfl) (by decide) ?_
                  exact law_0 hfl C X h hc1 hs1 hK
                · obtain rfl : k = 1 := by omega
                  refine z_tableIn C dL_law_40 (off := 232) (tgt := 272) h1 h2 (by rw [hk]; rfl) (by decide) ?_
                  exact law_1 hfl C X h ⟨hv 1 (by decide), rfl⟩ ⟨hv 2 (by decide), rfl⟩ hc1 hs1 hK
              · obtain rfl : k = 2 := by omega
                refine z_tableIn C dL_law_40 (off := 300) (tgt := 340) h1 h2 (by rw [hk]; rfl) (by decide) ?_
                exact law_2 hfl C X h ⟨hv 1 (by decide), rfl⟩ ⟨hv 2 (by decide), rfl⟩ ⟨hv 3 (by decide), rfl⟩ hc1 hs1 hK
            · by_cases c3_5 : k ≤ 4
              · by_cases c3_4 : k ≤ 3
                · obtain rfl : k = 3 := by omega
                  refine z_tableIn C dL_law_40 (off := 380) (tgt := 420) h1 h2 (by rw [hk]; rfl) (by decide) ?_
                  exact law_3 hfl C X h ⟨hv 1 (by decide), rfl⟩ hc1 hs1 hK
                · obtain rfl : k = 4 := by omega
                  refine z_tableIn C dL_law_40 (off := 436) (tgt := 476) h1 h2 (by rw [hk]; rfl) (by decide) ?_
                  exact law_4 hfl C X h ⟨hv 1 (by decide), rfl⟩ ⟨hv 2 (by decide), rfl⟩ ⟨hv 3 (by decide), rfl⟩ ⟨hv 4 (by decide), rfl⟩ ⟨hv 5 (by decide), rfl⟩ hc1 hs1 hK
              · obtain rfl : k = 5 := by omega
                refine z_tableIn C dL_law_40 (off := 509) (tgt := 549) h1 h2 (by rw [hk]; rfl) (by decide) ?_
                exact law_5 hfl C X h ⟨hv 1 (by decide), rfl⟩ hc1 hs1 hK
          · by_cases c6_10 : k ≤ 8
            · by_cases c6_8 : k ≤ 7
              · by_cases c6_7 : k ≤ 6
                · obtain rfl : k = 6 := by omega
                  refine z_tableIn C dL_law_40 (off := 565) (tgt := 605) h1 h2 (by rw [hk]; rfl) (by decide) ?_
                  exact law_6 hfl C X h hc1 hs1 hK
                · obtain rfl : k = 7 := by omega
                  refine z_tableIn C dL_law_40 (off := 578) (tgt := 618) h1 h2 (by rw [hk]; rfl) (by decide) ?_
                  exact law_7 hfl C X h ⟨hv 1 (by decide), rfl⟩ ⟨hv 2 (by decide), rfl⟩ hc1 hs1 hK
              · obtain rfl : k = 8 := by omega
                refine z_tableIn C dL_law_40 (off := 646) (tgt := 686) h1 h2 (by rw [hk]; rfl) (by decide) ?_
                exact law_8 hfl C X h ⟨hv 1 (by decide), rfl⟩ ⟨hv 2 (by decide), rfl⟩ ⟨hv 3 (by decide), rfl⟩ ⟨hv 4 (by decide), rfl⟩ ⟨hv 5 (by decide), rfl⟩ ⟨hv 6 (by decide), rfl⟩ hc1 hs1 hK
            · by_cases c9_10 : k ≤ 9
              · obtain rfl : k = 9 := by omega
                refine z_tableIn C dL_law_40 (off := 764) (tgt := 804) h1 h2 (by rw [hk]; rfl) (by decide) ?_
                exact law_9 hfl C X h ⟨hv 1 (by decide), rfl⟩ hc1 hs1 hK
              · obtain rfl : k = 10 := by omega
                refine z_tableIn C dL_law_40 (off := 820) (tgt := 860) h1 h2 (by rw [hk]; rfl) (by decide) ?_
                exact law_10 hfl C X h ⟨hv 1 (by decide), rfl⟩ hc1 hs1 hK
        · by_cases c11_21 : k ≤ 16
          · by_cases c11_16 : k ≤ 13
            · by_cases c11_13 : k ≤ 12
              · by_cases c11_12 : k ≤ 11
                · obtain rfl : k = 11 := by omega
                  refine z_tableIn C dL_law_40 (off := 876) (tgt := 916) h1 h2 (by rw [hk]; rfl) (by decide) ?_
                  exact law_11 hfl C X h ⟨hv 1 (by decide), rfl⟩ ⟨hv 2 (by decide), rfl⟩ hc1 hs1 hK
                · obtain rfl : k = 12 := by omega
                  refine z_tableIn C dL_law_40 (off := 960) (tgt := 1000) h1 h2 (by rw [hk]; rfl) (by decide) ?_
                  exact law_12 hfl C X h ⟨hv 1 (by decide), rfl⟩ ⟨hv 2 (by decide), rfl⟩ hc1 hs1 hK
              · obtain rfl : k = 13 := by omega
                refine z_tableIn C dL_law_40 (off := 1028) (tgt := 1068) h1 h2 (by rw [hk]; rfl) (by decide) ?_
                exact law_13 hfl C X h ⟨hv 1 (by decide), rfl⟩ hc1 hs1 hK
            · by_cases c14_16 : k ≤ 15
              · by_cases c14_15 : k ≤ 14
                · obtain rfl : k = 14 := by omega
                  refine z_tableIn C dL_law_40 (off := 1084) (tgt := 1124) h1 h2 (by rw [hk]; rfl) (by decide) ?_
                  exact law_14 hfl C X h ⟨hv 1 (by decide), rfl⟩ ⟨hv 2 (by decide), rfl⟩ ⟨hv 3 (by decide), rfl⟩ ⟨hv 4 (by decide), rfl⟩ hc1 hs1 hK
                · obtain rfl : k = 15 := by omega
                  refine z_tableIn C dL_law_40 (off := 1176) (tgt := 1216) h1 h2 (by rw [hk]; rfl) (by decide) ?_
                  exact law_15 hfl C X h ⟨hv 1 (by decide), rfl⟩ ⟨hv 2 (by decide), rfl⟩ hc1 hs1 hK
              · obtain rfl : k = 16 := by omega
                refine z_tableIn C dL_law_40 (off := 1244) (tgt := 1284) h1 h2 (by rw [hk]; rfl) (by decide) ?_
                exact law_16 hfl C X h ⟨hv 1 (by decide), rfl⟩ ⟨hv 2 (by decide), rfl⟩ ⟨hv 3 (by decide), rfl⟩ ⟨hv 4 (by decide), rfl⟩ ⟨hv 5 (by decide), rfl⟩ hc1 hs1 hK
          · by_cases c17_21 : k ≤ 19
            · by_cases c17_19 : k ≤ 18
              · by_cases c17_18 : k ≤ 17
                · obtain rfl : k = 17 := by omega
                  refine z_tableIn C dL_law_40 (off := 1348) (tgt := 1388) h1 h2 (by rw [hk]; rfl) (by decide) ?_
                  exact law_17 hfl C X h ⟨hv 1 (by decide), rfl⟩ hc1 hs1 hK
                · obtain rfl : k = 18 := by omega
                  refine z_tableIn C dL_law_40 (off := 1404) (tgt := 1444) h1 h2 (by rw [hk]; rfl) (by decide) ?_
                  exact law_18 hfl C X h ⟨hv 1 (by decide), rfl⟩ hc1 hs1 hK
              · obtain rfl : k = 19 := by omega
                refine z_tableIn C dL_law_40 (off := 1460) (tgt := 1500) h1 h2 (by rw [hk]; rfl) (by decide) ?_
                exact law_19 hfl C X h ⟨hv 1 (by decide), rfl⟩ hc1 hs1 hK
            · by_cases c20_21 : k ≤ 20
              · obtain rfl : k = 20 := by omega
                refine z_tableIn C dL_law_40 (off := 1516) (tgt := 1556) h1 h2 (by rw [hk]; rfl) (by decide) ?_
                exact law_20 hfl C X h ⟨hv 1 (by decide), rfl⟩ ⟨hv 2 (by decide), rfl⟩ hc1 hs1 hK
              · obtain rfl : k = 21 := by omega
                refine z_tableIn C dL_law_40 (off := 1584) (tgt := 1624) h1 h2 (by rw [hk]; rfl) (by decide) ?_
                exact law_21 hfl C X h ⟨hv 1 (by decide), rfl⟩ ⟨hv 2 (by decide), rfl⟩ hc1 hs1 hK
      · by_cases c22_42 : k ≤ 32
        · by_cases c22_32 : k ≤ 27
          · by_cases c22_27 : k ≤ 24
            · by_cases c22_24 : k ≤ 23
              · by_cases c22_23 : k ≤ 22
                · obtain rfl : k = 22 := by omega
                  refine z_tableIn C dL_law_40 (off := 1652) (tgt := 1692) h1 h2 (by rw [hk]; rfl) (by decide) ?_
                  exact law_22 hfl C X h ⟨hv 1 (by decide), rfl⟩ ⟨hv 2 (by decide), rfl⟩ ⟨hv 3 (by decide), rfl⟩ ⟨hv 4 (by decide), rfl⟩ ⟨hv 5 (by decide), rfl⟩ hc1 hs1 hK
                · obtain rfl : k = 23 := by omega
                  refine z_tableIn C dL_law_40 (off := 1756) (tgt := 1796) h1 h2 (by rw [hk]; rfl) (by decide) ?_
                  exact law_23 hfl C X h ⟨hv 1 (by decide), rfl⟩ ⟨hv 2 (by decide), rfl⟩ ⟨hv 3 (by decide), rfl⟩ hc1 hs1 hK
              · obtain rfl : k = 24 := by omega
                refine z_tableIn C dL_law_40 (off := 1836) (tgt := 1876) h1 h2 (by rw [hk]; rfl) (by decide) ?_
                exact law_24 hfl C X h ⟨hv 1 (by decide), rfl⟩ ⟨hv 2 (by decide), rfl⟩ ⟨hv 3 (by decide), rfl⟩ ⟨hv 4 (by decide), rfl⟩ ⟨hv 5 (by decide), rfl⟩ hc1 hs1 hK
            · by_cases c25_27 : k ≤ 26
              · by_cases c25_26 : k ≤ 25
                · obtain rfl : k = 25 := by omega
                  refine z_tableIn C dL_law_40 (off := 1940) (tgt := 1980) h1 h2 (by rw [hk]; rfl) (by decide) ?_
                  exact law_25 hfl C X h ⟨hv 1 (by decide), rfl⟩ ⟨hv 2 (by decide), rfl⟩ ⟨hv 3 (by decide), rfl⟩ ⟨hv 4 (by decide), rfl⟩ hc1 hs1 hK
                · obtain rfl : k = 26 := by omega
                  refine z_tableIn C dL_law_40 (off := 2032) (tgt := 2072) h1 h2 (by rw [hk]; rfl) (by decide) ?_
                  exact law_26 hfl C X h ⟨hv 1 (by decide), rfl⟩ ⟨hv 2 (by decide), rfl⟩ hc1 hs1 hK
              · obtain rfl : k = 27 := by omega
                refine z_tableIn C dL_law_40 (off := 2100) (tgt := 2140) h1 h2 (by rw [hk]; rfl) (by decide) ?_
                exact law_27 hfl C X h ⟨hv 1 (by decide), rfl⟩ ⟨hv 2 (by decide), rfl⟩ hc1 hs1 hK
          · by_cases c28_32 : k ≤ 30
            · by_cases c28_30 : k ≤ 29
              · by_cases c28_29 : k ≤ 28
                · obtain rfl : k = 28 := by omega
                  refine z_tableIn C dL_law_40 (off := 2168) (tgt := 2208) h1 h2 (by rw [hk]; rfl) (by decide) ?_
                  exact law_28 hfl C X h ⟨hv 1 (by decide), rfl⟩ ⟨hv 2 (by decide), rfl⟩ hc1 hs1 hK
                · obtain rfl : k = 29 := by omega
                  refine z_tableIn C dL_law_40 (off := 2236) (tgt := 2276) h1 h2 (by rw [hk]; rfl) (by decide) ?_
                  exact law_29 hfl C X h ⟨hv 1 (by decide), rfl⟩ ⟨hv 2 (by decide), rfl⟩ hc1 hs1 hK
              · obtain rfl : k = 30 := by omega
                refine z_tableIn C dL_law_40 (off := 2304) (tgt := 2344) h1 h2 (by rw [hk]; rfl) (by decide) ?_
                exact law_30 hfl C X h ⟨hv 1 (by decide), rfl⟩ ⟨hv 2 (by decide), rfl⟩ hc1 hs1 hK
            · by_cases c31_32 : k ≤ 31
              · obtain rfl : k = 31 := by omega
                refine z_tableIn C dL_law_40 (off := 2372) (tgt := 2412) h1 h2 (by rw [hk]; rfl) (by decide) ?_
                exact law_31 hfl C X h ⟨hv 1 (by decide), rfl⟩ ⟨hv 2 (by decide), rfl⟩ ⟨hv 3 (by decide), rfl⟩ hc1 hs1 hK
              · obtain rfl : k = 32 := by omega
                refine z_tableIn C dL_law_40 (off := 2451) (tgt := 2491) h1 h2 (by rw [hk]; rfl) (by decide) ?_
                exact law_32 hfl C X h ⟨hv 1 (by decide), rfl⟩ hc1 hs1 hK
        · by_cases c33_42 : k ≤ 37
          · by_cases c33_37 : k ≤ 35
            · by_cases c33_35 : k ≤ 34
              · by_cases c33_34 : k ≤ 33
                · obtain rfl : k = 33 := by omega
                  refine z_tableIn C dL_law_40 (off := 2507) (tgt := 2547) h1 h2 (by rw [hk]; rfl) (by decide) ?_
                  exact law_33 hfl C X h ⟨hv 1 (by decide), rfl⟩ hc1 hs1 hK
                · obtain rfl : k = 34 := by omega
                  refine z_tableIn C dL_law_40 (off := 2563) (tgt := 2603) h1 h2 (by rw [hk]; rfl) (by decide) ?_
                  exact law_34 hfl C X h ⟨hv 1 (by decide), rfl⟩ ⟨hv 2 (by decide), rfl⟩ ⟨hv 3 (by decide), rfl⟩ hc1 hs1 hK
              · obtain rfl : k = 35 := by omega
                refine z_tableIn C dL_law_40 (off := 2643) (tgt := 2683) h1 h2 (by rw [hk]; rfl) (by decide) ?_
                exact law_35 hfl C X h ⟨hv 1 (by decide), rfl⟩ ⟨hv 2 (by decide), rfl⟩ ⟨hv 3 (by decide), rfl⟩ hc1 hs1 hK
            · by_cases c36_37 : k ≤ 36
              · obtain rfl : k = 36 := by omega
                refine z_tableIn C dL_law_40 (off := 2723) (tgt := 2763) h1 h2 (by rw [hk]; rfl) (by decide) ?_
                exact law_36 hfl C X h ⟨hv 1 (by decide), rfl⟩ ⟨hv 2 (by decide), rfl⟩ ⟨hv 3 (by decide), rfl⟩ hc1 hs1 hK
              · obtain rfl : k = 37 := by omega
                refine z_tableIn C dL_law_40 (off := 2803) (tgt := 2843) h1 h2 (by rw [hk]; rfl) (by decide) ?_
                exact law_37 hfl C X h hc1 hs1 hK
          · by_cases c38_42 : k ≤ 40
            · by_cases c38_40 : k ≤ 39
              · by_cases c38_39 : k ≤ 38
                · obtain rfl : k = 38 := by omega
                  refine z_tableIn C dL_law_40 (off := 2847) (tgt := 2887) h1 h2 (by rw [hk]; rfl) (by decide) ?_
                  exact law_38 hfl C X h ⟨hv 1 (by decide), rfl⟩ ⟨hv 2 (by decide), rfl⟩ ⟨hv 3 (by decide), rfl⟩ hc1 hs1 hK
                · obtain rfl : k = 39 := by omega
                  refine z_tableIn C dL_law_40 (off := 2927) (tgt := 2967) h1 h2 (by rw [hk]; rfl) (by decide) ?_
                  exact law_39 hfl C X h ⟨hv 1 (by decide), rfl⟩ ⟨hv 2 (by decide), rfl⟩ hc1 hs1 hK
              · obtain rfl : k = 40 := by omega
                refine z_tableIn C dL_law_40 (off := 2995) (tgt := 3035) h1 h2 (by rw [hk]; rfl) (by decide) ?_
                exact law_40 hfl C X h ⟨hv 1 (by decide), rfl⟩ ⟨hv 2 (by decide), rfl⟩ ⟨hv 3 (by decide), rfl⟩ ⟨hv 4 (by decide), rfl⟩ ⟨hv 5 (by decide), rfl⟩ hc1 hs1 hK
            · by_cases c41_42 : k ≤ 41
              · obtain rfl : k = 41 := by omega
                refine z_tableIn C dL_law_40 (off := 3098) (tgt := 3138) h1 h2 (by rw [hk]; rfl) (by decide) ?_
                exact law_41 hfl C X h ⟨hv 1 (by decide), rfl⟩ ⟨hv 2 (by decide), rfl⟩ ⟨hv 3 (by decide), rfl⟩ ⟨hv 4 (by decide), rfl⟩ hc1 hs1 hK
              · obtain rfl : k = 42 := by omega
                refine z_tableIn C dL_law_40 (off := 3197) (tgt := 3237) h1 h2 (by rw [hk]; rfl) (by decide) ?_
                exact law_42 hfl C X h ⟨hv 1 (by decide), rfl⟩ hc1 hs1 hK
