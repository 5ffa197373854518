section ZX
variable {Z : zZ} {p : Program} {l : Launch} {e : Env} {R : Room} {s : State} {m : MethodId} {args : Array Value} {below : List Frame} {meth : Method} {c : Code} {Q : State → Prop} {cells slots : Nat} {ad0 : Nat → Nat} {h0 : zH}
variable {mk : zMk} {st : zTs} {pc nL : Nat} {lc : List (Option Value)} {rest : List Value} {cc : ByteArray} {own : String}
theorem zp1_up {f : Nat → Option Nat} {j el : Nat} {v : Option Nat} : (fun q => (zp1 f j v q).map fun y => el + 256 * y) = va_up (fun q => (f q).map fun y => el + 256 * y) j (v.map fun y => el + 256 * y) := by
  funext q
  unfold zp1 va_up
  by_cases g : q = j
  · rw [if_pos g, if_pos g]
  · rw [if_neg g, if_neg g]
theorem t_astqN (C : zC Z p s m args meth c cc nL own) {k0 i a n t el : Nat} {E : String} {x : Int32} (d : decode cc pc = .ok (.aastore, 1)) (hk : k0 < 200) (ha : a = k0 + 256 * i) (hs : ∀ s9, zsh Z.2.1 mk s9 k0 i = .inl (Z.2.1 t, n, .inr (.inr (.inr (.inr (fun j => (zgR s9 k0 i j).map fun y => el + 256 * y)))))) (ht : (zt Z)[t]? = some (Z.2.1 t, .object E)) (hi : vp_in x n) (kk : zG Z ad0 h0 p l e R s m args below meth c Q cells slots (zh Z mk (zuR st k0 i x.toNatClampNeg none)) nL (pc + 1) lc (rest)) : zG Z ad0 h0 p l e R s m args below meth c Q cells slots (zh Z mk st) nL pc lc (.null :: .int x :: .ref a :: rest) := by
  intro ad H locs ls hP hS hE hL hl hv
  subst ha
  have e3 := zh_at hk hv.tl.tl.hd
  rw [hs] at e3
  exact z_astqN C d e3 ht hi (zh_up (st' := zuR st k0 i x.toNatClampNeg none) hk rfl zo_R (by rw [hs, zs_R, zp1_up]; rfl) hv.tl.tl.hd) kk ad H locs ls hP hS hE hL hl hv
theorem t_astq (C : zC Z p s m args meth c cc nL own) {k0 i a n t el b y ci N : Nat} {cn : String} {T : u_T} {x : Int32} (d : decode cc pc = .ok (.aastore, 1)) (hk : k0 < 200) (he : el < 200) (ha : a = k0 + 256 * i) (hb : b = el + 256 * y) (hs : ∀ s9, zsh Z.2.1 mk s9 k0 i = .inl (Z.2.1 t, n, .inr (.inr (.inr (.inr (fun j => (zgR s9 k0 i j).map fun y => el + 256 * y)))))) (hs2 : ∃ fs, zsh Z.2.1 mk st el y = .inr (ci, fs)) (hc : vwCl[ci]? = some (cn, T, N)) (ht : (zt Z)[t]? = some (Z.2.1 t, .object cn)) (hi : vp_in x n) (kk : zG Z ad0 h0 p l e R s m args below meth c Q cells slots (zh Z mk (zuR st k0 i x.toNatClampNeg (some y))) nL (pc + 1) lc (rest)) : zG Z ad0 h0 p l e R s m args below meth c Q cells slots (zh Z mk st) nL pc lc (.ref b :: .int x :: .ref a :: rest) := by
  intro ad H locs ls hP hS hE hL hl hv
  subst ha
  subst hb
  obtain ⟨fs, e2⟩ := hs2
  have e4 := zh_at he hv.hd
  rw [e2] at e4
  have e3 := zh_at hk hv.tl.tl.hd
  rw [hs] at e3
  exact z_astq C d e3 ht hi e4 hc (zh_up (st' := zuR st k0 i x.toNatClampNeg (some y)) hk rfl zo_R (by rw [hs, zs_R, zp1_up]; rfl) hv.tl.tl.hd) kk ad H locs ls hP hS hE hL hl hv
end ZX
