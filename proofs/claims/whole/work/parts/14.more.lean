/-- how often a loop may turn, as far as its predicate is concerned -/
def zfu : Nat := 100000
theorem zn_bool {x : Int32} (g : x = 0 ∨ x = 1) : narrow .boolean (.int x) = .int x := by rcases g with rfl | rfl <;> rfl
theorem zn_boolf {x : Int32} (g : x = 0 ∨ x = 1) : narrow .boolean (.int x) = .int x ∧ fits .boolean (.int x) = true := by rcases g with rfl | rfl <;> exact ⟨rfl, rfl⟩
theorem zsw_out {x : Int32} {n : Nat} (h : ∀ k, k < n → ¬ x = nI k) : x.toInt < 0 ∨ ((n : Int) - 1) < x.toInt := by
  rcases (show x.toInt < 0 ∨ 0 ≤ x.toInt by omega) with a | a
  · exact Or.inl a
  · refine Or.inr (Int.not_le.mp fun b => ?_)
    obtain ⟨k, hk⟩ := Int.eq_ofNat_of_zero_le a
    have hr := x.toInt_lt
    refine h k (by omega) (Int32.toInt_inj.mp ?_)
    rw [nI_toInt (by omega), hk]
theorem zsw_out1 {x : Int32} {lo n : Nat} (hl : lo + n < 2 ^ 31) (h : ∀ k, k < n → ¬ x = nI (lo + k)) : x.toInt < lo ∨ ((lo : Int) + n - 1) < x.toInt := by
  rcases (show x.toInt < lo ∨ (lo : Int) ≤ x.toInt by omega) with a | a
  · exact Or.inl a
  · refine Or.inr (Int.not_le.mp fun b => ?_)
    obtain ⟨k, hk⟩ := Int.eq_ofNat_of_zero_le (show (0 : Int) ≤ x.toInt - lo by omega)
    refine h k (by omega) (Int32.toInt_inj.mp ?_)
    rw [nI_toInt (by omega)]
    omega
section ZU
variable {Z : zZ} {p : Program} {l : Launch} {e : Env} {R : Room} {s : State} {m : MethodId} {args : Array Value} {below : List Frame} {meth : Method} {c : Code} {Q : State → Prop} {cells slots : Nat} {ad0 : Nat → Nat} {h0 h : zH}
variable {mk : zMk} {st : zTs} {pc nL : Nat} {lc : List (Option Value)} {rest : List Value} {cc : ByteArray} {own : String}
theorem z_lcmp (C : zC Z p s m args meth c cc nL own) {x y : Int64} (d : decode cc pc = .ok (.lcmp, 1)) (k : zG Z ad0 h0 p l e R s m args below meth c Q cells slots h nL (pc + 1) lc (.int (lg_cmp x y) :: rest)) : zG Z ad0 h0 p l e R s m args below meth c Q cells slots h nL pc lc (.long y :: .long x :: rest) :=
  fun ad H locs ls hP hS hE hL hl hv => W.lcmp C.1 C.2.1 d (k ad H locs ls hP hS hE hL hl (hv.tl.tl.cn zok_i))
theorem z_dup2 (C : zC Z p s m args meth c cc nL own) {v u : Value} (d : decode cc pc = .ok (.dup2, 1)) (h1 : v.category = 1) (h2 : u.category = 1) (k : zG Z ad0 h0 p l e R s m args below meth c Q cells slots h nL (pc + 1) lc (v :: u :: v :: u :: rest)) : zG Z ad0 h0 p l e R s m args below meth c Q cells slots h nL pc lc (v :: u :: rest) :=
  fun ad H locs ls hP hS hE hL hl hv => lv_dup2_11 C.1 C.2.1 d (zv_cat.trans h1) (zv_cat.trans h2) (k ad H locs ls hP hS hE hL hl ((hv.cn hv.tl.hd).cn hv.hd))
theorem z_dup2L (C : zC Z p s m args meth c cc nL own) {v : Value} (d : decode cc pc = .ok (.dup2, 1)) (h1 : v.category = 2) (k : zG Z ad0 h0 p l e R s m args below meth c Q cells slots h nL (pc + 1) lc (v :: v :: rest)) : zG Z ad0 h0 p l e R s m args below meth c Q cells slots h nL pc lc (v :: rest) :=
  fun ad H locs ls hP hS hE hL hl hv => lv_dup2_2 C.1 C.2.1 d (zv_cat.trans h1) (k ad H locs ls hP hS hE hL hl (hv.cn hv.hd))
theorem z_tableOut (C : zC Z p s m args meth c cc nL own) {dflt lo hi : Int} {offs : Array Int} {len : Nat} {x : Int32} {tgt : Nat} (d : decode cc pc = .ok (.tableswitch dflt lo hi offs, len)) (hx : x.toInt < lo ∨ hi < x.toInt) (ht : (pc : Int) + dflt = (tgt : Int)) (k : zG Z ad0 h0 p l e R s m args below meth c Q cells slots h nL tgt lc (rest)) : zG Z ad0 h0 p l e R s m args below meth c Q cells slots h nL pc lc (.int x :: rest) :=
  fun ad H locs ls hP hS hE hL hl hv => lv_tableOut C.1 C.2.1 d hx ht (k ad H locs ls hP hS hE hL hl hv.tl)
theorem z_tableIn (C : zC Z p s m args meth c cc nL own) {dflt lo hi : Int} {offs : Array Int} {len : Nat} {x : Int32} {off : Int} {tgt : Nat} (d : decode cc pc = .ok (.tableswitch dflt lo hi offs, len)) (h1 : ¬ x.toInt < lo) (h2 : ¬ hi < x.toInt) (ho : offs[(x.toInt - lo).toNat]? = some off) (ht : (pc : Int) + off = (tgt : Int)) (k : zG Z ad0 h0 p l e R s m args below meth c Q cells slots h nL tgt lc (rest)) : zG Z ad0 h0 p l e R s m args below meth c Q cells slots h nL pc lc (.int x :: rest) :=
  fun ad H locs ls hP hS hE hL hl hv => lv_tableIn C.1 C.2.1 d h1 h2 ho ht (k ad H locs ls hP hS hE hL hl hv.tl)
end ZU
