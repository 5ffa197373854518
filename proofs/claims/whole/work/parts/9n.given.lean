/-! WHAT THE START GIVES: the Statement's premises, by their places. Written by wip/whole/gen/given.py -/
def zgvl : Nat → List Cond := fun k => match k with
  | 1 => flatC narrow_1_1
  | 2 => flatC narrow_1_2
  | _ => flatC narrow_1_3
def ztbl : Nat → List Cond := fun k => match k with
  | 1 => tables_1_1
  | 2 => tables_1_2
  | 3 => tables_1_3
  | 4 => tables_1_4
  | 5 => tables_1_5
  | 6 => tables_1_6
  | 7 => tables_1_7
  | 8 => tables_1_8
  | 9 => tables_1_9
  | _ => tables_1_10
section GV
variable {args : Array Value} {s : State}
theorem gv_at (h : (Cond.and given_1 narrow_1).before args s = true) {c : Cond} (k i : Nat) (e : (zgvl k)[i]? = some c) : c.before args s = true := by
  have m : c ∈ flatC narrow_1_1 ∨ c ∈ flatC narrow_1_2 ∨ c ∈ flatC narrow_1_3 := by
    have q := List.mem_of_getElem? e
    unfold zgvl at q
    split at q
    · exact .inl q
    · exact .inr (.inl q)
    · exact .inr (.inr q)
  refine flat_of_before _ h c ?_
  show c ∈ flatC given_1 ++ (flatC narrow_1_1 ++ (flatC narrow_1_2 ++ flatC narrow_1_3))
  rcases m with m | m | m
  · exact List.mem_append_right _ (List.mem_append_left _ m)
  · exact List.mem_append_right _ (List.mem_append_right _ (List.mem_append_left _ m))
  · exact List.mem_append_right _ (List.mem_append_right _ (List.mem_append_right _ m))
theorem tb_at (h : ∀ w ∈ lw_tbl, w.before args s = true) {c : Cond} (k i : Nat) (e : (ztbl k)[i]? = some c) : c.before args s = true := by
  refine h c (List.mem_append_right _ ?_)
  have q := List.mem_of_getElem? e
  unfold ztbl at q
  split at q
  · exact List.mem_append_left _ q
  · exact List.mem_append_right _ (List.mem_append_left _ q)
  · exact List.mem_append_right _ (List.mem_append_right _ (List.mem_append_left _ q))
  · exact List.mem_append_right _ (List.mem_append_right _ (List.mem_append_right _ (List.mem_append_left _ q)))
  · exact List.mem_append_right _ (List.mem_append_right _ (List.mem_append_right _ (List.mem_append_right _ (List.mem_append_left _ q))))
  · exact List.mem_append_right _ (List.mem_append_right _ (List.mem_append_right _ (List.mem_append_right _ (List.mem_append_right _ (List.mem_append_left _ q)))))
  · exact List.mem_append_right _ (List.mem_append_right _ (List.mem_append_right _ (List.mem_append_right _ (List.mem_append_right _ (List.mem_append_right _ (List.mem_append_left _ q))))))
  · exact List.mem_append_right _ (List.mem_append_right _ (List.mem_append_right _ (List.mem_append_right _ (List.mem_append_right _ (List.mem_append_right _ (List.mem_append_right _ (List.mem_append_left _ q)))))))
  · exact List.mem_append_right _ (List.mem_append_right _ (List.mem_append_right _ (List.mem_append_right _ (List.mem_append_right _ (List.mem_append_right _ (List.mem_append_right _ (List.mem_append_right _ (List.mem_append_left _ q))))))))
  · exact List.mem_append_right _ (List.mem_append_right _ (List.mem_append_right _ (List.mem_append_right _ (List.mem_append_right _ (List.mem_append_right _ (List.mem_append_right _ (List.mem_append_right _ (List.mem_append_right _ q))))))))
theorem gv_all {F : Nat → Cond} {n : Nat} (P : List (Nat × Nat)) (h : (Cond.and given_1 narrow_1).before args s = true) (e : (List.range n).all (fun i => decide ((zgvl (P.getD i (0, 0)).1)[(P.getD i (0, 0)).2]? = some (F i))) = true) : ∀ i, i < n → (F i).before args s = true :=
  fun i hi => gv_at h _ _ (of_decide_eq_true (List.all_eq_true.mp e i (List.mem_range.mpr hi)))
theorem tb_all {F : Nat → Cond} {n : Nat} (P : List (Nat × Nat)) (h : ∀ w ∈ lw_tbl, w.before args s = true) (e : (List.range n).all (fun i => decide ((ztbl (P.getD i (0, 0)).1)[(P.getD i (0, 0)).2]? = some (F i))) = true) : ∀ i, i < n → (F i).before args s = true :=
  fun i hi => tb_at h _ _ (of_decide_eq_true (List.all_eq_true.mp e i (List.mem_range.mpr hi)))
theorem gv_al2 {F : Nat → Nat → Cond} {n : Nat} {m : Nat → Nat} (P : List (List (Nat × Nat))) (h : (Cond.and given_1 narrow_1).before args s = true) (e : (List.range n).all (fun i => (List.range (m i)).all fun j => decide ((zgvl ((P.getD i []).getD j (0, 0)).1)[((P.getD i []).getD j (0, 0)).2]? = some (F i j))) = true) : ∀ i, i < n → ∀ j, j < m i → (F i j).before args s = true :=
  fun i hi j hj => gv_at h _ _ (of_decide_eq_true (List.all_eq_true.mp (List.all_eq_true.mp e i (List.mem_range.mpr hi)) j (List.mem_range.mpr hj)))
theorem gv_al3 {F : Nat → Nat → Cond} {n : Nat} (P : List (List (Nat × Nat))) (h : (Cond.and given_1 narrow_1).before args s = true) (e : (List.range n).all (fun i => (List.range i).all fun j => decide ((zgvl ((P.getD i []).getD j (0, 0)).1)[((P.getD i []).getD j (0, 0)).2]? = some (F i j)) || decide ((zgvl ((P.getD i []).getD j (0, 0)).1)[((P.getD i []).getD j (0, 0)).2]? = some (F j i))) = true) : ∀ i, i < n → ∀ j, j < i → (F i j).before args s = true ∨ (F j i).before args s = true := fun i hi j hj => by
  have q := List.all_eq_true.mp (List.all_eq_true.mp e i (List.mem_range.mpr hi)) j (List.mem_range.mpr hj)
  rw [Bool.or_eq_true] at q
  rcases q with q | q
  · exact .inl (gv_at h _ _ (of_decide_eq_true q))
  · exact .inr (gv_at h _ _ (of_decide_eq_true q))
end GV
def gw (i : Nat) : Term := .static "PartyWalls$Word" (zwn.getD i "") "LPartyWalls$Word;"
def gso : List (String × Nat) := [("PartyWalls$Word", 117), ("PartyWalls$Word", 123), ("PartyWalls$Word", 126), ("PartyWalls$Word", 129), ("PartyWalls$Word", 132), ("PartyWalls$Word", 135), ("PartyWalls$Word", 138), ("PartyWalls$Word", 141), ("PartyWalls$Word", 144), ("PartyWalls$Word", 147), ("PartyWalls$Word", 150), ("PartyWalls$Word", 153), ("PartyWalls$Word", 156), ("PartyWalls$Word", 159), ("PartyWalls$Word", 162), ("PartyWalls$Word", 165), ("PartyWalls$Word", 168), ("PartyWalls$Word", 171), ("PartyWalls$Word", 174), ("PartyWalls$Word", 177), ("PartyWalls$Word", 180), ("PartyWalls$Word", 183), ("PartyWalls$Word", 186), ("PartyWalls$Word", 189), ("PartyWalls", 117), ("PartyWalls", 145), ("PartyWalls", 447), ("PartyWalls", 454), ("PartyWalls", 459), ("PartyWalls", 461), ("PartyWalls", 463), ("PartyWalls", 465), ("PartyWalls", 469), ("PartyWalls", 472)]
def gs (i : Nat) : Term := .string (gso.getD i ("", 0)).1 (gso.getD i ("", 0)).2
section GF
variable {args : Array Value} {s : State}
set_option maxHeartbeats 4000000 in
set_option maxRecDepth 100000 in
theorem fw_ls (h : ∀ w ∈ lw_tbl, w.before args s = true) : ∀ i, i < 24 → (Cond.laysStatic "PartyWalls$Word" (zwn.getD i "") "LPartyWalls$Word;").before args s = true := tb_all (F := fun i => Cond.laysStatic "PartyWalls$Word" (zwn.getD i "") "LPartyWalls$Word;") [(1, 128), (10, 13), (10, 14), (10, 15), (10, 16), (10, 17), (10, 18), (10, 19), (10, 20), (10, 21), (10, 22), (4, 26), (10, 23), (10, 24), (10, 25), (3, 205), (4, 14), (4, 16), (3, 234), (3, 232), (3, 219), (10, 26), (10, 27), (10, 28)] h (by decide +kernel)
set_option maxHeartbeats 4000000 in
set_option maxRecDepth 100000 in
theorem fw_ex (h : (Cond.and given_1 narrow_1).before args s = true) : ∀ i, i < 24 → (Cond.exactly (.static "PartyWalls$Word" (zwn.getD i "") "LPartyWalls$Word;") "PartyWalls$Word").before args s = true := gv_all (F := fun i => Cond.exactly (.static "PartyWalls$Word" (zwn.getD i "") "LPartyWalls$Word;") "PartyWalls$Word") [(1, 6), (1, 129), (1, 141), (1, 154), (1, 168), (1, 183), (1, 199), (1, 216), (1, 234), (1, 253), (1, 273), (1, 118), (1, 294), (1, 316), (1, 339), (1, 73), (1, 99), (1, 108), (1, 91), (1, 84), (1, 78), (1, 363), (1, 388), (2, 14)] h (by decide +kernel)
set_option maxHeartbeats 4000000 in
set_option maxRecDepth 100000 in
theorem fw_or (h : (Cond.and given_1 narrow_1).before args s = true) : ∀ i, i < 24 → (Cond.eq (.field (.static "PartyWalls$Word" (zwn.getD i "") "LPartyWalls$Word;") "java/lang/Enum" "ordinal" "I") (.int (zwo.getD i 0))).before args s = true := gv_all (F := fun i => Cond.eq (.field (.static "PartyWalls$Word" (zwn.getD i "") "LPartyWalls$Word;") "java/lang/Enum" "ordinal" "I") (.int (zwo.getD i 0))) [(1, 7), (1, 130), (1, 142), (1, 155), (1, 169), (1, 184), (1, 200), (1, 217), (1, 235), (1, 254), (1, 274), (1, 119), (1, 295), (1, 317), (1, 340), (1, 74), (1, 100), (1, 109), (1, 92), (1, 85), (1, 79), (1, 364), (1, 389), (2, 15)] h (by decide +kernel)
set_option maxHeartbeats 4000000 in
set_option maxRecDepth 100000 in
theorem fw_op (h : (Cond.and given_1 narrow_1).before args s = true) : ∀ i, i < 24 → (Cond.eq (.field (.static "PartyWalls$Word" (zwn.getD i "") "LPartyWalls$Word;") "PartyWalls$Word" "opensClause" "Z") (.int (zwp.getD i 0))).before args s = true := gv_all (F := fun i => Cond.eq (.field (.static "PartyWalls$Word" (zwn.getD i "") "LPartyWalls$Word;") "PartyWalls$Word" "opensClause" "Z") (.int (zwp.getD i 0))) [(1, 9), (1, 132), (1, 144), (1, 157), (1, 171), (1, 186), (1, 202), (1, 219), (1, 237), (1, 256), (1, 276), (1, 121), (1, 297), (1, 319), (1, 342), (1, 76), (1, 102), (1, 111), (1, 94), (1, 87), (1, 81), (1, 366), (1, 391), (2, 17)] h (by decide +kernel)
set_option maxHeartbeats 4000000 in
set_option maxRecDepth 100000 in
theorem fw_tx (h : (Cond.and given_1 narrow_1).before args s = true) : ∀ i, i < 24 → (Cond.eq (.field (.static "PartyWalls$Word" (zwn.getD i "") "LPartyWalls$Word;") "PartyWalls$Word" "text" "Ljava/lang/String;") (gs i)).before args s = true := gv_all (F := fun i => Cond.eq (.field (.static "PartyWalls$Word" (zwn.getD i "") "LPartyWalls$Word;") "PartyWalls$Word" "text" "Ljava/lang/String;") (gs i)) [(1, 8), (1, 131), (1, 143), (1, 156), (1, 170), (1, 185), (1, 201), (1, 218), (1, 236), (1, 255), (1, 275), (1, 120), (1, 296), (1, 318), (1, 341), (1, 75), (1, 101), (1, 110), (1, 93), (1, 86), (1, 80), (1, 365), (1, 390), (2, 16)] h (by decide +kernel)
set_option maxHeartbeats 4000000 in
set_option maxRecDepth 100000 in
theorem fw_ne (h : (Cond.and given_1 narrow_1).before args s = true) : ∀ i, i < 24 → ∀ j, j < i → (Cond.not (.eq (.static "PartyWalls$Word" (zwn.getD i "") "LPartyWalls$Word;") (.static "PartyWalls$Word" (zwn.getD j "") "LPartyWalls$Word;"))).before args s = true ∨ (Cond.not (.eq (.static "PartyWalls$Word" (zwn.getD j "") "LPartyWalls$Word;") (.static "PartyWalls$Word" (zwn.getD i "") "LPartyWalls$Word;"))).before args s = true := gv_al3 (F := fun i j => Cond.not (.eq (.static "PartyWalls$Word" (zwn.getD i "") "LPartyWalls$Word;") (.static "PartyWalls$Word" (zwn.getD j "") "LPartyWalls$Word;"))) [[], [(1, 133)], [(1, 145), (1, 153)], [(1, 158), (1, 166), (1, 167)], [(1, 172), (1, 180), (1, 181), (1, 182)], [(1, 187), (1, 195), (1, 196), (1, 197), (1, 198)], [(1, 203), (1, 211), (1, 212), (1, 213), (1, 214), (1, 215)], [(1, 220), (1, 228), (1, 229), (1, 230), (1, 231), (1, 232), (1, 233)], [(1, 238), (1, 246), (1, 247), (1, 248), (1, 249), (1, 250), (1, 251), (1, 252)], [(1, 257), (1, 265), (1, 266), (1, 267), (1, 268), (1, 269), (1, 270), (1, 271), (1, 272)], [(1, 277), (1, 285), (1, 286), (1, 287), (1, 288), (1, 289), (1, 290), (1, 291), (1, 292), (1, 293)], [(1, 122), (1, 140), (1, 152), (1, 165), (1, 179), (1, 194), (1, 210), (1, 227), (1, 245), (1, 264), (1, 284)], [(1, 298), (1, 306), (1, 307), (1, 308), (1, 309), (1, 310), (1, 311), (1, 312), (1, 313), (1, 314), (1, 315), (1, 305)], [(1, 320), (1, 328), (1, 329), (1, 330), (1, 331), (1, 332), (1, 333), (1, 334), (1, 335), (1, 336), (1, 337), (1, 327), (1, 338)], [(1, 343), (1, 351), (1, 352), (1, 353), (1, 354), (1, 355), (1, 356), (1, 357), (1, 358), (1, 359), (1, 360), (1, 350), (1, 361), (1, 362)], [(1, 77), (1, 134), (1, 146), (1, 159), (1, 173), (1, 188), (1, 204), (1, 221), (1, 239), (1, 258), (1, 278), (1, 123), (1, 299), (1, 321), (1, 344)], [(1, 103), (1, 138), (1, 150), (1, 163), (1, 177), (1, 192), (1, 208), (1, 225), (1, 243), (1, 262), (1, 282), (1, 127), (1, 303), (1, 325), (1, 348), (1, 104)], [(1, 112), (1, 139), (1, 151), (1, 164), (1, 178), (1, 193), (1, 209), (1, 226), (1, 244), (1, 263), (1, 283), (1, 128), (1, 304), (1, 326), (1, 349), (1, 113), (1, 117)], [(1, 95), (1, 137), (1, 149), (1, 162), (1, 176), (1, 191), (1, 207), (1, 224), (1, 242), (1, 261), (1, 281), (1, 126), (1, 302), (1, 324), (1, 347), (1, 96), (1, 107), (1, 116)], [(1, 88), (1, 136), (1, 148), (1, 161), (1, 175), (1, 190), (1, 206), (1, 223), (1, 241), (1, 260), (1, 280), (1, 125), (1, 301), (1, 323), (1, 346), (1, 89), (1, 106), (1, 115), (1, 98)], [(1, 82), (1, 135), (1, 147), (1, 160), (1, 174), (1, 189), (1, 205), (1, 222), (1, 240), (1, 259), (1, 279), (1, 124), (1, 300), (1, 322), (1, 345), (1, 83), (1, 105), (1, 114), (1, 97), (1, 90)], [(1, 367), (1, 375), (1, 376), (1, 377), (1, 378), (1, 379), (1, 380), (1, 381), (1, 382), (1, 383), (1, 384), (1, 374), (1, 385), (1, 386), (1, 387), (1, 368), (1, 372), (1, 373), (1, 371), (1, 370), (1, 369)], [(1, 392), (2, 0), (2, 1), (2, 2), (2, 3), (2, 4), (2, 5), (2, 6), (2, 7), (2, 8), (2, 9), (1, 399), (2, 10), (2, 11), (2, 12), (1, 393), (1, 397), (1, 398), (1, 396), (1, 395), (1, 394), (2, 13)], [(2, 18), (2, 26), (2, 27), (2, 28), (2, 29), (2, 30), (2, 31), (2, 32), (2, 33), (2, 34), (2, 35), (2, 25), (2, 36), (2, 37), (2, 38), (2, 19), (2, 23), (2, 24), (2, 22), (2, 21), (2, 20), (2, 39), (2, 40)]] h (by decide +kernel)
set_option maxHeartbeats 4000000 in
set_option maxRecDepth 100000 in
theorem fa_el (h : (Cond.and given_1 narrow_1).before args s = true) : ∀ i, i < 24 → (Cond.eq (.elem (.static "PartyWalls$Word" "ALL" "[LPartyWalls$Word;") (.int (Int32.ofNat i))) (.static "PartyWalls$Word" (zwn.getD i "") "LPartyWalls$Word;")).before args s = true := gv_all (F := fun i => Cond.eq (.elem (.static "PartyWalls$Word" "ALL" "[LPartyWalls$Word;") (.int (Int32.ofNat i))) (.static "PartyWalls$Word" (zwn.getD i "") "LPartyWalls$Word;")) [(1, 17), (1, 18), (1, 19), (1, 20), (1, 21), (1, 22), (1, 23), (1, 24), (1, 25), (1, 26), (1, 27), (1, 28), (1, 29), (1, 30), (1, 31), (1, 32), (1, 33), (1, 34), (1, 35), (1, 36), (1, 37), (1, 38), (1, 39), (1, 40)] h (by decide +kernel)
set_option maxHeartbeats 4000000 in
set_option maxRecDepth 100000 in
theorem fm_el (h : (Cond.and given_1 narrow_1).before args s = true) : ∀ i, i < 24 → (Cond.eq (.elem (.static "PartyWalls$1" "$SwitchMap$PartyWalls$Word" "[I") (.int (Int32.ofNat i))) (.int (zsm.getD i 0))).before args s = true := gv_all (F := fun i => Cond.eq (.elem (.static "PartyWalls$1" "$SwitchMap$PartyWalls$Word" "[I") (.int (Int32.ofNat i))) (.int (zsm.getD i 0))) [(1, 49), (1, 50), (1, 51), (1, 52), (1, 53), (1, 54), (1, 55), (1, 56), (1, 57), (1, 58), (1, 59), (1, 60), (1, 61), (1, 62), (1, 63), (1, 64), (1, 65), (1, 66), (1, 67), (1, 68), (1, 69), (1, 70), (1, 71), (1, 72)] h (by decide +kernel)
set_option maxHeartbeats 4000000 in
set_option maxRecDepth 100000 in
theorem fs_ex (h : (Cond.and given_1 narrow_1).before args s = true) : ∀ i, i < 34 → (Cond.exactly (gs i) "java/lang/String").before args s = true := gv_all (F := fun i => Cond.exactly (gs i) "java/lang/String") [(3, 135), (3, 202), (3, 212), (3, 220), (3, 228), (3, 238), (3, 247), (3, 256), (3, 266), (3, 278), (3, 290), (3, 193), (3, 301), (3, 312), (3, 321), (3, 139), (3, 169), (3, 181), (3, 162), (3, 154), (3, 146), (3, 331), (3, 341), (3, 351), (2, 195), (2, 229), (2, 159), (2, 265), (2, 300), (2, 318), (2, 141), (2, 104), (2, 281), (2, 175)] h (by decide +kernel)
set_option maxHeartbeats 4000000 in
set_option maxRecDepth 100000 in
theorem fs_co (h : (Cond.and given_1 narrow_1).before args s = true) : ∀ i, i < 34 → (Cond.eq (.field (gs i) "java/lang/String" "coder" "B") (.int 0)).before args s = true := gv_all (F := fun i => Cond.eq (.field (gs i) "java/lang/String" "coder" "B") (.int 0)) [(3, 136), (3, 203), (3, 213), (3, 221), (3, 229), (3, 239), (3, 248), (3, 257), (3, 267), (3, 279), (3, 291), (3, 194), (3, 302), (3, 313), (3, 322), (3, 140), (3, 170), (3, 182), (3, 163), (3, 155), (3, 147), (3, 332), (3, 342), (3, 352), (2, 196), (2, 230), (2, 160), (2, 266), (2, 301), (2, 319), (2, 142), (2, 105), (2, 282), (2, 176)] h (by decide +kernel)
set_option maxHeartbeats 4000000 in
set_option maxRecDepth 100000 in
theorem fs_ar (h : (Cond.and given_1 narrow_1).before args s = true) : ∀ i, i < 34 → (Cond.arrayOf (.field (gs i) "java/lang/String" "value" "[B") .byte).before args s = true := gv_all (F := fun i => Cond.arrayOf (.field (gs i) "java/lang/String" "value" "[B") .byte) [(3, 137), (3, 204), (3, 214), (3, 222), (3, 230), (3, 240), (3, 249), (3, 258), (3, 268), (3, 280), (3, 292), (3, 195), (3, 303), (3, 314), (3, 323), (3, 141), (3, 171), (3, 183), (3, 164), (3, 156), (3, 148), (3, 333), (3, 343), (3, 353), (2, 197), (2, 231), (2, 161), (2, 267), (2, 302), (2, 320), (2, 143), (2, 106), (2, 283), (2, 177)] h (by decide +kernel)
set_option maxHeartbeats 4000000 in
set_option maxRecDepth 100000 in
theorem fs_le (h : (Cond.and given_1 narrow_1).before args s = true) : ∀ i, i < 34 → (Cond.eq (.length (.field (gs i) "java/lang/String" "value" "[B")) (.int (Int32.ofNat (zlen.getD i 0)))).before args s = true := gv_all (F := fun i => Cond.eq (.length (.field (gs i) "java/lang/String" "value" "[B")) (.int (Int32.ofNat (zlen.getD i 0)))) [(3, 138), (3, 205), (3, 215), (3, 223), (3, 231), (3, 241), (3, 250), (3, 259), (3, 269), (3, 281), (3, 293), (3, 196), (3, 304), (3, 315), (3, 324), (3, 142), (3, 172), (3, 184), (3, 165), (3, 157), (3, 149), (3, 334), (3, 344), (3, 354), (2, 198), (2, 232), (2, 162), (2, 268), (2, 303), (2, 321), (2, 144), (2, 107), (2, 284), (2, 178)] h (by decide +kernel)
set_option maxHeartbeats 4000000 in
set_option maxRecDepth 100000 in
theorem fs_el (h : (Cond.and given_1 narrow_1).before args s = true) : ∀ i, i < 34 → ∀ j, j < zlen.getD i 0 → (Cond.eq (.elem (.field (gs i) "java/lang/String" "value" "[B") (.int (Int32.ofNat j))) (.int ((zbyt.getD i []).getD j 0))).before args s = true := gv_al2 (F := fun i j => Cond.eq (.elem (.field (gs i) "java/lang/String" "value" "[B") (.int (Int32.ofNat j))) (.int ((zbyt.getD i []).getD j 0))) (m := fun i => zlen.getD i 0) [[], [(3, 206), (3, 207), (3, 208), (3, 209), (3, 210)], [(3, 216), (3, 217), (3, 218)], [(3, 224), (3, 225), (3, 226)], [(3, 232), (3, 233), (3, 234), (3, 235), (3, 236)], [(3, 242), (3, 243), (3, 244), (3, 245)], [(3, 251), (3, 252), (3, 253), (3, 254)], [(3, 260), (3, 261), (3, 262), (3, 263), (3, 264)], [(3, 270), (3, 271), (3, 272), (3, 273), (3, 274), (3, 275), (3, 276)], [(3, 282), (3, 283), (3, 284), (3, 285), (3, 286), (3, 287), (3, 288)], [(3, 294), (3, 295), (3, 296), (3, 297), (3, 298), (3, 299)], [(3, 197), (3, 198), (3, 199), (3, 200)], [(3, 305), (3, 306), (3, 307), (3, 308), (3, 309), (3, 310)], [(3, 316), (3, 317), (3, 318), (3, 319)], [(3, 325), (3, 326), (3, 327), (3, 328), (3, 329)], [(3, 143), (3, 144)], [(3, 173), (3, 174), (3, 175), (3, 176), (3, 177), (3, 178), (3, 179)], [(3, 185), (3, 186), (3, 187), (3, 188), (3, 189), (3, 190), (3, 191)], [(3, 166), (3, 167)], [(3, 158), (3, 159), (3, 160)], [(3, 150), (3, 151), (3, 152)], [(3, 335), (3, 336), (3, 337), (3, 338), (3, 339)], [(3, 345), (3, 346), (3, 347), (3, 348), (3, 349)], [(3, 355), (3, 356), (3, 357), (3, 358), (3, 359), (3, 360)], [(2, 199), (2, 200), (2, 201), (2, 202), (2, 203), (2, 204), (2, 205), (2, 206), (2, 207), (2, 208), (2, 209), (2, 210), (2, 211), (2, 212), (2, 213), (2, 214), (2, 215), (2, 216), (2, 217), (2, 218), (2, 219), (2, 220), (2, 221), (2, 222), (2, 223), (2, 224), (2, 225), (2, 226), (2, 227), (2, 228)], [(2, 233), (2, 234), (2, 235), (2, 236), (2, 237), (2, 238), (2, 239), (2, 240), (2, 241), (2, 242), (2, 243), (2, 244), (2, 245), (2, 246), (2, 247), (2, 248), (2, 249), (2, 250), (2, 251), (2, 252), (2, 253), (2, 254), (2, 255), (2, 256), (2, 257), (2, 258), (2, 259), (2, 260), (2, 261), (2, 262), (2, 263), (2, 264)], [(2, 163), (2, 164), (2, 165), (2, 166), (2, 167), (2, 168), (2, 169), (2, 170), (2, 171), (2, 172), (2, 173), (2, 174)], [(2, 269), (2, 270), (2, 271), (2, 272), (2, 273), (2, 274), (2, 275), (2, 276), (2, 277), (2, 278), (2, 279), (2, 280)], [(2, 304), (2, 305), (2, 306), (2, 307), (2, 308), (2, 309), (2, 310), (2, 311), (2, 312), (2, 313), (2, 314), (2, 315), (2, 316), (2, 317)], [(2, 322), (2, 323), (2, 324), (2, 325), (2, 326), (2, 327), (2, 328), (2, 329), (2, 330), (2, 331), (2, 332), (2, 333), (2, 334)], [(2, 145), (2, 146), (2, 147), (2, 148), (2, 149), (2, 150), (2, 151), (2, 152), (2, 153), (2, 154), (2, 155), (2, 156), (2, 157), (2, 158)], [(2, 108), (2, 109), (2, 110), (2, 111), (2, 112), (2, 113), (2, 114), (2, 115), (2, 116), (2, 117), (2, 118), (2, 119), (2, 120), (2, 121), (2, 122), (2, 123), (2, 124), (2, 125), (2, 126), (2, 127), (2, 128), (2, 129), (2, 130), (2, 131), (2, 132), (2, 133), (2, 134), (2, 135), (2, 136), (2, 137), (2, 138), (2, 139), (2, 140)], [(2, 285), (2, 286), (2, 287), (2, 288), (2, 289), (2, 290), (2, 291), (2, 292), (2, 293), (2, 294), (2, 295), (2, 296), (2, 297), (2, 298), (2, 299)], [(2, 179), (2, 180), (2, 181), (2, 182), (2, 183), (2, 184), (2, 185), (2, 186), (2, 187), (2, 188), (2, 189), (2, 190), (2, 191), (2, 192), (2, 193), (2, 194)]] h (by decide +kernel)
def gml : List (Nat × Nat) := [(259, 1), (261, 2), (263, 3), (265, 4), (267, 5), (269, 6), (271, 7), (273, 8), (275, 9), (277, 10), (279, 11), (281, 12), (283, 13), (285, 14), (291, 21), (293, 22), (295, 23), (311, 18), (322, 19), (327, 20), (349, 15), (351, 16), (353, 17)]
set_option maxHeartbeats 4000000 in
set_option maxRecDepth 100000 in
theorem fq_eq (h : (Cond.and given_1 narrow_1).before args s = true) : ∀ i, i < 23 → (Cond.eq (.string "PartyWallsModel" (gml.getD i (0, 0)).1) (gs (gml.getD i (0, 0)).2)).before args s = true := gv_all (F := fun i => Cond.eq (.string "PartyWallsModel" (gml.getD i (0, 0)).1) (gs (gml.getD i (0, 0)).2)) [(3, 211), (3, 219), (3, 227), (3, 237), (3, 246), (3, 255), (3, 265), (3, 277), (3, 289), (3, 300), (3, 201), (3, 311), (3, 320), (3, 330), (3, 340), (3, 350), (3, 361), (3, 168), (3, 161), (3, 153), (3, 145), (3, 180), (3, 192)] h (by decide +kernel)
set_option maxHeartbeats 4000000 in
set_option maxRecDepth 100000 in
theorem fq_sr (h : ∀ w ∈ lw_tbl, w.before args s = true) : ∀ i, i < 57 → (Cond.stringRef (zstrL.getD i ("", 0, "", 0)).1 (zstrL.getD i ("", 0, "", 0)).2.1 (zstrL.getD i ("", 0, "", 0)).2.2.1).before args s = true := tb_all (F := fun i => Cond.stringRef (zstrL.getD i ("", 0, "", 0)).1 (zstrL.getD i ("", 0, "", 0)).2.1 (zstrL.getD i ("", 0, "", 0)).2.2.1) [(3, 107), (4, 42), (3, 54), (4, 152), (6, 68), (6, 173), (2, 187), (2, 141), (5, 16), (3, 84), (10, 12), (10, 36), (10, 37), (10, 38), (10, 39), (10, 40), (10, 41), (10, 42), (10, 43), (10, 44), (10, 45), (10, 35), (10, 46), (10, 47), (10, 48), (10, 29), (10, 33), (10, 34), (10, 32), (10, 31), (10, 30), (10, 49), (10, 50), (10, 51), (8, 69), (8, 70), (8, 71), (8, 72), (8, 73), (8, 74), (8, 75), (8, 76), (8, 77), (8, 78), (8, 79), (8, 80), (8, 81), (8, 82), (8, 138), (8, 139), (8, 140), (8, 142), (8, 141), (8, 122), (8, 105), (8, 143), (8, 144)] h (by decide +kernel)
set_option maxHeartbeats 4000000 in
set_option maxRecDepth 100000 in
theorem fc_ca (h : ∀ w ∈ lw_tbl, w.before args s = true) : ∀ i, i < 30 → (Cond.castable (zcast.getD i ("", "")).1 (zcast.getD i ("", "")).2).before args s = true := tb_all (F := fun i => Cond.castable (zcast.getD i ("", "")).1 (zcast.getD i ("", "")).2) [(2, 102), (2, 180), (3, 77), (4, 3), (9, 218), (9, 219), (9, 220), (9, 221), (9, 222), (9, 223), (9, 224), (9, 225), (9, 226), (9, 227), (9, 228), (9, 229), (9, 230), (9, 231), (9, 232), (9, 233), (9, 234), (9, 235), (9, 239), (10, 0), (10, 1), (10, 2), (10, 3), (10, 4), (10, 5), (10, 6)] h (by decide +kernel)
set_option maxHeartbeats 4000000 in
set_option maxRecDepth 100000 in
theorem fc_nc (h : (Cond.and given_1 narrow_1).before args s = true) : ∀ i, i < 6 → (Cond.not (.castable (zncast.getD i ("", "")).1 (zncast.getD i ("", "")).2)).before args s = true := gv_all (F := fun i => Cond.not (.castable (zncast.getD i ("", "")).1 (zncast.getD i ("", "")).2)) [(2, 80), (2, 49), (2, 66), (2, 51), (2, 64), (2, 79)] h (by decide +kernel)
set_option maxHeartbeats 4000000 in
set_option maxRecDepth 100000 in
theorem fc_de (h : ∀ w ∈ lw_tbl, w.before args s = true) : ∀ i, i < 8 → (Cond.declares (zdecl.getD i ⟨"", "", ""⟩)).before args s = true := tb_all (F := fun i => Cond.declares (zdecl.getD i ⟨"", "", ""⟩)) [(2, 103), (2, 104), (2, 105), (2, 106), (2, 107), (2, 108), (3, 192), (9, 238)] h (by decide +kernel)
set_option maxHeartbeats 4000000 in
set_option maxRecDepth 100000 in
theorem fc_mn (h : ∀ w ∈ lw_tbl, w.before args s = true) : ∀ i, i < 5 → (Cond.methodLinkNest (zmnest.getD i ("", 0, ⟨"", "", ""⟩, "")).1 (zmnest.getD i ("", 0, ⟨"", "", ""⟩, "")).2.1 (zmnest.getD i ("", 0, ⟨"", "", ""⟩, "")).2.2.1 (zmnest.getD i ("", 0, ⟨"", "", ""⟩, "")).2.2.2).before args s = true := tb_all (F := fun i => Cond.methodLinkNest (zmnest.getD i ("", 0, ⟨"", "", ""⟩, "")).1 (zmnest.getD i ("", 0, ⟨"", "", ""⟩, "")).2.1 (zmnest.getD i ("", 0, ⟨"", "", ""⟩, "")).2.2.1 (zmnest.getD i ("", 0, ⟨"", "", ""⟩, "")).2.2.2) [(1, 69), (1, 104), (1, 131), (2, 4), (6, 148)] h (by decide +kernel)
set_option maxHeartbeats 4000000 in
set_option maxRecDepth 100000 in
theorem fa_ar (h : (Cond.and given_1 narrow_1).before args s = true) : (Cond.arrayOf (.static "PartyWalls$Word" "ALL" "[LPartyWalls$Word;") (.object "PartyWalls$Word")).before args s = true := gv_at h 1 14 (by decide +kernel)
set_option maxHeartbeats 4000000 in
set_option maxRecDepth 100000 in
theorem fa_le (h : (Cond.and given_1 narrow_1).before args s = true) : (Cond.eq (.length (.static "PartyWalls$Word" "ALL" "[LPartyWalls$Word;")) (.int (Int32.ofNat 24))).before args s = true := gv_at h 1 15 (by decide +kernel)
set_option maxHeartbeats 4000000 in
set_option maxRecDepth 100000 in
theorem fa_ls (h : ∀ w ∈ lw_tbl, w.before args s = true) : (Cond.laysStatic "PartyWalls$Word" "ALL" "[LPartyWalls$Word;").before args s = true := tb_at h 3 133 (by decide +kernel)
set_option maxHeartbeats 4000000 in
set_option maxRecDepth 100000 in
theorem fm_ar (h : (Cond.and given_1 narrow_1).before args s = true) : (Cond.arrayOf (.static "PartyWalls$1" "$SwitchMap$PartyWalls$Word" "[I") .int).before args s = true := gv_at h 1 47 (by decide +kernel)
set_option maxHeartbeats 4000000 in
set_option maxRecDepth 100000 in
theorem fm_le (h : (Cond.and given_1 narrow_1).before args s = true) : (Cond.eq (.length (.static "PartyWalls$1" "$SwitchMap$PartyWalls$Word" "[I")) (.int (Int32.ofNat 24))).before args s = true := gv_at h 1 48 (by decide +kernel)
set_option maxHeartbeats 4000000 in
set_option maxRecDepth 100000 in
theorem fm_ls (h : ∀ w ∈ lw_tbl, w.before args s = true) : (Cond.laysStatic "PartyWalls$1" "$SwitchMap$PartyWalls$Word" "[I").before args s = true := tb_at h 3 189 (by decide +kernel)
set_option maxHeartbeats 4000000 in
set_option maxRecDepth 100000 in
theorem fe_ar (h : (Cond.and given_1 narrow_1).before args s = true) : (Cond.arrayOf (.static "java/util/ArrayList" "DEFAULTCAPACITY_EMPTY_ELEMENTDATA" "[Ljava/lang/Object;") (.object "java/lang/Object")).before args s = true := gv_at h 1 3 (by decide +kernel)
set_option maxHeartbeats 4000000 in
set_option maxRecDepth 100000 in
theorem fe_le (h : (Cond.and given_1 narrow_1).before args s = true) : (Cond.eq (.length (.static "java/util/ArrayList" "DEFAULTCAPACITY_EMPTY_ELEMENTDATA" "[Ljava/lang/Object;")) (.int (Int32.ofNat 0))).before args s = true := gv_at h 1 5 (by decide +kernel)
set_option maxHeartbeats 4000000 in
set_option maxRecDepth 100000 in
theorem fe_ls (h : ∀ w ∈ lw_tbl, w.before args s = true) : (Cond.laysStatic "java/util/ArrayList" "DEFAULTCAPACITY_EMPTY_ELEMENTDATA" "[Ljava/lang/Object;").before args s = true := tb_at h 1 54 (by decide +kernel)
set_option maxHeartbeats 4000000 in
set_option maxRecDepth 100000 in
theorem fk_cs (h : (Cond.and given_1 narrow_1).before args s = true) : (Cond.eq (.static "java/lang/String" "COMPACT_STRINGS" "Z") (.int 1)).before args s = true := gv_at h 1 41 (by decide +kernel)
set_option maxHeartbeats 4000000 in
set_option maxRecDepth 100000 in
theorem fk_cl (h : ∀ w ∈ lw_tbl, w.before args s = true) : (Cond.laysStatic "java/lang/String" "COMPACT_STRINGS" "Z").before args s = true := tb_at h 3 143 (by decide +kernel)
set_option maxHeartbeats 4000000 in
set_option maxRecDepth 100000 in
theorem fk_fo (h : (Cond.and given_1 narrow_1).before args s = true) : (Cond.isRef (.static "jdk/internal/util/Preconditions" "SIOOBE_FORMATTER" "Ljava/util/function/BiFunction;")).before args s = true := gv_at h 1 42 (by decide +kernel)
set_option maxHeartbeats 4000000 in
set_option maxRecDepth 100000 in
theorem fk_fl (h : ∀ w ∈ lw_tbl, w.before args s = true) : (Cond.laysStatic "jdk/internal/util/Preconditions" "SIOOBE_FORMATTER" "Ljava/util/function/BiFunction;").before args s = true := tb_at h 3 159 (by decide +kernel)
set_option maxHeartbeats 4000000 in
set_option maxRecDepth 100000 in
theorem ft_u (h : (Cond.and given_1 narrow_1).before args s = true) : (Cond.isRef (.static Bundle.tN "UNASSIGNED_STACK" Bundle.steD)).before args s = true := gv_at h 1 10 (by decide +kernel)
set_option maxHeartbeats 4000000 in
set_option maxRecDepth 100000 in
theorem ft_ul (h : ∀ w ∈ lw_tbl, w.before args s = true) : (Cond.laysStatic Bundle.tN "UNASSIGNED_STACK" Bundle.steD).before args s = true := tb_at h 2 127 (by decide +kernel)
set_option maxHeartbeats 4000000 in
set_option maxRecDepth 100000 in
theorem ft_n (h : (Cond.and given_1 narrow_1).before args s = true) : (Cond.isRef (.static Bundle.tN "SUPPRESSED_SENTINEL" Bundle.listD)).before args s = true := gv_at h 1 11 (by decide +kernel)
set_option maxHeartbeats 4000000 in
set_option maxRecDepth 100000 in
theorem ft_nl (h : ∀ w ∈ lw_tbl, w.before args s = true) : (Cond.laysStatic Bundle.tN "SUPPRESSED_SENTINEL" Bundle.listD).before args s = true := tb_at h 2 129 (by decide +kernel)
set_option maxHeartbeats 4000000 in
set_option maxRecDepth 100000 in
theorem fo_mi (h : (Cond.and given_1 narrow_1).before args s = true) : (Cond.isRef (.mirror "[Ljava/lang/Object;")).before args s = true := gv_at h 2 103 (by decide +kernel)
set_option maxHeartbeats 4000000 in
set_option maxRecDepth 100000 in
theorem fo_fn (h : ∀ w ∈ lw_tbl, w.before args s = true) : (Cond.fieldLinkNest "PartyWalls$RuleReader" 86 "PartyWalls$Word" "opensClause" "Z" "PartyWalls").before args s = true := tb_at h 10 10 (by decide +kernel)
set_option maxHeartbeats 4000000 in
set_option maxRecDepth 100000 in
theorem fo_ao (h : ∀ w ∈ lw_tbl, w.before args s = true) : (Cond.arrayOver (.object "java/lang/Object")).before args s = true := tb_at h 3 32 (by decide +kernel)
set_option maxHeartbeats 4000000 in
set_option maxRecDepth 100000 in
theorem fo_ap (h : ∀ w ∈ lw_tbl, w.before args s = true) : (Cond.arrayOver (.object "PartyWalls$Proposal")).before args s = true := tb_at h 4 73 (by decide +kernel)
set_option maxHeartbeats 4000000 in
set_option maxRecDepth 100000 in
theorem fo_ai (h : ∀ w ∈ lw_tbl, w.before args s = true) : (Cond.arrayOver (.array .int)).before args s = true := tb_at h 1 136 (by decide +kernel)
set_option maxHeartbeats 4000000 in
set_option maxRecDepth 100000 in
theorem fo_int (h : ∀ w ∈ lw_tbl, w.before args s = true) : (Cond.arrayClass .int).before args s = true := tb_at h 1 101 (by decide +kernel)
set_option maxHeartbeats 4000000 in
set_option maxRecDepth 100000 in
theorem fo_byte (h : ∀ w ∈ lw_tbl, w.before args s = true) : (Cond.arrayClass .byte).before args s = true := tb_at h 1 202 (by decide +kernel)
set_option maxHeartbeats 4000000 in
set_option maxRecDepth 100000 in
theorem fo_bool (h : ∀ w ∈ lw_tbl, w.before args s = true) : (Cond.arrayClass .boolean).before args s = true := tb_at h 8 5 (by decide +kernel)
set_option maxHeartbeats 4000000 in
set_option maxRecDepth 100000 in
theorem fo_long (h : ∀ w ∈ lw_tbl, w.before args s = true) : (Cond.arrayClass .long).before args s = true := tb_at h 9 216 (by decide +kernel)
set_option maxHeartbeats 4000000 in
set_option maxRecDepth 100000 in
theorem fi_word (h : ∀ w ∈ lw_tbl, w.before args s = true) : (Cond.initialized "PartyWalls$Word").before args s = true := tb_at h 1 9 (by decide +kernel)
set_option maxHeartbeats 4000000 in
set_option maxRecDepth 100000 in
theorem fi_sm (h : ∀ w ∈ lw_tbl, w.before args s = true) : (Cond.initialized "PartyWalls$1").before args s = true := tb_at h 1 28 (by decide +kernel)
set_option maxHeartbeats 4000000 in
set_option maxRecDepth 100000 in
theorem fi_al (h : ∀ w ∈ lw_tbl, w.before args s = true) : (Cond.initialized "java/util/ArrayList").before args s = true := tb_at h 1 4 (by decide +kernel)
set_option maxHeartbeats 4000000 in
set_option maxRecDepth 100000 in
theorem fi_str (h : ∀ w ∈ lw_tbl, w.before args s = true) : (Cond.initialized "java/lang/String").before args s = true := tb_at h 1 25 (by decide +kernel)
set_option maxHeartbeats 4000000 in
set_option maxRecDepth 100000 in
theorem fi_pre (h : ∀ w ∈ lw_tbl, w.before args s = true) : (Cond.initialized "jdk/internal/util/Preconditions").before args s = true := tb_at h 1 23 (by decide +kernel)
set_option maxHeartbeats 4000000 in
set_option maxRecDepth 100000 in
theorem fi_thr (h : ∀ w ∈ lw_tbl, w.before args s = true) : (Cond.initialized Bundle.tN).before args s = true := tb_at h 1 12 (by decide +kernel)
end GF
