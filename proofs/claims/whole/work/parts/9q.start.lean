/-! THE STATE behind the two constructors. Written by wip/whole/gen/start.py -/
def zT0 : zTs := (fun _ => 0, fun _ _ _ => 0, fun _ _ _ => 0, fun _ _ _ => none, fun _ _ _ => 0, fun _ _ _ => none, fun _ _ => 0, fun _ _ _ => 0)
def zTa_0 : zTs := zuV (zuV (zuV (zuV (zuW (zuV (zuV (zuV (zuP (zuF (zuW (zuP (zuF (zuW (zuP (zuF (zuW (zuP (zuF (zuW (zuW zT0 10) 30) 30 0 0 0) 30 0 1 204) 31) 31 0 0 0) 31 0 1 204) 32) 32 0 0 0) 32 0 1 204) 33) 33 0 0 0) 33 0 1 204) 40 12) 41 12) 42 5) 11) 44 300) 45 300) 46 300) 47 300
def zTa_1 : zTs := zuM (zuA (zuA (zuA (zuA (zuV (zuW (zuF (zuF (zuP (zuV (zuW (zuV (zuV (zuV (zuV (zuW (zuV (zuV (zuV (zTa_0) 48 60) 49 60) 50 60) 12) 51 441) 52 441) 53 20) 43 400) 13) 54 400) 13 0 6 0) 13 0 7 (-1)) 13 0 8 0) 24) 66 4) 66 0 (0 : Int32).toNatClampNeg 30) 66 0 (1 : Int32).toNatClampNeg 30) 66 0 (2 : Int32).toNatClampNeg 30) 66 0 (3 : Int32).toNatClampNeg 30)
def zTa_2 : zTs := zuF (zuF (zuF (zuF (zuM (zuA (zuA (zuA (zuA (zuV (zuW (zuF (zuP (zuF (zuF (zuF (zuF (zuF (zuF (zuF (zTa_1) 24 0 5 14) 24 0 7 10) 24 0 8 14) 24 0 10 10) 24 0 11 50) 24 0 12 8) 24 0 13 17) 13 0 10 0) 13 0 12 (-1)) 24) 66 4) 66 1 (0 : Int32).toNatClampNeg 30) 66 1 (1 : Int32).toNatClampNeg 30) 66 1 (2 : Int32).toNatClampNeg 30) 66 1 (3 : Int32).toNatClampNeg 30)) 24 1 5 14) 24 1 7 10) 24 1 8 14) 24 1 10 10
def zTa_3 : zTs := zuP (zuF (zuF (zuF (zTa_2) 24 1 11 50) 24 1 12 8) 24 1 13 17) 10 0 16 1
def zTa : zTs := zTa_3
set_option maxHeartbeats 4000000 in
set_option maxRecDepth 100000 in
theorem i_zTa {P : zTs → Prop} (h : P zTa) : w_X11_init (zuW zT0 10) (zm0 zm1 10 0) P := by
  unfold w_X11_init
  refine ⟨rfl, ?_⟩
  intro s5 es5
  subst es5
  refine ⟨rfl, ?_⟩
  try unfold w_Jx4a65c_init_da8c8_r30
  try unfold w_Jxc12de_init_da8c8_r30
  try unfold w_Jxa1e45_init_da8c8_r30
  intro s6 es6
  subst es6
  intro s8 es8
  subst es8
  refine ⟨rfl, ?_⟩
  intro s16 es16
  subst es16
  refine ⟨rfl, ?_⟩
  try unfold w_Jx4a65c_init_da8c8_r31
  try unfold w_Jxc12de_init_da8c8_r31
  try unfold w_Jxa1e45_init_da8c8_r31
  intro s6 es6
  subst es6
  intro s8 es8
  subst es8
  refine ⟨rfl, ?_⟩
  intro s27 es27
  subst es27
  refine ⟨rfl, ?_⟩
  try unfold w_Jx4a65c_init_da8c8_r32
  try unfold w_Jxc12de_init_da8c8_r32
  try unfold w_Jxa1e45_init_da8c8_r32
  intro s6 es6
  subst es6
  intro s8 es8
  subst es8
  refine ⟨rfl, ?_⟩
  intro s38 es38
  subst es38
  refine ⟨rfl, ?_⟩
  try unfold w_Jx4a65c_init_da8c8_r33
  try unfold w_Jxc12de_init_da8c8_r33
  try unfold w_Jxa1e45_init_da8c8_r33
  intro s6 es6
  subst es6
  intro s8 es8
  subst es8
  refine ⟨rfl, ?_⟩
  intro s51 es51
  subst es51
  refine ⟨rfl, ?_⟩
  intro s59 es59
  subst es59
  refine ⟨rfl, ?_⟩
  intro s66 es66
  subst es66
  refine ⟨rfl, ?_⟩
  intro s72 es72
  subst es72
  refine ⟨⟨rfl, rfl, rfl, rfl, rfl, rfl, rfl⟩, ?_⟩
  try unfold w_X1_init
  refine ⟨rfl, ?_⟩
  intro s8 es8
  subst es8
  refine ⟨rfl, ?_⟩
  intro s17 es17
  subst es17
  refine ⟨rfl, ?_⟩
  intro s26 es26
  subst es26
  refine ⟨rfl, ?_⟩
  intro s35 es35
  subst es35
  refine ⟨rfl, ?_⟩
  intro s43 es43
  subst es43
  refine ⟨rfl, ?_⟩
  intro s51 es51
  subst es51
  refine ⟨rfl, ?_⟩
  intro s59 es59
  subst es59
  refine ⟨rfl, ?_⟩
  intro s83 es83
  subst es83
  refine ⟨⟨rfl, rfl, rfl⟩, ?_⟩
  try unfold w_X3_init
  refine ⟨rfl, ?_⟩
  intro s8 es8
  subst es8
  refine ⟨rfl, ?_⟩
  intro s17 es17
  subst es17
  refine ⟨rfl, ?_⟩
  intro s25 es25
  subst es25
  refine ⟨rfl, ?_⟩
  intro s97 es97
  subst es97
  refine ⟨rfl, ?_⟩
  intro s103 es103
  subst es103
  refine ⟨⟨rfl, rfl, rfl, rfl⟩, ?_⟩
  try unfold w_X6_init
  refine ⟨rfl, ?_⟩
  intro s8 es8
  subst es8
  intro s17 es17
  subst es17
  intro s22 es22
  subst es22
  intro s27 es27
  subst es27
  intro n31 en31
  obtain rfl : n31 = 0 := en31
  intro s31 es31
  subst es31
  refine ⟨⟨rfl, rfl⟩, ?_⟩
  try unfold w_X5_init
  refine ⟨rfl, ?_⟩
  intro s6 es6
  subst es6
  refine ⟨q_vpi (by decide) (by decide), ?_⟩
  intro s12 es12
  subst es12
  refine ⟨q_vpi (by decide) (by decide), ?_⟩
  intro s17 es17
  subst es17
  refine ⟨q_vpi (by decide) (by decide), ?_⟩
  intro s22 es22
  subst es22
  refine ⟨q_vpi (by decide) (by decide), ?_⟩
  intro s27 es27
  subst es27
  refine ⟨rfl, ?_⟩
  intro s34 es34
  subst es34
  intro s44 es44
  subst es44
  intro s50 es50
  subst es50
  intro s56 es56
  subst es56
  intro s62 es62
  subst es62
  intro s68 es68
  subst es68
  intro s74 es74
  subst es74
  intro s80 es80
  subst es80
  intro s38 es38
  subst es38
  intro s43 es43
  subst es43
  intro n118 en118
  obtain rfl : n118 = 1 := en118
  intro s118 es118
  subst es118
  refine ⟨⟨rfl, rfl⟩, ?_⟩
  try unfold w_X5_init
  refine ⟨rfl, ?_⟩
  intro s6 es6
  subst es6
  refine ⟨q_vpi (by decide) (by decide), ?_⟩
  intro s12 es12
  subst es12
  refine ⟨q_vpi (by decide) (by decide), ?_⟩
  intro s17 es17
  subst es17
  refine ⟨q_vpi (by decide) (by decide), ?_⟩
  intro s22 es22
  subst es22
  refine ⟨q_vpi (by decide) (by decide), ?_⟩
  intro s27 es27
  subst es27
  refine ⟨rfl, ?_⟩
  intro s34 es34
  subst es34
  intro s44 es44
  subst es44
  intro s50 es50
  subst es50
  intro s56 es56
  subst es56
  intro s62 es62
  subst es62
  intro s68 es68
  subst es68
  intro s74 es74
  subst es74
  intro s80 es80
  subst es80
  intro s125 es125
  subst es125
  exact h
def zTb_0 : zTs := zuV (zuA (zuA (zuA (zuA (zuA (zuA (zuA (zuA (zuA (zuA (zuA (zuA (zuA (zuA (zuA (zuV (zuF (zuV (zuV (zuW zTa 100) 101 12) 102 400) 100 0 10 (-1)) 103 15) 103 0 (0 : Int32).toNatClampNeg 30) 103 0 (1 : Int32).toNatClampNeg 30) 103 0 (2 : Int32).toNatClampNeg 30) 103 0 (3 : Int32).toNatClampNeg 30) 103 0 (4 : Int32).toNatClampNeg 0) 103 0 (5 : Int32).toNatClampNeg 0) 103 0 (6 : Int32).toNatClampNeg 14) 103 0 (7 : Int32).toNatClampNeg 1) 103 0 (8 : Int32).toNatClampNeg 10) 103 0 (9 : Int32).toNatClampNeg 14) 103 0 (10 : Int32).toNatClampNeg 0) 103 0 (11 : Int32).toNatClampNeg 10) 103 0 (12 : Int32).toNatClampNeg 50) 103 0 (13 : Int32).toNatClampNeg 8) 103 0 (14 : Int32).toNatClampNeg 17) 104 15
def zTb_1 : zTs := zuV (zuV (zuV (zuV (zuV (zuV (zuV (zuV (zuV (zuV (zuV (zuV (zuV (zuV (zuV (zuA (zuA (zuA (zuA (zuV (zTb_0) 105 4) 105 0 (0 : Int32).toNatClampNeg (-1)) 105 0 (1 : Int32).toNatClampNeg (-1)) 105 0 (2 : Int32).toNatClampNeg (-1)) 105 0 (3 : Int32).toNatClampNeg (-1)) 106 4) 107 800) 108 800) 109 800) 110 800) 111 800) 112 30) 113 30) 114 30) 115 30) 116 450) 117 30) 118 30) 119 30) 120 30
def zTb_2 : zTs := zuV (zuV (zuV (zuV (zuV (zuV (zuV (zuV (zuV (zuV (zuV (zuV (zuV (zuV (zuV (zuV (zuV (zuV (zuV (zuV (zTb_1) 121 30) 122 30) 123 30) 124 30) 125 30) 126 30) 127 30) 128 30) 129 12) 130 12) 131 90) 132 90) 133 90) 134 90) 135 300) 136 300) 137 300) 138 300) 139 60) 140 60
def zTb_3 : zTs := zuV (zuV (zuV (zuV (zuV (zuV (zuV (zuV (zuV (zuV (zuV (zuV (zuV (zuV (zuV (zuV (zuV (zuV (zuV (zuV (zTb_2) 141 60) 142 30) 143 30) 144 72) 145 1440) 146 1440) 147 1440) 148 1440) 149 30) 150 30) 151 5) 152 10) 153 10) 154 200) 155 200) 156 441) 157 441) 158 20) 159 10) 160 400
def zTb_4 : zTs := zuV (zTb_3) 161 400
def zTb : zTs := zTb_4
set_option maxHeartbeats 4000000 in
set_option maxRecDepth 100000 in
theorem i_zTb {P : zTs → Prop} (h : P zTb) : w_X12_init (zuW zTa 100) (zm0 zm1 100 0) P := by
  unfold w_X12_init
  refine ⟨rfl, ?_⟩
  intro s7 es7
  subst es7
  refine ⟨rfl, ?_⟩
  intro s16 es16
  subst es16
  intro s23 es23
  subst es23
  refine ⟨rfl, ?_⟩
  intro s29 es29
  subst es29
  refine ⟨q_vpi (by decide) (by decide), ?_⟩
  intro s35 es35
  subst es35
  refine ⟨q_vpi (by decide) (by decide), ?_⟩
  intro s40 es40
  subst es40
  refine ⟨q_vpi (by decide) (by decide), ?_⟩
  intro s45 es45
  subst es45
  refine ⟨q_vpi (by decide) (by decide), ?_⟩
  intro s50 es50
  subst es50
  refine ⟨q_vpi (by decide) (by decide), ?_⟩
  intro s54 es54
  subst es54
  refine ⟨q_vpi (by decide) (by decide), ?_⟩
  intro s58 es58
  subst es58
  refine ⟨q_vpi (by decide) (by decide), ?_⟩
  intro s64 es64
  subst es64
  refine ⟨q_vpi (by decide) (by decide), ?_⟩
  intro s69 es69
  subst es69
  refine ⟨q_vpi (by decide) (by decide), ?_⟩
  intro s75 es75
  subst es75
  refine ⟨q_vpi (by decide) (by decide), ?_⟩
  intro s81 es81
  subst es81
  refine ⟨q_vpi (by decide) (by decide), ?_⟩
  intro s86 es86
  subst es86
  refine ⟨q_vpi (by decide) (by decide), ?_⟩
  intro s92 es92
  subst es92
  refine ⟨q_vpi (by decide) (by decide), ?_⟩
  intro s98 es98
  subst es98
  refine ⟨q_vpi (by decide) (by decide), ?_⟩
  intro s104 es104
  subst es104
  refine ⟨q_vpi (by decide) (by decide), ?_⟩
  intro s110 es110
  subst es110
  refine ⟨rfl, ?_⟩
  intro s117 es117
  subst es117
  refine ⟨rfl, ?_⟩
  intro s124 es124
  subst es124
  refine ⟨q_vpi (by decide) (by decide), ?_⟩
  intro s129 es129
  subst es129
  refine ⟨q_vpi (by decide) (by decide), ?_⟩
  intro s133 es133
  subst es133
  refine ⟨q_vpi (by decide) (by decide), ?_⟩
  intro s137 es137
  subst es137
  refine ⟨q_vpi (by decide) (by decide), ?_⟩
  intro s141 es141
  subst es141
  refine ⟨rfl, ?_⟩
  intro s147 es147
  subst es147
  refine ⟨rfl, ?_⟩
  intro s156 es156
  subst es156
  refine ⟨rfl, ?_⟩
  intro s165 es165
  subst es165
  refine ⟨rfl, ?_⟩
  intro s174 es174
  subst es174
  refine ⟨rfl, ?_⟩
  intro s183 es183
  subst es183
  refine ⟨rfl, ?_⟩
  intro s192 es192
  subst es192
  refine ⟨rfl, ?_⟩
  intro s200 es200
  subst es200
  refine ⟨rfl, ?_⟩
  intro s208 es208
  subst es208
  refine ⟨rfl, ?_⟩
  intro s216 es216
  subst es216
  refine ⟨rfl, ?_⟩
  intro s224 es224
  subst es224
  refine ⟨rfl, ?_⟩
  intro s233 es233
  subst es233
  refine ⟨rfl, ?_⟩
  intro s241 es241
  subst es241
  refine ⟨rfl, ?_⟩
  intro s249 es249
  subst es249
  refine ⟨rfl, ?_⟩
  intro s257 es257
  subst es257
  refine ⟨rfl, ?_⟩
  intro s265 es265
  subst es265
  refine ⟨rfl, ?_⟩
  intro s273 es273
  subst es273
  refine ⟨rfl, ?_⟩
  intro s281 es281
  subst es281
  refine ⟨rfl, ?_⟩
  intro s289 es289
  subst es289
  refine ⟨rfl, ?_⟩
  intro s297 es297
  subst es297
  refine ⟨rfl, ?_⟩
  intro s305 es305
  subst es305
  refine ⟨rfl, ?_⟩
  intro s313 es313
  subst es313
  refine ⟨rfl, ?_⟩
  intro s321 es321
  subst es321
  refine ⟨rfl, ?_⟩
  intro s329 es329
  subst es329
  refine ⟨rfl, ?_⟩
  intro s337 es337
  subst es337
  refine ⟨rfl, ?_⟩
  intro s345 es345
  subst es345
  refine ⟨rfl, ?_⟩
  intro s353 es353
  subst es353
  refine ⟨rfl, ?_⟩
  intro s361 es361
  subst es361
  refine ⟨rfl, ?_⟩
  intro s369 es369
  subst es369
  refine ⟨rfl, ?_⟩
  intro s377 es377
  subst es377
  refine ⟨rfl, ?_⟩
  intro s386 es386
  subst es386
  refine ⟨rfl, ?_⟩
  intro s395 es395
  subst es395
  refine ⟨rfl, ?_⟩
  intro s404 es404
  subst es404
  refine ⟨rfl, ?_⟩
  intro s413 es413
  subst es413
  refine ⟨rfl, ?_⟩
  intro s421 es421
  subst es421
  refine ⟨rfl, ?_⟩
  intro s429 es429
  subst es429
  refine ⟨rfl, ?_⟩
  intro s437 es437
  subst es437
  refine ⟨rfl, ?_⟩
  intro s445 es445
  subst es445
  refine ⟨rfl, ?_⟩
  intro s453 es453
  subst es453
  refine ⟨rfl, ?_⟩
  intro s461 es461
  subst es461
  refine ⟨rfl, ?_⟩
  intro s470 es470
  subst es470
  refine ⟨rfl, ?_⟩
  intro s479 es479
  subst es479
  refine ⟨rfl, ?_⟩
  intro s488 es488
  subst es488
  refine ⟨rfl, ?_⟩
  intro s497 es497
  subst es497
  refine ⟨rfl, ?_⟩
  intro s505 es505
  subst es505
  refine ⟨rfl, ?_⟩
  intro s513 es513
  subst es513
  refine ⟨rfl, ?_⟩
  intro s520 es520
  subst es520
  refine ⟨rfl, ?_⟩
  intro s528 es528
  subst es528
  refine ⟨rfl, ?_⟩
  intro s536 es536
  subst es536
  refine ⟨rfl, ?_⟩
  intro s545 es545
  subst es545
  refine ⟨rfl, ?_⟩
  intro s554 es554
  subst es554
  refine ⟨rfl, ?_⟩
  intro s563 es563
  subst es563
  refine ⟨rfl, ?_⟩
  intro s572 es572
  subst es572
  refine ⟨rfl, ?_⟩
  intro s580 es580
  subst es580
  refine ⟨rfl, ?_⟩
  intro s588 es588
  subst es588
  refine ⟨rfl, ?_⟩
  intro s597 es597
  subst es597
  refine ⟨rfl, ?_⟩
  intro s606 es606
  subst es606
  exact h
def zTc : zTs := zuV zTb 9 1
set_option maxRecDepth 100000 in
theorem sA_40 : zgA zTc 40 0 = fun _ => 0 := rfl
set_option maxRecDepth 100000 in
theorem sA_41 : zgA zTc 41 0 = fun _ => 0 := rfl
set_option maxRecDepth 100000 in
theorem sA_42 : zgA zTc 42 0 = fun _ => 0 := rfl
set_option maxRecDepth 100000 in
theorem sA_43 : zgA zTc 43 0 = fun _ => 0 := rfl
set_option maxRecDepth 100000 in
theorem sA_44 : zgA zTc 44 0 = fun _ => 0 := rfl
set_option maxRecDepth 100000 in
theorem sA_45 : zgA zTc 45 0 = fun _ => 0 := rfl
set_option maxRecDepth 100000 in
theorem sA_46 : zgA zTc 46 0 = fun _ => 0 := rfl
set_option maxRecDepth 100000 in
theorem sA_47 : zgA zTc 47 0 = fun _ => 0 := rfl
set_option maxRecDepth 100000 in
theorem sA_48 : zgA zTc 48 0 = fun _ => 0 := rfl
set_option maxRecDepth 100000 in
theorem sA_49 : zgA zTc 49 0 = fun _ => 0 := rfl
set_option maxRecDepth 100000 in
theorem sA_50 : zgA zTc 50 0 = fun _ => 0 := rfl
set_option maxRecDepth 100000 in
theorem sA_51 : zgA zTc 51 0 = fun _ => 0 := rfl
set_option maxRecDepth 100000 in
theorem sA_52 : zgA zTc 52 0 = fun _ => 0 := rfl
set_option maxRecDepth 100000 in
theorem sA_53 : zgA zTc 53 0 = fun _ => 0 := rfl
set_option maxRecDepth 100000 in
theorem sA_54 : zgA zTc 54 0 = fun _ => 0 := rfl
set_option maxRecDepth 100000 in
theorem sA_101 : zgA zTc 101 0 = fun _ => 0 := rfl
set_option maxRecDepth 100000 in
theorem sA_102 : zgA zTc 102 0 = fun _ => 0 := rfl
set_option maxRecDepth 100000 in
theorem sA_104 : zgA zTc 104 0 = fun _ => 0 := rfl
set_option maxRecDepth 100000 in
theorem sA_106 : zgA zTc 106 0 = fun _ => 0 := rfl
set_option maxRecDepth 100000 in
theorem sA_107 : zgA zTc 107 0 = fun _ => 0 := rfl
set_option maxRecDepth 100000 in
theorem sA_108 : zgA zTc 108 0 = fun _ => 0 := rfl
set_option maxRecDepth 100000 in
theorem sA_109 : zgA zTc 109 0 = fun _ => 0 := rfl
set_option maxRecDepth 100000 in
theorem sA_110 : zgA zTc 110 0 = fun _ => 0 := rfl
set_option maxRecDepth 100000 in
theorem sA_111 : zgA zTc 111 0 = fun _ => 0 := rfl
set_option maxRecDepth 100000 in
theorem sA_112 : zgA zTc 112 0 = fun _ => 0 := rfl
set_option maxRecDepth 100000 in
theorem sA_113 : zgA zTc 113 0 = fun _ => 0 := rfl
set_option maxRecDepth 100000 in
theorem sA_114 : zgA zTc 114 0 = fun _ => 0 := rfl
set_option maxRecDepth 100000 in
theorem sA_115 : zgA zTc 115 0 = fun _ => 0 := rfl
set_option maxRecDepth 100000 in
theorem sA_116 : zgA zTc 116 0 = fun _ => 0 := rfl
set_option maxRecDepth 100000 in
theorem sA_117 : zgA zTc 117 0 = fun _ => 0 := rfl
set_option maxRecDepth 100000 in
theorem sA_118 : zgA zTc 118 0 = fun _ => 0 := rfl
set_option maxRecDepth 100000 in
theorem sA_119 : zgA zTc 119 0 = fun _ => 0 := rfl
set_option maxRecDepth 100000 in
theorem sA_120 : zgA zTc 120 0 = fun _ => 0 := rfl
set_option maxRecDepth 100000 in
theorem sA_121 : zgA zTc 121 0 = fun _ => 0 := rfl
set_option maxRecDepth 100000 in
theorem sA_122 : zgA zTc 122 0 = fun _ => 0 := rfl
set_option maxRecDepth 100000 in
theorem sA_123 : zgA zTc 123 0 = fun _ => 0 := rfl
set_option maxRecDepth 100000 in
theorem sA_124 : zgA zTc 124 0 = fun _ => 0 := rfl
set_option maxRecDepth 100000 in
theorem sA_125 : zgA zTc 125 0 = fun _ => 0 := rfl
set_option maxRecDepth 100000 in
theorem sA_126 : zgA zTc 126 0 = fun _ => 0 := rfl
set_option maxRecDepth 100000 in
theorem sA_127 : zgA zTc 127 0 = fun _ => 0 := rfl
set_option maxRecDepth 100000 in
theorem sA_128 : zgA zTc 128 0 = fun _ => 0 := rfl
set_option maxRecDepth 100000 in
theorem sA_129 : zgA zTc 129 0 = fun _ => 0 := rfl
set_option maxRecDepth 100000 in
theorem sA_130 : zgA zTc 130 0 = fun _ => 0 := rfl
set_option maxRecDepth 100000 in
theorem sA_131 : zgA zTc 131 0 = fun _ => 0 := rfl
set_option maxRecDepth 100000 in
theorem sA_132 : zgA zTc 132 0 = fun _ => 0 := rfl
set_option maxRecDepth 100000 in
theorem sA_133 : zgA zTc 133 0 = fun _ => 0 := rfl
set_option maxRecDepth 100000 in
theorem sA_134 : zgA zTc 134 0 = fun _ => 0 := rfl
set_option maxRecDepth 100000 in
theorem sA_135 : zgA zTc 135 0 = fun _ => 0 := rfl
set_option maxRecDepth 100000 in
theorem sA_136 : zgA zTc 136 0 = fun _ => 0 := rfl
set_option maxRecDepth 100000 in
theorem sA_137 : zgA zTc 137 0 = fun _ => 0 := rfl
set_option maxRecDepth 100000 in
theorem sA_138 : zgA zTc 138 0 = fun _ => 0 := rfl
set_option maxRecDepth 100000 in
theorem sA_139 : zgA zTc 139 0 = fun _ => 0 := rfl
set_option maxRecDepth 100000 in
theorem sA_140 : zgA zTc 140 0 = fun _ => 0 := rfl
set_option maxRecDepth 100000 in
theorem sA_141 : zgA zTc 141 0 = fun _ => 0 := rfl
set_option maxRecDepth 100000 in
theorem sA_142 : zgA zTc 142 0 = fun _ => 0 := rfl
set_option maxRecDepth 100000 in
theorem sA_143 : zgA zTc 143 0 = fun _ => 0 := rfl
set_option maxRecDepth 100000 in
theorem sA_144 : zgA zTc 144 0 = fun _ => 0 := rfl
set_option maxRecDepth 100000 in
theorem sA_145 : zgA zTc 145 0 = fun _ => 0 := rfl
set_option maxRecDepth 100000 in
theorem sA_146 : zgA zTc 146 0 = fun _ => 0 := rfl
set_option maxRecDepth 100000 in
theorem sA_147 : zgA zTc 147 0 = fun _ => 0 := rfl
set_option maxRecDepth 100000 in
theorem sA_148 : zgA zTc 148 0 = fun _ => 0 := rfl
set_option maxRecDepth 100000 in
theorem sA_149 : zgA zTc 149 0 = fun _ => 0 := rfl
set_option maxRecDepth 100000 in
theorem sA_150 : zgA zTc 150 0 = fun _ => 0 := rfl
set_option maxRecDepth 100000 in
theorem sA_151 : zgA zTc 151 0 = fun _ => 0 := rfl
set_option maxRecDepth 100000 in
theorem sA_152 : zgA zTc 152 0 = fun _ => 0 := rfl
set_option maxRecDepth 100000 in
theorem sA_153 : zgA zTc 153 0 = fun _ => 0 := rfl
set_option maxRecDepth 100000 in
theorem sA_154 : zgA zTc 154 0 = fun _ => 0 := rfl
set_option maxRecDepth 100000 in
theorem sA_155 : zgA zTc 155 0 = fun _ => 0 := rfl
set_option maxRecDepth 100000 in
theorem sA_156 : zgA zTc 156 0 = fun _ => 0 := rfl
set_option maxRecDepth 100000 in
theorem sA_157 : zgA zTc 157 0 = fun _ => 0 := rfl
set_option maxRecDepth 100000 in
theorem sA_158 : zgA zTc 158 0 = fun _ => 0 := rfl
set_option maxRecDepth 100000 in
theorem sA_159 : zgA zTc 159 0 = fun _ => 0 := rfl
set_option maxRecDepth 100000 in
theorem sA_160 : zgA zTc 160 0 = fun _ => 0 := rfl
set_option maxRecDepth 100000 in
theorem sA_161 : zgA zTc 161 0 = fun _ => 0 := rfl
set_option maxRecDepth 100000 in
theorem sN_20 : zgN zTc 20 = 0 := rfl
set_option maxRecDepth 100000 in
theorem sN_21 : zgN zTc 21 = 0 := rfl
set_option maxRecDepth 100000 in
theorem sN_22 : zgN zTc 22 = 0 := rfl
set_option maxRecDepth 100000 in
theorem sN_23 : zgN zTc 23 = 0 := rfl
set_option maxRecDepth 100000 in
theorem sN_25 : zgN zTc 25 = 0 := rfl
set_option maxRecDepth 100000 in
theorem sN_55 : zgN zTc 55 = 0 := rfl
set_option maxRecDepth 100000 in
theorem sN_56 : zgN zTc 56 = 0 := rfl
set_option maxRecDepth 100000 in
theorem sN_57 : zgN zTc 57 = 0 := rfl
set_option maxRecDepth 100000 in
theorem sN_58 : zgN zTc 58 = 0 := rfl
set_option maxRecDepth 100000 in
theorem sN_59 : zgN zTc 59 = 0 := rfl
set_option maxRecDepth 100000 in
theorem sN_60 : zgN zTc 60 = 0 := rfl
set_option maxRecDepth 100000 in
theorem sN_61 : zgN zTc 61 = 0 := rfl
set_option maxRecDepth 100000 in
theorem sN_62 : zgN zTc 62 = 0 := rfl
set_option maxRecDepth 100000 in
theorem sN_63 : zgN zTc 63 = 0 := rfl
set_option maxRecDepth 100000 in
theorem sN_64 : zgN zTc 64 = 0 := rfl
set_option maxRecDepth 100000 in
theorem sN_65 : zgN zTc 65 = 0 := rfl
set_option maxRecDepth 100000 in
theorem sN_67 : zgN zTc 67 = 0 := rfl
set_option maxRecDepth 100000 in
theorem sN_24 : zgN zTc 24 = 2 := rfl
set_option maxRecDepth 100000 in
theorem sN_66 : zgN zTc 66 = 2 := rfl
set_option maxRecDepth 100000 in
theorem sN_68 : zgN zTc 68 = 2 := rfl
set_option maxRecDepth 100000 in
theorem sN_69 : zgN zTc 69 = 8 := rfl
set_option maxRecDepth 100000 in
theorem sN_9 : zgN zTb 9 = 0 := rfl
set_option maxHeartbeats 4000000 in
set_option maxRecDepth 100000 in
theorem q_start : qR zTc := by
  refine ⟨⟨rfl, by decide +kernel, by decide +kernel⟩, ⟨rfl, by decide +kernel, by decide +kernel⟩, ⟨rfl, by decide +kernel, by decide +kernel, fun j => ?_⟩, rfl, ?_, ?_, ?_, ?_, ⟨rfl, by decide +kernel, by decide +kernel, fun j => ?_, fun j => ?_⟩, ?_, ?_, ?_⟩
  · rw [sA_43, sA_102]
    exact ⟨rfl, (by decide : (-128 : Int32) ≤ 0), (by decide : (0 : Int32) ≤ 127)⟩
  · unfold GW GL
    rw [sN_20]
    exact ⟨⟨rfl, .inl ⟨rfl, rfl⟩⟩, rfl, by omega, ⟨sN_55, sN_56, sN_57, sN_58, sN_59, sN_60⟩, fun i hi => by omega⟩
  · unfold GC
    rw [sN_20, sA_144, sA_145, sA_146, sA_147, sA_148]
    exact ⟨fun i hi => by omega, fun _ _ => rfl, fun _ _ => ⟨rfl, rfl, rfl, rfl⟩⟩
  · unfold GR
    have p : zgP zTc 10 0 16 = 1 := rfl
    rw [p, sN_24, sN_66, sN_68, sN_69]
    refine ⟨by omega, rfl, rfl, rfl, ⟨⟨fun j hj => ?_, rfl, rfl, rfl, .inr ⟨rfl, rfl⟩⟩, ⟨rfl, rfl, rfl, rfl, rfl, rfl, rfl⟩, ⟨by decide +kernel, by decide +kernel, by decide +kernel, by decide +kernel, by decide +kernel, by decide +kernel, by decide +kernel, by decide +kernel, by decide +kernel, by decide +kernel⟩, ⟨by decide +kernel, by decide +kernel, by decide +kernel, by decide +kernel, by decide +kernel, by decide +kernel, by decide +kernel, by decide +kernel, by decide +kernel, by decide +kernel⟩⟩, fun j hj => ⟨4 + j, ?_, by omega, .inl ⟨?_, ?_⟩⟩⟩
    · rcases (by omega : j = 0 ∨ j = 1 ∨ j = 2 ∨ j = 3) with e | e | e | e <;> subst e <;> exact ⟨rfl, by decide +kernel, by decide +kernel⟩
    · rcases (by omega : j = 0 ∨ j = 1 ∨ j = 2 ∨ j = 3) with e | e | e | e <;> subst e <;> rfl
    · rcases (by omega : j = 0 ∨ j = 1 ∨ j = 2 ∨ j = 3) with e | e | e | e <;> subst e <;> rfl
    · rcases (by omega : j = 0 ∨ j = 1 ∨ j = 2 ∨ j = 3) with e | e | e | e <;> subst e <;> rfl
  · unfold GK GL
    rw [sN_21, sN_61, sN_67, sA_118, sA_120, sA_126, sA_142, sA_143, sA_149, sA_150]
    exact ⟨⟨rfl, .inl ⟨rfl, rfl⟩⟩, rfl, by omega, rfl, rfl, fun k hk => by omega, fun _ _ _ => ⟨rfl, rfl, rfl, rfl, rfl, rfl, rfl⟩⟩
  · rw [sA_40, sA_129]
  · rw [sA_41, sA_130]
  · unfold GB
    rw [sA_135, sA_136, sA_137, sA_138, sA_139, sA_140, sA_141, sA_44, sA_45, sA_46, sA_47, sA_48, sA_49, sA_50]
    exact ⟨⟨rfl, by decide +kernel, by decide +kernel, rfl, by decide +kernel, by decide +kernel⟩, fun _ => ⟨rfl, rfl, rfl, rfl⟩, fun _ => ⟨rfl, rfl, rfl⟩⟩
  · unfold GH GL
    rw [sN_22, sN_62, sN_63, sA_42, sA_151, sA_153, sA_154]
    exact ⟨⟨rfl, by decide +kernel, by decide +kernel, fun _ => rfl⟩, ⟨⟨rfl, .inl ⟨rfl, rfl⟩⟩, rfl, by omega, rfl, rfl⟩, fun i hi => by omega, fun _ _ _ => rfl, fun _ _ => rfl⟩
  · unfold GG GL
    rw [sN_23, sN_64, sN_65, sA_159, sA_160, sA_161]
    exact ⟨⟨⟨rfl, .inl ⟨rfl, rfl⟩⟩, rfl, by omega, rfl, rfl⟩, fun i hi => by omega, fun _ _ _ => rfl, fun _ _ => ⟨rfl, rfl⟩⟩
