def f_X4_carryPart (a0 : Nat) (a1 : Nat) (a2 : Int32) (σ : HS) : Option (Unit × HS) :=
  chk (isO σ 0 a1) (bd (hR σ a1 3) fun i3 =>
  chk (isO σ 10 i3 ∧ inb a2 (hlen σ i3)) (lt (hA σ i3 a2.toNatClampNeg) fun v8 =>
  bd (hR σ a1 4) fun i10 =>
  chk (isO σ 10 i10 ∧ inb a2 (hlen σ i10)) (lt (hA σ i10 a2.toNatClampNeg) fun v15 =>
  bd (hR σ a1 5) fun i17 =>
  chk (isO σ 10 i17 ∧ inb a2 (hlen σ i17)) (lt (hA σ i17 a2.toNatClampNeg) fun v22 =>
  bd (hR σ a1 1) fun i24 =>
  chk (isO σ 10 i24 ∧ inb a2 (hlen σ i24)) (lt (hA σ i24 a2.toNatClampNeg) fun v29 =>
  (if v29 = (0 : Int32) then
  chk (isO σ 4 a0) (bd (hR σ a0 6) fun i36 =>
  bd (hR σ a0 0) fun i39 =>
  chk (isO σ 10 i39 ∧ inb v22 (hlen σ i39)) (lt (hA σ i39 v22.toNatClampNeg) fun v44 =>
  bd (hR σ a0 1) fun i46 =>
  chk (isO σ 10 i46 ∧ inb v22 (hlen σ i46)) (lt (hA σ i46 v22.toNatClampNeg) fun v51 =>
  chk (isO σ 1 i36) (bc (f_X1_fromTo i36 a2 (v44).toInt64 (v51).toInt64 σ) fun r55 σ56 =>
  some ((), σ56)))))
  else if v29 = (1 : Int32) then
  chk (isO σ 4 a0) (bd (hR σ a0 6) fun i64 =>
  chk (isO σ 1 i64) (bc (f_X1_fromTo i64 a2 (v22).toInt64 (v22).toInt64 σ) fun r69 σ70 =>
  some ((), σ70)))
  else if v29 = (2 : Int32) then
  chk (isO σ 4 a0) (bd (hR σ a0 6) fun i78 =>
  chk (isO σ 1 i78) (bc (f_X1_less i78 a2 i78 v8 σ) fun r86 σ87 =>
  some ((), σ87)))
  else if v29 = (3 : Int32) then
  chk (isO σ 4 a0) (bd (hR σ a0 6) fun i95 =>
  chk (isO σ 1 i95) (bc (f_X1_sum i95 a2 i95 v8 i95 v15 σ) fun r106 σ107 =>
  some ((), σ107)))
  else if v29 = (4 : Int32) then
  chk (isO σ 4 a0) (bd (hR σ a0 6) fun i115 =>
  chk (isO σ 1 i115) (bc (f_X1_difference i115 a2 i115 v8 i115 v15 σ) fun r126 σ127 =>
  some ((), σ127)))
  else chk (isO σ 4 a0) (bd (hR σ a0 6) fun i132 =>
  chk (isO σ 1 i132) (bc (f_X1_product i132 a2 i132 v8 i132 v15 σ) fun r143 σ144 =>
  some ((), σ144)))))))))
abbrev rm_X4_carryPart : Room := { frames := 2, cells := 0, slots := 0, locals := 128 }
set_option maxHeartbeats 4000000 in
set_option maxRecDepth 100000 in
theorem c_X4_carryPart (l : Launch) (D : va_G) (cs : Nat → ClassId) (q : Nat → Nat) (a0 : Nat) (a1 : Nat) (a2 : Int32) (σ σ0 : HS) (r0 : Unit) (hf0 : f_X4_carryPart a0 a1 a2 σ = some (r0, σ0)) : MT l yX4_carryPart (Cond.code yX4_carryPart cX4_carryPart 6 none :: lw_g) rm_X4_carryPart D cs q σ σ0 [.ref (q a0), .ref (q a1), .int a2] (fun z => z = q) (fun _ => none) 0 0 := by
  unfold f_X4_carryPart at hf0
  refine MT_of (cc := cX4_carryPart) (lv0 := [(0, .ref (q a0)), (1, .ref (q a1)), (2, .int a2)]) (by decide) (Nat.le_of_ble_eq_true rfl) rfl (fun p e s m args below meth c A X hr hlk hin => ?_)
  refine j_aload_n X dX4_carryPart_0 1 rfl rfl ?_
  obtain ⟨h1, hf2⟩ := chk_of hf0; clear hf0
  obtain ⟨i3, h4, hf5⟩ := bd_of hf2; clear hf2
  refine j_getr X fd_X4_81 h1 h4 dX4_carryPart_1 ?_
  refine j_iload_n X dX4_carryPart_4 2 rfl rfl ?_
  obtain ⟨h6, hf7⟩ := chk_of hf5; clear hf5
  refine j_iald X h6 dX4_carryPart_5 (fun v8 ev8 => ?_)
  replace hf7 := lt_of hf7 v8 ev8
  refine j_istore_n X (lv' := [(3, .int v8), (0, .ref (q a0)), (1, .ref (q a1)), (2, .int a2)]) dX4_carryPart_6 rfl (by decide) rfl ?_
  refine j_aload_n X dX4_carryPart_7 2 rfl rfl ?_
  obtain ⟨i10, h11, hf12⟩ := bd_of hf7; clear hf7
  refine j_getr X fd_X4_84 h1 h11 dX4_carryPart_8 ?_
  refine j_iload_n X dX4_carryPart_11 3 rfl rfl ?_
  obtain ⟨h13, hf14⟩ := chk_of hf12; clear hf12
  refine j_iald X h13 dX4_carryPart_12 (fun v15 ev15 => ?_)
  replace hf14 := lt_of hf14 v15 ev15
  refine j_istore X (lv' := [(4, .int v15), (3, .int v8), (0, .ref (q a0)), (1, .ref (q a1)), (2, .int a2)]) dX4_carryPart_13 (by decide) rfl ?_
  refine j_aload_n X dX4_carryPart_15 3 rfl rfl ?_
  obtain ⟨i17, h18, hf19⟩ := bd_of hf14; clear hf14
  refine j_getr X fd_X4_87 h1 h18 dX4_carryPart_16 ?_
  refine j_iload_n X dX4_carryPart_19 4 rfl rfl ?_
  obtain ⟨h20, hf21⟩ := chk_of hf19; clear hf19
  refine j_iald X h20 dX4_carryPart_20 (fun v22 ev22 => ?_)
  replace hf21 := lt_of hf21 v22 ev22
  refine j_istore X (lv' := [(5, .int v22), (4, .int v15), (3, .int v8), (0, .ref (q a0)), (1, .ref (q a1)), (2, .int a2)]) dX4_carryPart_21 (by decide) rfl ?_
  refine j_aload_n X dX4_carryPart_23 4 rfl rfl ?_
  obtain ⟨i24, h25, hf26⟩ := bd_of hf21; clear hf21
  refine j_getr X fd_X4_90 h1 h25 dX4_carryPart_24 ?_
  refine j_iload_n X dX4_carryPart_27 5 rfl rfl ?_
  obtain ⟨h27, hf28⟩ := chk_of hf26; clear hf26
  refine j_iald X h27 dX4_carryPart_28 (fun v29 ev29 => ?_)
  replace hf28 := lt_of hf28 v29 ev29
  by_cases c31 : v29 = (0 : Int32)
  · have hf32 := br_y hf28 c31; clear hf28
    refine j_tabIn X (v := 0) (tgt := 64) dX4_carryPart_29 c31 (by decide) (by decide) rfl (by decide) ?_
    refine j_aload_n X dX4_carryPart_64 3 rfl rfl ?_
    obtain ⟨h34, hf35⟩ := chk_of hf32; clear hf32
    obtain ⟨i36, h37, hf38⟩ := bd_of hf35; clear hf35
    refine j_getr X fd_X4_37 h34 h37 dX4_carryPart_65 ?_
    refine j_iload_n X dX4_carryPart_68 5 rfl rfl ?_
    refine j_aload_n X dX4_carryPart_69 3 rfl rfl ?_
    obtain ⟨i39, h40, hf41⟩ := bd_of hf38; clear hf38
    refine j_getr X fd_X4_9 h34 h40 dX4_carryPart_70 ?_
    refine j_iload X dX4_carryPart_73 0 rfl ?_
    obtain ⟨h42, hf43⟩ := chk_of hf41; clear hf41
    refine j_iald X h42 dX4_carryPart_75 (fun v44 ev44 => ?_)
    replace hf43 := lt_of hf43 v44 ev44
    refine j_i2l X dX4_carryPart_76 ?_
    refine j_aload_n X dX4_carryPart_77 3 rfl rfl ?_
    obtain ⟨i46, h47, hf48⟩ := bd_of hf43; clear hf43
    refine j_getr X fd_X4_15 h34 h47 dX4_carryPart_78 ?_
    refine j_iload X dX4_carryPart_81 0 rfl ?_
    obtain ⟨h49, hf50⟩ := chk_of hf48; clear hf48
    refine j_iald X h49 dX4_carryPart_83 (fun v51 ev51 => ?_)
    replace hf50 := lt_of hf50 v51 ev51
    refine j_i2l X dX4_carryPart_84 ?_
    obtain ⟨h53, hf54⟩ := chk_of hf50; clear hf50
    obtain ⟨r55, σ56, h57, hf58⟩ := bc_of hf54; clear hf54
    refine j_callV0 X [.int a2, .long (v44).toInt64, .long (v51).toInt64] [] (c_X1_fromTo l D cs q i36 a2 (v44).toInt64 (v51).toInt64 σ _ _ h57) mk_X1_fromTo mv_X1_fromTo ml_X4_93 h53 rfl (by decide) ⟨rfl, rfl⟩ ⟨Nat.le_of_ble_eq_true rfl, Nat.le_of_ble_eq_true rfl⟩ rfl (Nat.le_of_ble_eq_true rfl) ⟨Nat.le_of_ble_eq_true rfl, Nat.le_of_ble_eq_true rfl⟩ dX4_carryPart_85 rfl (st' := []) rfl ?_
    refine j_goto X (tgt := 187) dX4_carryPart_88 (by decide) ?_
    obtain ⟨er, es⟩ := rt_of hf58
    exact j_retv X hr hlk (Nat.le_of_ble_eq_true rfl) (Nat.le_of_ble_eq_true rfl) rfl es.symm rfl dX4_carryPart_187
  · have hf33 := br_n hf28 c31; clear hf28
    by_cases c59 : v29 = (1 : Int32)
    · have hf60 := br_y hf33 c59; clear hf33
      refine j_tabIn X (v := 1) (tgt := 91) dX4_carryPart_29 c59 (by decide) (by decide) rfl (by decide) ?_
      refine j_aload_n X dX4_carryPart_91 3 rfl rfl ?_
      obtain ⟨h62, hf63⟩ := chk_of hf60; clear hf60
      obtain ⟨i64, h65, hf66⟩ := bd_of hf63; clear hf63
      refine j_getr X fd_X4_37 h62 h65 dX4_carryPart_92 ?_
      refine j_iload_n X dX4_carryPart_95 5 rfl rfl ?_
      refine j_iload X dX4_carryPart_96 0 rfl ?_
      refine j_i2l X dX4_carryPart_98 ?_
      refine j_iload X dX4_carryPart_99 0 rfl ?_
      refine j_i2l X dX4_carryPart_101 ?_
      obtain ⟨h67, hf68⟩ := chk_of hf66; clear hf66
      obtain ⟨r69, σ70, h71, hf72⟩ := bc_of hf68; clear hf68
      refine j_callV0 X [.int a2, .long (v22).toInt64, .long (v22).toInt64] [] (c_X1_fromTo l D cs q i64 a2 (v22).toInt64 (v22).toInt64 σ _ _ h71) mk_X1_fromTo mv_X1_fromTo ml_X4_93 h67 rfl (by decide) ⟨rfl, rfl⟩ ⟨Nat.le_of_ble_eq_true rfl, Nat.le_of_ble_eq_true rfl⟩ rfl (Nat.le_of_ble_eq_true rfl) ⟨Nat.le_of_ble_eq_true rfl, Nat.le_of_ble_eq_true rfl⟩ dX4_carryPart_102 rfl (st' := []) rfl ?_
      refine j_goto X (tgt := 187) dX4_carryPart_105 (by decide) ?_
      obtain ⟨er, es⟩ := rt_of hf72
      exact j_retv X hr hlk (Nat.le_of_ble_eq_true rfl) (Nat.le_of_ble_eq_true rfl) rfl es.symm rfl dX4_carryPart_187
    · have hf61 := br_n hf33 c59; clear hf33
      by_cases c73 : v29 = (2 : Int32)
      · have hf74 := br_y hf61 c73; clear hf61
        refine j_tabIn X (v := 2) (tgt := 108) dX4_carryPart_29 c73 (by decide) (by decide) rfl (by decide) ?_
        refine j_aload_n X dX4_carryPart_108 3 rfl rfl ?_
        obtain ⟨h76, hf77⟩ := chk_of hf74; clear hf74
        obtain ⟨i78, h79, hf80⟩ := bd_of hf77; clear hf77
        refine j_getr X fd_X4_37 h76 h79 dX4_carryPart_109 ?_
        refine j_iload_n X dX4_carryPart_112 5 rfl rfl ?_
        refine j_aload_n X dX4_carryPart_113 3 rfl rfl ?_
        refine j_getr X fd_X4_37 h76 h79 dX4_carryPart_114 ?_
        refine j_iload_n X dX4_carryPart_117 2 rfl rfl ?_
        obtain ⟨h84, hf85⟩ := chk_of hf80; clear hf80
        obtain ⟨r86, σ87, h88, hf89⟩ := bc_of hf85; clear hf85
        refine j_callV0 X [.int a2, .ref (q i78), .int v8] [] (c_X1_less l D cs q i78 a2 i78 v8 σ _ _ h88) mk_X1_less mv_X1_less ml_X4_97 h84 rfl (by decide) ⟨rfl, rfl⟩ ⟨Nat.le_of_ble_eq_true rfl, Nat.le_of_ble_eq_true rfl⟩ rfl (Nat.le_of_ble_eq_true rfl) ⟨Nat.le_of_ble_eq_true rfl, Nat.le_of_ble_eq_true rfl⟩ dX4_carryPart_118 rfl (st' := []) rfl ?_
        refine j_goto X (tgt := 187) dX4_carryPart_121 (by decide) ?_
        obtain ⟨er, es⟩ := rt_of hf89
        exact j_retv X hr hlk (Nat.le_of_ble_eq_true rfl) (Nat.le_of_ble_eq_true rfl) rfl es.symm rfl dX4_carryPart_187
      · have hf75 := br_n hf61 c73; clear hf61
        by_cases c90 : v29 = (3 : Int32)
        · have hf91 := br_y hf75 c90; clear hf75
          refine j_tabIn X (v := 3) (tgt := 124) dX4_carryPart_29 c90 (by decide) (by decide) rfl (by decide) ?_
          refine j_aload_n X dX4_carryPart_124 3 rfl rfl ?_
          obtain ⟨h93, hf94⟩ := chk_of hf91; clear hf91
          obtain ⟨i95, h96, hf97⟩ := bd_of hf94; clear hf94
          refine j_getr X fd_X4_37 h93 h96 dX4_carryPart_125 ?_
          refine j_iload_n X dX4_carryPart_128 5 rfl rfl ?_
          refine j_aload_n X dX4_carryPart_129 3 rfl rfl ?_
          refine j_getr X fd_X4_37 h93 h96 dX4_carryPart_130 ?_
          refine j_iload_n X dX4_carryPart_133 2 rfl rfl ?_
          refine j_aload_n X dX4_carryPart_134 3 rfl rfl ?_
          refine j_getr X fd_X4_37 h93 h96 dX4_carryPart_135 ?_
          refine j_iload X dX4_carryPart_138 1 rfl ?_
          obtain ⟨h104, hf105⟩ := chk_of hf97; clear hf97
          obtain ⟨r106, σ107, h108, hf109⟩ := bc_of hf105; clear hf105
          refine j_callV0 X [.int a2, .ref (q i95), .int v8, .ref (q i95), .int v15] [] (c_X1_sum l D cs q i95 a2 i95 v8 i95 v15 σ _ _ h108) mk_X1_sum mv_X1_sum ml_X4_101 h104 rfl (by decide) ⟨rfl, rfl⟩ ⟨Nat.le_of_ble_eq_true rfl, Nat.le_of_ble_eq_true rfl⟩ rfl (Nat.le_of_ble_eq_true rfl) ⟨Nat.le_of_ble_eq_true rfl, Nat.le_of_ble_eq_true rfl⟩ dX4_carryPart_140 rfl (st' := []) rfl ?_
          refine j_goto X (tgt := 187) dX4_carryPart_143 (by decide) ?_
          obtain ⟨er, es⟩ := rt_of hf109
          exact j_retv X hr hlk (Nat.le_of_ble_eq_true rfl) (Nat.le_of_ble_eq_true rfl) rfl es.symm rfl dX4_carryPart_187
        · have hf92 := br_n hf75 c90; clear hf75
          by_cases c110 : v29 = (4 : Int32)
          · have hf111 := br_y hf92 c110; clear hf92
            refine j_tabIn X (v := 4) (tgt := 146) dX4_carryPart_29 c110 (by decide) (by decide) rfl (by decide) ?_
            refine j_aload_n X dX4_carryPart_146 3 rfl rfl ?_
            obtain ⟨h113, hf114⟩ := chk_of hf111; clear hf111
            obtain ⟨i115, h116, hf117⟩ := bd_of hf114; clear hf114
            refine j_getr X fd_X4_37 h113 h116 dX4_carryPart_147 ?_
            refine j_iload_n X dX4_carryPart_150 5 rfl rfl ?_
            refine j_aload_n X dX4_carryPart_151 3 rfl rfl ?_
            refine j_getr X fd_X4_37 h113 h116 dX4_carryPart_152 ?_
            refine j_iload_n X dX4_carryPart_155 2 rfl rfl ?_
            refine j_aload_n X dX4_carryPart_156 3 rfl rfl ?_
            refine j_getr X fd_X4_37 h113 h116 dX4_carryPart_157 ?_
            refine j_iload X dX4_carryPart_160 1 rfl ?_
            obtain ⟨h124, hf125⟩ := chk_of hf117; clear hf117
            obtain ⟨r126, σ127, h128, hf129⟩ := bc_of hf125; clear hf125
            refine j_callV0 X [.int a2, .ref (q i115), .int v8, .ref (q i115), .int v15] [] (c_X1_difference l D cs q i115 a2 i115 v8 i115 v15 σ _ _ h128) mk_X1_difference mv_X1_difference ml_X4_105 h124 rfl (by decide) ⟨rfl, rfl⟩ ⟨Nat.le_of_ble_eq_true rfl, Nat.le_of_ble_eq_true rfl⟩ rfl (Nat.le_of_ble_eq_true rfl) ⟨Nat.le_of_ble_eq_true rfl, Nat.le_of_ble_eq_true rfl⟩ dX4_carryPart_162 rfl (st' := []) rfl ?_
            refine j_goto X (tgt := 187) dX4_carryPart_165 (by decide) ?_
            obtain ⟨er, es⟩ := rt_of hf129
            exact j_retv X hr hlk (Nat.le_of_ble_eq_true rfl) (Nat.le_of_ble_eq_true rfl) rfl es.symm rfl dX4_carryPart_187
          · have hf112 := br_n hf92 c110; clear hf92
            refine j_tabOut X (tgt := 168) dX4_carryPart_29 (by have z0 := lv_neT c31 (show ((0 : Int32)).toInt = 0 from rfl); have z1 := lv_neT c59 (show ((1 : Int32)).toInt = 1 from rfl); have z2 := lv_neT c73 (show ((2 : Int32)).toInt = 2 from rfl); have z3 := lv_neT c90 (show ((3 : Int32)).toInt = 3 from rfl); have z4 := lv_neT c110 (show ((4 : Int32)).toInt = 4 from rfl); omega) (by decide) ?_
            refine j_aload_n X dX4_carryPart_168 3 rfl rfl ?_
            obtain ⟨h130, hf131⟩ := chk_of hf112; clear hf112
            obtain ⟨i132, h133, hf134⟩ := bd_of hf131; clear hf131
            refine j_getr X fd_X4_37 h130 h133 dX4_carryPart_169 ?_
            refine j_iload_n X dX4_carryPart_172 5 rfl rfl ?_
            refine j_aload_n X dX4_carryPart_173 3 rfl rfl ?_
            refine j_getr X fd_X4_37 h130 h133 dX4_carryPart_174 ?_
            refine j_iload_n X dX4_carryPart_177 2 rfl rfl ?_
            refine j_aload_n X dX4_carryPart_178 3 rfl rfl ?_
            refine j_getr X fd_X4_37 h130 h133 dX4_carryPart_179 ?_
            refine j_iload X dX4_carryPart_182 1 rfl ?_
            obtain ⟨h141, hf142⟩ := chk_of hf134; clear hf134
            obtain ⟨r143, σ144, h145, hf146⟩ := bc_of hf142; clear hf142
            refine j_callV0 X [.int a2, .ref (q i132), .int v8, .ref (q i132), .int v15] [] (c_X1_product l D cs q i132 a2 i132 v8 i132 v15 σ _ _ h145) mk_X1_product mv_X1_product ml_X4_108 h141 rfl (by decide) ⟨rfl, rfl⟩ ⟨Nat.le_of_ble_eq_true rfl, Nat.le_of_ble_eq_true rfl⟩ rfl (Nat.le_of_ble_eq_true rfl) ⟨Nat.le_of_ble_eq_true rfl, Nat.le_of_ble_eq_true rfl⟩ dX4_carryPart_184 rfl (st' := []) rfl ?_
            obtain ⟨er, es⟩ := rt_of hf146
            exact j_retv X hr hlk (Nat.le_of_ble_eq_true rfl) (Nat.le_of_ble_eq_true rfl) rfl es.symm rfl dX4_carryPart_187
def lp_X4_carry_2_b  (K2 : Nat → Nat → Int32 → HS → Option (Unit × HS)) (x0 : Nat) (x1 : Nat) (x2 : Int32) (τ : HS) : Option (Unit × HS) :=
  chk (isO τ 0 x1) (lt (hA τ x1 0) fun v5 =>
  (if v5 ≤ x2 then
  lt (hA τ x1 0) fun v10 =>
  lt ((v10 - (1 : Int32))) fun v12 =>
  chk (isO τ 4 x0) (bd (hR τ x0 6) fun i16 =>
  chk (isO τ 1 i16) (bd (hR τ i16 2) fun i21 =>
  chk (isO τ 11 i21 ∧ inb v12 (hlen τ i21)) (lt (hA τ i21 v12.toNatClampNeg) fun v26 =>
  chk (bit v26) (lt (sA τ x0 2 v26) fun σ28 =>
  bd (hR σ28 x0 6) fun i35 =>
  chk (isO σ28 1 i35) (bd (hR σ28 i35 0) fun i40 =>
  chk (isO σ28 12 i40 ∧ inb v12 (hlen σ28 i40)) (lt (hB σ28 i40 v12.toNatClampNeg) fun v45 =>
  lt (sB σ28 x0 3 v45) fun σ47 =>
  bd (hR σ47 x0 6) fun i53 =>
  chk (isO σ47 1 i53) (bd (hR σ47 i53 1) fun i58 =>
  chk (isO σ47 12 i58 ∧ inb v12 (hlen σ47 i58)) (lt (hB σ47 i58 v12.toNatClampNeg) fun v63 =>
  lt (sB σ47 x0 4 v63) fun σ65 =>
  some ((), σ65)))))))))
  else
  chk (isO τ 4 x0) (bc (f_X4_carryPart x0 x1 x2 τ) fun r74 σ75 =>
  lt (x2 + (1 : Int32)) fun v78 =>
  K2 x0 x1 v78 σ75)))
def lp_X4_carry_2  : Nat → Nat → Nat → Int32 → HS → Option (Unit × HS)
  | 0 => fun _ _ _ _ => none
  | n + 1 => lp_X4_carry_2_b  (lp_X4_carry_2  n)
def f_X4_carry (a0 : Nat) (a1 : Nat) (σ : HS) : Option (Unit × HS) :=
  lt ((0 : Int32)) fun v1 =>
  lp_X4_carry_2  1000 a0 a1 v1 σ
abbrev rm_X4_carry : Room := { frames := 3, cells := 0, slots := 0, locals := 192 }
set_option maxHeartbeats 4000000 in
set_option maxRecDepth 100000 in
theorem c_X4_carry (l : Launch) (D : va_G) (cs : Nat → ClassId) (q : Nat → Nat) (a0 : Nat) (a1 : Nat) (σ σ0 : HS) (r0 : Unit) (hf0 : f_X4_carry a0 a1 σ = some (r0, σ0)) : MT l yX4_carry (Cond.code yX4_carry cX4_carry 3 none :: lw_g) rm_X4_carry D cs q σ σ0 [.ref (q a0), .ref (q a1)] (fun z => z = q) (fun _ => none) 0 0 := by
  unfold f_X4_carry at hf0
  refine MT_of (cc := cX4_carry) (lv0 := [(0, .ref (q a0)), (1, .ref (q a1))]) (by decide) (Nat.le_of_ble_eq_true rfl) rfl (fun p e s m args below meth c A X hr hlk hin => ?_)
  have L2 : ∀ (nk : Nat) (x0 : Nat) (x1 : Nat) (x2 : Int32) (τ : HS), lp_X4_carry_2  nk x0 x1 x2 τ = some (r0, σ0) → J p l e rm_X4_carry s m args below meth c 3 D cs A s.heap 0 0 (MQ below (hQ D cs (fun z => z = q) (fun _ => none) σ0 A) args s 0 0 A) q τ [(0, .ref (q x0)), (1, .ref (q x1)), (2, .int x2)] 2 [] := by
    intro nk
    induction nk with
    | zero => intro x0 x1 x2 τ hf0; have hf1 : (none : Option (Unit × HS)) = some (r0, σ0) := hf0; cases hf1
    | succ nk ih =>
      intro x0 x1 x2 τ hf0
      replace hf0 : lp_X4_carry_2_b  (lp_X4_carry_2  nk) x0 x1 x2 τ = some (r0, σ0) := hf0
      unfold lp_X4_carry_2_b at hf0
      refine j_iload_n X dX4_carry_2 2 rfl rfl ?_
      refine j_aload_n X dX4_carry_3 1 rfl rfl ?_
      obtain ⟨h3, hf4⟩ := chk_of hf0; clear hf0
      refine j_geti X fd_X4_64 h3 dX4_carry_4 (fun v5 ev5 => ?_)
      replace hf4 := lt_of hf4 v5 ev5
      refine j_icmp_ge X (tgt := 22) dX4_carry_7 (by decide) (fun c7 => ?_) (fun c7 => ?_)
      · have hf8 := br_y hf4 c7; clear hf4
        refine j_aload_n X dX4_carry_22 1 rfl rfl ?_
        refine j_geti X fd_X4_64 h3 dX4_carry_23 (fun v10 ev10 => ?_)
        replace hf8 := lt_of hf8 v10 ev10
        refine j_iconst X (v := 1) dX4_carry_26 (by decide) ?_
        refine j_isub X dX4_carry_27 ?_
        refine j_nmi (fun v12 ev12 => ?_)
        replace hf8 := lt_of hf8 v12 ev12
        refine j_istore_n X (lv' := [(2, .int v12), (0, .ref (q x0)), (1, .ref (q x1))]) dX4_carry_28 rfl (by decide) rfl ?_
        refine j_aload_n X dX4_carry_29 1 rfl rfl ?_
        refine j_aload_n X dX4_carry_30 1 rfl rfl ?_
        obtain ⟨h14, hf15⟩ := chk_of hf8; clear hf8
        obtain ⟨i16, h17, hf18⟩ := bd_of hf15; clear hf15
        refine j_getr X fd_X4_37 h14 h17 dX4_carry_31 ?_
        obtain ⟨h19, hf20⟩ := chk_of hf18; clear hf18
        obtain ⟨i21, h22, hf23⟩ := bd_of hf20; clear hf20
        refine j_getr X fd_X4_74 h19 h22 dX4_carry_34 ?_
        refine j_iload_n X dX4_carry_37 0 rfl rfl ?_
        obtain ⟨h24, hf25⟩ := chk_of hf23; clear hf23
        refine j_zald X h24 dX4_carry_38 (fun v26 ev26 => ?_)
        replace hf25 := lt_of hf25 v26 ev26
        obtain ⟨h29, hf30⟩ := chk_of hf25; clear hf25
        refine j_putz X fp_X4_18 h14 h29 dX4_carry_39 (fun σ28 eσ28 => ?_)
        replace hf30 := lt_of hf30 σ28 eσ28
        have h32 : isO σ28 0 x1 := by rw [eσ28]; exact h3
        have h33 : isO σ28 4 x0 := by rw [eσ28]; exact h14
        have h34 : isO σ28 1 i16 := by rw [eσ28]; exact h19
        refine j_aload_n X dX4_carry_42 1 rfl rfl ?_
        refine j_aload_n X dX4_carry_43 1 rfl rfl ?_
        obtain ⟨i35, h36, hf37⟩ := bd_of hf30; clear hf30
        refine j_getr X fd_X4_37 h33 h36 dX4_carry_44 ?_
        obtain ⟨h38, hf39⟩ := chk_of hf37; clear hf37
        obtain ⟨i40, h41, hf42⟩ := bd_of hf39; clear hf39
        refine j_getr X fd_X4_77 h38 h41 dX4_carry_47 ?_
        refine j_iload_n X dX4_carry_50 0 rfl rfl ?_
        obtain ⟨h43, hf44⟩ := chk_of hf42; clear hf42
        refine j_lald X h43 dX4_carry_51 (fun v45 ev45 => ?_)
        replace hf44 := lt_of hf44 v45 ev45
        refine j_putl X fp_X4_22 h33 dX4_carry_52 (fun σ47 eσ47 => ?_)
        replace hf44 := lt_of hf44 σ47 eσ47
        have h49 : isO σ47 0 x1 := by rw [eσ47]; exact h32
        have h50 : isO σ47 4 x0 := by rw [eσ47]; exact h33
        have h51 : isO σ47 1 i16 := by rw [eσ47]; exact h34
        have h52 : isO σ47 1 i35 := by rw [eσ47]; exact h38
        refine j_aload_n X dX4_carry_55 1 rfl rfl ?_
        refine j_aload_n X dX4_carry_56 1 rfl rfl ?_
        obtain ⟨i53, h54, hf55⟩ := bd_of hf44; clear hf44
        refine j_getr X fd_X4_37 h50 h54 dX4_carry_57 ?_
        obtain ⟨h56, hf57⟩ := chk_of hf55; clear hf55
        obtain ⟨i58, h59, hf60⟩ := bd_of hf57; clear hf57
        refine j_getr X fd_X4_79 h56 h59 dX4_carry_60 ?_
        refine j_iload_n X dX4_carry_63 0 rfl rfl ?_
        obtain ⟨h61, hf62⟩ := chk_of hf60; clear hf60
        refine j_lald X h61 dX4_carry_64 (fun v63 ev63 => ?_)
        replace hf62 := lt_of hf62 v63 ev63
        refine j_putl X fp_X4_26 h50 dX4_carry_65 (fun σ65 eσ65 => ?_)
        replace hf62 := lt_of hf62 σ65 eσ65
        have h67 : isO σ65 0 x1 := by rw [eσ65]; exact h49
        have h68 : isO σ65 4 x0 := by rw [eσ65]; exact h50
        have h69 : isO σ65 1 i16 := by rw [eσ65]; exact h51
        have h70 : isO σ65 1 i35 := by rw [eσ65]; exact h52
        have h71 : isO σ65 1 i53 := by rw [eσ65]; exact h56
        obtain ⟨er, es⟩ := rt_of hf62
        exact j_retv X hr hlk (Nat.le_of_ble_eq_true rfl) (Nat.le_of_ble_eq_true rfl) rfl es.symm rfl dX4_carry_68
      · have hf9 := br_n hf4 c7; clear hf4
        refine j_aload_n X dX4_carry_10 0 rfl rfl ?_
        refine j_aload_n X dX4_carry_11 1 rfl rfl ?_
        refine j_iload_n X dX4_carry_12 2 rfl rfl ?_
        obtain ⟨h72, hf73⟩ := chk_of hf9; clear hf9
        obtain ⟨r74, σ75, h76, hf77⟩ := bc_of hf73; clear hf73
        refine j_callV0 X [.ref (q x1), .int x2] [] (c_X4_carryPart l D cs q x0 x1 x2 τ _ _ h76) mk_X4_carryPart mv_X4_carryPart ml_X4_70 h72 rfl (by decide) ⟨rfl, rfl⟩ ⟨Nat.le_of_ble_eq_true rfl, Nat.le_of_ble_eq_true rfl⟩ rfl (Nat.le_of_ble_eq_true rfl) ⟨Nat.le_of_ble_eq_true rfl, Nat.le_of_ble_eq_true rfl⟩ dX4_carry_13 rfl (st' := []) rfl ?_
        obtain ⟨v78, ev78⟩ : ∃ y : Int32, y = x2 + (1 : Int32) := ⟨_, rfl⟩
        replace hf77 := lt_of hf77 v78 ev78
        refine j_iinc X (v := v78) (lv' := [(2, .int v78), (0, .ref (q x0)), (1, .ref (q x1))]) dX4_carry_16 2 rfl (by rw [ev78]; rfl) (by decide) rfl ?_
        refine j_goto X (tgt := 2) dX4_carry_19 (by decide) ?_
        refine j_lvsub [1, 2, 0] (lv' := [(0, .ref (q x0)), (1, .ref (q x1)), (2, .int v78)]) rfl ?_
        exact ih x0 x1 v78 σ75 hf77
  refine j_iconst X (v := 0) dX4_carry_0 (by decide) ?_
  refine j_nmi (fun v1 ev1 => ?_)
  replace hf0 := lt_of hf0 v1 ev1
  refine j_istore_n X (lv' := [(2, .int v1), (0, .ref (q a0)), (1, .ref (q a1))]) dX4_carry_1 rfl (by decide) rfl ?_
  refine j_lvsub [1, 2, 0] (lv' := [(0, .ref (q a0)), (1, .ref (q a1)), (2, .int v1)]) rfl ?_
  exact L2  1000 a0 a1 v1 σ hf0
def f_X4_changePart (a0 : Nat) (a1 : Nat) (a2 : Int32) (a3 : Int32) (σ : HS) : Option (Unit × HS) :=
  chk (isO σ 0 a1) (bd (hR σ a1 3) fun i3 =>
  chk (isO σ 10 i3 ∧ inb a2 (hlen σ i3)) (lt (hA σ i3 a2.toNatClampNeg) fun v8 =>
  bd (hR σ a1 4) fun i10 =>
  chk (isO σ 10 i10 ∧ inb a2 (hlen σ i10)) (lt (hA σ i10 a2.toNatClampNeg) fun v15 =>
  bd (hR σ a1 1) fun i17 =>
  chk (isO σ 10 i17 ∧ inb a2 (hlen σ i17)) (lt (hA σ i17 a2.toNatClampNeg) fun v22 =>
  (if v22 = (0 : Int32) then
  bd (hR σ a1 5) fun i27 =>
  chk (isO σ 10 i27 ∧ inb a2 (hlen σ i27)) (lt (hA σ i27 a2.toNatClampNeg) fun v32 =>
  (if v32 = a3 then
  lt ((1 : Int32)) fun v50 =>
  chk (isO σ 4 a0) (bd (hR σ a0 7) fun i54 =>
  chk (isO σ 1 i54) (bc (f_X1_fromTo i54 a2 (v50).toInt64 (v50).toInt64 σ) fun r59 σ60 =>
  some ((), σ60)))
  else
  lt ((0 : Int32)) fun v37 =>
  chk (isO σ 4 a0) (bd (hR σ a0 7) fun i41 =>
  chk (isO σ 1 i41) (bc (f_X1_fromTo i41 a2 (v37).toInt64 (v37).toInt64 σ) fun r46 σ47 =>
  some ((), σ47)))))
  else if v22 = (1 : Int32) then
  chk (isO σ 4 a0) (bd (hR σ a0 7) fun i68 =>
  chk (isO σ 1 i68) (bc (f_X1_fromTo i68 a2 (0 : Int64) (0 : Int64) σ) fun r73 σ74 =>
  some ((), σ74)))
  else if v22 = (2 : Int32) then
  chk (isO σ 4 a0) (bd (hR σ a0 7) fun i82 =>
  chk (isO σ 1 i82) (bc (f_X1_less i82 a2 i82 v8 σ) fun r90 σ91 =>
  some ((), σ91)))
  else if v22 = (3 : Int32) then
  chk (isO σ 4 a0) (bd (hR σ a0 7) fun i99 =>
  chk (isO σ 1 i99) (bc (f_X1_sum i99 a2 i99 v8 i99 v15 σ) fun r110 σ111 =>
  some ((), σ111)))
  else if v22 = (4 : Int32) then
  chk (isO σ 4 a0) (bd (hR σ a0 7) fun i119 =>
  chk (isO σ 1 i119) (bc (f_X1_difference i119 a2 i119 v8 i119 v15 σ) fun r130 σ131 =>
  some ((), σ131)))
  else chk (isO σ 4 a0) (bd (hR σ a0 8) fun i136 =>
  bd (hR σ a0 7) fun i139 =>
  bd (hR σ a0 6) fun i142 =>
  chk (isO σ 1 i136) (bc (f_X1_product i136 (0 : Int32) i139 v8 i142 v15 σ) fun r147 σ148 =>
  chk (isO σ148 4 a0) (bd (hR σ148 a0 8) fun i153 =>
  bd (hR σ148 a0 6) fun i156 =>
  bd (hR σ148 a0 7) fun i159 =>
  chk (isO σ148 1 i153) (bc (f_X1_product i153 (1 : Int32) i156 v8 i159 v15 σ148) fun r164 σ165 =>
  chk (isO σ165 4 a0) (bd (hR σ165 a0 7) fun i170 =>
  bd (hR σ165 a0 8) fun i173 =>
  chk (isO σ165 1 i170) (bc (f_X1_sum i170 a2 i173 (0 : Int32) i173 (1 : Int32) σ165) fun r181 σ182 =>
  some ((), σ182))))))))))))
abbrev rm_X4_changePart : Room := { frames := 2, cells := 0, slots := 0, locals := 128 }
set_option maxHeartbeats 4000000 in
set_option maxRecDepth 100000 in
theorem c_X4_changePart (l : Launch) (D : va_G) (cs : Nat → ClassId) (q : Nat → Nat) (a0 : Nat) (a1 : Nat) (a2 : Int32) (a3 : Int32) (σ σ0 : HS) (r0 : Unit) (hf0 : f_X4_changePart a0 a1 a2 a3 σ = some (r0, σ0)) : MT l yX4_changePart (Cond.code yX4_changePart cX4_changePart 7 none :: lw_g) rm_X4_changePart D cs q σ σ0 [.ref (q a0), .ref (q a1), .int a2, .int a3] (fun z => z = q) (fun _ => none) 0 0 := by
  unfold f_X4_changePart at hf0
  refine MT_of (cc := cX4_changePart) (lv0 := [(0, .ref (q a0)), (1, .ref (q a1)), (2, .int a2), (3, .int a3)]) (by decide) (Nat.le_of_ble_eq_true rfl) rfl (fun p e s m args below meth c A X hr hlk hin => ?_)
  refine j_aload_n X dX4_changePart_0 1 rfl rfl ?_
  obtain ⟨h1, hf2⟩ := chk_of hf0; clear hf0
  obtain ⟨i3, h4, hf5⟩ := bd_of hf2; clear hf2
  refine j_getr X fd_X4_81 h1 h4 dX4_changePart_1 ?_
  refine j_iload_n X dX4_changePart_4 2 rfl rfl ?_
  obtain ⟨h6, hf7⟩ := chk_of hf5; clear hf5
  refine j_iald X h6 dX4_changePart_5 (fun v8 ev8 => ?_)
  replace hf7 := lt_of hf7 v8 ev8
  refine j_istore X (lv' := [(4, .int v8), (0, .ref (q a0)), (1, .ref (q a1)), (2, .int a2), (3, .int a3)]) dX4_changePart_6 (by decide) rfl ?_
  refine j_aload_n X dX4_changePart_8 2 rfl rfl ?_
  obtain ⟨i10, h11, hf12⟩ := bd_of hf7; clear hf7
  refine j_getr X fd_X4_84 h1 h11 dX4_changePart_9 ?_
  refine j_iload_n X dX4_changePart_12 3 rfl rfl ?_
  obtain ⟨h13, hf14⟩ := chk_of hf12; clear hf12
  refine j_iald X h13 dX4_changePart_13 (fun v15 ev15 => ?_)
  replace hf14 := lt_of hf14 v15 ev15
  refine j_istore X (lv' := [(5, .int v15), (4, .int v8), (0, .ref (q a0)), (1, .ref (q a1)), (2, .int a2), (3, .int a3)]) dX4_changePart_14 (by decide) rfl ?_
  refine j_aload_n X dX4_changePart_16 3 rfl rfl ?_
  obtain ⟨i17, h18, hf19⟩ := bd_of hf14; clear hf14
  refine j_getr X fd_X4_90 h1 h18 dX4_changePart_17 ?_
  refine j_iload_n X dX4_changePart_20 4 rfl rfl ?_
  obtain ⟨h20, hf21⟩ := chk_of hf19; clear hf19
  refine j_iald X h20 dX4_changePart_21 (fun v22 ev22 => ?_)
  replace hf21 := lt_of hf21 v22 ev22
  by_cases c24 : v22 = (0 : Int32)
  · have hf25 := br_y hf21 c24; clear hf21
    refine j_tabIn X (v := 0) (tgt := 56) dX4_changePart_22 c24 (by decide) (by decide) rfl (by decide) ?_
    refine j_aload_n X dX4_changePart_56 3 rfl rfl ?_
    obtain ⟨i27, h28, hf29⟩ := bd_of hf25; clear hf25
    refine j_getr X fd_X4_87 h1 h28 dX4_changePart_57 ?_
    refine j_iload_n X dX4_changePart_60 4 rfl rfl ?_
    obtain ⟨h30, hf31⟩ := chk_of hf29; clear hf29
    refine j_iald X h30 dX4_changePart_61 (fun v32 ev32 => ?_)
    replace hf31 := lt_of hf31 v32 ev32
    refine j_iload_n X dX4_changePart_62 5 rfl rfl ?_
    refine j_icmp_ne X (tgt := 70) dX4_changePart_63 (by decide) (fun c34 => ?_) (fun c34 => ?_)
    · have hf35 := br_n hf31 c34; clear hf31
      refine j_iconst X (v := 0) dX4_changePart_70 (by decide) ?_
      refine j_nmi (fun v37 ev37 => ?_)
      replace hf35 := lt_of hf35 v37 ev37
      refine j_istore X (lv' := [(6, .int v37), (5, .int v15), (4, .int v8), (0, .ref (q a0)), (1, .ref (q a1)), (2, .int a2), (3, .int a3)]) dX4_changePart_71 (by decide) rfl ?_
      refine j_aload_n X dX4_changePart_73 3 rfl rfl ?_
      obtain ⟨h39, hf40⟩ := chk_of hf35; clear hf35
      obtain ⟨i41, h42, hf43⟩ := bd_of hf40; clear hf40
      refine j_getr X fd_X4_41 h39 h42 dX4_changePart_74 ?_
      refine j_iload_n X dX4_changePart_77 5 rfl rfl ?_
      refine j_iload X dX4_changePart_78 0 rfl ?_
      refine j_i2l X dX4_changePart_80 ?_
      refine j_iload X dX4_changePart_81 0 rfl ?_
      refine j_i2l X dX4_changePart_83 ?_
      obtain ⟨h44, hf45⟩ := chk_of hf43; clear hf43
      obtain ⟨r46, σ47, h48, hf49⟩ := bc_of hf45; clear hf45
      refine j_callV0 X [.int a2, .long (v37).toInt64, .long (v37).toInt64] [] (c_X1_fromTo l D cs q i41 a2 (v37).toInt64 (v37).toInt64 σ _ _ h48) mk_X1_fromTo mv_X1_fromTo ml_X4_93 h44 rfl (by decide) ⟨rfl, rfl⟩ ⟨Nat.le_of_ble_eq_true rfl, Nat.le_of_ble_eq_true rfl⟩ rfl (Nat.le_of_ble_eq_true rfl) ⟨Nat.le_of_ble_eq_true rfl, Nat.le_of_ble_eq_true rfl⟩ dX4_changePart_84 rfl (st' := []) rfl ?_
      refine j_goto X (tgt := 224) dX4_changePart_87 (by decide) ?_
      obtain ⟨er, es⟩ := rt_of hf49
      exact j_retv X hr hlk (Nat.le_of_ble_eq_true rfl) (Nat.le_of_ble_eq_true rfl) rfl es.symm rfl dX4_changePart_224
    · have hf36 := br_y hf31 c34; clear hf31
      refine j_iconst X (v := 1) dX4_changePart_66 (by decide) ?_
      refine j_goto X (tgt := 71) dX4_changePart_67 (by decide) ?_
      refine j_nmi (fun v50 ev50 => ?_)
      replace hf36 := lt_of hf36 v50 ev50
      refine j_istore X (lv' := [(6, .int v50), (5, .int v15), (4, .int v8), (0, .ref (q a0)), (1, .ref (q a1)), (2, .int a2), (3, .int a3)]) dX4_changePart_71 (by decide) rfl ?_
      refine j_aload_n X dX4_changePart_73 3 rfl rfl ?_
      obtain ⟨h52, hf53⟩ := chk_of hf36; clear hf36
      obtain ⟨i54, h55, hf56⟩ := bd_of hf53; clear hf53
      refine j_getr X fd_X4_41 h52 h55 dX4_changePart_74 ?_
      refine j_iload_n X dX4_changePart_77 5 rfl rfl ?_
      refine j_iload X dX4_changePart_78 0 rfl ?_
      refine j_i2l X dX4_changePart_80 ?_
      refine j_iload X dX4_changePart_81 0 rfl ?_
      refine j_i2l X dX4_changePart_83 ?_
      obtain ⟨h57, hf58⟩ := chk_of hf56; clear hf56
      obtain ⟨r59, σ60, h61, hf62⟩ := bc_of hf58; clear hf58
      refine j_callV0 X [.int a2, .long (v50).toInt64, .long (v50).toInt64] [] (c_X1_fromTo l D cs q i54 a2 (v50).toInt64 (v50).toInt64 σ _ _ h61) mk_X1_fromTo mv_X1_fromTo ml_X4_93 h57 rfl (by decide) ⟨rfl, rfl⟩ ⟨Nat.le_of_ble_eq_true rfl, Nat.le_of_ble_eq_true rfl⟩ rfl (Nat.le_of_ble_eq_true rfl) ⟨Nat.le_of_ble_eq_true rfl, Nat.le_of_ble_eq_true rfl⟩ dX4_changePart_84 rfl (st' := []) rfl ?_
      refine j_goto X (tgt := 224) dX4_changePart_87 (by decide) ?_
      obtain ⟨er, es⟩ := rt_of hf62
      exact j_retv X hr hlk (Nat.le_of_ble_eq_true rfl) (Nat.le_of_ble_eq_true rfl) rfl es.symm rfl dX4_changePart_224
  · have hf26 := br_n hf21 c24; clear hf21
    by_cases c63 : v22 = (1 : Int32)
    · have hf64 := br_y hf26 c63; clear hf26
      refine j_tabIn X (v := 1) (tgt := 90) dX4_changePart_22 c63 (by decide) (by decide) rfl (by decide) ?_
      refine j_aload_n X dX4_changePart_90 2 rfl rfl ?_
      obtain ⟨h66, hf67⟩ := chk_of hf64; clear hf64
      obtain ⟨i68, h69, hf70⟩ := bd_of hf67; clear hf67
      refine j_getr X fd_X4_41 h66 h69 dX4_changePart_91 ?_
      refine j_iload_n X dX4_changePart_94 4 rfl rfl ?_
      refine j_lconst X (v := 0) dX4_changePart_95 (by decide) ?_
      refine j_lconst X (v := 0) dX4_changePart_96 (by decide) ?_
      obtain ⟨h71, hf72⟩ := chk_of hf70; clear hf70
      obtain ⟨r73, σ74, h75, hf76⟩ := bc_of hf72; clear hf72
      refine j_callV0 X [.int a2, .long (0 : Int64), .long (0 : Int64)] [] (c_X1_fromTo l D cs q i68 a2 (0 : Int64) (0 : Int64) σ _ _ h75) mk_X1_fromTo mv_X1_fromTo ml_X4_93 h71 rfl (by decide) ⟨rfl, rfl⟩ ⟨Nat.le_of_ble_eq_true rfl, Nat.le_of_ble_eq_true rfl⟩ rfl (Nat.le_of_ble_eq_true rfl) ⟨Nat.le_of_ble_eq_true rfl, Nat.le_of_ble_eq_true rfl⟩ dX4_changePart_97 rfl (st' := []) rfl ?_
      refine j_goto X (tgt := 224) dX4_changePart_100 (by decide) ?_
      obtain ⟨er, es⟩ := rt_of hf76
      exact j_retv X hr hlk (Nat.le_of_ble_eq_true rfl) (Nat.le_of_ble_eq_true rfl) rfl es.symm rfl dX4_changePart_224
    · have hf65 := br_n hf26 c63; clear hf26
      by_cases c77 : v22 = (2 : Int32)
      · have hf78 := br_y hf65 c77; clear hf65
        refine j_tabIn X (v := 2) (tgt := 103) dX4_changePart_22 c77 (by decide) (by decide) rfl (by decide) ?_
        refine j_aload_n X dX4_changePart_103 2 rfl rfl ?_
        obtain ⟨h80, hf81⟩ := chk_of hf78; clear hf78
        obtain ⟨i82, h83, hf84⟩ := bd_of hf81; clear hf81
        refine j_getr X fd_X4_41 h80 h83 dX4_changePart_104 ?_
        refine j_iload_n X dX4_changePart_107 4 rfl rfl ?_
        refine j_aload_n X dX4_changePart_108 2 rfl rfl ?_
        refine j_getr X fd_X4_41 h80 h83 dX4_changePart_109 ?_
        refine j_iload X dX4_changePart_112 1 rfl ?_
        obtain ⟨h88, hf89⟩ := chk_of hf84; clear hf84
        obtain ⟨r90, σ91, h92, hf93⟩ := bc_of hf89; clear hf89
        refine j_callV0 X [.int a2, .ref (q i82), .int v8] [] (c_X1_less l D cs q i82 a2 i82 v8 σ _ _ h92) mk_X1_less mv_X1_less ml_X4_97 h88 rfl (by decide) ⟨rfl, rfl⟩ ⟨Nat.le_of_ble_eq_true rfl, Nat.le_of_ble_eq_true rfl⟩ rfl (Nat.le_of_ble_eq_true rfl) ⟨Nat.le_of_ble_eq_true rfl, Nat.le_of_ble_eq_true rfl⟩ dX4_changePart_114 rfl (st' := []) rfl ?_
        refine j_goto X (tgt := 224) dX4_changePart_117 (by decide) ?_
        obtain ⟨er, es⟩ := rt_of hf93
        exact j_retv X hr hlk (Nat.le_of_ble_eq_true rfl) (Nat.le_of_ble_eq_true rfl) rfl es.symm rfl dX4_changePart_224
      · have hf79 := br_n hf65 c77; clear hf65
        by_cases c94 : v22 = (3 : Int32)
        · have hf95 := br_y hf79 c94; clear hf79
          refine j_tabIn X (v := 3) (tgt := 120) dX4_changePart_22 c94 (by decide) (by decide) rfl (by decide) ?_
          refine j_aload_n X dX4_changePart_120 2 rfl rfl ?_
          obtain ⟨h97, hf98⟩ := chk_of hf95; clear hf95
          obtain ⟨i99, h100, hf101⟩ := bd_of hf98; clear hf98
          refine j_getr X fd_X4_41 h97 h100 dX4_changePart_121 ?_
          refine j_iload_n X dX4_changePart_124 4 rfl rfl ?_
          refine j_aload_n X dX4_changePart_125 2 rfl rfl ?_
          refine j_getr X fd_X4_41 h97 h100 dX4_changePart_126 ?_
          refine j_iload X dX4_changePart_129 1 rfl ?_
          refine j_aload_n X dX4_changePart_131 2 rfl rfl ?_
          refine j_getr X fd_X4_41 h97 h100 dX4_changePart_132 ?_
          refine j_iload X dX4_changePart_135 0 rfl ?_
          obtain ⟨h108, hf109⟩ := chk_of hf101; clear hf101
          obtain ⟨r110, σ111, h112, hf113⟩ := bc_of hf109; clear hf109
          refine j_callV0 X [.int a2, .ref (q i99), .int v8, .ref (q i99), .int v15] [] (c_X1_sum l D cs q i99 a2 i99 v8 i99 v15 σ _ _ h112) mk_X1_sum mv_X1_sum ml_X4_101 h108 rfl (by decide) ⟨rfl, rfl⟩ ⟨Nat.le_of_ble_eq_true rfl, Nat.le_of_ble_eq_true rfl⟩ rfl (Nat.le_of_ble_eq_true rfl) ⟨Nat.le_of_ble_eq_true rfl, Nat.le_of_ble_eq_true rfl⟩ dX4_changePart_137 rfl (st' := []) rfl ?_
          refine j_goto X (tgt := 224) dX4_changePart_140 (by decide) ?_
          obtain ⟨er, es⟩ := rt_of hf113
          exact j_retv X hr hlk (Nat.le_of_ble_eq_true rfl) (Nat.le_of_ble_eq_true rfl) rfl es.symm rfl dX4_changePart_224
        · have hf96 := br_n hf79 c94; clear hf79
          by_cases c114 : v22 = (4 : Int32)
          · have hf115 := br_y hf96 c114; clear hf96
            refine j_tabIn X (v := 4) (tgt := 143) dX4_changePart_22 c114 (by decide) (by decide) rfl (by decide) ?_
            refine j_aload_n X dX4_changePart_143 2 rfl rfl ?_
            obtain ⟨h117, hf118⟩ := chk_of hf115; clear hf115
            obtain ⟨i119, h120, hf121⟩ := bd_of hf118; clear hf118
            refine j_getr X fd_X4_41 h117 h120 dX4_changePart_144 ?_
            refine j_iload_n X dX4_changePart_147 4 rfl rfl ?_
            refine j_aload_n X dX4_changePart_148 2 rfl rfl ?_
            refine j_getr X fd_X4_41 h117 h120 dX4_changePart_149 ?_
            refine j_iload X dX4_changePart_152 1 rfl ?_
            refine j_aload_n X dX4_changePart_154 2 rfl rfl ?_
            refine j_getr X fd_X4_41 h117 h120 dX4_changePart_155 ?_
            refine j_iload X dX4_changePart_158 0 rfl ?_
            obtain ⟨h128, hf129⟩ := chk_of hf121; clear hf121
            obtain ⟨r130, σ131, h132, hf133⟩ := bc_of hf129; clear hf129
            refine j_callV0 X [.int a2, .ref (q i119), .int v8, .ref (q i119), .int v15] [] (c_X1_difference l D cs q i119 a2 i119 v8 i119 v15 σ _ _ h132) mk_X1_difference mv_X1_difference ml_X4_105 h128 rfl (by decide) ⟨rfl, rfl⟩ ⟨Nat.le_of_ble_eq_true rfl, Nat.le_of_ble_eq_true rfl⟩ rfl (Nat.le_of_ble_eq_true rfl) ⟨Nat.le_of_ble_eq_true rfl, Nat.le_of_ble_eq_true rfl⟩ dX4_changePart_160 rfl (st' := []) rfl ?_
            refine j_goto X (tgt := 224) dX4_changePart_163 (by decide) ?_
            obtain ⟨er, es⟩ := rt_of hf133
            exact j_retv X hr hlk (Nat.le_of_ble_eq_true rfl) (Nat.le_of_ble_eq_true rfl) rfl es.symm rfl dX4_changePart_224
          · have hf116 := br_n hf96 c114; clear hf96
            refine j_tabOut X (tgt := 166) dX4_changePart_22 (by have z0 := lv_neT c24 (show ((0 : Int32)).toInt = 0 from rfl); have z1 := lv_neT c63 (show ((1 : Int32)).toInt = 1 from rfl); have z2 := lv_neT c77 (show ((2 : Int32)).toInt = 2 from rfl); have z3 := lv_neT c94 (show ((3 : Int32)).toInt = 3 from rfl); have z4 := lv_neT c114 (show ((4 : Int32)).toInt = 4 from rfl); omega) (by decide) ?_
            refine j_aload_n X dX4_changePart_166 2 rfl rfl ?_
            obtain ⟨h134, hf135⟩ := chk_of hf116; clear hf116
            obtain ⟨i136, h137, hf138⟩ := bd_of hf135; clear hf135
            refine j_getr X fd_X4_44 h134 h137 dX4_changePart_167 ?_
            refine j_iconst X (v := 0) dX4_changePart_170 (by decide) ?_
            refine j_aload_n X dX4_changePart_171 2 rfl rfl ?_
            obtain ⟨i139, h140, hf141⟩ := bd_of hf138; clear hf138
            refine j_getr X fd_X4_41 h134 h140 dX4_changePart_172 ?_
            refine j_iload X dX4_changePart_175 1 rfl ?_
            refine j_aload_n X dX4_changePart_177 2 rfl rfl ?_
            obtain ⟨i142, h143, hf144⟩ := bd_of hf141; clear hf141
            refine j_getr X fd_X4_37 h134 h143 dX4_changePart_178 ?_
            refine j_iload X dX4_changePart_181 0 rfl ?_
            obtain ⟨h145, hf146⟩ := chk_of hf144; clear hf144
            obtain ⟨r147, σ148, h149, hf150⟩ := bc_of hf146; clear hf146
            refine j_callV0 X [.int (0 : Int32), .ref (q i139), .int v8, .ref (q i142), .int v15] [] (c_X1_product l D cs q i136 (0 : Int32) i139 v8 i142 v15 σ _ _ h149) mk_X1_product mv_X1_product ml_X4_108 h145 rfl (by decide) ⟨rfl, rfl⟩ ⟨Nat.le_of_ble_eq_true rfl, Nat.le_of_ble_eq_true rfl⟩ rfl (Nat.le_of_ble_eq_true rfl) ⟨Nat.le_of_ble_eq_true rfl, Nat.le_of_ble_eq_true rfl⟩ dX4_changePart_183 rfl (st' := []) rfl ?_
            refine j_aload_n X dX4_changePart_186 2 rfl rfl ?_
            obtain ⟨h151, hf152⟩ := chk_of hf150; clear hf150
            obtain ⟨i153, h154, hf155⟩ := bd_of hf152; clear hf152
            refine j_getr X fd_X4_44 h151 h154 dX4_changePart_187 ?_
            refine j_iconst X (v := 1) dX4_changePart_190 (by decide) ?_
            refine j_aload_n X dX4_changePart_191 2 rfl rfl ?_
            obtain ⟨i156, h157, hf158⟩ := bd_of hf155; clear hf155
            refine j_getr X fd_X4_37 h151 h157 dX4_changePart_192 ?_
            refine j_iload X dX4_changePart_195 1 rfl ?_
            refine j_aload_n X dX4_changePart_197 2 rfl rfl ?_
            obtain ⟨i159, h160, hf161⟩ := bd_of hf158; clear hf158
            refine j_getr X fd_X4_41 h151 h160 dX4_changePart_198 ?_
            refine j_iload X dX4_changePart_201 0 rfl ?_
            obtain ⟨h162, hf163⟩ := chk_of hf161; clear hf161
            obtain ⟨r164, σ165, h166, hf167⟩ := bc_of hf163; clear hf163
            refine j_callV0 X [.int (1 : Int32), .ref (q i156), .int v8, .ref (q i159), .int v15] [] (c_X1_product l D cs q i153 (1 : Int32) i156 v8 i159 v15 σ148 _ _ h166) mk_X1_product mv_X1_product ml_X4_108 h162 rfl (by decide) ⟨rfl, rfl⟩ ⟨Nat.le_of_ble_eq_true rfl, Nat.le_of_ble_eq_true rfl⟩ rfl (Nat.le_of_ble_eq_true rfl) ⟨Nat.le_of_ble_eq_true rfl, Nat.le_of_ble_eq_true rfl⟩ dX4_changePart_203 rfl (st' := []) rfl ?_
            refine j_aload_n X dX4_changePart_206 2 rfl rfl ?_
            obtain ⟨h168, hf169⟩ := chk_of hf167; clear hf167
            obtain ⟨i170, h171, hf172⟩ := bd_of hf169; clear hf169
            refine j_getr X fd_X4_41 h168 h171 dX4_changePart_207 ?_
            refine j_iload_n X dX4_changePart_210 4 rfl rfl ?_
            refine j_aload_n X dX4_changePart_211 2 rfl rfl ?_
            obtain ⟨i173, h174, hf175⟩ := bd_of hf172; clear hf172
            refine j_getr X fd_X4_44 h168 h174 dX4_changePart_212 ?_
            refine j_iconst X (v := 0) dX4_changePart_215 (by decide) ?_
            refine j_aload_n X dX4_changePart_216 2 rfl rfl ?_
            refine j_getr X fd_X4_44 h168 h174 dX4_changePart_217 ?_
            refine j_iconst X (v := 1) dX4_changePart_220 (by decide) ?_
            obtain ⟨h179, hf180⟩ := chk_of hf175; clear hf175
            obtain ⟨r181, σ182, h183, hf184⟩ := bc_of hf180; clear hf180
            refine j_callV0 X [.int a2, .ref (q i173), .int (0 : Int32), .ref (q i173), .int (1 : Int32)] [] (c_X1_sum l D cs q i170 a2 i173 (0 : Int32) i173 (1 : Int32) σ165 _ _ h183) mk_X1_sum mv_X1_sum ml_X4_101 h179 rfl (by decide) ⟨rfl, rfl⟩ ⟨Nat.le_of_ble_eq_true rfl, Nat.le_of_ble_eq_true rfl⟩ rfl (Nat.le_of_ble_eq_true rfl) ⟨Nat.le_of_ble_eq_true rfl, Nat.le_of_ble_eq_true rfl⟩ dX4_changePart_221 rfl (st' := []) rfl ?_
            obtain ⟨er, es⟩ := rt_of hf184
            exact j_retv X hr hlk (Nat.le_of_ble_eq_true rfl) (Nat.le_of_ble_eq_true rfl) rfl es.symm rfl dX4_changePart_224
def lp_X4_changeBy_2_b  (K2 : Nat → Nat → Int32 → Int32 → HS → Option (Int32 × HS)) (x0 : Nat) (x1 : Nat) (x2 : Int32) (x3 : Int32) (τ : HS) : Option (Int32 × HS) :=
  chk (isO τ 0 x1) (lt (hA τ x1 0) fun v5 =>
  (if v5 ≤ x3 then
  lt (hA τ x1 0) fun v10 =>
  lt ((v10 - (1 : Int32))) fun v12 =>
  chk (isO τ 4 x0) (bd (hR τ x0 7) fun i16 =>
  chk (isO τ 1 i16) (bd (hR τ i16 2) fun i21 =>
  chk (isO τ 11 i21 ∧ inb v12 (hlen τ i21)) (lt (hA τ i21 v12.toNatClampNeg) fun v26 =>
  (if v26 = 0 then
  bd (hR τ i16 0) fun i34 =>
  chk (isO τ 12 i34 ∧ inb v12 (hlen τ i34)) (lt (hB τ i34 v12.toNatClampNeg) fun v39 =>
  (if (lg_cmp v39 (0 : Int64)) = 0 then
  bd (hR τ i16 1) fun i73 =>
  chk (isO τ 12 i73 ∧ inb v12 (hlen τ i73)) (lt (hB τ i73 v12.toNatClampNeg) fun v78 =>
  (if (lg_cmp v78 (0 : Int64)) = 0 then
  some ((0 : Int32), τ)
  else
  chk (isO τ 12 i34 ∧ inb v12 (hlen τ i34)) (lt (hB τ i34 v12.toNatClampNeg) fun v91 =>
  (if (lg_cmp v91 (0 : Int64)) < 0 then
  chk (isO τ 12 i73 ∧ inb v12 (hlen τ i73)) (lt (hB τ i73 v12.toNatClampNeg) fun v104 =>
  (if 0 < (lg_cmp v104 (0 : Int64)) then
  some ((3 : Int32), τ)
  else
  some ((2 : Int32), τ)))
  else
  some ((1 : Int32), τ)))))
  else
  chk (isO τ 12 i34 ∧ inb v12 (hlen τ i34)) (lt (hB τ i34 v12.toNatClampNeg) fun v52 =>
  (if (lg_cmp v52 (0 : Int64)) < 0 then
  bd (hR τ i16 1) fun i60 =>
  chk (isO τ 12 i60 ∧ inb v12 (hlen τ i60)) (lt (hB τ i60 v12.toNatClampNeg) fun v65 =>
  (if 0 < (lg_cmp v65 (0 : Int64)) then
  some ((3 : Int32), τ)
  else
  some ((2 : Int32), τ)))
  else
  some ((1 : Int32), τ)))))
  else
  some ((3 : Int32), τ)))))
  else
  chk (isO τ 4 x0) (bc (f_X4_changePart x0 x1 x3 x2 τ) fun r111 σ112 =>
  lt (x3 + (1 : Int32)) fun v115 =>
  K2 x0 x1 x2 v115 σ112)))
def lp_X4_changeBy_2  : Nat → Nat → Nat → Int32 → Int32 → HS → Option (Int32 × HS)
  | 0 => fun _ _ _ _ _ => none
  | n + 1 => lp_X4_changeBy_2_b  (lp_X4_changeBy_2  n)
def f_X4_changeBy (a0 : Nat) (a1 : Nat) (a2 : Int32) (σ : HS) : Option (Int32 × HS) :=
  lt ((0 : Int32)) fun v1 =>
  lp_X4_changeBy_2  1000 a0 a1 a2 v1 σ
abbrev rm_X4_changeBy : Room := { frames := 3, cells := 0, slots := 0, locals := 192 }
set_option maxHeartbeats 4000000 in
set_option maxRecDepth 100000 in
theorem c_X4_changeBy (l : Launch) (D : va_G) (cs : Nat → ClassId) (q : Nat → Nat) (a0 : Nat) (a1 : Nat) (a2 : Int32) (σ σ0 : HS) (r0 : Int32) (hf0 : f_X4_changeBy a0 a1 a2 σ = some (r0, σ0)) : MT l yX4_changeBy (Cond.code yX4_changeBy cX4_changeBy 4 (some .int) :: lw_g) rm_X4_changeBy D cs q σ σ0 [.ref (q a0), .ref (q a1), .int a2] (fun z => z = q) (fun _ => some (.int r0)) 0 0 := by
  unfold f_X4_changeBy at hf0
  refine MT_of (cc := cX4_changeBy) (lv0 := [(0, .ref (q a0)), (1, .ref (q a1)), (2, .int a2)]) (by decide) (Nat.le_of_ble_eq_true rfl) rfl (fun p e s m args below meth c A X hr hlk hin => ?_)
  have L2 : ∀ (nk : Nat) (x0 : Nat) (x1 : Nat) (x2 : Int32) (x3 : Int32) (τ : HS), lp_X4_changeBy_2  nk x0 x1 x2 x3 τ = some (r0, σ0) → J p l e rm_X4_changeBy s m args below meth c 4 D cs A s.heap 0 0 (MQ below (hQ D cs (fun z => z = q) (fun _ => some (.int r0)) σ0 A) args s 0 0 A) q τ [(0, .ref (q x0)), (1, .ref (q x1)), (2, .int x2), (3, .int x3)] 2 [] := by
    intro nk
    induction nk with
    | zero => intro x0 x1 x2 x3 τ hf0; have hf1 : (none : Option (Int32 × HS)) = some (r0, σ0) := hf0; cases hf1
    | succ nk ih =>
      intro x0 x1 x2 x3 τ hf0
      replace hf0 : lp_X4_changeBy_2_b  (lp_X4_changeBy_2  nk) x0 x1 x2 x3 τ = some (r0, σ0) := hf0
      unfold lp_X4_changeBy_2_b at hf0
      refine j_iload_n X dX4_changeBy_2 3 rfl rfl ?_
      refine j_aload_n X dX4_changeBy_3 1 rfl rfl ?_
      obtain ⟨h3, hf4⟩ := chk_of hf0; clear hf0
      refine j_geti X fd_X4_64 h3 dX4_changeBy_4 (fun v5 ev5 => ?_)
      replace hf4 := lt_of hf4 v5 ev5
      refine j_icmp_ge X (tgt := 23) dX4_changeBy_7 (by decide) (fun c7 => ?_) (fun c7 => ?_)
      · have hf8 := br_y hf4 c7; clear hf4
        refine j_aload_n X dX4_changeBy_23 1 rfl rfl ?_
        refine j_geti X fd_X4_64 h3 dX4_changeBy_24 (fun v10 ev10 => ?_)
        replace hf8 := lt_of hf8 v10 ev10
        refine j_iconst X (v := 1) dX4_changeBy_27 (by decide) ?_
        refine j_isub X dX4_changeBy_28 ?_
        refine j_nmi (fun v12 ev12 => ?_)
        replace hf8 := lt_of hf8 v12 ev12
        refine j_istore_n X (lv' := [(3, .int v12), (0, .ref (q x0)), (1, .ref (q x1)), (2, .int x2)]) dX4_changeBy_29 rfl (by decide) rfl ?_
        refine j_aload_n X dX4_changeBy_30 1 rfl rfl ?_
        obtain ⟨h14, hf15⟩ := chk_of hf8; clear hf8
        obtain ⟨i16, h17, hf18⟩ := bd_of hf15; clear hf15
        refine j_getr X fd_X4_41 h14 h17 dX4_changeBy_31 ?_
        obtain ⟨h19, hf20⟩ := chk_of hf18; clear hf18
        obtain ⟨i21, h22, hf23⟩ := bd_of hf20; clear hf20
        refine j_getr X fd_X4_74 h19 h22 dX4_changeBy_34 ?_
        refine j_iload_n X dX4_changeBy_37 0 rfl rfl ?_
        obtain ⟨h24, hf25⟩ := chk_of hf23; clear hf23
        refine j_zald X h24 dX4_changeBy_38 (fun v26 ev26 => ?_)
        replace hf25 := lt_of hf25 v26 ev26
        refine j_if_eq X (tgt := 44) dX4_changeBy_39 (by decide) (fun c28 => ?_) (fun c28 => ?_)
        · have hf29 := br_y hf25 c28; clear hf25
          refine j_aload_n X dX4_changeBy_44 1 rfl rfl ?_
          refine j_getr X fd_X4_41 h14 h17 dX4_changeBy_45 ?_
          obtain ⟨i34, h35, hf36⟩ := bd_of hf29; clear hf29
          refine j_getr X fd_X4_77 h19 h35 dX4_changeBy_48 ?_
          refine j_iload_n X dX4_changeBy_51 0 rfl rfl ?_
          obtain ⟨h37, hf38⟩ := chk_of hf36; clear hf36
          refine j_lald X h37 dX4_changeBy_52 (fun v39 ev39 => ?_)
          replace hf38 := lt_of hf38 v39 ev39
          refine j_lconst X (v := 0) dX4_changeBy_53 (by decide) ?_
          refine j_lcmp X dX4_changeBy_54 ?_
          refine j_if_ne X (tgt := 74) dX4_changeBy_55 (by decide) (fun c41 => ?_) (fun c41 => ?_)
          · have hf42 := br_n hf38 c41; clear hf38
            refine j_aload_n X dX4_changeBy_74 1 rfl rfl ?_
            refine j_getr X fd_X4_41 h14 h17 dX4_changeBy_75 ?_
            refine j_getr X fd_X4_77 h19 h35 dX4_changeBy_78 ?_
            refine j_iload_n X dX4_changeBy_81 0 rfl rfl ?_
            obtain ⟨h50, hf51⟩ := chk_of hf42; clear hf42
            refine j_lald X h50 dX4_changeBy_82 (fun v52 ev52 => ?_)
            replace hf51 := lt_of hf51 v52 ev52
            refine j_lconst X (v := 0) dX4_changeBy_83 (by decide) ?_
            refine j_lcmp X dX4_changeBy_84 ?_
            refine j_if_lt X (tgt := 90) dX4_changeBy_85 (by decide) (fun c54 => ?_) (fun c54 => ?_)
            · have hf55 := br_y hf51 c54; clear hf51
              refine j_aload_n X dX4_changeBy_90 1 rfl rfl ?_
              refine j_getr X fd_X4_41 h14 h17 dX4_changeBy_91 ?_
              obtain ⟨i60, h61, hf62⟩ := bd_of hf55; clear hf55
              refine j_getr X fd_X4_79 h19 h61 dX4_changeBy_94 ?_
              refine j_iload_n X dX4_changeBy_97 0 rfl rfl ?_
              obtain ⟨h63, hf64⟩ := chk_of hf62; clear hf62
              refine j_lald X h63 dX4_changeBy_98 (fun v65 ev65 => ?_)
              replace hf64 := lt_of hf64 v65 ev65
              refine j_lconst X (v := 0) dX4_changeBy_99 (by decide) ?_
              refine j_lcmp X dX4_changeBy_100 ?_
              refine j_if_gt X (tgt := 108) dX4_changeBy_101 (by decide) (fun c67 => ?_) (fun c67 => ?_)
              · have hf68 := br_y hf64 c67; clear hf64
                refine j_iconst X (v := 3) dX4_changeBy_108 (by decide) ?_
                obtain ⟨er, es⟩ := rt_of hf68
                subst er
                exact j_reti X hr hlk (Nat.le_of_ble_eq_true rfl) (Nat.le_of_ble_eq_true rfl) rfl es.symm rfl dX4_changeBy_109
              · have hf69 := br_n hf64 c67; clear hf64
                refine j_iconst X (v := 2) dX4_changeBy_104 (by decide) ?_
                refine j_goto X (tgt := 109) dX4_changeBy_105 (by decide) ?_
                obtain ⟨er, es⟩ := rt_of hf69
                subst er
                exact j_reti X hr hlk (Nat.le_of_ble_eq_true rfl) (Nat.le_of_ble_eq_true rfl) rfl es.symm rfl dX4_changeBy_109
            · have hf56 := br_n hf51 c54; clear hf51
              refine j_iconst X (v := 1) dX4_changeBy_88 (by decide) ?_
              obtain ⟨er, es⟩ := rt_of hf56
              subst er
              exact j_reti X hr hlk (Nat.le_of_ble_eq_true rfl) (Nat.le_of_ble_eq_true rfl) rfl es.symm rfl dX4_changeBy_89
          · have hf43 := br_y hf38 c41; clear hf38
            refine j_aload_n X dX4_changeBy_58 1 rfl rfl ?_
            refine j_getr X fd_X4_41 h14 h17 dX4_changeBy_59 ?_
            obtain ⟨i73, h74, hf75⟩ := bd_of hf43; clear hf43
            refine j_getr X fd_X4_79 h19 h74 dX4_changeBy_62 ?_
            refine j_iload_n X dX4_changeBy_65 0 rfl rfl ?_
            obtain ⟨h76, hf77⟩ := chk_of hf75; clear hf75
            refine j_lald X h76 dX4_changeBy_66 (fun v78 ev78 => ?_)
            replace hf77 := lt_of hf77 v78 ev78
            refine j_lconst X (v := 0) dX4_changeBy_67 (by decide) ?_
            refine j_lcmp X dX4_changeBy_68 ?_
            refine j_if_ne X (tgt := 74) dX4_changeBy_69 (by decide) (fun c80 => ?_) (fun c80 => ?_)
            · have hf81 := br_n hf77 c80; clear hf77
              refine j_aload_n X dX4_changeBy_74 1 rfl rfl ?_
              refine j_getr X fd_X4_41 h14 h17 dX4_changeBy_75 ?_
              refine j_getr X fd_X4_77 h19 h35 dX4_changeBy_78 ?_
              refine j_iload_n X dX4_changeBy_81 0 rfl rfl ?_
              obtain ⟨h89, hf90⟩ := chk_of hf81; clear hf81
              refine j_lald X h89 dX4_changeBy_82 (fun v91 ev91 => ?_)
              replace hf90 := lt_of hf90 v91 ev91
              refine j_lconst X (v := 0) dX4_changeBy_83 (by decide) ?_
              refine j_lcmp X dX4_changeBy_84 ?_
              refine j_if_lt X (tgt := 90) dX4_changeBy_85 (by decide) (fun c93 => ?_) (fun c93 => ?_)
              · have hf94 := br_y hf90 c93; clear hf90
                refine j_aload_n X dX4_changeBy_90 1 rfl rfl ?_
                refine j_getr X fd_X4_41 h14 h17 dX4_changeBy_91 ?_
                refine j_getr X fd_X4_79 h19 h74 dX4_changeBy_94 ?_
                refine j_iload_n X dX4_changeBy_97 0 rfl rfl ?_
                obtain ⟨h102, hf103⟩ := chk_of hf94; clear hf94
                refine j_lald X h102 dX4_changeBy_98 (fun v104 ev104 => ?_)
                replace hf103 := lt_of hf103 v104 ev104
                refine j_lconst X (v := 0) dX4_changeBy_99 (by decide) ?_
                refine j_lcmp X dX4_changeBy_100 ?_
                refine j_if_gt X (tgt := 108) dX4_changeBy_101 (by decide) (fun c106 => ?_) (fun c106 => ?_)
                · have hf107 := br_y hf103 c106; clear hf103
                  refine j_iconst X (v := 3) dX4_changeBy_108 (by decide) ?_
                  obtain ⟨er, es⟩ := rt_of hf107
                  subst er
                  exact j_reti X hr hlk (Nat.le_of_ble_eq_true rfl) (Nat.le_of_ble_eq_true rfl) rfl es.symm rfl dX4_changeBy_109
                · have hf108 := br_n hf103 c106; clear hf103
                  refine j_iconst X (v := 2) dX4_changeBy_104 (by decide) ?_
                  refine j_goto X (tgt := 109) dX4_changeBy_105 (by decide) ?_
                  obtain ⟨er, es⟩ := rt_of hf108
                  subst er
                  exact j_reti X hr hlk (Nat.le_of_ble_eq_true rfl) (Nat.le_of_ble_eq_true rfl) rfl es.symm rfl dX4_changeBy_109
              · have hf95 := br_n hf90 c93; clear hf90
                refine j_iconst X (v := 1) dX4_changeBy_88 (by decide) ?_
                obtain ⟨er, es⟩ := rt_of hf95
                subst er
                exact j_reti X hr hlk (Nat.le_of_ble_eq_true rfl) (Nat.le_of_ble_eq_true rfl) rfl es.symm rfl dX4_changeBy_89
            · have hf82 := br_y hf77 c80; clear hf77
              refine j_iconst X (v := 0) dX4_changeBy_72 (by decide) ?_
              obtain ⟨er, es⟩ := rt_of hf82
              subst er
              exact j_reti X hr hlk (Nat.le_of_ble_eq_true rfl) (Nat.le_of_ble_eq_true rfl) rfl es.symm rfl dX4_changeBy_73
        · have hf30 := br_n hf25 c28; clear hf25
          refine j_iconst X (v := 3) dX4_changeBy_42 (by decide) ?_
          obtain ⟨er, es⟩ := rt_of hf30
          subst er
          exact j_reti X hr hlk (Nat.le_of_ble_eq_true rfl) (Nat.le_of_ble_eq_true rfl) rfl es.symm rfl dX4_changeBy_43
      · have hf9 := br_n hf4 c7; clear hf4
        refine j_aload_n X dX4_changeBy_10 0 rfl rfl ?_
        refine j_aload_n X dX4_changeBy_11 1 rfl rfl ?_
        refine j_iload_n X dX4_changeBy_12 3 rfl rfl ?_
        refine j_iload_n X dX4_changeBy_13 2 rfl rfl ?_
        obtain ⟨h109, hf110⟩ := chk_of hf9; clear hf9
        obtain ⟨r111, σ112, h113, hf114⟩ := bc_of hf110; clear hf110
        refine j_callV0 X [.ref (q x1), .int x3, .int x2] [] (c_X4_changePart l D cs q x0 x1 x3 x2 τ _ _ h113) mk_X4_changePart mv_X4_changePart ml_X4_125 h109 rfl (by decide) ⟨rfl, rfl⟩ ⟨Nat.le_of_ble_eq_true rfl, Nat.le_of_ble_eq_true rfl⟩ rfl (Nat.le_of_ble_eq_true rfl) ⟨Nat.le_of_ble_eq_true rfl, Nat.le_of_ble_eq_true rfl⟩ dX4_changeBy_14 rfl (st' := []) rfl ?_
        obtain ⟨v115, ev115⟩ : ∃ y : Int32, y = x3 + (1 : Int32) := ⟨_, rfl⟩
        replace hf114 := lt_of hf114 v115 ev115
        refine j_iinc X (v := v115) (lv' := [(3, .int v115), (0, .ref (q x0)), (1, .ref (q x1)), (2, .int x2)]) dX4_changeBy_17 3 rfl (by rw [ev115]; rfl) (by decide) rfl ?_
        refine j_goto X (tgt := 2) dX4_changeBy_20 (by decide) ?_
        refine j_lvsub [1, 2, 3, 0] (lv' := [(0, .ref (q x0)), (1, .ref (q x1)), (2, .int x2), (3, .int v115)]) rfl ?_
        exact ih x0 x1 x2 v115 σ112 hf114
  refine j_iconst X (v := 0) dX4_changeBy_0 (by decide) ?_
  refine j_nmi (fun v1 ev1 => ?_)
  replace hf0 := lt_of hf0 v1 ev1
  refine j_istore_n X (lv' := [(3, .int v1), (0, .ref (q a0)), (1, .ref (q a1)), (2, .int a2)]) dX4_changeBy_1 rfl (by decide) rfl ?_
  refine j_lvsub [1, 2, 3, 0] (lv' := [(0, .ref (q a0)), (1, .ref (q a1)), (2, .int a2), (3, .int v1)]) rfl ?_
  exact L2  1000 a0 a1 a2 v1 σ hf0
def lp_X4_drawBy_5_b  (K5 : Nat → Int32 → Nat → Int32 → Int32 → HS → Option (Unit × HS)) (x0 : Nat) (x1 : Int32) (x2 : Nat) (x3 : Int32) (x4 : Int32) (τ : HS) : Option (Unit × HS) :=
  (if (6 : Int32) ≤ x4 then
  some ((), τ)
  else
  lt (((x3 * (1103515245 : Int32)) + (12345 : Int32))) fun v6 =>
  chk (isO τ 2 x2) (bd (hR τ x2 1) fun i10 =>
  chk (isO τ 10 i10 ∧ inb x4 (hlen τ i10)) (lt (hA τ i10 x4.toNatClampNeg) fun v15 =>
  lt ((((2 : Int32) * v15) + (1 : Int32))) fun v17 =>
  chk (isO τ 4 x0) (bd (hR τ x0 5) fun i21 =>
  bc (f_X2_lowOf x2 x4 τ) fun r24 σ25 =>
  chk (¬ v17 = 0) (chk (isO σ25 10 i21 ∧ inb x4 (hlen σ25 i21)) (lt (sA σ25 i21 x4.toNatClampNeg (r24 + (((v6 &&& (2147483647 : Int32)) / (65536 : Int32)) - ((v6 &&& (2147483647 : Int32)) / (65536 : Int32)) / v17 * v17))) fun σ32 =>
  lt (x4 + (1 : Int32)) fun v34 =>
  K5 x0 x1 x2 v6 v34 σ32))))))
def lp_X4_drawBy_5  : Nat → Nat → Int32 → Nat → Int32 → Int32 → HS → Option (Unit × HS)
  | 0 => fun _ _ _ _ _ _ => none
  | n + 1 => lp_X4_drawBy_5_b  (lp_X4_drawBy_5  n)
def f_X4_drawBy (a0 : Nat) (a1 : Int32) (a2 : Nat) (σ : HS) : Option (Unit × HS) :=
  lt ((0 : Int32)) fun v1 =>
  lp_X4_drawBy_5  1000 a0 a1 a2 a1 v1 σ
abbrev rm_X4_drawBy : Room := { frames := 1, cells := 0, slots := 0, locals := 64 }
set_option maxHeartbeats 4000000 in
set_option maxRecDepth 100000 in
theorem c_X4_drawBy (l : Launch) (D : va_G) (cs : Nat → ClassId) (q : Nat → Nat) (a0 : Nat) (a1 : Int32) (a2 : Nat) (σ σ0 : HS) (r0 : Unit) (hf0 : f_X4_drawBy a0 a1 a2 σ = some (r0, σ0)) : MT l yX4_drawBy (Cond.code yX4_drawBy cX4_drawBy 6 none :: lw_g) rm_X4_drawBy D cs q σ σ0 [.ref (q a0), .int a1, .ref (q a2)] (fun z => z = q) (fun _ => none) 0 0 := by
  unfold f_X4_drawBy at hf0
  refine MT_of (cc := cX4_drawBy) (lv0 := [(0, .ref (q a0)), (1, .int a1), (2, .ref (q a2))]) (by decide) (Nat.le_of_ble_eq_true rfl) rfl (fun p e s m args below meth c A X hr hlk hin => ?_)
  have L5 : ∀ (nk : Nat) (x0 : Nat) (x1 : Int32) (x2 : Nat) (x3 : Int32) (x4 : Int32) (τ : HS), lp_X4_drawBy_5  nk x0 x1 x2 x3 x4 τ = some (r0, σ0) → J p l e rm_X4_drawBy s m args below meth c 6 D cs A s.heap 0 0 (MQ below (hQ D cs (fun z => z = q) (fun _ => none) σ0 A) args s 0 0 A) q τ [(0, .ref (q x0)), (1, .int x1), (2, .ref (q x2)), (3, .int x3), (4, .int x4)] 5 [] := by
    intro nk
    induction nk with
    | zero => intro x0 x1 x2 x3 x4 τ hf0; have hf1 : (none : Option (Unit × HS)) = some (r0, σ0) := hf0; cases hf1
    | succ nk ih =>
      intro x0 x1 x2 x3 x4 τ hf0
      replace hf0 : lp_X4_drawBy_5_b  (lp_X4_drawBy_5  nk) x0 x1 x2 x3 x4 τ = some (r0, σ0) := hf0
      unfold lp_X4_drawBy_5_b at hf0
      refine j_iload X dX4_drawBy_5 4 rfl ?_
      refine j_bipush X (v := 6) dX4_drawBy_7 (by decide) ?_
      refine j_icmp_ge X (tgt := 64) dX4_drawBy_9 (by decide) (fun c3 => ?_) (fun c3 => ?_)
      · have hf4 := br_y hf0 c3; clear hf0
        obtain ⟨er, es⟩ := rt_of hf4
        exact j_retv X hr hlk (Nat.le_of_ble_eq_true rfl) (Nat.le_of_ble_eq_true rfl) rfl es.symm rfl dX4_drawBy_64
      · have hf5 := br_n hf0 c3; clear hf0
        refine j_iload_n X dX4_drawBy_12 3 rfl rfl ?_
        refine j_ldc X k_X4_133 dX4_drawBy_13 ?_
        refine j_imul X dX4_drawBy_15 ?_
        refine j_sipush X (v := 12345) dX4_drawBy_16 (by decide) ?_
        refine j_iadd X dX4_drawBy_19 ?_
        refine j_nmi (fun v6 ev6 => ?_)
        replace hf5 := lt_of hf5 v6 ev6
        refine j_istore_n X (lv' := [(3, .int v6), (0, .ref (q x0)), (1, .int x1), (2, .ref (q x2)), (4, .int x4)]) dX4_drawBy_20 rfl (by decide) rfl ?_
        refine j_iconst X (v := 2) dX4_drawBy_21 (by decide) ?_
        refine j_aload_n X dX4_drawBy_22 3 rfl rfl ?_
        obtain ⟨h8, hf9⟩ := chk_of hf5; clear hf5
        obtain ⟨i10, h11, hf12⟩ := bd_of hf9; clear hf9
        refine j_getr X fd_X4_134 h8 h11 dX4_drawBy_23 ?_
        refine j_iload X dX4_drawBy_26 4 rfl ?_
        obtain ⟨h13, hf14⟩ := chk_of hf12; clear hf12
        refine j_iald X h13 dX4_drawBy_28 (fun v15 ev15 => ?_)
        replace hf14 := lt_of hf14 v15 ev15
        refine j_imul X dX4_drawBy_29 ?_
        refine j_iconst X (v := 1) dX4_drawBy_30 (by decide) ?_
        refine j_iadd X dX4_drawBy_31 ?_
        refine j_nmi (fun v17 ev17 => ?_)
        replace hf14 := lt_of hf14 v17 ev17
        refine j_istore X (lv' := [(5, .int v17), (3, .int v6), (0, .ref (q x0)), (1, .int x1), (2, .ref (q x2)), (4, .int x4)]) dX4_drawBy_32 (by decide) rfl ?_
        refine j_aload_n X dX4_drawBy_34 2 rfl rfl ?_
        obtain ⟨h19, hf20⟩ := chk_of hf14; clear hf14
        obtain ⟨i21, h22, hf23⟩ := bd_of hf20; clear hf20
        refine j_getr X fd_X4_29 h19 h22 dX4_drawBy_35 ?_
        refine j_iload X dX4_drawBy_38 5 rfl ?_
        refine j_aload_n X dX4_drawBy_40 4 rfl rfl ?_
        refine j_iload X dX4_drawBy_41 5 rfl ?_
        obtain ⟨r24, σ25, h26, hf27⟩ := bc_of hf23; clear hf23
        refine j_callV0 X [.int x4] [.int x4, .ref (q i21)] (c_X2_lowOf l D cs q x2 x4 τ _ _ h26) mk_X2_lowOf mv_X2_lowOf ml_X4_51 h8 rfl (by decide) ⟨rfl, rfl⟩ ⟨Nat.le_of_ble_eq_true rfl, Nat.le_of_ble_eq_true rfl⟩ rfl (Nat.le_of_ble_eq_true rfl) ⟨Nat.le_of_ble_eq_true rfl, Nat.le_of_ble_eq_true rfl⟩ dX4_drawBy_43 rfl (st' := [.int r24, .int x4, .ref (q i21)]) rfl ?_
        refine j_iload_n X dX4_drawBy_46 1 rfl rfl ?_
        refine j_ldc X k_X4_139 dX4_drawBy_47 ?_
        refine j_iand X dX4_drawBy_49 ?_
        refine j_ldc X k_X4_140 dX4_drawBy_50 ?_
        refine j_idiv X dX4_drawBy_52 (by decide) ?_
        refine j_iload X dX4_drawBy_53 0 rfl ?_
        obtain ⟨h28, hf29⟩ := chk_of hf27; clear hf27
        refine j_irem X dX4_drawBy_55 h28 ?_
        refine j_iadd X dX4_drawBy_56 ?_
        obtain ⟨h30, hf31⟩ := chk_of hf29; clear hf29
        refine j_iast X h30 dX4_drawBy_57 (fun σ32 eσ32 => ?_)
        replace hf31 := lt_of hf31 σ32 eσ32
        obtain ⟨v34, ev34⟩ : ∃ y : Int32, y = x4 + (1 : Int32) := ⟨_, rfl⟩
        replace hf31 := lt_of hf31 v34 ev34
        refine j_iinc X (v := v34) (lv' := [(4, .int v34), (5, .int v17), (3, .int v6), (0, .ref (q x0)), (1, .int x1), (2, .ref (q x2))]) dX4_drawBy_58 5 rfl (by rw [ev34]; rfl) (by decide) rfl ?_
        refine j_goto X (tgt := 5) dX4_drawBy_61 (by decide) ?_
        refine j_lvsub [3, 4, 5, 2, 0] (lv' := [(0, .ref (q x0)), (1, .int x1), (2, .ref (q x2)), (3, .int v6), (4, .int v34)]) rfl ?_
        exact ih x0 x1 x2 v6 v34 σ32 hf31
  refine j_iload_n X dX4_drawBy_0 1 rfl rfl ?_
  refine j_istore_n X (lv' := [(3, .int a1), (0, .ref (q a0)), (1, .int a1), (2, .ref (q a2))]) dX4_drawBy_1 rfl (by decide) rfl ?_
  refine j_iconst X (v := 0) dX4_drawBy_2 (by decide) ?_
  refine j_nmi (fun v1 ev1 => ?_)
  replace hf0 := lt_of hf0 v1 ev1
  refine j_istore X (lv' := [(4, .int v1), (3, .int a1), (0, .ref (q a0)), (1, .int a1), (2, .ref (q a2))]) dX4_drawBy_3 (by decide) rfl ?_
  refine j_lvsub [2, 3, 4, 1, 0] (lv' := [(0, .ref (q a0)), (1, .int a1), (2, .ref (q a2)), (3, .int a1), (4, .int v1)]) rfl ?_
  exact L5  1000 a0 a1 a2 a1 v1 σ hf0
def f_X0_isMade (a0 : Int32) (σ : HS) : Option (Int32 × HS) :=
  (if a0 ≤ (1 : Int32) then
  some ((0 : Int32), σ)
  else
  some ((1 : Int32), σ))
abbrev rm_X0_isMade : Room := { frames := 0, cells := 0, slots := 0, locals := 0 }
set_option maxHeartbeats 4000000 in
set_option maxRecDepth 100000 in
theorem c_X0_isMade (l : Launch) (D : va_G) (cs : Nat → ClassId) (q : Nat → Nat) (a0 : Int32) (σ σ0 : HS) (r0 : Int32) (hf0 : f_X0_isMade a0 σ = some (r0, σ0)) : MT l yX0_isMade (Cond.code yX0_isMade cX0_isMade 1 (some .boolean) :: lw_g) rm_X0_isMade D cs q σ σ0 [.int a0] (fun z => z = q) (fun _ => some (.int r0)) 0 0 := by
  unfold f_X0_isMade at hf0
  refine MT_of (cc := cX0_isMade) (lv0 := [(0, .int a0)]) (by decide) (Nat.le_of_ble_eq_true rfl) rfl (fun p e s m args below meth c A X hr hlk hin => ?_)
  refine j_iload_n X dX0_isMade_0 0 rfl rfl ?_
  refine j_iconst X (v := 1) dX0_isMade_1 (by decide) ?_
  refine j_icmp_le X (tgt := 9) dX0_isMade_2 (by decide) (fun c1 => ?_) (fun c1 => ?_)
  · have hf2 := br_y hf0 c1; clear hf0
    refine j_iconst X (v := 0) dX0_isMade_9 (by decide) ?_
    obtain ⟨er, es⟩ := rt_of hf2
    subst er
    exact j_retz X hr hlk (Nat.le_of_ble_eq_true rfl) (Nat.le_of_ble_eq_true rfl) rfl es.symm rfl (Or.inl rfl) dX0_isMade_10
  · have hf3 := br_n hf0 c1; clear hf0
    refine j_iconst X (v := 1) dX0_isMade_5 (by decide) ?_
    refine j_goto X (tgt := 10) dX0_isMade_6 (by decide) ?_
    obtain ⟨er, es⟩ := rt_of hf3
    subst er
    exact j_retz X hr hlk (Nat.le_of_ble_eq_true rfl) (Nat.le_of_ble_eq_true rfl) rfl es.symm rfl (Or.inr rfl) dX0_isMade_10
def f_X4_firstOverOf (a0 : Nat) (a1 : Nat) (a2 : Int32) (σ : HS) : Option (Int32 × HS) :=
  chk (isO σ 0 a1) (bd (hR σ a1 1) fun i3 =>
  chk (isO σ 10 i3 ∧ inb a2 (hlen σ i3)) (lt (hA σ i3 a2.toNatClampNeg) fun v8 =>
  bc (f_X0_isMade v8 σ) fun r10 σ11 =>
  (if r10 = 0 then
  some ((-1 : Int32), σ11)
  else
  chk (isO σ11 4 a0) (bd (hR σ11 a0 6) fun i19 =>
  chk (isO σ11 1 i19) (bd (hR σ11 i19 2) fun i24 =>
  chk (isO σ11 0 a1) (bd (hR σ11 a1 3) fun i29 =>
  chk (isO σ11 10 i29 ∧ inb a2 (hlen σ11 i29)) (lt (hA σ11 i29 a2.toNatClampNeg) fun v34 =>
  chk (isO σ11 11 i24 ∧ inb v34 (hlen σ11 i24)) (lt (hA σ11 i24 v34.toNatClampNeg) fun v38 =>
  (if v38 = 0 then
  bd (hR σ11 a1 4) fun i49 =>
  chk (isO σ11 10 i49 ∧ inb a2 (hlen σ11 i49)) (lt (hA σ11 i49 a2.toNatClampNeg) fun v54 =>
  chk (isO σ11 11 i24 ∧ inb v54 (hlen σ11 i24)) (lt (hA σ11 i24 v54.toNatClampNeg) fun v58 =>
  (if v58 = 0 then
  some ((-1 : Int32), σ11)
  else
  chk (isO σ11 10 i49 ∧ inb a2 (hlen σ11 i49)) (lt (hA σ11 i49 a2.toNatClampNeg) fun v68 =>
  some (v68, σ11)))))
  else
  chk (isO σ11 10 i29 ∧ inb a2 (hlen σ11 i29)) (lt (hA σ11 i29 a2.toNatClampNeg) fun v75 =>
  some (v75, σ11)))))))))))
abbrev rm_X4_firstOverOf : Room := { frames := 1, cells := 0, slots := 0, locals := 64 }
set_option maxHeartbeats 4000000 in
set_option maxRecDepth 100000 in
theorem c_X4_firstOverOf (l : Launch) (D : va_G) (cs : Nat → ClassId) (q : Nat → Nat) (a0 : Nat) (a1 : Nat) (a2 : Int32) (σ σ0 : HS) (r0 : Int32) (hf0 : f_X4_firstOverOf a0 a1 a2 σ = some (r0, σ0)) : MT l yX4_firstOverOf (Cond.code yX4_firstOverOf cX4_firstOverOf 3 (some .int) :: lw_g) rm_X4_firstOverOf D cs q σ σ0 [.ref (q a0), .ref (q a1), .int a2] (fun z => z = q) (fun _ => some (.int r0)) 0 0 := by
  unfold f_X4_firstOverOf at hf0
  refine MT_of (cc := cX4_firstOverOf) (lv0 := [(0, .ref (q a0)), (1, .ref (q a1)), (2, .int a2)]) (by decide) (Nat.le_of_ble_eq_true rfl) rfl (fun p e s m args below meth c A X hr hlk hin => ?_)
  refine j_aload_n X dX4_firstOverOf_0 1 rfl rfl ?_
  obtain ⟨h1, hf2⟩ := chk_of hf0; clear hf0
  obtain ⟨i3, h4, hf5⟩ := bd_of hf2; clear hf2
  refine j_getr X fd_X4_90 h1 h4 dX4_firstOverOf_1 ?_
  refine j_iload_n X dX4_firstOverOf_4 2 rfl rfl ?_
  obtain ⟨h6, hf7⟩ := chk_of hf5; clear hf5
  refine j_iald X h6 dX4_firstOverOf_5 (fun v8 ev8 => ?_)
  replace hf7 := lt_of hf7 v8 ev8
  obtain ⟨r10, σ11, h12, hf13⟩ := bc_of hf7; clear hf7
  refine j_callS0 X [.int v8] [] (c_X0_isMade l D cs q v8 σ _ _ h12) mk_X0_isMade ms_X0_isMade ml_X4_121 ⟨rfl, rfl⟩ ⟨Nat.le_of_ble_eq_true rfl, Nat.le_of_ble_eq_true rfl⟩ rfl (Nat.le_of_ble_eq_true rfl) ⟨Nat.le_of_ble_eq_true rfl, Nat.le_of_ble_eq_true rfl⟩ dX4_firstOverOf_6 rfl (st' := [.int r10]) rfl ?_
  refine j_if_ne X (tgt := 14) dX4_firstOverOf_9 (by decide) (fun c14 => ?_) (fun c14 => ?_)
  · have hf15 := br_n hf13 c14; clear hf13
    refine j_aload_n X dX4_firstOverOf_14 0 rfl rfl ?_
    obtain ⟨h17, hf18⟩ := chk_of hf15; clear hf15
    obtain ⟨i19, h20, hf21⟩ := bd_of hf18; clear hf18
    refine j_getr X fd_X4_37 h17 h20 dX4_firstOverOf_15 ?_
    obtain ⟨h22, hf23⟩ := chk_of hf21; clear hf21
    obtain ⟨i24, h25, hf26⟩ := bd_of hf23; clear hf23
    refine j_getr X fd_X4_74 h22 h25 dX4_firstOverOf_18 ?_
    refine j_aload_n X dX4_firstOverOf_21 1 rfl rfl ?_
    obtain ⟨h27, hf28⟩ := chk_of hf26; clear hf26
    obtain ⟨i29, h30, hf31⟩ := bd_of hf28; clear hf28
    refine j_getr X fd_X4_81 h27 h30 dX4_firstOverOf_22 ?_
    refine j_iload_n X dX4_firstOverOf_25 2 rfl rfl ?_
    obtain ⟨h32, hf33⟩ := chk_of hf31; clear hf31
    refine j_iald X h32 dX4_firstOverOf_26 (fun v34 ev34 => ?_)
    replace hf33 := lt_of hf33 v34 ev34
    obtain ⟨h36, hf37⟩ := chk_of hf33; clear hf33
    refine j_zald X h36 dX4_firstOverOf_27 (fun v38 ev38 => ?_)
    replace hf37 := lt_of hf37 v38 ev38
    refine j_if_eq X (tgt := 38) dX4_firstOverOf_28 (by decide) (fun c40 => ?_) (fun c40 => ?_)
    · have hf41 := br_y hf37 c40; clear hf37
      refine j_aload_n X dX4_firstOverOf_38 0 rfl rfl ?_
      refine j_getr X fd_X4_37 h17 h20 dX4_firstOverOf_39 ?_
      refine j_getr X fd_X4_74 h22 h25 dX4_firstOverOf_42 ?_
      refine j_aload_n X dX4_firstOverOf_45 1 rfl rfl ?_
      obtain ⟨i49, h50, hf51⟩ := bd_of hf41; clear hf41
      refine j_getr X fd_X4_84 h27 h50 dX4_firstOverOf_46 ?_
      refine j_iload_n X dX4_firstOverOf_49 2 rfl rfl ?_
      obtain ⟨h52, hf53⟩ := chk_of hf51; clear hf51
      refine j_iald X h52 dX4_firstOverOf_50 (fun v54 ev54 => ?_)
      replace hf53 := lt_of hf53 v54 ev54
      obtain ⟨h56, hf57⟩ := chk_of hf53; clear hf53
      refine j_zald X h56 dX4_firstOverOf_51 (fun v58 ev58 => ?_)
      replace hf57 := lt_of hf57 v58 ev58
      refine j_if_eq X (tgt := 64) dX4_firstOverOf_52 (by decide) (fun c60 => ?_) (fun c60 => ?_)
      · have hf61 := br_y hf57 c60; clear hf57
        refine j_iconst X (v := -1) dX4_firstOverOf_64 (by decide) ?_
        obtain ⟨er, es⟩ := rt_of hf61
        subst er
        exact j_reti X hr hlk (Nat.le_of_ble_eq_true rfl) (Nat.le_of_ble_eq_true rfl) rfl es.symm rfl dX4_firstOverOf_65
      · have hf62 := br_n hf57 c60; clear hf57
        refine j_aload_n X dX4_firstOverOf_55 1 rfl rfl ?_
        refine j_getr X fd_X4_84 h27 h50 dX4_firstOverOf_56 ?_
        refine j_iload_n X dX4_firstOverOf_59 2 rfl rfl ?_
        obtain ⟨h66, hf67⟩ := chk_of hf62; clear hf62
        refine j_iald X h66 dX4_firstOverOf_60 (fun v68 ev68 => ?_)
        replace hf67 := lt_of hf67 v68 ev68
        refine j_goto X (tgt := 65) dX4_firstOverOf_61 (by decide) ?_
        obtain ⟨er, es⟩ := rt_of hf67
        subst er
        exact j_reti X hr hlk (Nat.le_of_ble_eq_true rfl) (Nat.le_of_ble_eq_true rfl) rfl es.symm rfl dX4_firstOverOf_65
    · have hf42 := br_n hf37 c40; clear hf37
      refine j_aload_n X dX4_firstOverOf_31 1 rfl rfl ?_
      refine j_getr X fd_X4_81 h27 h30 dX4_firstOverOf_32 ?_
      refine j_iload_n X dX4_firstOverOf_35 2 rfl rfl ?_
      obtain ⟨h73, hf74⟩ := chk_of hf42; clear hf42
      refine j_iald X h73 dX4_firstOverOf_36 (fun v75 ev75 => ?_)
      replace hf74 := lt_of hf74 v75 ev75
      obtain ⟨er, es⟩ := rt_of hf74
      subst er
      exact j_reti X hr hlk (Nat.le_of_ble_eq_true rfl) (Nat.le_of_ble_eq_true rfl) rfl es.symm rfl dX4_firstOverOf_37
  · have hf16 := br_y hf13 c14; clear hf13
    refine j_iconst X (v := -1) dX4_firstOverOf_12 (by decide) ?_
    obtain ⟨er, es⟩ := rt_of hf16
    subst er
    exact j_reti X hr hlk (Nat.le_of_ble_eq_true rfl) (Nat.le_of_ble_eq_true rfl) rfl es.symm rfl dX4_firstOverOf_13
def f_X4_hasWidth (a0 : Nat) (σ : HS) : Option (Int32 × HS) :=
  chk (isO σ 4 a0) (lt (hA σ a0 2) fun v3 =>
  (if v3 = 0 then
  lt (hB σ a0 4) fun v8 =>
  lt (hB σ a0 3) fun v10 =>
  bc (f_X1_differenceFits v8 v10 σ) fun r12 σ13 =>
  (if r12 = 0 then
  some ((0 : Int32), σ13)
  else
  some ((1 : Int32), σ13))
  else
  some ((0 : Int32), σ)))
abbrev rm_X4_hasWidth : Room := { frames := 1, cells := 0, slots := 0, locals := 64 }
set_option maxHeartbeats 4000000 in
set_option maxRecDepth 100000 in
theorem c_X4_hasWidth (l : Launch) (D : va_G) (cs : Nat → ClassId) (q : Nat → Nat) (a0 : Nat) (σ σ0 : HS) (r0 : Int32) (hf0 : f_X4_hasWidth a0 σ = some (r0, σ0)) : MT l yX4_hasWidth (Cond.code yX4_hasWidth cX4_hasWidth 1 (some .boolean) :: lw_g) rm_X4_hasWidth D cs q σ σ0 [.ref (q a0)] (fun z => z = q) (fun _ => some (.int r0)) 0 0 := by
  unfold f_X4_hasWidth at hf0
  refine MT_of (cc := cX4_hasWidth) (lv0 := [(0, .ref (q a0))]) (by decide) (Nat.le_of_ble_eq_true rfl) rfl (fun p e s m args below meth c A X hr hlk hin => ?_)
  refine j_aload_n X dX4_hasWidth_0 0 rfl rfl ?_
  obtain ⟨h1, hf2⟩ := chk_of hf0; clear hf0
  refine j_geti X fd_X4_18 h1 dX4_hasWidth_1 (fun v3 ev3 => ?_)
  replace hf2 := lt_of hf2 v3 ev3
  refine j_if_ne X (tgt := 25) dX4_hasWidth_4 (by decide) (fun c5 => ?_) (fun c5 => ?_)
  · have hf6 := br_n hf2 c5; clear hf2
    refine j_iconst X (v := 0) dX4_hasWidth_25 (by decide) ?_
    obtain ⟨er, es⟩ := rt_of hf6
    subst er
    exact j_retz X hr hlk (Nat.le_of_ble_eq_true rfl) (Nat.le_of_ble_eq_true rfl) rfl es.symm rfl (Or.inl rfl) dX4_hasWidth_26
  · have hf7 := br_y hf2 c5; clear hf2
    refine j_aload_n X dX4_hasWidth_7 0 rfl rfl ?_
    refine j_getl X fd_X4_26 h1 dX4_hasWidth_8 (fun v8 ev8 => ?_)
    replace hf7 := lt_of hf7 v8 ev8
    refine j_aload_n X dX4_hasWidth_11 0 rfl rfl ?_
    refine j_getl X fd_X4_22 h1 dX4_hasWidth_12 (fun v10 ev10 => ?_)
    replace hf7 := lt_of hf7 v10 ev10
    obtain ⟨r12, σ13, h14, hf15⟩ := bc_of hf7; clear hf7
    refine j_callS0 X [.long v8, .long v10] [] (c_X1_differenceFits l D cs q v8 v10 σ _ _ h14) mk_X1_differenceFits ms_X1_differenceFits ml_X4_111 ⟨rfl, rfl⟩ ⟨Nat.le_of_ble_eq_true rfl, Nat.le_of_ble_eq_true rfl⟩ rfl (Nat.le_of_ble_eq_true rfl) ⟨Nat.le_of_ble_eq_true rfl, Nat.le_of_ble_eq_true rfl⟩ dX4_hasWidth_15 rfl (st' := [.int r12]) rfl ?_
    refine j_if_eq X (tgt := 25) dX4_hasWidth_18 (by decide) (fun c16 => ?_) (fun c16 => ?_)
    · have hf17 := br_y hf15 c16; clear hf15
      refine j_iconst X (v := 0) dX4_hasWidth_25 (by decide) ?_
      obtain ⟨er, es⟩ := rt_of hf17
      subst er
      exact j_retz X hr hlk (Nat.le_of_ble_eq_true rfl) (Nat.le_of_ble_eq_true rfl) rfl es.symm rfl (Or.inl rfl) dX4_hasWidth_26
    · have hf18 := br_n hf15 c16; clear hf15
      refine j_iconst X (v := 1) dX4_hasWidth_21 (by decide) ?_
      refine j_goto X (tgt := 26) dX4_hasWidth_22 (by decide) ?_
      obtain ⟨er, es⟩ := rt_of hf18
      subst er
      exact j_retz X hr hlk (Nat.le_of_ble_eq_true rfl) (Nat.le_of_ble_eq_true rfl) rfl es.symm rfl (Or.inr rfl) dX4_hasWidth_26
def f_X4_stand (a0 : Nat) (a1 : Int32) (a2 : Int32) (a3 : Int32) (σ : HS) : Option (Unit × HS) :=
  chk (isO σ 4 a0) (bd (hR σ a0 0) fun i3 =>
  chk (isO σ 10 i3 ∧ inb a1 (hlen σ i3)) (lt (sA σ i3 a1.toNatClampNeg a2) fun σ8 =>
  bd (hR σ8 a0 1) fun i11 =>
  chk (isO σ8 10 i11 ∧ inb a1 (hlen σ8 i11)) (lt (sA σ8 i11 a1.toNatClampNeg a3) fun σ16 =>
  some ((), σ16))))
abbrev rm_X4_stand : Room := { frames := 0, cells := 0, slots := 0, locals := 0 }
set_option maxHeartbeats 4000000 in
set_option maxRecDepth 100000 in
theorem c_X4_stand (l : Launch) (D : va_G) (cs : Nat → ClassId) (q : Nat → Nat) (a0 : Nat) (a1 : Int32) (a2 : Int32) (a3 : Int32) (σ σ0 : HS) (r0 : Unit) (hf0 : f_X4_stand a0 a1 a2 a3 σ = some (r0, σ0)) : MT l yX4_stand (Cond.code yX4_stand cX4_stand 4 none :: lw_g) rm_X4_stand D cs q σ σ0 [.ref (q a0), .int a1, .int a2, .int a3] (fun z => z = q) (fun _ => none) 0 0 := by
  unfold f_X4_stand at hf0
  refine MT_of (cc := cX4_stand) (lv0 := [(0, .ref (q a0)), (1, .int a1), (2, .int a2), (3, .int a3)]) (by decide) (Nat.le_of_ble_eq_true rfl) rfl (fun p e s m args below meth c A X hr hlk hin => ?_)
  refine j_aload_n X dX4_stand_0 0 rfl rfl ?_
  obtain ⟨h1, hf2⟩ := chk_of hf0; clear hf0
  obtain ⟨i3, h4, hf5⟩ := bd_of hf2; clear hf2
  refine j_getr X fd_X4_9 h1 h4 dX4_stand_1 ?_
  refine j_iload_n X dX4_stand_4 1 rfl rfl ?_
  refine j_iload_n X dX4_stand_5 2 rfl rfl ?_
  obtain ⟨h6, hf7⟩ := chk_of hf5; clear hf5
  refine j_iast X h6 dX4_stand_6 (fun σ8 eσ8 => ?_)
  replace hf7 := lt_of hf7 σ8 eσ8
  have h10 : isO σ8 4 a0 := by rw [eσ8]; exact h1
  refine j_aload_n X dX4_stand_7 0 rfl rfl ?_
  obtain ⟨i11, h12, hf13⟩ := bd_of hf7; clear hf7
  refine j_getr X fd_X4_15 h10 h12 dX4_stand_8 ?_
  refine j_iload_n X dX4_stand_11 1 rfl rfl ?_
  refine j_iload_n X dX4_stand_12 3 rfl rfl ?_
  obtain ⟨h14, hf15⟩ := chk_of hf13; clear hf13
  refine j_iast X h14 dX4_stand_13 (fun σ16 eσ16 => ?_)
  replace hf15 := lt_of hf15 σ16 eσ16
  have h18 : isO σ16 4 a0 := by rw [eσ16]; exact h10
  obtain ⟨er, es⟩ := rt_of hf15
  exact j_retv X hr hlk (Nat.le_of_ble_eq_true rfl) (Nat.le_of_ble_eq_true rfl) rfl es.symm rfl dX4_stand_14
def lp_X4_standAs_2_b  (K2 : Nat → Nat → Int32 → HS → Option (Unit × HS)) (x0 : Nat) (x1 : Nat) (x2 : Int32) (τ : HS) : Option (Unit × HS) :=
  (if (6 : Int32) ≤ x2 then
  some ((), τ)
  else
  chk (isO τ 2 x1) (bc (f_X2_lowOf x1 x2 τ) fun r8 σ9 =>
  chk (isO σ9 2 x1) (bc (f_X2_highOf x1 x2 σ9) fun r14 σ15 =>
  chk (isO σ15 4 x0) (bc (f_X4_stand x0 x2 r8 r14 σ15) fun r20 σ21 =>
  lt (x2 + (1 : Int32)) fun v24 =>
  K2 x0 x1 v24 σ21))))
def lp_X4_standAs_2  : Nat → Nat → Nat → Int32 → HS → Option (Unit × HS)
  | 0 => fun _ _ _ _ => none
  | n + 1 => lp_X4_standAs_2_b  (lp_X4_standAs_2  n)
def f_X4_standAs (a0 : Nat) (a1 : Nat) (σ : HS) : Option (Unit × HS) :=
  lt ((0 : Int32)) fun v1 =>
  lp_X4_standAs_2  1000 a0 a1 v1 σ
abbrev rm_X4_standAs : Room := { frames := 1, cells := 0, slots := 0, locals := 64 }
set_option maxHeartbeats 4000000 in
set_option maxRecDepth 100000 in
theorem c_X4_standAs (l : Launch) (D : va_G) (cs : Nat → ClassId) (q : Nat → Nat) (a0 : Nat) (a1 : Nat) (σ σ0 : HS) (r0 : Unit) (hf0 : f_X4_standAs a0 a1 σ = some (r0, σ0)) : MT l yX4_standAs (Cond.code yX4_standAs cX4_standAs 3 none :: lw_g) rm_X4_standAs D cs q σ σ0 [.ref (q a0), .ref (q a1)] (fun z => z = q) (fun _ => none) 0 0 := by
  unfold f_X4_standAs at hf0
  refine MT_of (cc := cX4_standAs) (lv0 := [(0, .ref (q a0)), (1, .ref (q a1))]) (by decide) (Nat.le_of_ble_eq_true rfl) rfl (fun p e s m args below meth c A X hr hlk hin => ?_)
  have L2 : ∀ (nk : Nat) (x0 : Nat) (x1 : Nat) (x2 : Int32) (τ : HS), lp_X4_standAs_2  nk x0 x1 x2 τ = some (r0, σ0) → J p l e rm_X4_standAs s m args below meth c 3 D cs A s.heap 0 0 (MQ below (hQ D cs (fun z => z = q) (fun _ => none) σ0 A) args s 0 0 A) q τ [(0, .ref (q x0)), (1, .ref (q x1)), (2, .int x2)] 2 [] := by
    intro nk
    induction nk with
    | zero => intro x0 x1 x2 τ hf0; have hf1 : (none : Option (Unit × HS)) = some (r0, σ0) := hf0; cases hf1
    | succ nk ih =>
      intro x0 x1 x2 τ hf0
      replace hf0 : lp_X4_standAs_2_b  (lp_X4_standAs_2  nk) x0 x1 x2 τ = some (r0, σ0) := hf0
      unfold lp_X4_standAs_2_b at hf0
      refine j_iload_n X dX4_standAs_2 2 rfl rfl ?_
      refine j_bipush X (v := 6) dX4_standAs_3 (by decide) ?_
      refine j_icmp_ge X (tgt := 29) dX4_standAs_5 (by decide) (fun c3 => ?_) (fun c3 => ?_)
      · have hf4 := br_y hf0 c3; clear hf0
        obtain ⟨er, es⟩ := rt_of hf4
        exact j_retv X hr hlk (Nat.le_of_ble_eq_true rfl) (Nat.le_of_ble_eq_true rfl) rfl es.symm rfl dX4_standAs_29
      · have hf5 := br_n hf0 c3; clear hf0
        refine j_aload_n X dX4_standAs_8 0 rfl rfl ?_
        refine j_iload_n X dX4_standAs_9 2 rfl rfl ?_
        refine j_aload_n X dX4_standAs_10 1 rfl rfl ?_
        refine j_iload_n X dX4_standAs_11 2 rfl rfl ?_
        obtain ⟨h6, hf7⟩ := chk_of hf5; clear hf5
        obtain ⟨r8, σ9, h10, hf11⟩ := bc_of hf7; clear hf7
        refine j_callV0 X [.int x2] [.int x2, .ref (q x0)] (c_X2_lowOf l D cs q x1 x2 τ _ _ h10) mk_X2_lowOf mv_X2_lowOf ml_X4_51 h6 rfl (by decide) ⟨rfl, rfl⟩ ⟨Nat.le_of_ble_eq_true rfl, Nat.le_of_ble_eq_true rfl⟩ rfl (Nat.le_of_ble_eq_true rfl) ⟨Nat.le_of_ble_eq_true rfl, Nat.le_of_ble_eq_true rfl⟩ dX4_standAs_12 rfl (st' := [.int r8, .int x2, .ref (q x0)]) rfl ?_
        refine j_aload_n X dX4_standAs_15 1 rfl rfl ?_
        refine j_iload_n X dX4_standAs_16 2 rfl rfl ?_
        obtain ⟨h12, hf13⟩ := chk_of hf11; clear hf11
        obtain ⟨r14, σ15, h16, hf17⟩ := bc_of hf13; clear hf13
        refine j_callV0 X [.int x2] [.int r8, .int x2, .ref (q x0)] (c_X2_highOf l D cs q x1 x2 σ9 _ _ h16) mk_X2_highOf mv_X2_highOf ml_X4_57 h12 rfl (by decide) ⟨rfl, rfl⟩ ⟨Nat.le_of_ble_eq_true rfl, Nat.le_of_ble_eq_true rfl⟩ rfl (Nat.le_of_ble_eq_true rfl) ⟨Nat.le_of_ble_eq_true rfl, Nat.le_of_ble_eq_true rfl⟩ dX4_standAs_17 rfl (st' := [.int r14, .int r8, .int x2, .ref (q x0)]) rfl ?_
        obtain ⟨h18, hf19⟩ := chk_of hf17; clear hf17
        obtain ⟨r20, σ21, h22, hf23⟩ := bc_of hf19; clear hf19
        refine j_callV0 X [.int x2, .int r8, .int r14] [] (c_X4_stand l D cs q x0 x2 r8 r14 σ15 _ _ h22) mk_X4_stand mv_X4_stand ml_X4_60 h18 rfl (by decide) ⟨rfl, rfl⟩ ⟨Nat.le_of_ble_eq_true rfl, Nat.le_of_ble_eq_true rfl⟩ rfl (Nat.le_of_ble_eq_true rfl) ⟨Nat.le_of_ble_eq_true rfl, Nat.le_of_ble_eq_true rfl⟩ dX4_standAs_20 rfl (st' := []) rfl ?_
        obtain ⟨v24, ev24⟩ : ∃ y : Int32, y = x2 + (1 : Int32) := ⟨_, rfl⟩
        replace hf23 := lt_of hf23 v24 ev24
        refine j_iinc X (v := v24) (lv' := [(2, .int v24), (0, .ref (q x0)), (1, .ref (q x1))]) dX4_standAs_23 2 rfl (by rw [ev24]; rfl) (by decide) rfl ?_
        refine j_goto X (tgt := 2) dX4_standAs_26 (by decide) ?_
        refine j_lvsub [1, 2, 0] (lv' := [(0, .ref (q x0)), (1, .ref (q x1)), (2, .int v24)]) rfl ?_
        exact ih x0 x1 v24 σ21 hf23
  refine j_iconst X (v := 0) dX4_standAs_0 (by decide) ?_
  refine j_nmi (fun v1 ev1 => ?_)
  replace hf0 := lt_of hf0 v1 ev1
  refine j_istore_n X (lv' := [(2, .int v1), (0, .ref (q a0)), (1, .ref (q a1))]) dX4_standAs_1 rfl (by decide) rfl ?_
  refine j_lvsub [1, 2, 0] (lv' := [(0, .ref (q a0)), (1, .ref (q a1)), (2, .int v1)]) rfl ?_
  exact L2  1000 a0 a1 v1 σ hf0
def f_X4_told (a0 : Nat) (a1 : Int32) (σ : HS) : Option (Int64 × HS) :=
  chk (isO σ 4 a0) (lt (hA σ a0 2) fun v3 =>
  (if v3 = 0 then
  (if a1 = (2 : Int32) then
  bc (f_X4_hasWidth a0 σ) fun r25 σ26 =>
  (if r25 = 0 then
  some ((-9223372036854775807 : Int64), σ26)
  else
  (if a1 = 0 then
  chk (isO σ26 4 a0) (lt (hB σ26 a0 3) fun v50 =>
  some (v50, σ26))
  else
  (if a1 = (1 : Int32) then
  chk (isO σ26 4 a0) (lt (hB σ26 a0 4) fun v46 =>
  some (v46, σ26))
  else
  chk (isO σ26 4 a0) (lt (hB σ26 a0 4) fun v40 =>
  lt (hB σ26 a0 3) fun v42 =>
  some ((v40 - v42), σ26)))))
  else
  (if a1 = 0 then
  lt (hB σ a0 3) fun v23 =>
  some (v23, σ)
  else
  (if a1 = (1 : Int32) then
  lt (hB σ a0 4) fun v21 =>
  some (v21, σ)
  else
  lt (hB σ a0 4) fun v17 =>
  lt (hB σ a0 3) fun v19 =>
  some ((v17 - v19), σ))))
  else
  some ((-9223372036854775807 : Int64), σ)))
abbrev rm_X4_told : Room := { frames := 2, cells := 0, slots := 0, locals := 128 }
set_option maxHeartbeats 4000000 in
set_option maxRecDepth 100000 in
theorem c_X4_told (l : Launch) (D : va_G) (cs : Nat → ClassId) (q : Nat → Nat) (a0 : Nat) (a1 : Int32) (σ σ0 : HS) (r0 : Int64) (hf0 : f_X4_told a0 a1 σ = some (r0, σ0)) : MT l yX4_told (Cond.code yX4_told cX4_told 2 (some .long) :: lw_g) rm_X4_told D cs q σ σ0 [.ref (q a0), .int a1] (fun z => z = q) (fun _ => some (.long r0)) 0 0 := by
  unfold f_X4_told at hf0
  refine MT_of (cc := cX4_told) (lv0 := [(0, .ref (q a0)), (1, .int a1)]) (by decide) (Nat.le_of_ble_eq_true rfl) rfl (fun p e s m args below meth c A X hr hlk hin => ?_)
  refine j_aload_n X dX4_told_0 0 rfl rfl ?_
  obtain ⟨h1, hf2⟩ := chk_of hf0; clear hf0
  refine j_geti X fd_X4_18 h1 dX4_told_1 (fun v3 ev3 => ?_)
  replace hf2 := lt_of hf2 v3 ev3
  refine j_if_ne X (tgt := 19) dX4_told_4 (by decide) (fun c5 => ?_) (fun c5 => ?_)
  · have hf6 := br_n hf2 c5; clear hf2
    refine j_ldc2 X k_X4_119 dX4_told_19 ?_
    obtain ⟨er, es⟩ := rt_of hf6
    subst er
    exact j_retl X hr hlk (Nat.le_of_ble_eq_true rfl) (Nat.le_of_ble_eq_true rfl) rfl es.symm rfl dX4_told_22
  · have hf7 := br_y hf2 c5; clear hf2
    refine j_iload_n X dX4_told_7 1 rfl rfl ?_
    refine j_iconst X (v := 2) dX4_told_8 (by decide) ?_
    refine j_icmp_ne X (tgt := 23) dX4_told_9 (by decide) (fun c8 => ?_) (fun c8 => ?_)
    · have hf9 := br_n hf7 c8; clear hf7
      refine j_iload_n X dX4_told_23 1 rfl rfl ?_
      refine j_if_ne X (tgt := 34) dX4_told_24 (by decide) (fun c11 => ?_) (fun c11 => ?_)
      · have hf12 := br_n hf9 c11; clear hf9
        refine j_iload_n X dX4_told_34 1 rfl rfl ?_
        refine j_iconst X (v := 1) dX4_told_35 (by decide) ?_
        refine j_icmp_ne X (tgt := 46) dX4_told_36 (by decide) (fun c14 => ?_) (fun c14 => ?_)
        · have hf15 := br_n hf12 c14; clear hf12
          refine j_aload_n X dX4_told_46 0 rfl rfl ?_
          refine j_getl X fd_X4_26 h1 dX4_told_47 (fun v17 ev17 => ?_)
          replace hf15 := lt_of hf15 v17 ev17
          refine j_aload_n X dX4_told_50 0 rfl rfl ?_
          refine j_getl X fd_X4_22 h1 dX4_told_51 (fun v19 ev19 => ?_)
          replace hf15 := lt_of hf15 v19 ev19
          refine j_lsub X dX4_told_54 ?_
          obtain ⟨er, es⟩ := rt_of hf15
          subst er
          exact j_retl X hr hlk (Nat.le_of_ble_eq_true rfl) (Nat.le_of_ble_eq_true rfl) rfl es.symm rfl dX4_told_55
        · have hf16 := br_y hf12 c14; clear hf12
          refine j_aload_n X dX4_told_39 0 rfl rfl ?_
          refine j_getl X fd_X4_26 h1 dX4_told_40 (fun v21 ev21 => ?_)
          replace hf16 := lt_of hf16 v21 ev21
          refine j_goto X (tgt := 55) dX4_told_43 (by decide) ?_
          obtain ⟨er, es⟩ := rt_of hf16
          subst er
          exact j_retl X hr hlk (Nat.le_of_ble_eq_true rfl) (Nat.le_of_ble_eq_true rfl) rfl es.symm rfl dX4_told_55
      · have hf13 := br_y hf9 c11; clear hf9
        refine j_aload_n X dX4_told_27 0 rfl rfl ?_
        refine j_getl X fd_X4_22 h1 dX4_told_28 (fun v23 ev23 => ?_)
        replace hf13 := lt_of hf13 v23 ev23
        refine j_goto X (tgt := 55) dX4_told_31 (by decide) ?_
        obtain ⟨er, es⟩ := rt_of hf13
        subst er
        exact j_retl X hr hlk (Nat.le_of_ble_eq_true rfl) (Nat.le_of_ble_eq_true rfl) rfl es.symm rfl dX4_told_55
    · have hf10 := br_y hf7 c8; clear hf7
      refine j_aload_n X dX4_told_12 0 rfl rfl ?_
      obtain ⟨r25, σ26, h27, hf28⟩ := bc_of hf10; clear hf10
      refine j_callV0 X [] [] (c_X4_hasWidth l D cs q a0 σ _ _ h27) mk_X4_hasWidth mv_X4_hasWidth ml_X4_115 h1 rfl (by decide) ⟨rfl, rfl⟩ ⟨Nat.le_of_ble_eq_true rfl, Nat.le_of_ble_eq_true rfl⟩ rfl (Nat.le_of_ble_eq_true rfl) ⟨Nat.le_of_ble_eq_true rfl, Nat.le_of_ble_eq_true rfl⟩ dX4_told_13 rfl (st' := [.int r25]) rfl ?_
      refine j_if_ne X (tgt := 23) dX4_told_16 (by decide) (fun c29 => ?_) (fun c29 => ?_)
      · have hf30 := br_n hf28 c29; clear hf28
        refine j_iload_n X dX4_told_23 1 rfl rfl ?_
        refine j_if_ne X (tgt := 34) dX4_told_24 (by decide) (fun c32 => ?_) (fun c32 => ?_)
        · have hf33 := br_n hf30 c32; clear hf30
          refine j_iload_n X dX4_told_34 1 rfl rfl ?_
          refine j_iconst X (v := 1) dX4_told_35 (by decide) ?_
          refine j_icmp_ne X (tgt := 46) dX4_told_36 (by decide) (fun c35 => ?_) (fun c35 => ?_)
          · have hf36 := br_n hf33 c35; clear hf33
            refine j_aload_n X dX4_told_46 0 rfl rfl ?_
            obtain ⟨h38, hf39⟩ := chk_of hf36; clear hf36
            refine j_getl X fd_X4_26 h38 dX4_told_47 (fun v40 ev40 => ?_)
            replace hf39 := lt_of hf39 v40 ev40
            refine j_aload_n X dX4_told_50 0 rfl rfl ?_
            refine j_getl X fd_X4_22 h38 dX4_told_51 (fun v42 ev42 => ?_)
            replace hf39 := lt_of hf39 v42 ev42
            refine j_lsub X dX4_told_54 ?_
            obtain ⟨er, es⟩ := rt_of hf39
            subst er
            exact j_retl X hr hlk (Nat.le_of_ble_eq_true rfl) (Nat.le_of_ble_eq_true rfl) rfl es.symm rfl dX4_told_55
          · have hf37 := br_y hf33 c35; clear hf33
            refine j_aload_n X dX4_told_39 0 rfl rfl ?_
            obtain ⟨h44, hf45⟩ := chk_of hf37; clear hf37
            refine j_getl X fd_X4_26 h44 dX4_told_40 (fun v46 ev46 => ?_)
            replace hf45 := lt_of hf45 v46 ev46
            refine j_goto X (tgt := 55) dX4_told_43 (by decide) ?_
            obtain ⟨er, es⟩ := rt_of hf45
            subst er
            exact j_retl X hr hlk (Nat.le_of_ble_eq_true rfl) (Nat.le_of_ble_eq_true rfl) rfl es.symm rfl dX4_told_55
        · have hf34 := br_y hf30 c32; clear hf30
          refine j_aload_n X dX4_told_27 0 rfl rfl ?_
          obtain ⟨h48, hf49⟩ := chk_of hf34; clear hf34
          refine j_getl X fd_X4_22 h48 dX4_told_28 (fun v50 ev50 => ?_)
          replace hf49 := lt_of hf49 v50 ev50
          refine j_goto X (tgt := 55) dX4_told_31 (by decide) ?_
          obtain ⟨er, es⟩ := rt_of hf49
          subst er
          exact j_retl X hr hlk (Nat.le_of_ble_eq_true rfl) (Nat.le_of_ble_eq_true rfl) rfl es.symm rfl dX4_told_55
      · have hf31 := br_y hf28 c29; clear hf28
        refine j_ldc2 X k_X4_119 dX4_told_19 ?_
        obtain ⟨er, es⟩ := rt_of hf31
        subst er
        exact j_retl X hr hlk (Nat.le_of_ble_eq_true rfl) (Nat.le_of_ble_eq_true rfl) rfl es.symm rfl dX4_told_22
def f_X4_worthOfPart (a0 : Nat) (a1 : Nat) (a2 : Int32) (σ : HS) : Option (Int64 × HS) :=
  chk (isO σ 0 a1) (bd (hR σ a1 3) fun i3 =>
  chk (isO σ 10 i3 ∧ inb a2 (hlen σ i3)) (lt (hA σ i3 a2.toNatClampNeg) fun v8 =>
  bd (hR σ a1 4) fun i10 =>
  chk (isO σ 10 i10 ∧ inb a2 (hlen σ i10)) (lt (hA σ i10 a2.toNatClampNeg) fun v15 =>
  bd (hR σ a1 1) fun i17 =>
  chk (isO σ 10 i17 ∧ inb a2 (hlen σ i17)) (lt (hA σ i17 a2.toNatClampNeg) fun v22 =>
  (if v22 = (0 : Int32) then
  chk (isO σ 4 a0) (bd (hR σ a0 5) fun i29 =>
  bd (hR σ a1 5) fun i32 =>
  chk (isO σ 10 i32 ∧ inb a2 (hlen σ i32)) (lt (hA σ i32 a2.toNatClampNeg) fun v37 =>
  chk (isO σ 10 i29 ∧ inb v37 (hlen σ i29)) (lt (hA σ i29 v37.toNatClampNeg) fun v41 =>
  some ((v41).toInt64, σ))))
  else if v22 = (1 : Int32) then
  bd (hR σ a1 5) fun i46 =>
  chk (isO σ 10 i46 ∧ inb a2 (hlen σ i46)) (lt (hA σ i46 a2.toNatClampNeg) fun v51 =>
  some ((v51).toInt64, σ))
  else if v22 = (2 : Int32) then
  chk (isO σ 4 a0) (bd (hR σ a0 9) fun i58 =>
  chk (isO σ 12 i58 ∧ inb v8 (hlen σ i58)) (lt (hB σ i58 v8.toNatClampNeg) fun v63 =>
  some ((-v63), σ)))
  else if v22 = (3 : Int32) then
  chk (isO σ 4 a0) (bd (hR σ a0 9) fun i70 =>
  chk (isO σ 12 i70 ∧ inb v8 (hlen σ i70)) (lt (hB σ i70 v8.toNatClampNeg) fun v75 =>
  chk (isO σ 12 i70 ∧ inb v15 (hlen σ i70)) (lt (hB σ i70 v15.toNatClampNeg) fun v82 =>
  some ((v75 + v82), σ))))
  else if v22 = (4 : Int32) then
  chk (isO σ 4 a0) (bd (hR σ a0 9) fun i89 =>
  chk (isO σ 12 i89 ∧ inb v8 (hlen σ i89)) (lt (hB σ i89 v8.toNatClampNeg) fun v94 =>
  chk (isO σ 12 i89 ∧ inb v15 (hlen σ i89)) (lt (hB σ i89 v15.toNatClampNeg) fun v101 =>
  some ((v94 - v101), σ))))
  else chk (isO σ 4 a0) (bd (hR σ a0 9) fun i105 =>
  chk (isO σ 12 i105 ∧ inb v8 (hlen σ i105)) (lt (hB σ i105 v8.toNatClampNeg) fun v110 =>
  chk (isO σ 12 i105 ∧ inb v15 (hlen σ i105)) (lt (hB σ i105 v15.toNatClampNeg) fun v117 =>
  some ((v110 * v117), σ)))))))))
abbrev rm_X4_worthOfPart : Room := { frames := 0, cells := 0, slots := 0, locals := 0 }
set_option maxHeartbeats 4000000 in
set_option maxRecDepth 100000 in
theorem c_X4_worthOfPart (l : Launch) (D : va_G) (cs : Nat → ClassId) (q : Nat → Nat) (a0 : Nat) (a1 : Nat) (a2 : Int32) (σ σ0 : HS) (r0 : Int64) (hf0 : f_X4_worthOfPart a0 a1 a2 σ = some (r0, σ0)) : MT l yX4_worthOfPart (Cond.code yX4_worthOfPart cX4_worthOfPart 5 (some .long) :: lw_g) rm_X4_worthOfPart D cs q σ σ0 [.ref (q a0), .ref (q a1), .int a2] (fun z => z = q) (fun _ => some (.long r0)) 0 0 := by
  unfold f_X4_worthOfPart at hf0
  refine MT_of (cc := cX4_worthOfPart) (lv0 := [(0, .ref (q a0)), (1, .ref (q a1)), (2, .int a2)]) (by decide) (Nat.le_of_ble_eq_true rfl) rfl (fun p e s m args below meth c A X hr hlk hin => ?_)
  refine j_aload_n X dX4_worthOfPart_0 1 rfl rfl ?_
  obtain ⟨h1, hf2⟩ := chk_of hf0; clear hf0
  obtain ⟨i3, h4, hf5⟩ := bd_of hf2; clear hf2
  refine j_getr X fd_X4_81 h1 h4 dX4_worthOfPart_1 ?_
  refine j_iload_n X dX4_worthOfPart_4 2 rfl rfl ?_
  obtain ⟨h6, hf7⟩ := chk_of hf5; clear hf5
  refine j_iald X h6 dX4_worthOfPart_5 (fun v8 ev8 => ?_)
  replace hf7 := lt_of hf7 v8 ev8
  refine j_istore_n X (lv' := [(3, .int v8), (0, .ref (q a0)), (1, .ref (q a1)), (2, .int a2)]) dX4_worthOfPart_6 rfl (by decide) rfl ?_
  refine j_aload_n X dX4_worthOfPart_7 2 rfl rfl ?_
  obtain ⟨i10, h11, hf12⟩ := bd_of hf7; clear hf7
  refine j_getr X fd_X4_84 h1 h11 dX4_worthOfPart_8 ?_
  refine j_iload_n X dX4_worthOfPart_11 3 rfl rfl ?_
  obtain ⟨h13, hf14⟩ := chk_of hf12; clear hf12
  refine j_iald X h13 dX4_worthOfPart_12 (fun v15 ev15 => ?_)
  replace hf14 := lt_of hf14 v15 ev15
  refine j_istore X (lv' := [(4, .int v15), (3, .int v8), (0, .ref (q a0)), (1, .ref (q a1)), (2, .int a2)]) dX4_worthOfPart_13 (by decide) rfl ?_
  refine j_aload_n X dX4_worthOfPart_15 3 rfl rfl ?_
  obtain ⟨i17, h18, hf19⟩ := bd_of hf14; clear hf14
  refine j_getr X fd_X4_90 h1 h18 dX4_worthOfPart_16 ?_
  refine j_iload_n X dX4_worthOfPart_19 4 rfl rfl ?_
  obtain ⟨h20, hf21⟩ := chk_of hf19; clear hf19
  refine j_iald X h20 dX4_worthOfPart_20 (fun v22 ev22 => ?_)
  replace hf21 := lt_of hf21 v22 ev22
  by_cases c24 : v22 = (0 : Int32)
  · have hf25 := br_y hf21 c24; clear hf21
    refine j_tabIn X (v := 0) (tgt := 56) dX4_worthOfPart_21 c24 (by decide) (by decide) rfl (by decide) ?_
    refine j_aload_n X dX4_worthOfPart_56 2 rfl rfl ?_
    obtain ⟨h27, hf28⟩ := chk_of hf25; clear hf25
    obtain ⟨i29, h30, hf31⟩ := bd_of hf28; clear hf28
    refine j_getr X fd_X4_29 h27 h30 dX4_worthOfPart_57 ?_
    refine j_aload_n X dX4_worthOfPart_60 3 rfl rfl ?_
    obtain ⟨i32, h33, hf34⟩ := bd_of hf31; clear hf31
    refine j_getr X fd_X4_87 h1 h33 dX4_worthOfPart_61 ?_
    refine j_iload_n X dX4_worthOfPart_64 4 rfl rfl ?_
    obtain ⟨h35, hf36⟩ := chk_of hf34; clear hf34
    refine j_iald X h35 dX4_worthOfPart_65 (fun v37 ev37 => ?_)
    replace hf36 := lt_of hf36 v37 ev37
    obtain ⟨h39, hf40⟩ := chk_of hf36; clear hf36
    refine j_iald X h39 dX4_worthOfPart_66 (fun v41 ev41 => ?_)
    replace hf40 := lt_of hf40 v41 ev41
    refine j_i2l X dX4_worthOfPart_67 ?_
    obtain ⟨er, es⟩ := rt_of hf40
    subst er
    exact j_retl X hr hlk (Nat.le_of_ble_eq_true rfl) (Nat.le_of_ble_eq_true rfl) rfl es.symm rfl dX4_worthOfPart_68
  · have hf26 := br_n hf21 c24; clear hf21
    by_cases c43 : v22 = (1 : Int32)
    · have hf44 := br_y hf26 c43; clear hf26
      refine j_tabIn X (v := 1) (tgt := 69) dX4_worthOfPart_21 c43 (by decide) (by decide) rfl (by decide) ?_
      refine j_aload_n X dX4_worthOfPart_69 3 rfl rfl ?_
      obtain ⟨i46, h47, hf48⟩ := bd_of hf44; clear hf44
      refine j_getr X fd_X4_87 h1 h47 dX4_worthOfPart_70 ?_
      refine j_iload_n X dX4_worthOfPart_73 4 rfl rfl ?_
      obtain ⟨h49, hf50⟩ := chk_of hf48; clear hf48
      refine j_iald X h49 dX4_worthOfPart_74 (fun v51 ev51 => ?_)
      replace hf50 := lt_of hf50 v51 ev51
      refine j_i2l X dX4_worthOfPart_75 ?_
      obtain ⟨er, es⟩ := rt_of hf50
      subst er
      exact j_retl X hr hlk (Nat.le_of_ble_eq_true rfl) (Nat.le_of_ble_eq_true rfl) rfl es.symm rfl dX4_worthOfPart_76
    · have hf45 := br_n hf26 c43; clear hf26
      by_cases c53 : v22 = (2 : Int32)
      · have hf54 := br_y hf45 c53; clear hf45
        refine j_tabIn X (v := 2) (tgt := 77) dX4_worthOfPart_21 c53 (by decide) (by decide) rfl (by decide) ?_
        refine j_aload_n X dX4_worthOfPart_77 2 rfl rfl ?_
        obtain ⟨h56, hf57⟩ := chk_of hf54; clear hf54
        obtain ⟨i58, h59, hf60⟩ := bd_of hf57; clear hf57
        refine j_getr X fd_X4_47 h56 h59 dX4_worthOfPart_78 ?_
        refine j_iload_n X dX4_worthOfPart_81 1 rfl rfl ?_
        obtain ⟨h61, hf62⟩ := chk_of hf60; clear hf60
        refine j_lald X h61 dX4_worthOfPart_82 (fun v63 ev63 => ?_)
        replace hf62 := lt_of hf62 v63 ev63
        refine j_lneg X dX4_worthOfPart_83 ?_
        obtain ⟨er, es⟩ := rt_of hf62
        subst er
        exact j_retl X hr hlk (Nat.le_of_ble_eq_true rfl) (Nat.le_of_ble_eq_true rfl) rfl es.symm rfl dX4_worthOfPart_84
      · have hf55 := br_n hf45 c53; clear hf45
        by_cases c65 : v22 = (3 : Int32)
        · have hf66 := br_y hf55 c65; clear hf55
          refine j_tabIn X (v := 3) (tgt := 85) dX4_worthOfPart_21 c65 (by decide) (by decide) rfl (by decide) ?_
          refine j_aload_n X dX4_worthOfPart_85 2 rfl rfl ?_
          obtain ⟨h68, hf69⟩ := chk_of hf66; clear hf66
          obtain ⟨i70, h71, hf72⟩ := bd_of hf69; clear hf69
          refine j_getr X fd_X4_47 h68 h71 dX4_worthOfPart_86 ?_
          refine j_iload_n X dX4_worthOfPart_89 1 rfl rfl ?_
          obtain ⟨h73, hf74⟩ := chk_of hf72; clear hf72
          refine j_lald X h73 dX4_worthOfPart_90 (fun v75 ev75 => ?_)
          replace hf74 := lt_of hf74 v75 ev75
          refine j_aload_n X dX4_worthOfPart_91 2 rfl rfl ?_
          refine j_getr X fd_X4_47 h68 h71 dX4_worthOfPart_92 ?_
          refine j_iload X dX4_worthOfPart_95 0 rfl ?_
          obtain ⟨h80, hf81⟩ := chk_of hf74; clear hf74
          refine j_lald X h80 dX4_worthOfPart_97 (fun v82 ev82 => ?_)
          replace hf81 := lt_of hf81 v82 ev82
          refine j_ladd X dX4_worthOfPart_98 ?_
          obtain ⟨er, es⟩ := rt_of hf81
          subst er
          exact j_retl X hr hlk (Nat.le_of_ble_eq_true rfl) (Nat.le_of_ble_eq_true rfl) rfl es.symm rfl dX4_worthOfPart_99
        · have hf67 := br_n hf55 c65; clear hf55
          by_cases c84 : v22 = (4 : Int32)
          · have hf85 := br_y hf67 c84; clear hf67
            refine j_tabIn X (v := 4) (tgt := 100) dX4_worthOfPart_21 c84 (by decide) (by decide) rfl (by decide) ?_
            refine j_aload_n X dX4_worthOfPart_100 2 rfl rfl ?_
            obtain ⟨h87, hf88⟩ := chk_of hf85; clear hf85
            obtain ⟨i89, h90, hf91⟩ := bd_of hf88; clear hf88
            refine j_getr X fd_X4_47 h87 h90 dX4_worthOfPart_101 ?_
            refine j_iload_n X dX4_worthOfPart_104 1 rfl rfl ?_
            obtain ⟨h92, hf93⟩ := chk_of hf91; clear hf91
            refine j_lald X h92 dX4_worthOfPart_105 (fun v94 ev94 => ?_)
            replace hf93 := lt_of hf93 v94 ev94
            refine j_aload_n X dX4_worthOfPart_106 2 rfl rfl ?_
            refine j_getr X fd_X4_47 h87 h90 dX4_worthOfPart_107 ?_
            refine j_iload X dX4_worthOfPart_110 0 rfl ?_
            obtain ⟨h99, hf100⟩ := chk_of hf93; clear hf93
            refine j_lald X h99 dX4_worthOfPart_112 (fun v101 ev101 => ?_)
            replace hf100 := lt_of hf100 v101 ev101
            refine j_lsub X dX4_worthOfPart_113 ?_
            obtain ⟨er, es⟩ := rt_of hf100
            subst er
            exact j_retl X hr hlk (Nat.le_of_ble_eq_true rfl) (Nat.le_of_ble_eq_true rfl) rfl es.symm rfl dX4_worthOfPart_114
          · have hf86 := br_n hf67 c84; clear hf67
            refine j_tabOut X (tgt := 115) dX4_worthOfPart_21 (by have z0 := lv_neT c24 (show ((0 : Int32)).toInt = 0 from rfl); have z1 := lv_neT c43 (show ((1 : Int32)).toInt = 1 from rfl); have z2 := lv_neT c53 (show ((2 : Int32)).toInt = 2 from rfl); have z3 := lv_neT c65 (show ((3 : Int32)).toInt = 3 from rfl); have z4 := lv_neT c84 (show ((4 : Int32)).toInt = 4 from rfl); omega) (by decide) ?_
            refine j_aload_n X dX4_worthOfPart_115 2 rfl rfl ?_
            obtain ⟨h103, hf104⟩ := chk_of hf86; clear hf86
            obtain ⟨i105, h106, hf107⟩ := bd_of hf104; clear hf104
            refine j_getr X fd_X4_47 h103 h106 dX4_worthOfPart_116 ?_
            refine j_iload_n X dX4_worthOfPart_119 1 rfl rfl ?_
            obtain ⟨h108, hf109⟩ := chk_of hf107; clear hf107
            refine j_lald X h108 dX4_worthOfPart_120 (fun v110 ev110 => ?_)
            replace hf109 := lt_of hf109 v110 ev110
            refine j_aload_n X dX4_worthOfPart_121 2 rfl rfl ?_
            refine j_getr X fd_X4_47 h103 h106 dX4_worthOfPart_122 ?_
            refine j_iload X dX4_worthOfPart_125 0 rfl ?_
            obtain ⟨h115, hf116⟩ := chk_of hf109; clear hf109
            refine j_lald X h115 dX4_worthOfPart_127 (fun v117 ev117 => ?_)
            replace hf116 := lt_of hf116 v117 ev117
            refine j_lmul X dX4_worthOfPart_128 ?_
            obtain ⟨er, es⟩ := rt_of hf116
            subst er
            exact j_retl X hr hlk (Nat.le_of_ble_eq_true rfl) (Nat.le_of_ble_eq_true rfl) rfl es.symm rfl dX4_worthOfPart_129
def lp_X4_worthOf_2_b  (K2 : Nat → Nat → Int32 → HS → Option (Int64 × HS)) (x0 : Nat) (x1 : Nat) (x2 : Int32) (τ : HS) : Option (Int64 × HS) :=
  chk (isO τ 0 x1) (lt (hA τ x1 0) fun v5 =>
  (if v5 ≤ x2 then
  chk (isO τ 4 x0) (bd (hR τ x0 9) fun i12 =>
  lt (hA τ x1 0) fun v15 =>
  chk (isO τ 12 i12 ∧ inb (v15 - (1 : Int32)) (hlen τ i12)) (lt (hB τ i12 ((v15 - (1 : Int32))).toNatClampNeg) fun v19 =>
  some (v19, τ)))
  else
  chk (isO τ 4 x0) (bd (hR τ x0 9) fun i23 =>
  bc (f_X4_worthOfPart x0 x1 x2 τ) fun r26 σ27 =>
  chk (isO σ27 12 i23 ∧ inb x2 (hlen σ27 i23)) (lt (sB σ27 i23 x2.toNatClampNeg r26) fun σ32 =>
  lt (x2 + (1 : Int32)) fun v34 =>
  K2 x0 x1 v34 σ32))))
def lp_X4_worthOf_2  : Nat → Nat → Nat → Int32 → HS → Option (Int64 × HS)
  | 0 => fun _ _ _ _ => none
  | n + 1 => lp_X4_worthOf_2_b  (lp_X4_worthOf_2  n)
def f_X4_worthOf (a0 : Nat) (a1 : Nat) (σ : HS) : Option (Int64 × HS) :=
  lt ((0 : Int32)) fun v1 =>
  lp_X4_worthOf_2  1000 a0 a1 v1 σ
abbrev rm_X4_worthOf : Room := { frames := 1, cells := 0, slots := 0, locals := 64 }
set_option maxHeartbeats 4000000 in
set_option maxRecDepth 100000 in
theorem c_X4_worthOf (l : Launch) (D : va_G) (cs : Nat → ClassId) (q : Nat → Nat) (a0 : Nat) (a1 : Nat) (σ σ0 : HS) (r0 : Int64) (hf0 : f_X4_worthOf a0 a1 σ = some (r0, σ0)) : MT l yX4_worthOf (Cond.code yX4_worthOf cX4_worthOf 3 (some .long) :: lw_g) rm_X4_worthOf D cs q σ σ0 [.ref (q a0), .ref (q a1)] (fun z => z = q) (fun _ => some (.long r0)) 0 0 := by
  unfold f_X4_worthOf at hf0
  refine MT_of (cc := cX4_worthOf) (lv0 := [(0, .ref (q a0)), (1, .ref (q a1))]) (by decide) (Nat.le_of_ble_eq_true rfl) rfl (fun p e s m args below meth c A X hr hlk hin => ?_)
  have L2 : ∀ (nk : Nat) (x0 : Nat) (x1 : Nat) (x2 : Int32) (τ : HS), lp_X4_worthOf_2  nk x0 x1 x2 τ = some (r0, σ0) → J p l e rm_X4_worthOf s m args below meth c 3 D cs A s.heap 0 0 (MQ below (hQ D cs (fun z => z = q) (fun _ => some (.long r0)) σ0 A) args s 0 0 A) q τ [(0, .ref (q x0)), (1, .ref (q x1)), (2, .int x2)] 2 [] := by
    intro nk
    induction nk with
    | zero => intro x0 x1 x2 τ hf0; have hf1 : (none : Option (Int64 × HS)) = some (r0, σ0) := hf0; cases hf1
    | succ nk ih =>
      intro x0 x1 x2 τ hf0
      replace hf0 : lp_X4_worthOf_2_b  (lp_X4_worthOf_2  nk) x0 x1 x2 τ = some (r0, σ0) := hf0
      unfold lp_X4_worthOf_2_b at hf0
      refine j_iload_n X dX4_worthOf_2 2 rfl rfl ?_
      refine j_aload_n X dX4_worthOf_3 1 rfl rfl ?_
      obtain ⟨h3, hf4⟩ := chk_of hf0; clear hf0
      refine j_geti X fd_X4_64 h3 dX4_worthOf_4 (fun v5 ev5 => ?_)
      replace hf4 := lt_of hf4 v5 ev5
      refine j_icmp_ge X (tgt := 28) dX4_worthOf_7 (by decide) (fun c7 => ?_) (fun c7 => ?_)
      · have hf8 := br_y hf4 c7; clear hf4
        refine j_aload_n X dX4_worthOf_28 0 rfl rfl ?_
        obtain ⟨h10, hf11⟩ := chk_of hf8; clear hf8
        obtain ⟨i12, h13, hf14⟩ := bd_of hf11; clear hf11
        refine j_getr X fd_X4_47 h10 h13 dX4_worthOf_29 ?_
        refine j_aload_n X dX4_worthOf_32 1 rfl rfl ?_
        refine j_geti X fd_X4_64 h3 dX4_worthOf_33 (fun v15 ev15 => ?_)
        replace hf14 := lt_of hf14 v15 ev15
        refine j_iconst X (v := 1) dX4_worthOf_36 (by decide) ?_
        refine j_isub X dX4_worthOf_37 ?_
        obtain ⟨h17, hf18⟩ := chk_of hf14; clear hf14
        refine j_lald X h17 dX4_worthOf_38 (fun v19 ev19 => ?_)
        replace hf18 := lt_of hf18 v19 ev19
        obtain ⟨er, es⟩ := rt_of hf18
        subst er
        exact j_retl X hr hlk (Nat.le_of_ble_eq_true rfl) (Nat.le_of_ble_eq_true rfl) rfl es.symm rfl dX4_worthOf_39
      · have hf9 := br_n hf4 c7; clear hf4
        refine j_aload_n X dX4_worthOf_10 0 rfl rfl ?_
        obtain ⟨h21, hf22⟩ := chk_of hf9; clear hf9
        obtain ⟨i23, h24, hf25⟩ := bd_of hf22; clear hf22
        refine j_getr X fd_X4_47 h21 h24 dX4_worthOf_11 ?_
        refine j_iload_n X dX4_worthOf_14 2 rfl rfl ?_
        refine j_aload_n X dX4_worthOf_15 0 rfl rfl ?_
        refine j_aload_n X dX4_worthOf_16 1 rfl rfl ?_
        refine j_iload_n X dX4_worthOf_17 2 rfl rfl ?_
        obtain ⟨r26, σ27, h28, hf29⟩ := bc_of hf25; clear hf25
        refine j_callV0 X [.ref (q x1), .int x2] [.int x2, .ref (q i23)] (c_X4_worthOfPart l D cs q x0 x1 x2 τ _ _ h28) mk_X4_worthOfPart mv_X4_worthOfPart ml_X4_129 h21 rfl (by decide) ⟨rfl, rfl⟩ ⟨Nat.le_of_ble_eq_true rfl, Nat.le_of_ble_eq_true rfl⟩ rfl (Nat.le_of_ble_eq_true rfl) ⟨Nat.le_of_ble_eq_true rfl, Nat.le_of_ble_eq_true rfl⟩ dX4_worthOf_18 rfl (st' := [.long r26, .int x2, .ref (q i23)]) rfl ?_
        obtain ⟨h30, hf31⟩ := chk_of hf29; clear hf29
        refine j_last X h30 dX4_worthOf_21 (fun σ32 eσ32 => ?_)
        replace hf31 := lt_of hf31 σ32 eσ32
        obtain ⟨v34, ev34⟩ : ∃ y : Int32, y = x2 + (1 : Int32) := ⟨_, rfl⟩
        replace hf31 := lt_of hf31 v34 ev34
        refine j_iinc X (v := v34) (lv' := [(2, .int v34), (0, .ref (q x0)), (1, .ref (q x1))]) dX4_worthOf_22 2 rfl (by rw [ev34]; rfl) (by decide) rfl ?_
        refine j_goto X (tgt := 2) dX4_worthOf_25 (by decide) ?_
        refine j_lvsub [1, 2, 0] (lv' := [(0, .ref (q x0)), (1, .ref (q x1)), (2, .int v34)]) rfl ?_
        exact ih x0 x1 v34 σ32 hf31
  refine j_iconst X (v := 0) dX4_worthOf_0 (by decide) ?_
  refine j_nmi (fun v1 ev1 => ?_)
  replace hf0 := lt_of hf0 v1 ev1
  refine j_istore_n X (lv' := [(2, .int v1), (0, .ref (q a0)), (1, .ref (q a1))]) dX4_worthOf_1 rfl (by decide) rfl ?_
  refine j_lvsub [1, 2, 0] (lv' := [(0, .ref (q a0)), (1, .ref (q a1)), (2, .int v1)]) rfl ?_
  exact L2  1000 a0 a1 v1 σ hf0
def f_X0_areAlike (a0 : Nat) (a1 : Nat) (a2 : Int32) (a3 : Int32) (σ : HS) : Option (Int32 × HS) :=
  chk (isO σ 3 a0) (bd (hR σ a0 3) fun i3 =>
  chk (isO σ 10 i3 ∧ inb a2 (hlen σ i3)) (lt (hA σ i3 a2.toNatClampNeg) fun v8 =>
  chk (isO σ 10 i3 ∧ inb a3 (hlen σ i3)) (lt (hA σ i3 a3.toNatClampNeg) fun v15 =>
  (if v8 = v15 then
  bd (hR σ a0 7) fun i20 =>
  chk (isO σ 10 i20 ∧ inb a2 (hlen σ i20)) (lt (hA σ i20 a2.toNatClampNeg) fun v25 =>
  chk (isO σ 10 i20 ∧ inb a3 (hlen σ i20)) (lt (hA σ i20 a3.toNatClampNeg) fun v32 =>
  (if v25 = v32 then
  chk (isO σ 10 i3 ∧ inb a2 (hlen σ i3)) (lt (hA σ i3 a2.toNatClampNeg) fun v42 =>
  bc (f_X0_isMade v42 σ) fun r44 σ45 =>
  (if r44 = 0 then
  some ((1 : Int32), σ45)
  else
  chk (isO σ45 3 a0) (bd (hR σ45 a0 5) fun i53 =>
  chk (isO σ45 10 i53 ∧ inb a2 (hlen σ45 i53)) (lt (hA σ45 i53 a2.toNatClampNeg) fun v58 =>
  chk (isO σ45 10 a1 ∧ inb v58 (hlen σ45 a1)) (lt (hA σ45 a1 v58.toNatClampNeg) fun v62 =>
  chk (isO σ45 10 i53 ∧ inb a3 (hlen σ45 i53)) (lt (hA σ45 i53 a3.toNatClampNeg) fun v69 =>
  chk (isO σ45 10 a1 ∧ inb v69 (hlen σ45 a1)) (lt (hA σ45 a1 v69.toNatClampNeg) fun v73 =>
  (if v62 = v73 then
  bd (hR σ45 a0 6) fun i78 =>
  chk (isO σ45 10 i78 ∧ inb a2 (hlen σ45 i78)) (lt (hA σ45 i78 a2.toNatClampNeg) fun v83 =>
  chk (isO σ45 10 a1 ∧ inb v83 (hlen σ45 a1)) (lt (hA σ45 a1 v83.toNatClampNeg) fun v87 =>
  chk (isO σ45 10 i78 ∧ inb a3 (hlen σ45 i78)) (lt (hA σ45 i78 a3.toNatClampNeg) fun v94 =>
  chk (isO σ45 10 a1 ∧ inb v94 (hlen σ45 a1)) (lt (hA σ45 a1 v94.toNatClampNeg) fun v98 =>
  (if v87 = v98 then
  some ((1 : Int32), σ45)
  else
  some ((0 : Int32), σ45))))))
  else
  some ((0 : Int32), σ45)))))))))
  else
  some ((0 : Int32), σ))))
  else
  some ((0 : Int32), σ)))))
abbrev rm_X0_areAlike : Room := { frames := 1, cells := 0, slots := 0, locals := 64 }
set_option maxHeartbeats 4000000 in
set_option maxRecDepth 100000 in
theorem c_X0_areAlike (l : Launch) (D : va_G) (cs : Nat → ClassId) (q : Nat → Nat) (a0 : Nat) (a1 : Nat) (a2 : Int32) (a3 : Int32) (σ σ0 : HS) (r0 : Int32) (hf0 : f_X0_areAlike a0 a1 a2 a3 σ = some (r0, σ0)) : MT l yX0_areAlike (Cond.code yX0_areAlike cX0_areAlike 4 (some .boolean) :: lw_g) rm_X0_areAlike D cs q σ σ0 [.ref (q a0), .ref (q a1), .int a2, .int a3] (fun z => z = q) (fun _ => some (.int r0)) 0 0 := by
  unfold f_X0_areAlike at hf0
  refine MT_of (cc := cX0_areAlike) (lv0 := [(0, .ref (q a0)), (1, .ref (q a1)), (2, .int a2), (3, .int a3)]) (by decide) (Nat.le_of_ble_eq_true rfl) rfl (fun p e s m args below meth c A X hr hlk hin => ?_)
  refine j_aload_n X dX0_areAlike_0 0 rfl rfl ?_
  obtain ⟨h1, hf2⟩ := chk_of hf0; clear hf0
  obtain ⟨i3, h4, hf5⟩ := bd_of hf2; clear hf2
  refine j_getr X fd_X0_18 h1 h4 dX0_areAlike_1 ?_
  refine j_iload_n X dX0_areAlike_4 2 rfl rfl ?_
  obtain ⟨h6, hf7⟩ := chk_of hf5; clear hf5
  refine j_iald X h6 dX0_areAlike_5 (fun v8 ev8 => ?_)
  replace hf7 := lt_of hf7 v8 ev8
  refine j_aload_n X dX0_areAlike_6 0 rfl rfl ?_
  refine j_getr X fd_X0_18 h1 h4 dX0_areAlike_7 ?_
  refine j_iload_n X dX0_areAlike_10 3 rfl rfl ?_
  obtain ⟨h13, hf14⟩ := chk_of hf7; clear hf7
  refine j_iald X h13 dX0_areAlike_11 (fun v15 ev15 => ?_)
  replace hf14 := lt_of hf14 v15 ev15
  refine j_icmp_ne X (tgt := 30) dX0_areAlike_12 (by decide) (fun c17 => ?_) (fun c17 => ?_)
  · have hf18 := br_n hf14 c17; clear hf14
    refine j_iconst X (v := 0) dX0_areAlike_30 (by decide) ?_
    obtain ⟨er, es⟩ := rt_of hf18
    subst er
    exact j_retz X hr hlk (Nat.le_of_ble_eq_true rfl) (Nat.le_of_ble_eq_true rfl) rfl es.symm rfl (Or.inl rfl) dX0_areAlike_31
  · have hf19 := br_y hf14 c17; clear hf14
    refine j_aload_n X dX0_areAlike_15 0 rfl rfl ?_
    obtain ⟨i20, h21, hf22⟩ := bd_of hf19; clear hf19
    refine j_getr X fd_X0_41 h1 h21 dX0_areAlike_16 ?_
    refine j_iload_n X dX0_areAlike_19 2 rfl rfl ?_
    obtain ⟨h23, hf24⟩ := chk_of hf22; clear hf22
    refine j_iald X h23 dX0_areAlike_20 (fun v25 ev25 => ?_)
    replace hf24 := lt_of hf24 v25 ev25
    refine j_aload_n X dX0_areAlike_21 0 rfl rfl ?_
    refine j_getr X fd_X0_41 h1 h21 dX0_areAlike_22 ?_
    refine j_iload_n X dX0_areAlike_25 3 rfl rfl ?_
    obtain ⟨h30, hf31⟩ := chk_of hf24; clear hf24
    refine j_iald X h30 dX0_areAlike_26 (fun v32 ev32 => ?_)
    replace hf31 := lt_of hf31 v32 ev32
    refine j_icmp_eq X (tgt := 32) dX0_areAlike_27 (by decide) (fun c34 => ?_) (fun c34 => ?_)
    · have hf35 := br_y hf31 c34; clear hf31
      refine j_aload_n X dX0_areAlike_32 0 rfl rfl ?_
      refine j_getr X fd_X0_18 h1 h4 dX0_areAlike_33 ?_
      refine j_iload_n X dX0_areAlike_36 2 rfl rfl ?_
      obtain ⟨h40, hf41⟩ := chk_of hf35; clear hf35
      refine j_iald X h40 dX0_areAlike_37 (fun v42 ev42 => ?_)
      replace hf41 := lt_of hf41 v42 ev42
      obtain ⟨r44, σ45, h46, hf47⟩ := bc_of hf41; clear hf41
      refine j_callS0 X [.int v42] [] (c_X0_isMade l D cs q v42 σ _ _ h46) mk_X0_isMade ms_X0_isMade ml_X0_75 ⟨rfl, rfl⟩ ⟨Nat.le_of_ble_eq_true rfl, Nat.le_of_ble_eq_true rfl⟩ rfl (Nat.le_of_ble_eq_true rfl) ⟨Nat.le_of_ble_eq_true rfl, Nat.le_of_ble_eq_true rfl⟩ dX0_areAlike_38 rfl (st' := [.int r44]) rfl ?_
      refine j_if_eq X (tgt := 82) dX0_areAlike_41 (by decide) (fun c48 => ?_) (fun c48 => ?_)
      · have hf49 := br_y hf47 c48; clear hf47
        refine j_iconst X (v := 1) dX0_areAlike_82 (by decide) ?_
        refine j_goto X (tgt := 87) dX0_areAlike_83 (by decide) ?_
        obtain ⟨er, es⟩ := rt_of hf49
        subst er
        exact j_retz X hr hlk (Nat.le_of_ble_eq_true rfl) (Nat.le_of_ble_eq_true rfl) rfl es.symm rfl (Or.inr rfl) dX0_areAlike_87
      · have hf50 := br_n hf47 c48; clear hf47
        refine j_aload_n X dX0_areAlike_44 1 rfl rfl ?_
        refine j_aload_n X dX0_areAlike_45 0 rfl rfl ?_
        obtain ⟨h51, hf52⟩ := chk_of hf50; clear hf50
        obtain ⟨i53, h54, hf55⟩ := bd_of hf52; clear hf52
        refine j_getr X fd_X0_33 h51 h54 dX0_areAlike_46 ?_
        refine j_iload_n X dX0_areAlike_49 2 rfl rfl ?_
        obtain ⟨h56, hf57⟩ := chk_of hf55; clear hf55
        refine j_iald X h56 dX0_areAlike_50 (fun v58 ev58 => ?_)
        replace hf57 := lt_of hf57 v58 ev58
        obtain ⟨h60, hf61⟩ := chk_of hf57; clear hf57
        refine j_iald X h60 dX0_areAlike_51 (fun v62 ev62 => ?_)
        replace hf61 := lt_of hf61 v62 ev62
        refine j_aload_n X dX0_areAlike_52 1 rfl rfl ?_
        refine j_aload_n X dX0_areAlike_53 0 rfl rfl ?_
        refine j_getr X fd_X0_33 h51 h54 dX0_areAlike_54 ?_
        refine j_iload_n X dX0_areAlike_57 3 rfl rfl ?_
        obtain ⟨h67, hf68⟩ := chk_of hf61; clear hf61
        refine j_iald X h67 dX0_areAlike_58 (fun v69 ev69 => ?_)
        replace hf68 := lt_of hf68 v69 ev69
        obtain ⟨h71, hf72⟩ := chk_of hf68; clear hf68
        refine j_iald X h71 dX0_areAlike_59 (fun v73 ev73 => ?_)
        replace hf72 := lt_of hf72 v73 ev73
        refine j_icmp_ne X (tgt := 86) dX0_areAlike_60 (by decide) (fun c75 => ?_) (fun c75 => ?_)
        · have hf76 := br_n hf72 c75; clear hf72
          refine j_iconst X (v := 0) dX0_areAlike_86 (by decide) ?_
          obtain ⟨er, es⟩ := rt_of hf76
          subst er
          exact j_retz X hr hlk (Nat.le_of_ble_eq_true rfl) (Nat.le_of_ble_eq_true rfl) rfl es.symm rfl (Or.inl rfl) dX0_areAlike_87
        · have hf77 := br_y hf72 c75; clear hf72
          refine j_aload_n X dX0_areAlike_63 1 rfl rfl ?_
          refine j_aload_n X dX0_areAlike_64 0 rfl rfl ?_
          obtain ⟨i78, h79, hf80⟩ := bd_of hf77; clear hf77
          refine j_getr X fd_X0_37 h51 h79 dX0_areAlike_65 ?_
          refine j_iload_n X dX0_areAlike_68 2 rfl rfl ?_
          obtain ⟨h81, hf82⟩ := chk_of hf80; clear hf80
          refine j_iald X h81 dX0_areAlike_69 (fun v83 ev83 => ?_)
          replace hf82 := lt_of hf82 v83 ev83
          obtain ⟨h85, hf86⟩ := chk_of hf82; clear hf82
          refine j_iald X h85 dX0_areAlike_70 (fun v87 ev87 => ?_)
          replace hf86 := lt_of hf86 v87 ev87
          refine j_aload_n X dX0_areAlike_71 1 rfl rfl ?_
          refine j_aload_n X dX0_areAlike_72 0 rfl rfl ?_
          refine j_getr X fd_X0_37 h51 h79 dX0_areAlike_73 ?_
          refine j_iload_n X dX0_areAlike_76 3 rfl rfl ?_
          obtain ⟨h92, hf93⟩ := chk_of hf86; clear hf86
          refine j_iald X h92 dX0_areAlike_77 (fun v94 ev94 => ?_)
          replace hf93 := lt_of hf93 v94 ev94
          obtain ⟨h96, hf97⟩ := chk_of hf93; clear hf93
          refine j_iald X h96 dX0_areAlike_78 (fun v98 ev98 => ?_)
          replace hf97 := lt_of hf97 v98 ev98
          refine j_icmp_ne X (tgt := 86) dX0_areAlike_79 (by decide) (fun c100 => ?_) (fun c100 => ?_)
          · have hf101 := br_n hf97 c100; clear hf97
            refine j_iconst X (v := 0) dX0_areAlike_86 (by decide) ?_
            obtain ⟨er, es⟩ := rt_of hf101
            subst er
            exact j_retz X hr hlk (Nat.le_of_ble_eq_true rfl) (Nat.le_of_ble_eq_true rfl) rfl es.symm rfl (Or.inl rfl) dX0_areAlike_87
          · have hf102 := br_y hf97 c100; clear hf97
            refine j_iconst X (v := 1) dX0_areAlike_82 (by decide) ?_
            refine j_goto X (tgt := 87) dX0_areAlike_83 (by decide) ?_
            obtain ⟨er, es⟩ := rt_of hf102
            subst er
            exact j_retz X hr hlk (Nat.le_of_ble_eq_true rfl) (Nat.le_of_ble_eq_true rfl) rfl es.symm rfl (Or.inr rfl) dX0_areAlike_87
    · have hf36 := br_n hf31 c34; clear hf31
      refine j_iconst X (v := 0) dX0_areAlike_30 (by decide) ?_
      obtain ⟨er, es⟩ := rt_of hf36
      subst er
      exact j_retz X hr hlk (Nat.le_of_ble_eq_true rfl) (Nat.le_of_ble_eq_true rfl) rfl es.symm rfl (Or.inl rfl) dX0_areAlike_31
def f_X0_hasSource (a0 : Nat) (a1 : Int32) (σ : HS) : Option (Int32 × HS) :=
  chk (isO σ 0 a0) (lt (hA σ a0 6) fun v3 =>
  (if ((v3 >>> (a1 &&& 31)) &&& (1 : Int32)) = (1 : Int32) then
  some ((1 : Int32), σ)
  else
  some ((0 : Int32), σ)))
abbrev rm_X0_hasSource : Room := { frames := 0, cells := 0, slots := 0, locals := 0 }
set_option maxHeartbeats 4000000 in
set_option maxRecDepth 100000 in
theorem c_X0_hasSource (l : Launch) (D : va_G) (cs : Nat → ClassId) (q : Nat → Nat) (a0 : Nat) (a1 : Int32) (σ σ0 : HS) (r0 : Int32) (hf0 : f_X0_hasSource a0 a1 σ = some (r0, σ0)) : MT l yX0_hasSource (Cond.code yX0_hasSource cX0_hasSource 2 (some .boolean) :: lw_g) rm_X0_hasSource D cs q σ σ0 [.ref (q a0), .int a1] (fun z => z = q) (fun _ => some (.int r0)) 0 0 := by
  unfold f_X0_hasSource at hf0
  refine MT_of (cc := cX0_hasSource) (lv0 := [(0, .ref (q a0)), (1, .int a1)]) (by decide) (Nat.le_of_ble_eq_true rfl) rfl (fun p e s m args below meth c A X hr hlk hin => ?_)
  refine j_aload_n X dX0_hasSource_0 0 rfl rfl ?_
  obtain ⟨h1, hf2⟩ := chk_of hf0; clear hf0
  refine j_geti X fd_X0_49 h1 dX0_hasSource_1 (fun v3 ev3 => ?_)
  replace hf2 := lt_of hf2 v3 ev3
  refine j_iload_n X dX0_hasSource_4 1 rfl rfl ?_
  refine j_ishr X dX0_hasSource_5 ?_
  refine j_iconst X (v := 1) dX0_hasSource_6 (by decide) ?_
  refine j_iand X dX0_hasSource_7 ?_
  refine j_iconst X (v := 1) dX0_hasSource_8 (by decide) ?_
  refine j_icmp_ne X (tgt := 16) dX0_hasSource_9 (by decide) (fun c5 => ?_) (fun c5 => ?_)
  · have hf6 := br_n hf2 c5; clear hf2
    refine j_iconst X (v := 0) dX0_hasSource_16 (by decide) ?_
    obtain ⟨er, es⟩ := rt_of hf6
    subst er
    exact j_retz X hr hlk (Nat.le_of_ble_eq_true rfl) (Nat.le_of_ble_eq_true rfl) rfl es.symm rfl (Or.inl rfl) dX0_hasSource_17
  · have hf7 := br_y hf2 c5; clear hf2
    refine j_iconst X (v := 1) dX0_hasSource_12 (by decide) ?_
    refine j_goto X (tgt := 17) dX0_hasSource_13 (by decide) ?_
    obtain ⟨er, es⟩ := rt_of hf7
    subst er
    exact j_retz X hr hlk (Nat.le_of_ble_eq_true rfl) (Nat.le_of_ble_eq_true rfl) rfl es.symm rfl (Or.inr rfl) dX0_hasSource_17
def lp_X0_isLike_15_b  (K15 : Nat → Nat → Int32 → HS → Option (Int32 × HS)) (x0 : Nat) (x1 : Nat) (x2 : Int32) (τ : HS) : Option (Int32 × HS) :=
  chk (isO τ 0 x0) (lt (hA τ x0 0) fun v16 =>
  (if v16 ≤ x2 then
  some ((1 : Int32), τ)
  else
  bd (hR τ x0 1) fun i21 =>
  chk (isO τ 10 i21 ∧ inb x2 (hlen τ i21)) (lt (hA τ i21 x2.toNatClampNeg) fun v26 =>
  chk (isO τ 0 x1) (bd (hR τ x1 1) fun i30 =>
  chk (isO τ 10 i30 ∧ inb x2 (hlen τ i30)) (lt (hA τ i30 x2.toNatClampNeg) fun v35 =>
  (if v26 = v35 then
  bd (hR τ x0 5) fun i40 =>
  chk (isO τ 10 i40 ∧ inb x2 (hlen τ i40)) (lt (hA τ i40 x2.toNatClampNeg) fun v45 =>
  bd (hR τ x1 5) fun i47 =>
  chk (isO τ 10 i47 ∧ inb x2 (hlen τ i47)) (lt (hA τ i47 x2.toNatClampNeg) fun v52 =>
  (if v45 = v52 then
  lt (x2 + (1 : Int32)) fun v57 =>
  K15 x0 x1 v57 τ
  else
  some ((0 : Int32), τ))))
  else
  some ((0 : Int32), τ)))))))
def lp_X0_isLike_15  : Nat → Nat → Nat → Int32 → HS → Option (Int32 × HS)
  | 0 => fun _ _ _ _ => none
  | n + 1 => lp_X0_isLike_15_b  (lp_X0_isLike_15  n)
def f_X0_isLike (a0 : Nat) (a1 : Nat) (σ : HS) : Option (Int32 × HS) :=
  chk (isO σ 0 a0) (lt (hA σ a0 0) fun v3 =>
  chk (isO σ 0 a1) (lt (hA σ a1 0) fun v7 =>
  (if v3 = v7 then
  lt ((0 : Int32)) fun v12 =>
  lp_X0_isLike_15  1000 a0 a1 v12 σ
  else
  some ((0 : Int32), σ))))
abbrev rm_X0_isLike : Room := { frames := 0, cells := 0, slots := 0, locals := 0 }
set_option maxHeartbeats 4000000 in
set_option maxRecDepth 100000 in
theorem c_X0_isLike (l : Launch) (D : va_G) (cs : Nat → ClassId) (q : Nat → Nat) (a0 : Nat) (a1 : Nat) (σ σ0 : HS) (r0 : Int32) (hf0 : f_X0_isLike a0 a1 σ = some (r0, σ0)) : MT l yX0_isLike (Cond.code yX0_isLike cX0_isLike 3 (some .boolean) :: lw_g) rm_X0_isLike D cs q σ σ0 [.ref (q a0), .ref (q a1)] (fun z => z = q) (fun _ => some (.int r0)) 0 0 := by
  unfold f_X0_isLike at hf0
  refine MT_of (cc := cX0_isLike) (lv0 := [(0, .ref (q a0)), (1, .ref (q a1))]) (by decide) (Nat.le_of_ble_eq_true rfl) rfl (fun p e s m args below meth c A X hr hlk hin => ?_)
  have L15 : ∀ (nk : Nat) (x0 : Nat) (x1 : Nat) (x2 : Int32) (τ : HS), lp_X0_isLike_15  nk x0 x1 x2 τ = some (r0, σ0) → J p l e rm_X0_isLike s m args below meth c 3 D cs A s.heap 0 0 (MQ below (hQ D cs (fun z => z = q) (fun _ => some (.int r0)) σ0 A) args s 0 0 A) q τ [(0, .ref (q x0)), (1, .ref (q x1)), (2, .int x2)] 15 [] := by
    intro nk
    induction nk with
    | zero => intro x0 x1 x2 τ hf0; have hf1 : (none : Option (Int32 × HS)) = some (r0, σ0) := hf0; cases hf1
    | succ nk ih =>
      intro x0 x1 x2 τ hf0
      replace hf0 : lp_X0_isLike_15_b  (lp_X0_isLike_15  nk) x0 x1 x2 τ = some (r0, σ0) := hf0
      unfold lp_X0_isLike_15_b at hf0
      refine j_iload_n X dX0_isLike_15 2 rfl rfl ?_
      refine j_aload_n X dX0_isLike_16 0 rfl rfl ?_
      obtain ⟨h14, hf15⟩ := chk_of hf0; clear hf0
      refine j_geti X fd_X0_15 h14 dX0_isLike_17 (fun v16 ev16 => ?_)
      replace hf15 := lt_of hf15 v16 ev16
      refine j_icmp_ge X (tgt := 61) dX0_isLike_20 (by decide) (fun c18 => ?_) (fun c18 => ?_)
      · have hf19 := br_y hf15 c18; clear hf15
        refine j_iconst X (v := 1) dX0_isLike_61 (by decide) ?_
        obtain ⟨er, es⟩ := rt_of hf19
        subst er
        exact j_retz X hr hlk (Nat.le_of_ble_eq_true rfl) (Nat.le_of_ble_eq_true rfl) rfl es.symm rfl (Or.inr rfl) dX0_isLike_62
      · have hf20 := br_n hf15 c18; clear hf15
        refine j_aload_n X dX0_isLike_23 0 rfl rfl ?_
        obtain ⟨i21, h22, hf23⟩ := bd_of hf20; clear hf20
        refine j_getr X fd_X0_28 h14 h22 dX0_isLike_24 ?_
        refine j_iload_n X dX0_isLike_27 2 rfl rfl ?_
        obtain ⟨h24, hf25⟩ := chk_of hf23; clear hf23
        refine j_iald X h24 dX0_isLike_28 (fun v26 ev26 => ?_)
        replace hf25 := lt_of hf25 v26 ev26
        refine j_aload_n X dX0_isLike_29 1 rfl rfl ?_
        obtain ⟨h28, hf29⟩ := chk_of hf25; clear hf25
        obtain ⟨i30, h31, hf32⟩ := bd_of hf29; clear hf29
        refine j_getr X fd_X0_28 h28 h31 dX0_isLike_30 ?_
        refine j_iload_n X dX0_isLike_33 2 rfl rfl ?_
        obtain ⟨h33, hf34⟩ := chk_of hf32; clear hf32
        refine j_iald X h33 dX0_isLike_34 (fun v35 ev35 => ?_)
        replace hf34 := lt_of hf34 v35 ev35
        refine j_icmp_ne X (tgt := 53) dX0_isLike_35 (by decide) (fun c37 => ?_) (fun c37 => ?_)
        · have hf38 := br_n hf34 c37; clear hf34
          refine j_iconst X (v := 0) dX0_isLike_53 (by decide) ?_
          obtain ⟨er, es⟩ := rt_of hf38
          subst er
          exact j_retz X hr hlk (Nat.le_of_ble_eq_true rfl) (Nat.le_of_ble_eq_true rfl) rfl es.symm rfl (Or.inl rfl) dX0_isLike_54
        · have hf39 := br_y hf34 c37; clear hf34
          refine j_aload_n X dX0_isLike_38 0 rfl rfl ?_
          obtain ⟨i40, h41, hf42⟩ := bd_of hf39; clear hf39
          refine j_getr X fd_X0_44 h14 h41 dX0_isLike_39 ?_
          refine j_iload_n X dX0_isLike_42 2 rfl rfl ?_
          obtain ⟨h43, hf44⟩ := chk_of hf42; clear hf42
          refine j_iald X h43 dX0_isLike_43 (fun v45 ev45 => ?_)
          replace hf44 := lt_of hf44 v45 ev45
          refine j_aload_n X dX0_isLike_44 1 rfl rfl ?_
          obtain ⟨i47, h48, hf49⟩ := bd_of hf44; clear hf44
          refine j_getr X fd_X0_44 h28 h48 dX0_isLike_45 ?_
          refine j_iload_n X dX0_isLike_48 2 rfl rfl ?_
          obtain ⟨h50, hf51⟩ := chk_of hf49; clear hf49
          refine j_iald X h50 dX0_isLike_49 (fun v52 ev52 => ?_)
          replace hf51 := lt_of hf51 v52 ev52
          refine j_icmp_eq X (tgt := 55) dX0_isLike_50 (by decide) (fun c54 => ?_) (fun c54 => ?_)
          · have hf55 := br_y hf51 c54; clear hf51
            obtain ⟨v57, ev57⟩ : ∃ y : Int32, y = x2 + (1 : Int32) := ⟨_, rfl⟩
            replace hf55 := lt_of hf55 v57 ev57
            refine j_iinc X (v := v57) (lv' := [(2, .int v57), (0, .ref (q x0)), (1, .ref (q x1))]) dX0_isLike_55 2 rfl (by rw [ev57]; rfl) (by decide) rfl ?_
            refine j_goto X (tgt := 15) dX0_isLike_58 (by decide) ?_
            refine j_lvsub [1, 2, 0] (lv' := [(0, .ref (q x0)), (1, .ref (q x1)), (2, .int v57)]) rfl ?_
            exact ih x0 x1 v57 τ hf55
          · have hf56 := br_n hf51 c54; clear hf51
            refine j_iconst X (v := 0) dX0_isLike_53 (by decide) ?_
            obtain ⟨er, es⟩ := rt_of hf56
            subst er
            exact j_retz X hr hlk (Nat.le_of_ble_eq_true rfl) (Nat.le_of_ble_eq_true rfl) rfl es.symm rfl (Or.inl rfl) dX0_isLike_54
  refine j_aload_n X dX0_isLike_0 0 rfl rfl ?_
  obtain ⟨h1, hf2⟩ := chk_of hf0; clear hf0
  refine j_geti X fd_X0_15 h1 dX0_isLike_1 (fun v3 ev3 => ?_)
  replace hf2 := lt_of hf2 v3 ev3
  refine j_aload_n X dX0_isLike_4 1 rfl rfl ?_
  obtain ⟨h5, hf6⟩ := chk_of hf2; clear hf2
  refine j_geti X fd_X0_15 h5 dX0_isLike_5 (fun v7 ev7 => ?_)
  replace hf6 := lt_of hf6 v7 ev7
  refine j_icmp_eq X (tgt := 13) dX0_isLike_8 (by decide) (fun c9 => ?_) (fun c9 => ?_)
  · have hf10 := br_y hf6 c9; clear hf6
    refine j_iconst X (v := 0) dX0_isLike_13 (by decide) ?_
    refine j_nmi (fun v12 ev12 => ?_)
    replace hf10 := lt_of hf10 v12 ev12
    refine j_istore_n X (lv' := [(2, .int v12), (0, .ref (q a0)), (1, .ref (q a1))]) dX0_isLike_14 rfl (by decide) rfl ?_
    refine j_lvsub [1, 2, 0] (lv' := [(0, .ref (q a0)), (1, .ref (q a1)), (2, .int v12)]) rfl ?_
    exact L15  1000 a0 a1 v12 σ hf10
  · have hf11 := br_n hf6 c9; clear hf6
    refine j_iconst X (v := 0) dX0_isLike_11 (by decide) ?_
    obtain ⟨er, es⟩ := rt_of hf11
    subst er
    exact j_retz X hr hlk (Nat.le_of_ble_eq_true rfl) (Nat.le_of_ble_eq_true rfl) rfl es.symm rfl (Or.inl rfl) dX0_isLike_12
def lp_X0_sourcesIn_4_b  (K4 : Nat → Int32 → Int32 → HS → Option (Int32 × HS)) (x0 : Nat) (x1 : Int32) (x2 : Int32) (τ : HS) : Option (Int32 × HS) :=
  chk (isO τ 3 x0) (lt (hA τ x0 8) fun v7 =>
  (if v7 ≤ x2 then
  some (x1, τ)
  else
  bd (hR τ x0 3) fun i12 =>
  chk (isO τ 10 i12 ∧ inb x2 (hlen τ i12)) (lt (hA τ i12 x2.toNatClampNeg) fun v17 =>
  (if v17 = 0 then
  bd (hR τ x0 7) fun i24 =>
  chk (isO τ 10 i24 ∧ inb x2 (hlen τ i24)) (lt (hA τ i24 x2.toNatClampNeg) fun v29 =>
  lt ((x1 ||| ((1 : Int32) <<< (v29 &&& 31)))) fun v31 =>
  lt (x2 + (1 : Int32)) fun v33 =>
  K4 x0 v31 v33 τ)
  else
  lt (x2 + (1 : Int32)) fun v22 =>
  K4 x0 x1 v22 τ))))
def lp_X0_sourcesIn_4  : Nat → Nat → Int32 → Int32 → HS → Option (Int32 × HS)
  | 0 => fun _ _ _ _ => none
  | n + 1 => lp_X0_sourcesIn_4_b  (lp_X0_sourcesIn_4  n)
def f_X0_sourcesIn (a0 : Nat) (σ : HS) : Option (Int32 × HS) :=
  lt ((0 : Int32)) fun v1 =>
  lt ((0 : Int32)) fun v3 =>
  lp_X0_sourcesIn_4  1000 a0 v1 v3 σ
abbrev rm_X0_sourcesIn : Room := { frames := 0, cells := 0, slots := 0, locals := 0 }
set_option maxHeartbeats 4000000 in
set_option maxRecDepth 100000 in
theorem c_X0_sourcesIn (l : Launch) (D : va_G) (cs : Nat → ClassId) (q : Nat → Nat) (a0 : Nat) (σ σ0 : HS) (r0 : Int32) (hf0 : f_X0_sourcesIn a0 σ = some (r0, σ0)) : MT l yX0_sourcesIn (Cond.code yX0_sourcesIn cX0_sourcesIn 3 (some .int) :: lw_g) rm_X0_sourcesIn D cs q σ σ0 [.ref (q a0)] (fun z => z = q) (fun _ => some (.int r0)) 0 0 := by
  unfold f_X0_sourcesIn at hf0
  refine MT_of (cc := cX0_sourcesIn) (lv0 := [(0, .ref (q a0))]) (by decide) (Nat.le_of_ble_eq_true rfl) rfl (fun p e s m args below meth c A X hr hlk hin => ?_)
  have L4 : ∀ (nk : Nat) (x0 : Nat) (x1 : Int32) (x2 : Int32) (τ : HS), lp_X0_sourcesIn_4  nk x0 x1 x2 τ = some (r0, σ0) → J p l e rm_X0_sourcesIn s m args below meth c 3 D cs A s.heap 0 0 (MQ below (hQ D cs (fun z => z = q) (fun _ => some (.int r0)) σ0 A) args s 0 0 A) q τ [(0, .ref (q x0)), (1, .int x1), (2, .int x2)] 4 [] := by
    intro nk
    induction nk with
    | zero => intro x0 x1 x2 τ hf0; have hf1 : (none : Option (Int32 × HS)) = some (r0, σ0) := hf0; cases hf1
    | succ nk ih =>
      intro x0 x1 x2 τ hf0
      replace hf0 : lp_X0_sourcesIn_4_b  (lp_X0_sourcesIn_4  nk) x0 x1 x2 τ = some (r0, σ0) := hf0
      unfold lp_X0_sourcesIn_4_b at hf0
      refine j_iload_n X dX0_sourcesIn_4 2 rfl rfl ?_
      refine j_aload_n X dX0_sourcesIn_5 0 rfl rfl ?_
      obtain ⟨h5, hf6⟩ := chk_of hf0; clear hf0
      refine j_geti X fd_X0_9 h5 dX0_sourcesIn_6 (fun v7 ev7 => ?_)
      replace hf6 := lt_of hf6 v7 ev7
      refine j_icmp_ge X (tgt := 38) dX0_sourcesIn_9 (by decide) (fun c9 => ?_) (fun c9 => ?_)
      · have hf10 := br_y hf6 c9; clear hf6
        refine j_iload_n X dX0_sourcesIn_38 1 rfl rfl ?_
        obtain ⟨er, es⟩ := rt_of hf10
        subst er
        exact j_reti X hr hlk (Nat.le_of_ble_eq_true rfl) (Nat.le_of_ble_eq_true rfl) rfl es.symm rfl dX0_sourcesIn_39
      · have hf11 := br_n hf6 c9; clear hf6
        refine j_aload_n X dX0_sourcesIn_12 0 rfl rfl ?_
        obtain ⟨i12, h13, hf14⟩ := bd_of hf11; clear hf11
        refine j_getr X fd_X0_18 h5 h13 dX0_sourcesIn_13 ?_
        refine j_iload_n X dX0_sourcesIn_16 2 rfl rfl ?_
        obtain ⟨h15, hf16⟩ := chk_of hf14; clear hf14
        refine j_iald X h15 dX0_sourcesIn_17 (fun v17 ev17 => ?_)
        replace hf16 := lt_of hf16 v17 ev17
        refine j_if_ne X (tgt := 32) dX0_sourcesIn_18 (by decide) (fun c19 => ?_) (fun c19 => ?_)
        · have hf20 := br_n hf16 c19; clear hf16
          obtain ⟨v22, ev22⟩ : ∃ y : Int32, y = x2 + (1 : Int32) := ⟨_, rfl⟩
          replace hf20 := lt_of hf20 v22 ev22
          refine j_iinc X (v := v22) (lv' := [(2, .int v22), (0, .ref (q x0)), (1, .int x1)]) dX0_sourcesIn_32 2 rfl (by rw [ev22]; rfl) (by decide) rfl ?_
          refine j_goto X (tgt := 4) dX0_sourcesIn_35 (by decide) ?_
          refine j_lvsub [1, 2, 0] (lv' := [(0, .ref (q x0)), (1, .int x1), (2, .int v22)]) rfl ?_
          exact ih x0 x1 v22 τ hf20
        · have hf21 := br_y hf16 c19; clear hf16
          refine j_iload_n X dX0_sourcesIn_21 1 rfl rfl ?_
          refine j_iconst X (v := 1) dX0_sourcesIn_22 (by decide) ?_
          refine j_aload_n X dX0_sourcesIn_23 0 rfl rfl ?_
          obtain ⟨i24, h25, hf26⟩ := bd_of hf21; clear hf21
          refine j_getr X fd_X0_41 h5 h25 dX0_sourcesIn_24 ?_
          refine j_iload_n X dX0_sourcesIn_27 2 rfl rfl ?_
          obtain ⟨h27, hf28⟩ := chk_of hf26; clear hf26
          refine j_iald X h27 dX0_sourcesIn_28 (fun v29 ev29 => ?_)
          replace hf28 := lt_of hf28 v29 ev29
          refine j_ishl X dX0_sourcesIn_29 ?_
          refine j_ior X dX0_sourcesIn_30 ?_
          refine j_nmi (fun v31 ev31 => ?_)
          replace hf28 := lt_of hf28 v31 ev31
          refine j_istore_n X (lv' := [(1, .int v31), (0, .ref (q x0)), (2, .int x2)]) dX0_sourcesIn_31 rfl (by decide) rfl ?_
          obtain ⟨v33, ev33⟩ : ∃ y : Int32, y = x2 + (1 : Int32) := ⟨_, rfl⟩
          replace hf28 := lt_of hf28 v33 ev33
          refine j_iinc X (v := v33) (lv' := [(2, .int v33), (1, .int v31), (0, .ref (q x0))]) dX0_sourcesIn_32 2 rfl (by rw [ev33]; rfl) (by decide) rfl ?_
          refine j_goto X (tgt := 4) dX0_sourcesIn_35 (by decide) ?_
          refine j_lvsub [2, 1, 0] (lv' := [(0, .ref (q x0)), (1, .int v31), (2, .int v33)]) rfl ?_
          exact ih x0 v31 v33 τ hf28
  refine j_iconst X (v := 0) dX0_sourcesIn_0 (by decide) ?_
  refine j_nmi (fun v1 ev1 => ?_)
  replace hf0 := lt_of hf0 v1 ev1
  refine j_istore_n X (lv' := [(1, .int v1), (0, .ref (q a0))]) dX0_sourcesIn_1 rfl (by decide) rfl ?_
  refine j_iconst X (v := 0) dX0_sourcesIn_2 (by decide) ?_
  refine j_nmi (fun v3 ev3 => ?_)
  replace hf0 := lt_of hf0 v3 ev3
  refine j_istore_n X (lv' := [(2, .int v3), (1, .int v1), (0, .ref (q a0))]) dX0_sourcesIn_3 rfl (by decide) rfl ?_
  refine j_lvsub [2, 1, 0] (lv' := [(0, .ref (q a0)), (1, .int v1), (2, .int v3)]) rfl ?_
  exact L4  1000 a0 v1 v3 σ hf0
def lp_X0_unlikeIn_4_b  (K4 : Nat → Int32 → Int32 → HS → Option (Int32 × HS)) (x0 : Nat) (x1 : Int32) (x2 : Int32) (τ : HS) : Option (Int32 × HS) :=
  chk (isO τ 10 x0) (lt (Int32.ofNat (hlen τ x0)) fun v7 =>
  (if v7 ≤ x2 then
  some (x1, τ)
  else
  chk (isO τ 10 x0 ∧ inb x2 (hlen τ x0)) (lt (hA τ x0 x2.toNatClampNeg) fun v14 =>
  (if v14 = x2 then
  lt ((x1 + (1 : Int32))) fun v23 =>
  lt (x2 + (1 : Int32)) fun v25 =>
  K4 x0 v23 v25 τ
  else
  lt ((x1 + (0 : Int32))) fun v19 =>
  lt (x2 + (1 : Int32)) fun v21 =>
  K4 x0 v19 v21 τ))))
def lp_X0_unlikeIn_4  : Nat → Nat → Int32 → Int32 → HS → Option (Int32 × HS)
  | 0 => fun _ _ _ _ => none
  | n + 1 => lp_X0_unlikeIn_4_b  (lp_X0_unlikeIn_4  n)
def f_X0_unlikeIn (a0 : Nat) (σ : HS) : Option (Int32 × HS) :=
  lt ((0 : Int32)) fun v1 =>
  lt ((0 : Int32)) fun v3 =>
  lp_X0_unlikeIn_4  1000 a0 v1 v3 σ
abbrev rm_X0_unlikeIn : Room := { frames := 0, cells := 0, slots := 0, locals := 0 }
set_option maxHeartbeats 4000000 in
set_option maxRecDepth 100000 in
theorem c_X0_unlikeIn (l : Launch) (D : va_G) (cs : Nat → ClassId) (q : Nat → Nat) (a0 : Nat) (σ σ0 : HS) (r0 : Int32) (hf0 : f_X0_unlikeIn a0 σ = some (r0, σ0)) : MT l yX0_unlikeIn (Cond.code yX0_unlikeIn cX0_unlikeIn 3 (some .int) :: lw_g) rm_X0_unlikeIn D cs q σ σ0 [.ref (q a0)] (fun z => z = q) (fun _ => some (.int r0)) 0 0 := by
  unfold f_X0_unlikeIn at hf0
  refine MT_of (cc := cX0_unlikeIn) (lv0 := [(0, .ref (q a0))]) (by decide) (Nat.le_of_ble_eq_true rfl) rfl (fun p e s m args below meth c A X hr hlk hin => ?_)
  have L4 : ∀ (nk : Nat) (x0 : Nat) (x1 : Int32) (x2 : Int32) (τ : HS), lp_X0_unlikeIn_4  nk x0 x1 x2 τ = some (r0, σ0) → J p l e rm_X0_unlikeIn s m args below meth c 3 D cs A s.heap 0 0 (MQ below (hQ D cs (fun z => z = q) (fun _ => some (.int r0)) σ0 A) args s 0 0 A) q τ [(0, .ref (q x0)), (1, .int x1), (2, .int x2)] 4 [] := by
    intro nk
    induction nk with
    | zero => intro x0 x1 x2 τ hf0; have hf1 : (none : Option (Int32 × HS)) = some (r0, σ0) := hf0; cases hf1
    | succ nk ih =>
      intro x0 x1 x2 τ hf0
      replace hf0 : lp_X0_unlikeIn_4_b  (lp_X0_unlikeIn_4  nk) x0 x1 x2 τ = some (r0, σ0) := hf0
      unfold lp_X0_unlikeIn_4_b at hf0
      refine j_iload_n X dX0_unlikeIn_4 2 rfl rfl ?_
      refine j_aload_n X dX0_unlikeIn_5 0 rfl rfl ?_
      obtain ⟨h5, hf6⟩ := chk_of hf0; clear hf0
      refine j_alen X (Or.inl rfl) h5 dX0_unlikeIn_6 (fun v7 ev7 => ?_)
      replace hf6 := lt_of hf6 v7 ev7
      refine j_icmp_ge X (tgt := 31) dX0_unlikeIn_7 (by decide) (fun c9 => ?_) (fun c9 => ?_)
      · have hf10 := br_y hf6 c9; clear hf6
        refine j_iload_n X dX0_unlikeIn_31 1 rfl rfl ?_
        obtain ⟨er, es⟩ := rt_of hf10
        subst er
        exact j_reti X hr hlk (Nat.le_of_ble_eq_true rfl) (Nat.le_of_ble_eq_true rfl) rfl es.symm rfl dX0_unlikeIn_32
      · have hf11 := br_n hf6 c9; clear hf6
        refine j_iload_n X dX0_unlikeIn_10 1 rfl rfl ?_
        refine j_aload_n X dX0_unlikeIn_11 0 rfl rfl ?_
        refine j_iload_n X dX0_unlikeIn_12 2 rfl rfl ?_
        obtain ⟨h12, hf13⟩ := chk_of hf11; clear hf11
        refine j_iald X h12 dX0_unlikeIn_13 (fun v14 ev14 => ?_)
        replace hf13 := lt_of hf13 v14 ev14
        refine j_iload_n X dX0_unlikeIn_14 2 rfl rfl ?_
        refine j_icmp_ne X (tgt := 22) dX0_unlikeIn_15 (by decide) (fun c16 => ?_) (fun c16 => ?_)
        · have hf17 := br_n hf13 c16; clear hf13
          refine j_iconst X (v := 0) dX0_unlikeIn_22 (by decide) ?_
          refine j_iadd X dX0_unlikeIn_23 ?_
          refine j_nmi (fun v19 ev19 => ?_)
          replace hf17 := lt_of hf17 v19 ev19
          refine j_istore_n X (lv' := [(1, .int v19), (0, .ref (q x0)), (2, .int x2)]) dX0_unlikeIn_24 rfl (by decide) rfl ?_
          obtain ⟨v21, ev21⟩ : ∃ y : Int32, y = x2 + (1 : Int32) := ⟨_, rfl⟩
          replace hf17 := lt_of hf17 v21 ev21
          refine j_iinc X (v := v21) (lv' := [(2, .int v21), (1, .int v19), (0, .ref (q x0))]) dX0_unlikeIn_25 2 rfl (by rw [ev21]; rfl) (by decide) rfl ?_
          refine j_goto X (tgt := 4) dX0_unlikeIn_28 (by decide) ?_
          refine j_lvsub [2, 1, 0] (lv' := [(0, .ref (q x0)), (1, .int v19), (2, .int v21)]) rfl ?_
          exact ih x0 v19 v21 τ hf17
        · have hf18 := br_y hf13 c16; clear hf13
          refine j_iconst X (v := 1) dX0_unlikeIn_18 (by decide) ?_
          refine j_goto X (tgt := 23) dX0_unlikeIn_19 (by decide) ?_
          refine j_iadd X dX0_unlikeIn_23 ?_
          refine j_nmi (fun v23 ev23 => ?_)
          replace hf18 := lt_of hf18 v23 ev23
          refine j_istore_n X (lv' := [(1, .int v23), (0, .ref (q x0)), (2, .int x2)]) dX0_unlikeIn_24 rfl (by decide) rfl ?_
          obtain ⟨v25, ev25⟩ : ∃ y : Int32, y = x2 + (1 : Int32) := ⟨_, rfl⟩
          replace hf18 := lt_of hf18 v25 ev25
          refine j_iinc X (v := v25) (lv' := [(2, .int v25), (1, .int v23), (0, .ref (q x0))]) dX0_unlikeIn_25 2 rfl (by rw [ev25]; rfl) (by decide) rfl ?_
          refine j_goto X (tgt := 4) dX0_unlikeIn_28 (by decide) ?_
          refine j_lvsub [2, 1, 0] (lv' := [(0, .ref (q x0)), (1, .int v23), (2, .int v25)]) rfl ?_
          exact ih x0 v23 v25 τ hf18
  refine j_iconst X (v := 0) dX0_unlikeIn_0 (by decide) ?_
  refine j_nmi (fun v1 ev1 => ?_)
  replace hf0 := lt_of hf0 v1 ev1
  refine j_istore_n X (lv' := [(1, .int v1), (0, .ref (q a0))]) dX0_unlikeIn_1 rfl (by decide) rfl ?_
  refine j_iconst X (v := 0) dX0_unlikeIn_2 (by decide) ?_
  refine j_nmi (fun v3 ev3 => ?_)
  replace hf0 := lt_of hf0 v3 ev3
  refine j_istore_n X (lv' := [(2, .int v3), (1, .int v1), (0, .ref (q a0))]) dX0_unlikeIn_3 rfl (by decide) rfl ?_
  refine j_lvsub [2, 1, 0] (lv' := [(0, .ref (q a0)), (1, .int v1), (2, .int v3)]) rfl ?_
  exact L4  1000 a0 v1 v3 σ hf0
def f_X5_formulaOf (a0 : Nat) (a1 : Int32) (σ : HS) : Option ((Option Nat) × HS) :=
  (if a1 < 0 then
  some (none, σ)
  else
  chk (isO σ 5 a0) (bd (hR σ a0 0) fun i6 =>
  chk (isO σ 2 i6) (lt (hA σ i6 4) fun v11 =>
  (if a1 < v11 then
  bd (hR σ i6 3) fun i19 =>
  chk (isO σ 13 i19 ∧ inb a1 (hlen σ i19)) (lt (hR σ i19 a1.toNatClampNeg) fun o24 =>
  some (o24, σ))
  else
  some (none, σ)))))
abbrev rm_X5_formulaOf : Room := { frames := 0, cells := 0, slots := 0, locals := 0 }
set_option maxHeartbeats 4000000 in
set_option maxRecDepth 100000 in
theorem c_X5_formulaOf (l : Launch) (D : va_G) (cs : Nat → ClassId) (q : Nat → Nat) (a0 : Nat) (a1 : Int32) (σ σ0 : HS) (r0 : (Option Nat)) (hf0 : f_X5_formulaOf a0 a1 σ = some (r0, σ0)) : MT l yX5_formulaOf (Cond.code yX5_formulaOf cX5_formulaOf 2 (some (.object "SpanKeeper$Formula")) :: lw_g) rm_X5_formulaOf D cs q σ σ0 [.ref (q a0), .int a1] (fun z => z = q) (fun z => some (va_rf (Option.map z r0))) 0 0 := by
  unfold f_X5_formulaOf at hf0
  refine MT_of (cc := cX5_formulaOf) (lv0 := [(0, .ref (q a0)), (1, .int a1)]) (by decide) (Nat.le_of_ble_eq_true rfl) rfl (fun p e s m args below meth c A X hr hlk hin => ?_)
  refine j_iload_n X dX5_formulaOf_0 1 rfl rfl ?_
  refine j_if_lt X (tgt := 15) dX5_formulaOf_1 (by decide) (fun c1 => ?_) (fun c1 => ?_)
  · have hf2 := br_y hf0 c1; clear hf0
    refine j_null X dX5_formulaOf_15 ?_
    refine j_goto X (tgt := 28) dX5_formulaOf_16 (by decide) ?_
    obtain ⟨er, es⟩ := rt_of hf2
    subst er
    exact j_reta (o := Option.map q none) X hr rfl hlk (Nat.le_of_ble_eq_true rfl) (Nat.le_of_ble_eq_true rfl) rfl es.symm rfl dX5_formulaOf_28
  · have hf3 := br_n hf0 c1; clear hf0
    refine j_iload_n X dX5_formulaOf_4 1 rfl rfl ?_
    refine j_aload_n X dX5_formulaOf_5 0 rfl rfl ?_
    obtain ⟨h4, hf5⟩ := chk_of hf3; clear hf3
    obtain ⟨i6, h7, hf8⟩ := bd_of hf5; clear hf5
    refine j_getr X fd_X5_14 h4 h7 dX5_formulaOf_6 ?_
    obtain ⟨h9, hf10⟩ := chk_of hf8; clear hf8
    refine j_geti X fd_X5_93 h9 dX5_formulaOf_9 (fun v11 ev11 => ?_)
    replace hf10 := lt_of hf10 v11 ev11
    refine j_icmp_lt X (tgt := 19) dX5_formulaOf_12 (by decide) (fun c13 => ?_) (fun c13 => ?_)
    · have hf14 := br_y hf10 c13; clear hf10
      refine j_aload_n X dX5_formulaOf_19 0 rfl rfl ?_
      refine j_getr X fd_X5_14 h4 h7 dX5_formulaOf_20 ?_
      obtain ⟨i19, h20, hf21⟩ := bd_of hf14; clear hf14
      refine j_getr X fd_X5_96 h9 h20 dX5_formulaOf_23 ?_
      refine j_iload_n X dX5_formulaOf_26 1 rfl rfl ?_
      obtain ⟨h22, hf23⟩ := chk_of hf21; clear hf21
      refine j_aald X h22 dX5_formulaOf_27 (fun o24 eo24 => ?_)
      replace hf23 := lt_of hf23 o24 eo24
      obtain ⟨er, es⟩ := rt_of hf23
      subst er
      exact j_reta (o := Option.map q o24) X hr rfl hlk (Nat.le_of_ble_eq_true rfl) (Nat.le_of_ble_eq_true rfl) rfl es.symm rfl dX5_formulaOf_28
    · have hf15 := br_n hf10 c13; clear hf10
      refine j_null X dX5_formulaOf_15 ?_
      refine j_goto X (tgt := 28) dX5_formulaOf_16 (by decide) ?_
      obtain ⟨er, es⟩ := rt_of hf15
      subst er
      exact j_reta (o := Option.map q none) X hr rfl hlk (Nat.le_of_ble_eq_true rfl) (Nat.le_of_ble_eq_true rfl) rfl es.symm rfl dX5_formulaOf_28
def f_X5_carryAsItIs (a0 : Nat) (a1 : Nat) (σ : HS) : Option (Unit × HS) :=
  chk (isO σ 5 a0) (bd (hR σ a0 4) fun i3 =>
  bd (hR σ a0 0) fun i6 =>
  chk (isO σ 4 i3) (bc (f_X4_standAs i3 i6 σ) fun r11 σ12 =>
  chk (isO σ12 5 a0) (bd (hR σ12 a0 4) fun i17 =>
  chk (isO σ12 4 i17) (bc (f_X4_carry i17 a1 σ12) fun r22 σ23 =>
  some ((), σ23)))))
abbrev rm_X5_carryAsItIs : Room := { frames := 4, cells := 0, slots := 0, locals := 256 }
set_option maxHeartbeats 4000000 in
set_option maxRecDepth 100000 in
theorem c_X5_carryAsItIs (l : Launch) (D : va_G) (cs : Nat → ClassId) (q : Nat → Nat) (a0 : Nat) (a1 : Nat) (σ σ0 : HS) (r0 : Unit) (hf0 : f_X5_carryAsItIs a0 a1 σ = some (r0, σ0)) : MT l yX5_carryAsItIs (Cond.code yX5_carryAsItIs cX5_carryAsItIs 2 none :: lw_g) rm_X5_carryAsItIs D cs q σ σ0 [.ref (q a0), .ref (q a1)] (fun z => z = q) (fun _ => none) 0 0 := by
  unfold f_X5_carryAsItIs at hf0
  refine MT_of (cc := cX5_carryAsItIs) (lv0 := [(0, .ref (q a0)), (1, .ref (q a1))]) (by decide) (Nat.le_of_ble_eq_true rfl) rfl (fun p e s m args below meth c A X hr hlk hin => ?_)
  refine j_aload_n X dX5_carryAsItIs_0 0 rfl rfl ?_
  obtain ⟨h1, hf2⟩ := chk_of hf0; clear hf0
  obtain ⟨i3, h4, hf5⟩ := bd_of hf2; clear hf2
  refine j_getr X fd_X5_35 h1 h4 dX5_carryAsItIs_1 ?_
  refine j_aload_n X dX5_carryAsItIs_4 0 rfl rfl ?_
  obtain ⟨i6, h7, hf8⟩ := bd_of hf5; clear hf5
  refine j_getr X fd_X5_14 h1 h7 dX5_carryAsItIs_5 ?_
  obtain ⟨h9, hf10⟩ := chk_of hf8; clear hf8
  obtain ⟨r11, σ12, h13, hf14⟩ := bc_of hf10; clear hf10
  refine j_callV0 X [.ref (q i6)] [] (c_X4_standAs l D cs q i3 i6 σ _ _ h13) mk_X4_standAs mv_X4_standAs ml_X5_199 h9 rfl (by decide) ⟨rfl, rfl⟩ ⟨Nat.le_of_ble_eq_true rfl, Nat.le_of_ble_eq_true rfl⟩ rfl (Nat.le_of_ble_eq_true rfl) ⟨Nat.le_of_ble_eq_true rfl, Nat.le_of_ble_eq_true rfl⟩ dX5_carryAsItIs_8 rfl (st' := []) rfl ?_
  refine j_aload_n X dX5_carryAsItIs_11 0 rfl rfl ?_
  obtain ⟨h15, hf16⟩ := chk_of hf14; clear hf14
  obtain ⟨i17, h18, hf19⟩ := bd_of hf16; clear hf16
  refine j_getr X fd_X5_35 h15 h18 dX5_carryAsItIs_12 ?_
  refine j_aload_n X dX5_carryAsItIs_15 1 rfl rfl ?_
  obtain ⟨h20, hf21⟩ := chk_of hf19; clear hf19
  obtain ⟨r22, σ23, h24, hf25⟩ := bc_of hf21; clear hf21
  refine j_callV0 X [.ref (q a1)] [] (c_X4_carry l D cs q i17 a1 σ12 _ _ h24) mk_X4_carry mv_X4_carry ml_X5_173 h20 rfl (by decide) ⟨rfl, rfl⟩ ⟨Nat.le_of_ble_eq_true rfl, Nat.le_of_ble_eq_true rfl⟩ rfl (Nat.le_of_ble_eq_true rfl) ⟨Nat.le_of_ble_eq_true rfl, Nat.le_of_ble_eq_true rfl⟩ dX5_carryAsItIs_16 rfl (st' := []) rfl ?_
  obtain ⟨er, es⟩ := rt_of hf25
  exact j_retv X hr hlk (Nat.le_of_ble_eq_true rfl) (Nat.le_of_ble_eq_true rfl) rfl es.symm rfl dX5_carryAsItIs_19
def lp_X5_widthWithHalf_2_b  (K2 : Nat → Nat → Int32 → Int32 → HS → Option (Int64 × HS)) (x0 : Nat) (x1 : Nat) (x2 : Int32) (x3 : Int32) (τ : HS) : Option (Int64 × HS) :=
  (if (6 : Int32) ≤ x3 then
  chk (isO τ 5 x0) (bd (hR τ x0 4) fun i8 =>
  chk (isO τ 4 i8) (bc (f_X4_carry i8 x1 τ) fun r13 σ14 =>
  chk (isO σ14 5 x0) (bd (hR σ14 x0 4) fun i19 =>
  chk (isO σ14 4 i19) (lt (hB σ14 i19 4) fun v24 =>
  lt (hB σ14 i19 3) fun v29 =>
  some ((v24 - v29), σ14)))))
  else
  (if ((x2 >>> (x3 &&& 31)) &&& (1 : Int32)) = (1 : Int32) then
  lt ((1 : Int32)) fun v131 =>
  (if v131 = 0 then
  chk (isO τ 5 x0) (bd (hR τ x0 0) fun i138 =>
  chk (isO τ 2 i138) (bd (hR τ i138 1) fun i143 =>
  chk (isO τ 10 i143 ∧ inb x3 (hlen τ i143)) (lt (hA τ i143 x3.toNatClampNeg) fun v148 =>
  bd (hR τ x0 4) fun i150 =>
  bd (hR τ i138 0) fun i156 =>
  chk (isO τ 10 i156 ∧ inb x3 (hlen τ i156)) (lt (hA τ i156 x3.toNatClampNeg) fun v161 =>
  chk (isO τ 10 i156 ∧ inb x3 (hlen τ i156)) (lt (hA τ i156 x3.toNatClampNeg) fun v171 =>
  chk (isO τ 4 i150) (bc (f_X4_stand i150 x3 (v161 - v148) (v171 + v148) τ) fun r175 σ176 =>
  lt (x3 + (1 : Int32)) fun v179 =>
  K2 x0 x1 x2 v179 σ176))))))
  else
  chk (isO τ 5 x0) (bd (hR τ x0 0) fun i183 =>
  chk (isO τ 2 i183) (bd (hR τ i183 1) fun i188 =>
  chk (isO τ 10 i188 ∧ inb x3 (hlen τ i188)) (lt (hA τ i188 x3.toNatClampNeg) fun v193 =>
  lt ((v193 / (2 : Int32))) fun v195 =>
  bd (hR τ x0 4) fun i197 =>
  bd (hR τ i183 0) fun i203 =>
  chk (isO τ 10 i203 ∧ inb x3 (hlen τ i203)) (lt (hA τ i203 x3.toNatClampNeg) fun v208 =>
  chk (isO τ 10 i203 ∧ inb x3 (hlen τ i203)) (lt (hA τ i203 x3.toNatClampNeg) fun v218 =>
  chk (isO τ 4 i197) (bc (f_X4_stand i197 x3 (v208 - v195) (v218 + v195) τ) fun r222 σ223 =>
  lt (x3 + (1 : Int32)) fun v226 =>
  K2 x0 x1 x2 v226 σ223)))))))
  else
  lt ((0 : Int32)) fun v34 =>
  (if v34 = 0 then
  chk (isO τ 5 x0) (bd (hR τ x0 0) fun i41 =>
  chk (isO τ 2 i41) (bd (hR τ i41 1) fun i46 =>
  chk (isO τ 10 i46 ∧ inb x3 (hlen τ i46)) (lt (hA τ i46 x3.toNatClampNeg) fun v51 =>
  bd (hR τ x0 4) fun i53 =>
  bd (hR τ i41 0) fun i59 =>
  chk (isO τ 10 i59 ∧ inb x3 (hlen τ i59)) (lt (hA τ i59 x3.toNatClampNeg) fun v64 =>
  chk (isO τ 10 i59 ∧ inb x3 (hlen τ i59)) (lt (hA τ i59 x3.toNatClampNeg) fun v74 =>
  chk (isO τ 4 i53) (bc (f_X4_stand i53 x3 (v64 - v51) (v74 + v51) τ) fun r78 σ79 =>
  lt (x3 + (1 : Int32)) fun v82 =>
  K2 x0 x1 x2 v82 σ79))))))
  else
  chk (isO τ 5 x0) (bd (hR τ x0 0) fun i86 =>
  chk (isO τ 2 i86) (bd (hR τ i86 1) fun i91 =>
  chk (isO τ 10 i91 ∧ inb x3 (hlen τ i91)) (lt (hA τ i91 x3.toNatClampNeg) fun v96 =>
  lt ((v96 / (2 : Int32))) fun v98 =>
  bd (hR τ x0 4) fun i100 =>
  bd (hR τ i86 0) fun i106 =>
  chk (isO τ 10 i106 ∧ inb x3 (hlen τ i106)) (lt (hA τ i106 x3.toNatClampNeg) fun v111 =>
  chk (isO τ 10 i106 ∧ inb x3 (hlen τ i106)) (lt (hA τ i106 x3.toNatClampNeg) fun v121 =>
  chk (isO τ 4 i100) (bc (f_X4_stand i100 x3 (v111 - v98) (v121 + v98) τ) fun r125 σ126 =>
  lt (x3 + (1 : Int32)) fun v129 =>
  K2 x0 x1 x2 v129 σ126)))))))))
def lp_X5_widthWithHalf_2  : Nat → Nat → Nat → Int32 → Int32 → HS → Option (Int64 × HS)
  | 0 => fun _ _ _ _ _ => none
  | n + 1 => lp_X5_widthWithHalf_2_b  (lp_X5_widthWithHalf_2  n)
def f_X5_widthWithHalf (a0 : Nat) (a1 : Nat) (a2 : Int32) (σ : HS) : Option (Int64 × HS) :=
  lt ((0 : Int32)) fun v1 =>
  lp_X5_widthWithHalf_2  1000 a0 a1 a2 v1 σ
abbrev rm_X5_widthWithHalf : Room := { frames := 4, cells := 0, slots := 0, locals := 256 }
set_option maxHeartbeats 4000000 in
set_option maxRecDepth 100000 in
theorem c_X5_widthWithHalf (l : Launch) (D : va_G) (cs : Nat → ClassId) (q : Nat → Nat) (a0 : Nat) (a1 : Nat) (a2 : Int32) (σ σ0 : HS) (r0 : Int64) (hf0 : f_X5_widthWithHalf a0 a1 a2 σ = some (r0, σ0)) : MT l yX5_widthWithHalf (Cond.code yX5_widthWithHalf cX5_widthWithHalf 6 (some .long) :: lw_g) rm_X5_widthWithHalf D cs q σ σ0 [.ref (q a0), .ref (q a1), .int a2] (fun z => z = q) (fun _ => some (.long r0)) 0 0 := by
  unfold f_X5_widthWithHalf at hf0
  refine MT_of (cc := cX5_widthWithHalf) (lv0 := [(0, .ref (q a0)), (1, .ref (q a1)), (2, .int a2)]) (by decide) (Nat.le_of_ble_eq_true rfl) rfl (fun p e s m args below meth c A X hr hlk hin => ?_)
  have L2 : ∀ (nk : Nat) (x0 : Nat) (x1 : Nat) (x2 : Int32) (x3 : Int32) (τ : HS), lp_X5_widthWithHalf_2  nk x0 x1 x2 x3 τ = some (r0, σ0) → J p l e rm_X5_widthWithHalf s m args below meth c 6 D cs A s.heap 0 0 (MQ below (hQ D cs (fun z => z = q) (fun _ => some (.long r0)) σ0 A) args s 0 0 A) q τ [(0, .ref (q x0)), (1, .ref (q x1)), (2, .int x2), (3, .int x3)] 2 [] := by
    intro nk
    induction nk with
    | zero => intro x0 x1 x2 x3 τ hf0; have hf1 : (none : Option (Int64 × HS)) = some (r0, σ0) := hf0; cases hf1
    | succ nk ih =>
      intro x0 x1 x2 x3 τ hf0
      replace hf0 : lp_X5_widthWithHalf_2_b  (lp_X5_widthWithHalf_2  nk) x0 x1 x2 x3 τ = some (r0, σ0) := hf0
      unfold lp_X5_widthWithHalf_2_b at hf0
      refine j_iload_n X dX5_widthWithHalf_2 3 rfl rfl ?_
      refine j_bipush X (v := 6) dX5_widthWithHalf_3 (by decide) ?_
      refine j_icmp_ge X (tgt := 92) dX5_widthWithHalf_5 (by decide) (fun c3 => ?_) (fun c3 => ?_)
      · have hf4 := br_y hf0 c3; clear hf0
        refine j_aload_n X dX5_widthWithHalf_92 0 rfl rfl ?_
        obtain ⟨h6, hf7⟩ := chk_of hf4; clear hf4
        obtain ⟨i8, h9, hf10⟩ := bd_of hf7; clear hf7
        refine j_getr X fd_X5_35 h6 h9 dX5_widthWithHalf_93 ?_
        refine j_aload_n X dX5_widthWithHalf_96 1 rfl rfl ?_
        obtain ⟨h11, hf12⟩ := chk_of hf10; clear hf10
        obtain ⟨r13, σ14, h15, hf16⟩ := bc_of hf12; clear hf12
        refine j_callV0 X [.ref (q x1)] [] (c_X4_carry l D cs q i8 x1 τ _ _ h15) mk_X4_carry mv_X4_carry ml_X5_173 h11 rfl (by decide) ⟨rfl, rfl⟩ ⟨Nat.le_of_ble_eq_true rfl, Nat.le_of_ble_eq_true rfl⟩ rfl (Nat.le_of_ble_eq_true rfl) ⟨Nat.le_of_ble_eq_true rfl, Nat.le_of_ble_eq_true rfl⟩ dX5_widthWithHalf_97 rfl (st' := []) rfl ?_
        refine j_aload_n X dX5_widthWithHalf_100 0 rfl rfl ?_
        obtain ⟨h17, hf18⟩ := chk_of hf16; clear hf16
        obtain ⟨i19, h20, hf21⟩ := bd_of hf18; clear hf18
        refine j_getr X fd_X5_35 h17 h20 dX5_widthWithHalf_101 ?_
        obtain ⟨h22, hf23⟩ := chk_of hf21; clear hf21
        refine j_getl X fd_X5_184 h22 dX5_widthWithHalf_104 (fun v24 ev24 => ?_)
        replace hf23 := lt_of hf23 v24 ev24
        refine j_aload_n X dX5_widthWithHalf_107 0 rfl rfl ?_
        refine j_getr X fd_X5_35 h17 h20 dX5_widthWithHalf_108 ?_
        refine j_getl X fd_X5_188 h22 dX5_widthWithHalf_111 (fun v29 ev29 => ?_)
        replace hf23 := lt_of hf23 v29 ev29
        refine j_lsub X dX5_widthWithHalf_114 ?_
        obtain ⟨er, es⟩ := rt_of hf23
        subst er
        exact j_retl X hr hlk (Nat.le_of_ble_eq_true rfl) (Nat.le_of_ble_eq_true rfl) rfl es.symm rfl dX5_widthWithHalf_115
      · have hf5 := br_n hf0 c3; clear hf0
        refine j_iload_n X dX5_widthWithHalf_8 2 rfl rfl ?_
        refine j_iload_n X dX5_widthWithHalf_9 3 rfl rfl ?_
        refine j_ishr X dX5_widthWithHalf_10 ?_
        refine j_iconst X (v := 1) dX5_widthWithHalf_11 (by decide) ?_
        refine j_iand X dX5_widthWithHalf_12 ?_
        refine j_iconst X (v := 1) dX5_widthWithHalf_13 (by decide) ?_
        refine j_icmp_ne X (tgt := 21) dX5_widthWithHalf_14 (by decide) (fun c31 => ?_) (fun c31 => ?_)
        · have hf32 := br_n hf5 c31; clear hf5
          refine j_iconst X (v := 0) dX5_widthWithHalf_21 (by decide) ?_
          refine j_nmi (fun v34 ev34 => ?_)
          replace hf32 := lt_of hf32 v34 ev34
          refine j_istore X (lv' := [(4, .int v34), (0, .ref (q x0)), (1, .ref (q x1)), (2, .int x2), (3, .int x3)]) dX5_widthWithHalf_22 (by decide) rfl ?_
          refine j_iload X dX5_widthWithHalf_24 0 rfl ?_
          refine j_if_eq X (tgt := 43) dX5_widthWithHalf_26 (by decide) (fun c36 => ?_) (fun c36 => ?_)
          · have hf37 := br_y hf32 c36; clear hf32
            refine j_aload_n X dX5_widthWithHalf_43 1 rfl rfl ?_
            obtain ⟨h39, hf40⟩ := chk_of hf37; clear hf37
            obtain ⟨i41, h42, hf43⟩ := bd_of hf40; clear hf40
            refine j_getr X fd_X5_14 h39 h42 dX5_widthWithHalf_44 ?_
            obtain ⟨h44, hf45⟩ := chk_of hf43; clear hf43
            obtain ⟨i46, h47, hf48⟩ := bd_of hf45; clear hf45
            refine j_getr X fd_X5_196 h44 h47 dX5_widthWithHalf_47 ?_
            refine j_iload_n X dX5_widthWithHalf_50 4 rfl rfl ?_
            obtain ⟨h49, hf50⟩ := chk_of hf48; clear hf48
            refine j_iald X h49 dX5_widthWithHalf_51 (fun v51 ev51 => ?_)
            replace hf50 := lt_of hf50 v51 ev51
            refine j_istore X (lv' := [(5, .int v51), (4, .int v34), (0, .ref (q x0)), (1, .ref (q x1)), (2, .int x2), (3, .int x3)]) dX5_widthWithHalf_52 (by decide) rfl ?_
            refine j_aload_n X dX5_widthWithHalf_54 2 rfl rfl ?_
            obtain ⟨i53, h54, hf55⟩ := bd_of hf50; clear hf50
            refine j_getr X fd_X5_35 h39 h54 dX5_widthWithHalf_55 ?_
            refine j_iload_n X dX5_widthWithHalf_58 5 rfl rfl ?_
            refine j_aload_n X dX5_widthWithHalf_59 2 rfl rfl ?_
            refine j_getr X fd_X5_14 h39 h42 dX5_widthWithHalf_60 ?_
            obtain ⟨i59, h60, hf61⟩ := bd_of hf55; clear hf55
            refine j_getr X fd_X5_145 h44 h60 dX5_widthWithHalf_63 ?_
            refine j_iload_n X dX5_widthWithHalf_66 5 rfl rfl ?_
            obtain ⟨h62, hf63⟩ := chk_of hf61; clear hf61
            refine j_iald X h62 dX5_widthWithHalf_67 (fun v64 ev64 => ?_)
            replace hf63 := lt_of hf63 v64 ev64
            refine j_iload X dX5_widthWithHalf_68 0 rfl ?_
            refine j_isub X dX5_widthWithHalf_70 ?_
            refine j_aload_n X dX5_widthWithHalf_71 2 rfl rfl ?_
            refine j_getr X fd_X5_14 h39 h42 dX5_widthWithHalf_72 ?_
            refine j_getr X fd_X5_145 h44 h60 dX5_widthWithHalf_75 ?_
            refine j_iload_n X dX5_widthWithHalf_78 5 rfl rfl ?_
            obtain ⟨h72, hf73⟩ := chk_of hf63; clear hf63
            refine j_iald X h72 dX5_widthWithHalf_79 (fun v74 ev74 => ?_)
            replace hf73 := lt_of hf73 v74 ev74
            refine j_iload X dX5_widthWithHalf_80 0 rfl ?_
            refine j_iadd X dX5_widthWithHalf_82 ?_
            obtain ⟨h76, hf77⟩ := chk_of hf73; clear hf73
            obtain ⟨r78, σ79, h80, hf81⟩ := bc_of hf77; clear hf77
            refine j_callV0 X [.int x3, .int (v64 - v51), .int (v74 + v51)] [] (c_X4_stand l D cs q i53 x3 (v64 - v51) (v74 + v51) τ _ _ h80) mk_X4_stand mv_X4_stand ml_X5_169 h76 rfl (by decide) ⟨rfl, rfl⟩ ⟨Nat.le_of_ble_eq_true rfl, Nat.le_of_ble_eq_true rfl⟩ rfl (Nat.le_of_ble_eq_true rfl) ⟨Nat.le_of_ble_eq_true rfl, Nat.le_of_ble_eq_true rfl⟩ dX5_widthWithHalf_83 rfl (st' := []) rfl ?_
            obtain ⟨v82, ev82⟩ : ∃ y : Int32, y = x3 + (1 : Int32) := ⟨_, rfl⟩
            replace hf81 := lt_of hf81 v82 ev82
            refine j_iinc X (v := v82) (lv' := [(3, .int v82), (5, .int v51), (4, .int v34), (0, .ref (q x0)), (1, .ref (q x1)), (2, .int x2)]) dX5_widthWithHalf_86 5 rfl (by rw [ev82]; rfl) (by decide) rfl ?_
            refine j_goto X (tgt := 2) dX5_widthWithHalf_89 (by decide) ?_
            refine j_lvsub [3, 4, 5, 0] (lv' := [(0, .ref (q x0)), (1, .ref (q x1)), (2, .int x2), (3, .int v82)]) rfl ?_
            exact ih x0 x1 x2 v82 σ79 hf81
          · have hf38 := br_n hf32 c36; clear hf32
            refine j_aload_n X dX5_widthWithHalf_29 1 rfl rfl ?_
            obtain ⟨h84, hf85⟩ := chk_of hf38; clear hf38
            obtain ⟨i86, h87, hf88⟩ := bd_of hf85; clear hf85
            refine j_getr X fd_X5_14 h84 h87 dX5_widthWithHalf_30 ?_
            obtain ⟨h89, hf90⟩ := chk_of hf88; clear hf88
            obtain ⟨i91, h92, hf93⟩ := bd_of hf90; clear hf90
            refine j_getr X fd_X5_196 h89 h92 dX5_widthWithHalf_33 ?_
            refine j_iload_n X dX5_widthWithHalf_36 4 rfl rfl ?_
            obtain ⟨h94, hf95⟩ := chk_of hf93; clear hf93
            refine j_iald X h94 dX5_widthWithHalf_37 (fun v96 ev96 => ?_)
            replace hf95 := lt_of hf95 v96 ev96
            refine j_iconst X (v := 2) dX5_widthWithHalf_38 (by decide) ?_
            refine j_idiv X dX5_widthWithHalf_39 (by decide) ?_
            refine j_goto X (tgt := 52) dX5_widthWithHalf_40 (by decide) ?_
            refine j_nmi (fun v98 ev98 => ?_)
            replace hf95 := lt_of hf95 v98 ev98
            refine j_istore X (lv' := [(5, .int v98), (4, .int v34), (0, .ref (q x0)), (1, .ref (q x1)), (2, .int x2), (3, .int x3)]) dX5_widthWithHalf_52 (by decide) rfl ?_
            refine j_aload_n X dX5_widthWithHalf_54 2 rfl rfl ?_
            obtain ⟨i100, h101, hf102⟩ := bd_of hf95; clear hf95
            refine j_getr X fd_X5_35 h84 h101 dX5_widthWithHalf_55 ?_
            refine j_iload_n X dX5_widthWithHalf_58 5 rfl rfl ?_
            refine j_aload_n X dX5_widthWithHalf_59 2 rfl rfl ?_
            refine j_getr X fd_X5_14 h84 h87 dX5_widthWithHalf_60 ?_
            obtain ⟨i106, h107, hf108⟩ := bd_of hf102; clear hf102
            refine j_getr X fd_X5_145 h89 h107 dX5_widthWithHalf_63 ?_
            refine j_iload_n X dX5_widthWithHalf_66 5 rfl rfl ?_
            obtain ⟨h109, hf110⟩ := chk_of hf108; clear hf108
            refine j_iald X h109 dX5_widthWithHalf_67 (fun v111 ev111 => ?_)
            replace hf110 := lt_of hf110 v111 ev111
            refine j_iload X dX5_widthWithHalf_68 0 rfl ?_
            refine j_isub X dX5_widthWithHalf_70 ?_
            refine j_aload_n X dX5_widthWithHalf_71 2 rfl rfl ?_
            refine j_getr X fd_X5_14 h84 h87 dX5_widthWithHalf_72 ?_
            refine j_getr X fd_X5_145 h89 h107 dX5_widthWithHalf_75 ?_
            refine j_iload_n X dX5_widthWithHalf_78 5 rfl rfl ?_
            obtain ⟨h119, hf120⟩ := chk_of hf110; clear hf110
            refine j_iald X h119 dX5_widthWithHalf_79 (fun v121 ev121 => ?_)
            replace hf120 := lt_of hf120 v121 ev121
            refine j_iload X dX5_widthWithHalf_80 0 rfl ?_
            refine j_iadd X dX5_widthWithHalf_82 ?_
            obtain ⟨h123, hf124⟩ := chk_of hf120; clear hf120
            obtain ⟨r125, σ126, h127, hf128⟩ := bc_of hf124; clear hf124
            refine j_callV0 X [.int x3, .int (v111 - v98), .int (v121 + v98)] [] (c_X4_stand l D cs q i100 x3 (v111 - v98) (v121 + v98) τ _ _ h127) mk_X4_stand mv_X4_stand ml_X5_169 h123 rfl (by decide) ⟨rfl, rfl⟩ ⟨Nat.le_of_ble_eq_true rfl, Nat.le_of_ble_eq_true rfl⟩ rfl (Nat.le_of_ble_eq_true rfl) ⟨Nat.le_of_ble_eq_true rfl, Nat.le_of_ble_eq_true rfl⟩ dX5_widthWithHalf_83 rfl (st' := []) rfl ?_
            obtain ⟨v129, ev129⟩ : ∃ y : Int32, y = x3 + (1 : Int32) := ⟨_, rfl⟩
            replace hf128 := lt_of hf128 v129 ev129
            refine j_iinc X (v := v129) (lv' := [(3, .int v129), (5, .int v98), (4, .int v34), (0, .ref (q x0)), (1, .ref (q x1)), (2, .int x2)]) dX5_widthWithHalf_86 5 rfl (by rw [ev129]; rfl) (by decide) rfl ?_
            refine j_goto X (tgt := 2) dX5_widthWithHalf_89 (by decide) ?_
            refine j_lvsub [3, 4, 5, 0] (lv' := [(0, .ref (q x0)), (1, .ref (q x1)), (2, .int x2), (3, .int v129)]) rfl ?_
            exact ih x0 x1 x2 v129 σ126 hf128
        · have hf33 := br_y hf5 c31; clear hf5
          refine j_iconst X (v := 1) dX5_widthWithHalf_17 (by decide) ?_
          refine j_goto X (tgt := 22) dX5_widthWithHalf_18 (by decide) ?_
          refine j_nmi (fun v131 ev131 => ?_)
          replace hf33 := lt_of hf33 v131 ev131
          refine j_istore X (lv' := [(4, .int v131), (0, .ref (q x0)), (1, .ref (q x1)), (2, .int x2), (3, .int x3)]) dX5_widthWithHalf_22 (by decide) rfl ?_
          refine j_iload X dX5_widthWithHalf_24 0 rfl ?_
          refine j_if_eq X (tgt := 43) dX5_widthWithHalf_26 (by decide) (fun c133 => ?_) (fun c133 => ?_)
          · have hf134 := br_y hf33 c133; clear hf33
            refine j_aload_n X dX5_widthWithHalf_43 1 rfl rfl ?_
            obtain ⟨h136, hf137⟩ := chk_of hf134; clear hf134
            obtain ⟨i138, h139, hf140⟩ := bd_of hf137; clear hf137
            refine j_getr X fd_X5_14 h136 h139 dX5_widthWithHalf_44 ?_
            obtain ⟨h141, hf142⟩ := chk_of hf140; clear hf140
            obtain ⟨i143, h144, hf145⟩ := bd_of hf142; clear hf142
            refine j_getr X fd_X5_196 h141 h144 dX5_widthWithHalf_47 ?_
            refine j_iload_n X dX5_widthWithHalf_50 4 rfl rfl ?_
            obtain ⟨h146, hf147⟩ := chk_of hf145; clear hf145
            refine j_iald X h146 dX5_widthWithHalf_51 (fun v148 ev148 => ?_)
            replace hf147 := lt_of hf147 v148 ev148
            refine j_istore X (lv' := [(5, .int v148), (4, .int v131), (0, .ref (q x0)), (1, .ref (q x1)), (2, .int x2), (3, .int x3)]) dX5_widthWithHalf_52 (by decide) rfl ?_
            refine j_aload_n X dX5_widthWithHalf_54 2 rfl rfl ?_
            obtain ⟨i150, h151, hf152⟩ := bd_of hf147; clear hf147
            refine j_getr X fd_X5_35 h136 h151 dX5_widthWithHalf_55 ?_
            refine j_iload_n X dX5_widthWithHalf_58 5 rfl rfl ?_
            refine j_aload_n X dX5_widthWithHalf_59 2 rfl rfl ?_
            refine j_getr X fd_X5_14 h136 h139 dX5_widthWithHalf_60 ?_
            obtain ⟨i156, h157, hf158⟩ := bd_of hf152; clear hf152
            refine j_getr X fd_X5_145 h141 h157 dX5_widthWithHalf_63 ?_
            refine j_iload_n X dX5_widthWithHalf_66 5 rfl rfl ?_
            obtain ⟨h159, hf160⟩ := chk_of hf158; clear hf158
            refine j_iald X h159 dX5_widthWithHalf_67 (fun v161 ev161 => ?_)
            replace hf160 := lt_of hf160 v161 ev161
            refine j_iload X dX5_widthWithHalf_68 0 rfl ?_
            refine j_isub X dX5_widthWithHalf_70 ?_
            refine j_aload_n X dX5_widthWithHalf_71 2 rfl rfl ?_
            refine j_getr X fd_X5_14 h136 h139 dX5_widthWithHalf_72 ?_
            refine j_getr X fd_X5_145 h141 h157 dX5_widthWithHalf_75 ?_
            refine j_iload_n X dX5_widthWithHalf_78 5 rfl rfl ?_
            obtain ⟨h169, hf170⟩ := chk_of hf160; clear hf160
            refine j_iald X h169 dX5_widthWithHalf_79 (fun v171 ev171 => ?_)
            replace hf170 := lt_of hf170 v171 ev171
            refine j_iload X dX5_widthWithHalf_80 0 rfl ?_
            refine j_iadd X dX5_widthWithHalf_82 ?_
            obtain ⟨h173, hf174⟩ := chk_of hf170; clear hf170
            obtain ⟨r175, σ176, h177, hf178⟩ := bc_of hf174; clear hf174
            refine j_callV0 X [.int x3, .int (v161 - v148), .int (v171 + v148)] [] (c_X4_stand l D cs q i150 x3 (v161 - v148) (v171 + v148) τ _ _ h177) mk_X4_stand mv_X4_stand ml_X5_169 h173 rfl (by decide) ⟨rfl, rfl⟩ ⟨Nat.le_of_ble_eq_true rfl, Nat.le_of_ble_eq_true rfl⟩ rfl (Nat.le_of_ble_eq_true rfl) ⟨Nat.le_of_ble_eq_true rfl, Nat.le_of_ble_eq_true rfl⟩ dX5_widthWithHalf_83 rfl (st' := []) rfl ?_
            obtain ⟨v179, ev179⟩ : ∃ y : Int32, y = x3 + (1 : Int32) := ⟨_, rfl⟩
            replace hf178 := lt_of hf178 v179 ev179
            refine j_iinc X (v := v179) (lv' := [(3, .int v179), (5, .int v148), (4, .int v131), (0, .ref (q x0)), (1, .ref (q x1)), (2, .int x2)]) dX5_widthWithHalf_86 5 rfl (by rw [ev179]; rfl) (by decide) rfl ?_
            refine j_goto X (tgt := 2) dX5_widthWithHalf_89 (by decide) ?_
            refine j_lvsub [3, 4, 5, 0] (lv' := [(0, .ref (q x0)), (1, .ref (q x1)), (2, .int x2), (3, .int v179)]) rfl ?_
            exact ih x0 x1 x2 v179 σ176 hf178
          · have hf135 := br_n hf33 c133; clear hf33
            refine j_aload_n X dX5_widthWithHalf_29 1 rfl rfl ?_
            obtain ⟨h181, hf182⟩ := chk_of hf135; clear hf135
            obtain ⟨i183, h184, hf185⟩ := bd_of hf182; clear hf182
            refine j_getr X fd_X5_14 h181 h184 dX5_widthWithHalf_30 ?_
            obtain ⟨h186, hf187⟩ := chk_of hf185; clear hf185
            obtain ⟨i188, h189, hf190⟩ := bd_of hf187; clear hf187
            refine j_getr X fd_X5_196 h186 h189 dX5_widthWithHalf_33 ?_
            refine j_iload_n X dX5_widthWithHalf_36 4 rfl rfl ?_
            obtain ⟨h191, hf192⟩ := chk_of hf190; clear hf190
            refine j_iald X h191 dX5_widthWithHalf_37 (fun v193 ev193 => ?_)
            replace hf192 := lt_of hf192 v193 ev193
            refine j_iconst X (v := 2) dX5_widthWithHalf_38 (by decide) ?_
            refine j_idiv X dX5_widthWithHalf_39 (by decide) ?_
            refine j_goto X (tgt := 52) dX5_widthWithHalf_40 (by decide) ?_
            refine j_nmi (fun v195 ev195 => ?_)
            replace hf192 := lt_of hf192 v195 ev195
            refine j_istore X (lv' := [(5, .int v195), (4, .int v131), (0, .ref (q x0)), (1, .ref (q x1)), (2, .int x2), (3, .int x3)]) dX5_widthWithHalf_52 (by decide) rfl ?_
            refine j_aload_n X dX5_widthWithHalf_54 2 rfl rfl ?_
            obtain ⟨i197, h198, hf199⟩ := bd_of hf192; clear hf192
            refine j_getr X fd_X5_35 h181 h198 dX5_widthWithHalf_55 ?_
            refine j_iload_n X dX5_widthWithHalf_58 5 rfl rfl ?_
            refine j_aload_n X dX5_widthWithHalf_59 2 rfl rfl ?_
            refine j_getr X fd_X5_14 h181 h184 dX5_widthWithHalf_60 ?_
            obtain ⟨i203, h204, hf205⟩ := bd_of hf199; clear hf199
            refine j_getr X fd_X5_145 h186 h204 dX5_widthWithHalf_63 ?_
            refine j_iload_n X dX5_widthWithHalf_66 5 rfl rfl ?_
            obtain ⟨h206, hf207⟩ := chk_of hf205; clear hf205
            refine j_iald X h206 dX5_widthWithHalf_67 (fun v208 ev208 => ?_)
            replace hf207 := lt_of hf207 v208 ev208
            refine j_iload X dX5_widthWithHalf_68 0 rfl ?_
            refine j_isub X dX5_widthWithHalf_70 ?_
            refine j_aload_n X dX5_widthWithHalf_71 2 rfl rfl ?_
            refine j_getr X fd_X5_14 h181 h184 dX5_widthWithHalf_72 ?_
            refine j_getr X fd_X5_145 h186 h204 dX5_widthWithHalf_75 ?_
            refine j_iload_n X dX5_widthWithHalf_78 5 rfl rfl ?_
            obtain ⟨h216, hf217⟩ := chk_of hf207; clear hf207
            refine j_iald X h216 dX5_widthWithHalf_79 (fun v218 ev218 => ?_)
            replace hf217 := lt_of hf217 v218 ev218
            refine j_iload X dX5_widthWithHalf_80 0 rfl ?_
            refine j_iadd X dX5_widthWithHalf_82 ?_
            obtain ⟨h220, hf221⟩ := chk_of hf217; clear hf217
            obtain ⟨r222, σ223, h224, hf225⟩ := bc_of hf221; clear hf221
            refine j_callV0 X [.int x3, .int (v208 - v195), .int (v218 + v195)] [] (c_X4_stand l D cs q i197 x3 (v208 - v195) (v218 + v195) τ _ _ h224) mk_X4_stand mv_X4_stand ml_X5_169 h220 rfl (by decide) ⟨rfl, rfl⟩ ⟨Nat.le_of_ble_eq_true rfl, Nat.le_of_ble_eq_true rfl⟩ rfl (Nat.le_of_ble_eq_true rfl) ⟨Nat.le_of_ble_eq_true rfl, Nat.le_of_ble_eq_true rfl⟩ dX5_widthWithHalf_83 rfl (st' := []) rfl ?_
            obtain ⟨v226, ev226⟩ : ∃ y : Int32, y = x3 + (1 : Int32) := ⟨_, rfl⟩
            replace hf225 := lt_of hf225 v226 ev226
            refine j_iinc X (v := v226) (lv' := [(3, .int v226), (5, .int v195), (4, .int v131), (0, .ref (q x0)), (1, .ref (q x1)), (2, .int x2)]) dX5_widthWithHalf_86 5 rfl (by rw [ev226]; rfl) (by decide) rfl ?_
            refine j_goto X (tgt := 2) dX5_widthWithHalf_89 (by decide) ?_
            refine j_lvsub [3, 4, 5, 0] (lv' := [(0, .ref (q x0)), (1, .ref (q x1)), (2, .int x2), (3, .int v226)]) rfl ?_
            exact ih x0 x1 x2 v226 σ223 hf225
  refine j_iconst X (v := 0) dX5_widthWithHalf_0 (by decide) ?_
  refine j_nmi (fun v1 ev1 => ?_)
  replace hf0 := lt_of hf0 v1 ev1
  refine j_istore_n X (lv' := [(3, .int v1), (0, .ref (q a0)), (1, .ref (q a1)), (2, .int a2)]) dX5_widthWithHalf_1 rfl (by decide) rfl ?_
  refine j_lvsub [1, 2, 3, 0] (lv' := [(0, .ref (q a0)), (1, .ref (q a1)), (2, .int a2), (3, .int v1)]) rfl ?_
  exact L2  1000 a0 a1 a2 v1 σ hf0
def lp_X5_again_54_b  (K54 : Nat → Int32 → Int64 → Int32 → Nat → Int32 → Int32 → Int32 → HS → Option (Int32 × HS)) (x0 : Nat) (x1 : Int32) (x2 : Int64) (x4 : Int32) (x5 : Nat) (x6 : Int32) (x7 : Int32) (x8 : Int32) (τ : HS) : Option (Int32 × HS) :=
  (if (64 : Int32) ≤ x8 then
  (if x6 = (-5 : Int32) then
  some (x6, τ)
  else
  (if x4 = 0 then
  some (x6, τ)
  else
  some (x7, τ)))
  else
  chk (isO τ 5 x0) (bd (hR τ x0 0) fun i53 =>
  chk (isO τ 2 i53) (bc (f_X2_costOf i53 x8 τ) fun r58 σ59 =>
  (if x6 = (-5 : Int32) then
  chk (isO σ59 5 x0) (bc (f_X5_widthWithHalf x0 x5 x8 σ59) fun r67 σ68 =>
  (if 0 < (lg_cmp r67 x2) then
  lt (x8 + (1 : Int32)) fun v74 =>
  K54 x0 x1 x2 x4 x5 x6 x7 v74 σ68
  else
  lt (x8 + (1 : Int32)) fun v76 =>
  K54 x0 x1 x2 x4 x5 x8 r58 v76 σ68))
  else
  (if x7 ≤ r58 then
  lt (x8 + (1 : Int32)) fun v81 =>
  K54 x0 x1 x2 x4 x5 x6 x7 v81 σ59
  else
  chk (isO σ59 5 x0) (bc (f_X5_widthWithHalf x0 x5 x8 σ59) fun r85 σ86 =>
  (if 0 < (lg_cmp r85 x2) then
  lt (x8 + (1 : Int32)) fun v92 =>
  K54 x0 x1 x2 x4 x5 x6 x7 v92 σ86
  else
  lt (x8 + (1 : Int32)) fun v94 =>
  K54 x0 x1 x2 x4 x5 x8 r58 v94 σ86)))))))
def lp_X5_again_54  : Nat → Nat → Int32 → Int64 → Int32 → Nat → Int32 → Int32 → Int32 → HS → Option (Int32 × HS)
  | 0 => fun _ _ _ _ _ _ _ _ _ => none
  | n + 1 => lp_X5_again_54_b  (lp_X5_again_54  n)
def f_X5_again (a0 : Nat) (a1 : Int32) (a2 : Int64) (a4 : Int32) (σ : HS) : Option (Int32 × HS) :=
  chk (isO σ 5 a0) (bc (f_X5_formulaOf a0 a1 σ) fun r3 σ4 =>
  (oc r3
  (some ((-1 : Int32), σ4))
  (fun i7 =>
  (if a4 < 0 then
  some ((-1 : Int32), σ4)
  else
  (if a4 ≤ (1 : Int32) then
  chk (isO σ4 5 a0) (bc (f_X5_carryAsItIs a0 i7 σ4) fun r18 σ19 =>
  chk (isO σ19 5 a0) (bd (hR σ19 a0 4) fun i24 =>
  chk (isO σ19 4 i24) (bc (f_X4_hasWidth i24 σ19) fun r29 σ30 =>
  (if r29 = 0 then
  some ((-6 : Int32), σ30)
  else
  lt ((-5 : Int32)) fun v36 =>
  lt ((0 : Int32)) fun v38 =>
  lt ((0 : Int32)) fun v40 =>
  lp_X5_again_54  1000 a0 a1 a2 a4 i7 v36 v38 v40 σ30))))
  else
  some ((-1 : Int32), σ4))))))
abbrev rm_X5_again : Room := { frames := 5, cells := 0, slots := 0, locals := 320 }
set_option maxHeartbeats 4000000 in
set_option maxRecDepth 100000 in
theorem c_X5_again (l : Launch) (D : va_G) (cs : Nat → ClassId) (q : Nat → Nat) (a0 : Nat) (a1 : Int32) (a2 : Int64) (a4 : Int32) (σ σ0 : HS) (r0 : Int32) (hf0 : f_X5_again a0 a1 a2 a4 σ = some (r0, σ0)) : MT l yX5_again (Cond.code yX5_again cX5_again 10 (some .int) :: lw_g) rm_X5_again D cs q σ σ0 [.ref (q a0), .int a1, .long a2, .int a4] (fun z => z = q) (fun _ => some (.int r0)) 0 0 := by
  unfold f_X5_again at hf0
  refine MT_of (cc := cX5_again) (lv0 := [(0, .ref (q a0)), (1, .int a1), (2, .long a2), (4, .int a4)]) (by decide) (Nat.le_of_ble_eq_true rfl) rfl (fun p e s m args below meth c A X hr hlk hin => ?_)
  have L54 : ∀ (nk : Nat) (x0 : Nat) (x1 : Int32) (x2 : Int64) (x4 : Int32) (x5 : Nat) (x6 : Int32) (x7 : Int32) (x8 : Int32) (τ : HS), lp_X5_again_54  nk x0 x1 x2 x4 x5 x6 x7 x8 τ = some (r0, σ0) → J p l e rm_X5_again s m args below meth c 10 D cs A s.heap 0 0 (MQ below (hQ D cs (fun z => z = q) (fun _ => some (.int r0)) σ0 A) args s 0 0 A) q τ [(0, .ref (q x0)), (1, .int x1), (2, .long x2), (4, .int x4), (5, .ref (q x5)), (6, .int x6), (7, .int x7), (8, .int x8)] 54 [] := by
    intro nk
    induction nk with
    | zero => intro x0 x1 x2 x4 x5 x6 x7 x8 τ hf0; have hf1 : (none : Option (Int32 × HS)) = some (r0, σ0) := hf0; cases hf1
    | succ nk ih =>
      intro x0 x1 x2 x4 x5 x6 x7 x8 τ hf0
      replace hf0 : lp_X5_again_54_b  (lp_X5_again_54  nk) x0 x1 x2 x4 x5 x6 x7 x8 τ = some (r0, σ0) := hf0
      unfold lp_X5_again_54_b at hf0
      refine j_iload X dX5_again_54 7 rfl ?_
      refine j_bipush X (v := 64) dX5_again_56 (by decide) ?_
      refine j_icmp_ge X (tgt := 113) dX5_again_58 (by decide) (fun c42 => ?_) (fun c42 => ?_)
      · have hf43 := br_y hf0 c42; clear hf0
        refine j_iload X dX5_again_113 5 rfl ?_
        refine j_bipush X (v := -5) dX5_again_115 (by decide) ?_
        refine j_icmp_eq X (tgt := 125) dX5_again_117 (by decide) (fun c45 => ?_) (fun c45 => ?_)
        · have hf46 := br_y hf43 c45; clear hf43
          refine j_iload X dX5_again_125 5 rfl ?_
          refine j_goto X (tgt := 132) dX5_again_127 (by decide) ?_
          obtain ⟨er, es⟩ := rt_of hf46
          subst er
          exact j_reti X hr hlk (Nat.le_of_ble_eq_true rfl) (Nat.le_of_ble_eq_true rfl) rfl es.symm rfl dX5_again_132
        · have hf47 := br_n hf43 c45; clear hf43
          refine j_iload X dX5_again_120 3 rfl ?_
          refine j_if_ne X (tgt := 130) dX5_again_122 (by decide) (fun c48 => ?_) (fun c48 => ?_)
          · have hf49 := br_n hf47 c48; clear hf47
            refine j_iload X dX5_again_130 6 rfl ?_
            obtain ⟨er, es⟩ := rt_of hf49
            subst er
            exact j_reti X hr hlk (Nat.le_of_ble_eq_true rfl) (Nat.le_of_ble_eq_true rfl) rfl es.symm rfl dX5_again_132
          · have hf50 := br_y hf47 c48; clear hf47
            refine j_iload X dX5_again_125 5 rfl ?_
            refine j_goto X (tgt := 132) dX5_again_127 (by decide) ?_
            obtain ⟨er, es⟩ := rt_of hf50
            subst er
            exact j_reti X hr hlk (Nat.le_of_ble_eq_true rfl) (Nat.le_of_ble_eq_true rfl) rfl es.symm rfl dX5_again_132
      · have hf44 := br_n hf0 c42; clear hf0
        refine j_aload_n X dX5_again_61 0 rfl rfl ?_
        obtain ⟨h51, hf52⟩ := chk_of hf44; clear hf44
        obtain ⟨i53, h54, hf55⟩ := bd_of hf52; clear hf52
        refine j_getr X fd_X5_14 h51 h54 dX5_again_62 ?_
        refine j_iload X dX5_again_65 7 rfl ?_
        obtain ⟨h56, hf57⟩ := chk_of hf55; clear hf55
        obtain ⟨r58, σ59, h60, hf61⟩ := bc_of hf57; clear hf57
        refine j_callV0 X [.int x8] [] (c_X2_costOf l D cs q i53 x8 τ _ _ h60) mk_X2_costOf mv_X2_costOf ml_X5_203 h56 rfl (by decide) ⟨rfl, rfl⟩ ⟨Nat.le_of_ble_eq_true rfl, Nat.le_of_ble_eq_true rfl⟩ rfl (Nat.le_of_ble_eq_true rfl) ⟨Nat.le_of_ble_eq_true rfl, Nat.le_of_ble_eq_true rfl⟩ dX5_again_67 rfl (st' := [.int r58]) rfl ?_
        refine j_istore X (lv' := [(9, .int r58), (0, .ref (q x0)), (1, .int x1), (2, .long x2), (4, .int x4), (5, .ref (q x5)), (6, .int x6), (7, .int x7), (8, .int x8)]) dX5_again_70 (by decide) rfl ?_
        refine j_iload X dX5_again_72 6 rfl ?_
        refine j_bipush X (v := -5) dX5_again_74 (by decide) ?_
        refine j_icmp_eq X (tgt := 86) dX5_again_76 (by decide) (fun c62 => ?_) (fun c62 => ?_)
        · have hf63 := br_y hf61 c62; clear hf61
          refine j_aload_n X dX5_again_86 1 rfl rfl ?_
          refine j_aload X dX5_again_87 5 rfl ?_
          refine j_iload X dX5_again_89 8 rfl ?_
          obtain ⟨h65, hf66⟩ := chk_of hf63; clear hf63
          obtain ⟨r67, σ68, h69, hf70⟩ := bc_of hf66; clear hf66
          refine j_callV0 X [.ref (q x5), .int x8] [] (c_X5_widthWithHalf l D cs q x0 x5 x8 σ59 _ _ h69) mk_X5_widthWithHalf mv_X5_widthWithHalf ml_X5_206 h65 rfl (by decide) ⟨rfl, rfl⟩ ⟨Nat.le_of_ble_eq_true rfl, Nat.le_of_ble_eq_true rfl⟩ rfl (Nat.le_of_ble_eq_true rfl) ⟨Nat.le_of_ble_eq_true rfl, Nat.le_of_ble_eq_true rfl⟩ dX5_again_91 rfl (st' := [.long r67]) rfl ?_
          refine j_lload_n X dX5_again_94 3 rfl rfl ?_
          refine j_lcmp X dX5_again_95 ?_
          refine j_if_gt X (tgt := 107) dX5_again_96 (by decide) (fun c71 => ?_) (fun c71 => ?_)
          · have hf72 := br_y hf70 c71; clear hf70
            obtain ⟨v74, ev74⟩ : ∃ y : Int32, y = x8 + (1 : Int32) := ⟨_, rfl⟩
            replace hf72 := lt_of hf72 v74 ev74
            refine j_iinc X (v := v74) (lv' := [(8, .int v74), (9, .int r58), (0, .ref (q x0)), (1, .int x1), (2, .long x2), (4, .int x4), (5, .ref (q x5)), (6, .int x6), (7, .int x7)]) dX5_again_107 8 rfl (by rw [ev74]; rfl) (by decide) rfl ?_
            refine j_goto X (tgt := 54) dX5_again_110 (by decide) ?_
            refine j_lvsub [2, 3, 4, 5, 6, 7, 8, 0] (lv' := [(0, .ref (q x0)), (1, .int x1), (2, .long x2), (4, .int x4), (5, .ref (q x5)), (6, .int x6), (7, .int x7), (8, .int v74)]) rfl ?_
            exact ih x0 x1 x2 x4 x5 x6 x7 v74 σ68 hf72
          · have hf73 := br_n hf70 c71; clear hf70
            refine j_iload X dX5_again_99 8 rfl ?_
            refine j_istore X (lv' := [(6, .int x8), (9, .int r58), (0, .ref (q x0)), (1, .int x1), (2, .long x2), (4, .int x4), (5, .ref (q x5)), (7, .int x7), (8, .int x8)]) dX5_again_101 (by decide) rfl ?_
            refine j_iload X dX5_again_103 1 rfl ?_
            refine j_istore X (lv' := [(7, .int r58), (6, .int x8), (9, .int r58), (0, .ref (q x0)), (1, .int x1), (2, .long x2), (4, .int x4), (5, .ref (q x5)), (8, .int x8)]) dX5_again_105 (by decide) rfl ?_
            obtain ⟨v76, ev76⟩ : ∃ y : Int32, y = x8 + (1 : Int32) := ⟨_, rfl⟩
            replace hf73 := lt_of hf73 v76 ev76
            refine j_iinc X (v := v76) (lv' := [(8, .int v76), (7, .int r58), (6, .int x8), (9, .int r58), (0, .ref (q x0)), (1, .int x1), (2, .long x2), (4, .int x4), (5, .ref (q x5))]) dX5_again_107 8 rfl (by rw [ev76]; rfl) (by decide) rfl ?_
            refine j_goto X (tgt := 54) dX5_again_110 (by decide) ?_
            refine j_lvsub [4, 5, 6, 7, 8, 2, 1, 0] (lv' := [(0, .ref (q x0)), (1, .int x1), (2, .long x2), (4, .int x4), (5, .ref (q x5)), (6, .int x8), (7, .int r58), (8, .int v76)]) rfl ?_
            exact ih x0 x1 x2 x4 x5 x8 r58 v76 σ68 hf73
        · have hf64 := br_n hf61 c62; clear hf61
          refine j_iload X dX5_again_79 0 rfl ?_
          refine j_iload X dX5_again_81 7 rfl ?_
          refine j_icmp_ge X (tgt := 107) dX5_again_83 (by decide) (fun c78 => ?_) (fun c78 => ?_)
          · have hf79 := br_y hf64 c78; clear hf64
            obtain ⟨v81, ev81⟩ : ∃ y : Int32, y = x8 + (1 : Int32) := ⟨_, rfl⟩
            replace hf79 := lt_of hf79 v81 ev81
            refine j_iinc X (v := v81) (lv' := [(8, .int v81), (9, .int r58), (0, .ref (q x0)), (1, .int x1), (2, .long x2), (4, .int x4), (5, .ref (q x5)), (6, .int x6), (7, .int x7)]) dX5_again_107 8 rfl (by rw [ev81]; rfl) (by decide) rfl ?_
            refine j_goto X (tgt := 54) dX5_again_110 (by decide) ?_
            refine j_lvsub [2, 3, 4, 5, 6, 7, 8, 0] (lv' := [(0, .ref (q x0)), (1, .int x1), (2, .long x2), (4, .int x4), (5, .ref (q x5)), (6, .int x6), (7, .int x7), (8, .int v81)]) rfl ?_
            exact ih x0 x1 x2 x4 x5 x6 x7 v81 σ59 hf79
          · have hf80 := br_n hf64 c78; clear hf64
            refine j_aload_n X dX5_again_86 1 rfl rfl ?_
            refine j_aload X dX5_again_87 5 rfl ?_
            refine j_iload X dX5_again_89 8 rfl ?_
            obtain ⟨h83, hf84⟩ := chk_of hf80; clear hf80
            obtain ⟨r85, σ86, h87, hf88⟩ := bc_of hf84; clear hf84
            refine j_callV0 X [.ref (q x5), .int x8] [] (c_X5_widthWithHalf l D cs q x0 x5 x8 σ59 _ _ h87) mk_X5_widthWithHalf mv_X5_widthWithHalf ml_X5_206 h83 rfl (by decide) ⟨rfl, rfl⟩ ⟨Nat.le_of_ble_eq_true rfl, Nat.le_of_ble_eq_true rfl⟩ rfl (Nat.le_of_ble_eq_true rfl) ⟨Nat.le_of_ble_eq_true rfl, Nat.le_of_ble_eq_true rfl⟩ dX5_again_91 rfl (st' := [.long r85]) rfl ?_
            refine j_lload_n X dX5_again_94 3 rfl rfl ?_
            refine j_lcmp X dX5_again_95 ?_
            refine j_if_gt X (tgt := 107) dX5_again_96 (by decide) (fun c89 => ?_) (fun c89 => ?_)
            · have hf90 := br_y hf88 c89; clear hf88
              obtain ⟨v92, ev92⟩ : ∃ y : Int32, y = x8 + (1 : Int32) := ⟨_, rfl⟩
              replace hf90 := lt_of hf90 v92 ev92
              refine j_iinc X (v := v92) (lv' := [(8, .int v92), (9, .int r58), (0, .ref (q x0)), (1, .int x1), (2, .long x2), (4, .int x4), (5, .ref (q x5)), (6, .int x6), (7, .int x7)]) dX5_again_107 8 rfl (by rw [ev92]; rfl) (by decide) rfl ?_
              refine j_goto X (tgt := 54) dX5_again_110 (by decide) ?_
              refine j_lvsub [2, 3, 4, 5, 6, 7, 8, 0] (lv' := [(0, .ref (q x0)), (1, .int x1), (2, .long x2), (4, .int x4), (5, .ref (q x5)), (6, .int x6), (7, .int x7), (8, .int v92)]) rfl ?_
              exact ih x0 x1 x2 x4 x5 x6 x7 v92 σ86 hf90
            · have hf91 := br_n hf88 c89; clear hf88
              refine j_iload X dX5_again_99 8 rfl ?_
              refine j_istore X (lv' := [(6, .int x8), (9, .int r58), (0, .ref (q x0)), (1, .int x1), (2, .long x2), (4, .int x4), (5, .ref (q x5)), (7, .int x7), (8, .int x8)]) dX5_again_101 (by decide) rfl ?_
              refine j_iload X dX5_again_103 1 rfl ?_
              refine j_istore X (lv' := [(7, .int r58), (6, .int x8), (9, .int r58), (0, .ref (q x0)), (1, .int x1), (2, .long x2), (4, .int x4), (5, .ref (q x5)), (8, .int x8)]) dX5_again_105 (by decide) rfl ?_
              obtain ⟨v94, ev94⟩ : ∃ y : Int32, y = x8 + (1 : Int32) := ⟨_, rfl⟩
              replace hf91 := lt_of hf91 v94 ev94
              refine j_iinc X (v := v94) (lv' := [(8, .int v94), (7, .int r58), (6, .int x8), (9, .int r58), (0, .ref (q x0)), (1, .int x1), (2, .long x2), (4, .int x4), (5, .ref (q x5))]) dX5_again_107 8 rfl (by rw [ev94]; rfl) (by decide) rfl ?_
              refine j_goto X (tgt := 54) dX5_again_110 (by decide) ?_
              refine j_lvsub [4, 5, 6, 7, 8, 2, 1, 0] (lv' := [(0, .ref (q x0)), (1, .int x1), (2, .long x2), (4, .int x4), (5, .ref (q x5)), (6, .int x8), (7, .int r58), (8, .int v94)]) rfl ?_
              exact ih x0 x1 x2 x4 x5 x8 r58 v94 σ86 hf91
  refine j_aload_n X dX5_again_0 0 rfl rfl ?_
  refine j_iload_n X dX5_again_1 1 rfl rfl ?_
  obtain ⟨h1, hf2⟩ := chk_of hf0; clear hf0
  obtain ⟨r3, σ4, h5, hf6⟩ := bc_of hf2; clear hf2
  refine j_callV0 X [.int a1] [] (c_X5_formulaOf l D cs q a0 a1 σ _ _ h5) mk_X5_formulaOf mv_X5_formulaOf ml_X5_100 h1 rfl (by decide) ⟨rfl, rfl⟩ ⟨Nat.le_of_ble_eq_true rfl, Nat.le_of_ble_eq_true rfl⟩ rfl (Nat.le_of_ble_eq_true rfl) ⟨Nat.le_of_ble_eq_true rfl, Nat.le_of_ble_eq_true rfl⟩ dX5_again_2 rfl (st' := [va_rf (Option.map q r3)]) rfl ?_
  refine j_astoreq X (lv' := [(5, va_rf (Option.map q r3)), (0, .ref (q a0)), (1, .int a1), (2, .long a2), (4, .int a4)]) dX5_again_5 (by decide) rfl ?_
  refine j_aloadq X dX5_again_7 0 rfl ?_
  refine j_ifnull X (tgt := 23) dX5_again_9 (by decide) (fun c96 => ?_) (fun i7 c96 => ?_)
  · subst c96; have hf8 := (show _ = some (r0, σ0) from hf6); clear hf6; unfold oc at hf8; dsimp only at hf8
    refine j_iconst X (v := -1) dX5_again_23 (by decide) ?_
    obtain ⟨er, es⟩ := rt_of hf8
    subst er
    exact j_reti X hr hlk (Nat.le_of_ble_eq_true rfl) (Nat.le_of_ble_eq_true rfl) rfl es.symm rfl dX5_again_24
  · subst c96; have hf9 := (show _ = some (r0, σ0) from hf6); clear hf6; unfold oc at hf9; dsimp only at hf9
    refine j_iload X dX5_again_12 4 rfl ?_
    refine j_if_lt X (tgt := 23) dX5_again_14 (by decide) (fun c10 => ?_) (fun c10 => ?_)
    · have hf11 := br_y hf9 c10; clear hf9
      refine j_iconst X (v := -1) dX5_again_23 (by decide) ?_
      obtain ⟨er, es⟩ := rt_of hf11
      subst er
      exact j_reti X hr hlk (Nat.le_of_ble_eq_true rfl) (Nat.le_of_ble_eq_true rfl) rfl es.symm rfl dX5_again_24
    · have hf12 := br_n hf9 c10; clear hf9
      refine j_iload X dX5_again_17 4 rfl ?_
      refine j_iconst X (v := 1) dX5_again_19 (by decide) ?_
      refine j_icmp_le X (tgt := 25) dX5_again_20 (by decide) (fun c13 => ?_) (fun c13 => ?_)
      · have hf14 := br_y hf12 c13; clear hf12
        refine j_aload_n X dX5_again_25 1 rfl rfl ?_
        refine j_aload X dX5_again_26 0 rfl ?_
        obtain ⟨h16, hf17⟩ := chk_of hf14; clear hf14
        obtain ⟨r18, σ19, h20, hf21⟩ := bc_of hf17; clear hf17
        refine j_callV0 X [.ref (q i7)] [] (c_X5_carryAsItIs l D cs q a0 i7 σ4 _ _ h20) mk_X5_carryAsItIs mv_X5_carryAsItIs ml_X5_127 h16 rfl (by decide) ⟨rfl, rfl⟩ ⟨Nat.le_of_ble_eq_true rfl, Nat.le_of_ble_eq_true rfl⟩ rfl (Nat.le_of_ble_eq_true rfl) ⟨Nat.le_of_ble_eq_true rfl, Nat.le_of_ble_eq_true rfl⟩ dX5_again_28 rfl (st' := []) rfl ?_
        refine j_aload_n X dX5_again_31 1 rfl rfl ?_
        obtain ⟨h22, hf23⟩ := chk_of hf21; clear hf21
        obtain ⟨i24, h25, hf26⟩ := bd_of hf23; clear hf23
        refine j_getr X fd_X5_35 h22 h25 dX5_again_32 ?_
        obtain ⟨h27, hf28⟩ := chk_of hf26; clear hf26
        obtain ⟨r29, σ30, h31, hf32⟩ := bc_of hf28; clear hf28
        refine j_callV0 X [] [] (c_X4_hasWidth l D cs q i24 σ19 _ _ h31) mk_X4_hasWidth mv_X4_hasWidth ml_X5_180 h27 rfl (by decide) ⟨rfl, rfl⟩ ⟨Nat.le_of_ble_eq_true rfl, Nat.le_of_ble_eq_true rfl⟩ rfl (Nat.le_of_ble_eq_true rfl) ⟨Nat.le_of_ble_eq_true rfl, Nat.le_of_ble_eq_true rfl⟩ dX5_again_35 rfl (st' := [.int r29]) rfl ?_
        refine j_if_ne X (tgt := 44) dX5_again_38 (by decide) (fun c33 => ?_) (fun c33 => ?_)
        · have hf34 := br_n hf32 c33; clear hf32
          refine j_bipush X (v := -5) dX5_again_44 (by decide) ?_
          refine j_nmi (fun v36 ev36 => ?_)
          replace hf34 := lt_of hf34 v36 ev36
          refine j_istore X (lv' := [(6, .int v36), (5, .ref (q i7)), (0, .ref (q a0)), (1, .int a1), (2, .long a2), (4, .int a4)]) dX5_again_46 (by decide) rfl ?_
          refine j_iconst X (v := 0) dX5_again_48 (by decide) ?_
          refine j_nmi (fun v38 ev38 => ?_)
          replace hf34 := lt_of hf34 v38 ev38
          refine j_istore X (lv' := [(7, .int v38), (6, .int v36), (5, .ref (q i7)), (0, .ref (q a0)), (1, .int a1), (2, .long a2), (4, .int a4)]) dX5_again_49 (by decide) rfl ?_
          refine j_iconst X (v := 0) dX5_again_51 (by decide) ?_
          refine j_nmi (fun v40 ev40 => ?_)
          replace hf34 := lt_of hf34 v40 ev40
          refine j_istore X (lv' := [(8, .int v40), (7, .int v38), (6, .int v36), (5, .ref (q i7)), (0, .ref (q a0)), (1, .int a1), (2, .long a2), (4, .int a4)]) dX5_again_52 (by decide) rfl ?_
          refine j_lvsub [4, 5, 6, 7, 3, 2, 1, 0] (lv' := [(0, .ref (q a0)), (1, .int a1), (2, .long a2), (4, .int a4), (5, .ref (q i7)), (6, .int v36), (7, .int v38), (8, .int v40)]) rfl ?_
          exact L54  1000 a0 a1 a2 a4 i7 v36 v38 v40 σ30 hf34
        · have hf35 := br_y hf32 c33; clear hf32
          refine j_bipush X (v := -6) dX5_again_41 (by decide) ?_
          obtain ⟨er, es⟩ := rt_of hf35
          subst er
          exact j_reti X hr hlk (Nat.le_of_ble_eq_true rfl) (Nat.le_of_ble_eq_true rfl) rfl es.symm rfl dX5_again_43
      · have hf15 := br_n hf12 c13; clear hf12
        refine j_iconst X (v := -1) dX5_again_23 (by decide) ?_
        obtain ⟨er, es⟩ := rt_of hf15
        subst er
        exact j_reti X hr hlk (Nat.le_of_ble_eq_true rfl) (Nat.le_of_ble_eq_true rfl) rfl es.symm rfl dX5_again_24
def f_X5_alike (a0 : Nat) (a1 : Int32) (a2 : Int32) (σ : HS) : Option (Int32 × HS) :=
  chk (isO σ 5 a0) (bc (f_X5_formulaOf a0 a1 σ) fun r3 σ4 =>
  chk (isO σ4 5 a0) (bc (f_X5_formulaOf a0 a2 σ4) fun r9 σ10 =>
  (oc r3
  (some ((-1 : Int32), σ10))
  (fun i13 =>
  (oc r9
  (some ((-1 : Int32), σ10))
  (fun i16 =>
  chk (isO σ10 0 i13) (bc (f_X0_isLike i13 i16 σ10) fun r21 σ22 =>
  (if r21 = 0 then
  some ((0 : Int32), σ22)
  else
  some ((1 : Int32), σ22)))))))))
abbrev rm_X5_alike : Room := { frames := 1, cells := 0, slots := 0, locals := 64 }
set_option maxHeartbeats 4000000 in
set_option maxRecDepth 100000 in
theorem c_X5_alike (l : Launch) (D : va_G) (cs : Nat → ClassId) (q : Nat → Nat) (a0 : Nat) (a1 : Int32) (a2 : Int32) (σ σ0 : HS) (r0 : Int32) (hf0 : f_X5_alike a0 a1 a2 σ = some (r0, σ0)) : MT l yX5_alike (Cond.code yX5_alike cX5_alike 5 (some .int) :: lw_g) rm_X5_alike D cs q σ σ0 [.ref (q a0), .int a1, .int a2] (fun z => z = q) (fun _ => some (.int r0)) 0 0 := by
  unfold f_X5_alike at hf0
  refine MT_of (cc := cX5_alike) (lv0 := [(0, .ref (q a0)), (1, .int a1), (2, .int a2)]) (by decide) (Nat.le_of_ble_eq_true rfl) rfl (fun p e s m args below meth c A X hr hlk hin => ?_)
  refine j_aload_n X dX5_alike_0 0 rfl rfl ?_
  refine j_iload_n X dX5_alike_1 1 rfl rfl ?_
  obtain ⟨h1, hf2⟩ := chk_of hf0; clear hf0
  obtain ⟨r3, σ4, h5, hf6⟩ := bc_of hf2; clear hf2
  refine j_callV0 X [.int a1] [] (c_X5_formulaOf l D cs q a0 a1 σ _ _ h5) mk_X5_formulaOf mv_X5_formulaOf ml_X5_100 h1 rfl (by decide) ⟨rfl, rfl⟩ ⟨Nat.le_of_ble_eq_true rfl, Nat.le_of_ble_eq_true rfl⟩ rfl (Nat.le_of_ble_eq_true rfl) ⟨Nat.le_of_ble_eq_true rfl, Nat.le_of_ble_eq_true rfl⟩ dX5_alike_2 rfl (st' := [va_rf (Option.map q r3)]) rfl ?_
  refine j_astore_nq X (lv' := [(3, va_rf (Option.map q r3)), (0, .ref (q a0)), (1, .int a1), (2, .int a2)]) dX5_alike_5 rfl (by decide) rfl ?_
  refine j_aload_n X dX5_alike_6 1 rfl rfl ?_
  refine j_iload_n X dX5_alike_7 3 rfl rfl ?_
  obtain ⟨h7, hf8⟩ := chk_of hf6; clear hf6
  obtain ⟨r9, σ10, h11, hf12⟩ := bc_of hf8; clear hf8
  refine j_callV0 X [.int a2] [] (c_X5_formulaOf l D cs q a0 a2 σ4 _ _ h11) mk_X5_formulaOf mv_X5_formulaOf ml_X5_100 h7 rfl (by decide) ⟨rfl, rfl⟩ ⟨Nat.le_of_ble_eq_true rfl, Nat.le_of_ble_eq_true rfl⟩ rfl (Nat.le_of_ble_eq_true rfl) ⟨Nat.le_of_ble_eq_true rfl, Nat.le_of_ble_eq_true rfl⟩ dX5_alike_8 rfl (st' := [va_rf (Option.map q r9)]) rfl ?_
  refine j_astoreq X (lv' := [(4, va_rf (Option.map q r9)), (3, va_rf (Option.map q r3)), (0, .ref (q a0)), (1, .int a1), (2, .int a2)]) dX5_alike_11 (by decide) rfl ?_
  refine j_aload_nq X dX5_alike_13 1 rfl rfl ?_
  refine j_ifnull X (tgt := 22) dX5_alike_14 (by decide) (fun c29 => ?_) (fun i13 c29 => ?_)
  · subst c29; have hf14 := (show _ = some (r0, σ0) from hf12); clear hf12; unfold oc at hf14; dsimp only at hf14
    refine j_iconst X (v := -1) dX5_alike_22 (by decide) ?_
    obtain ⟨er, es⟩ := rt_of hf14
    subst er
    exact j_reti X hr hlk (Nat.le_of_ble_eq_true rfl) (Nat.le_of_ble_eq_true rfl) rfl es.symm rfl dX5_alike_23
  · subst c29; have hf15 := (show _ = some (r0, σ0) from hf12); clear hf12; unfold oc at hf15; dsimp only at hf15
    refine j_aloadq X dX5_alike_17 0 rfl ?_
    refine j_ifnonnull X (tgt := 24) dX5_alike_19 (by decide) (fun c28 => ?_) (fun i16 c28 => ?_)
    · subst c28; have hf17 := (show _ = some (r0, σ0) from hf15); clear hf15; unfold oc at hf17; dsimp only at hf17
      refine j_iconst X (v := -1) dX5_alike_22 (by decide) ?_
      obtain ⟨er, es⟩ := rt_of hf17
      subst er
      exact j_reti X hr hlk (Nat.le_of_ble_eq_true rfl) (Nat.le_of_ble_eq_true rfl) rfl es.symm rfl dX5_alike_23
    · subst c28; have hf18 := (show _ = some (r0, σ0) from hf15); clear hf15; unfold oc at hf18; dsimp only at hf18
      refine j_aload_n X dX5_alike_24 1 rfl rfl ?_
      refine j_aload X dX5_alike_25 0 rfl ?_
      obtain ⟨h19, hf20⟩ := chk_of hf18; clear hf18
      obtain ⟨r21, σ22, h23, hf24⟩ := bc_of hf20; clear hf20
      refine j_callV0 X [.ref (q i16)] [] (c_X0_isLike l D cs q i13 i16 σ10 _ _ h23) mk_X0_isLike mv_X0_isLike ml_X5_121 h19 rfl (by decide) ⟨rfl, rfl⟩ ⟨Nat.le_of_ble_eq_true rfl, Nat.le_of_ble_eq_true rfl⟩ rfl (Nat.le_of_ble_eq_true rfl) ⟨Nat.le_of_ble_eq_true rfl, Nat.le_of_ble_eq_true rfl⟩ dX5_alike_27 rfl (st' := [.int r21]) rfl ?_
      refine j_if_eq X (tgt := 37) dX5_alike_30 (by decide) (fun c25 => ?_) (fun c25 => ?_)
      · have hf26 := br_y hf24 c25; clear hf24
        refine j_iconst X (v := 0) dX5_alike_37 (by decide) ?_
        obtain ⟨er, es⟩ := rt_of hf26
        subst er
        exact j_reti X hr hlk (Nat.le_of_ble_eq_true rfl) (Nat.le_of_ble_eq_true rfl) rfl es.symm rfl dX5_alike_38
      · have hf27 := br_n hf24 c25; clear hf24
        refine j_iconst X (v := 1) dX5_alike_33 (by decide) ?_
        refine j_goto X (tgt := 38) dX5_alike_34 (by decide) ?_
        obtain ⟨er, es⟩ := rt_of hf27
        subst er
        exact j_reti X hr hlk (Nat.le_of_ble_eq_true rfl) (Nat.le_of_ble_eq_true rfl) rfl es.symm rfl dX5_alike_38
def f_X5_carrySplit (a0 : Nat) (a1 : Nat) (a2 : Int32) (a3 : Int32) (σ : HS) : Option (Unit × HS) :=
  chk (isO σ 5 a0) (bd (hR σ a0 4) fun i3 =>
  bd (hR σ a0 0) fun i6 =>
  chk (isO σ 2 i6) (bc (f_X2_lowOf i6 a2 σ) fun r11 σ12 =>
  chk (isO σ12 4 i3) (bc (f_X4_stand i3 a2 r11 a3 σ12) fun r17 σ18 =>
  chk (isO σ18 5 a0) (bd (hR σ18 a0 4) fun i23 =>
  chk (isO σ18 4 i23) (bc (f_X4_carry i23 a1 σ18) fun r28 σ29 =>
  chk (isO σ29 5 a0) (bd (hR σ29 a0 4) fun i34 =>
  chk (isO σ29 4 i34) (lt (hB σ29 i34 3) fun v39 =>
  lt (hB σ29 i34 4) fun v44 =>
  bd (hR σ29 a0 0) fun i49 =>
  chk (isO σ29 2 i49) (bc (f_X2_highOf i49 a2 σ29) fun r54 σ55 =>
  chk (isO σ55 4 i34) (bc (f_X4_stand i34 a2 a3 r54 σ55) fun r60 σ61 =>
  chk (isO σ61 5 a0) (bd (hR σ61 a0 4) fun i66 =>
  chk (isO σ61 4 i66) (bc (f_X4_carry i66 a1 σ61) fun r71 σ72 =>
  chk (isO σ72 5 a0) (bd (hR σ72 a0 4) fun i77 =>
  chk (isO σ72 4 i77) (lt (hB σ72 i77 3) fun v85 =>
  lt (if v85 < v39 then v85 else v39) fun v87 =>
  lt (sB σ72 i77 3 v87) fun σ89 =>
  bd (hR σ89 a0 4) fun i93 =>
  chk (isO σ89 4 i93) (lt (hB σ89 i93 4) fun v101 =>
  lt (if v101 < v44 then v44 else v101) fun v103 =>
  lt (sB σ89 i93 4 v103) fun σ105 =>
  bd (hR σ105 a0 4) fun i110 =>
  bd (hR σ105 a0 0) fun i113 =>
  chk (isO σ105 2 i113) (bc (f_X2_lowOf i113 a2 σ105) fun r118 σ119 =>
  chk (isO σ119 5 a0) (bd (hR σ119 a0 0) fun i124 =>
  chk (isO σ119 2 i124) (bc (f_X2_highOf i124 a2 σ119) fun r129 σ130 =>
  chk (isO σ130 4 i110) (bc (f_X4_stand i110 a2 r118 r129 σ130) fun r135 σ136 =>
  some ((), σ136)))))))))))))))))))
abbrev rm_X5_carrySplit : Room := { frames := 4, cells := 0, slots := 0, locals := 256 }
set_option maxHeartbeats 4000000 in
set_option maxRecDepth 100000 in
theorem c_X5_carrySplit (l : Launch) (D : va_G) (cs : Nat → ClassId) (q : Nat → Nat) (a0 : Nat) (a1 : Nat) (a2 : Int32) (a3 : Int32) (σ σ0 : HS) (r0 : Unit) (hf0 : f_X5_carrySplit a0 a1 a2 a3 σ = some (r0, σ0)) : MT l yX5_carrySplit (Cond.code yX5_carrySplit cX5_carrySplit 8 none :: lw_g) rm_X5_carrySplit D cs q σ σ0 [.ref (q a0), .ref (q a1), .int a2, .int a3] (fun z => z = q) (fun _ => none) 0 0 := by
  unfold f_X5_carrySplit at hf0
  refine MT_of (cc := cX5_carrySplit) (lv0 := [(0, .ref (q a0)), (1, .ref (q a1)), (2, .int a2), (3, .int a3)]) (by decide) (Nat.le_of_ble_eq_true rfl) rfl (fun p e s m args below meth c A X hr hlk hin => ?_)
  refine j_aload_n X dX5_carrySplit_0 0 rfl rfl ?_
  obtain ⟨h1, hf2⟩ := chk_of hf0; clear hf0
  obtain ⟨i3, h4, hf5⟩ := bd_of hf2; clear hf2
  refine j_getr X fd_X5_35 h1 h4 dX5_carrySplit_1 ?_
  refine j_iload_n X dX5_carrySplit_4 2 rfl rfl ?_
  refine j_aload_n X dX5_carrySplit_5 0 rfl rfl ?_
  obtain ⟨i6, h7, hf8⟩ := bd_of hf5; clear hf5
  refine j_getr X fd_X5_14 h1 h7 dX5_carrySplit_6 ?_
  refine j_iload_n X dX5_carrySplit_9 2 rfl rfl ?_
  obtain ⟨h9, hf10⟩ := chk_of hf8; clear hf8
  obtain ⟨r11, σ12, h13, hf14⟩ := bc_of hf10; clear hf10
  refine j_callV0 X [.int a2] [.int a2, .ref (q i3)] (c_X2_lowOf l D cs q i6 a2 σ _ _ h13) mk_X2_lowOf mv_X2_lowOf ml_X5_73 h9 rfl (by decide) ⟨rfl, rfl⟩ ⟨Nat.le_of_ble_eq_true rfl, Nat.le_of_ble_eq_true rfl⟩ rfl (Nat.le_of_ble_eq_true rfl) ⟨Nat.le_of_ble_eq_true rfl, Nat.le_of_ble_eq_true rfl⟩ dX5_carrySplit_10 rfl (st' := [.int r11, .int a2, .ref (q i3)]) rfl ?_
  refine j_iload_n X dX5_carrySplit_13 3 rfl rfl ?_
  obtain ⟨h15, hf16⟩ := chk_of hf14; clear hf14
  obtain ⟨r17, σ18, h19, hf20⟩ := bc_of hf16; clear hf16
  refine j_callV0 X [.int a2, .int r11, .int a3] [] (c_X4_stand l D cs q i3 a2 r11 a3 σ12 _ _ h19) mk_X4_stand mv_X4_stand ml_X5_169 h15 rfl (by decide) ⟨rfl, rfl⟩ ⟨Nat.le_of_ble_eq_true rfl, Nat.le_of_ble_eq_true rfl⟩ rfl (Nat.le_of_ble_eq_true rfl) ⟨Nat.le_of_ble_eq_true rfl, Nat.le_of_ble_eq_true rfl⟩ dX5_carrySplit_14 rfl (st' := []) rfl ?_
  refine j_aload_n X dX5_carrySplit_17 0 rfl rfl ?_
  obtain ⟨h21, hf22⟩ := chk_of hf20; clear hf20
  obtain ⟨i23, h24, hf25⟩ := bd_of hf22; clear hf22
  refine j_getr X fd_X5_35 h21 h24 dX5_carrySplit_18 ?_
  refine j_aload_n X dX5_carrySplit_21 1 rfl rfl ?_
  obtain ⟨h26, hf27⟩ := chk_of hf25; clear hf25
  obtain ⟨r28, σ29, h30, hf31⟩ := bc_of hf27; clear hf27
  refine j_callV0 X [.ref (q a1)] [] (c_X4_carry l D cs q i23 a1 σ18 _ _ h30) mk_X4_carry mv_X4_carry ml_X5_173 h26 rfl (by decide) ⟨rfl, rfl⟩ ⟨Nat.le_of_ble_eq_true rfl, Nat.le_of_ble_eq_true rfl⟩ rfl (Nat.le_of_ble_eq_true rfl) ⟨Nat.le_of_ble_eq_true rfl, Nat.le_of_ble_eq_true rfl⟩ dX5_carrySplit_22 rfl (st' := []) rfl ?_
  refine j_aload_n X dX5_carrySplit_25 0 rfl rfl ?_
  obtain ⟨h32, hf33⟩ := chk_of hf31; clear hf31
  obtain ⟨i34, h35, hf36⟩ := bd_of hf33; clear hf33
  refine j_getr X fd_X5_35 h32 h35 dX5_carrySplit_26 ?_
  obtain ⟨h37, hf38⟩ := chk_of hf36; clear hf36
  refine j_getl X fd_X5_188 h37 dX5_carrySplit_29 (fun v39 ev39 => ?_)
  replace hf38 := lt_of hf38 v39 ev39
  refine j_lstore X (lv' := [(4, .long v39), (0, .ref (q a0)), (1, .ref (q a1)), (2, .int a2), (3, .int a3)]) dX5_carrySplit_32 (by decide) rfl ?_
  refine j_aload_n X dX5_carrySplit_34 1 rfl rfl ?_
  refine j_getr X fd_X5_35 h32 h35 dX5_carrySplit_35 ?_
  refine j_getl X fd_X5_184 h37 dX5_carrySplit_38 (fun v44 ev44 => ?_)
  replace hf38 := lt_of hf38 v44 ev44
  refine j_lstore X (lv' := [(6, .long v44), (4, .long v39), (0, .ref (q a0)), (1, .ref (q a1)), (2, .int a2), (3, .int a3)]) dX5_carrySplit_41 (by decide) rfl ?_
  refine j_aload_n X dX5_carrySplit_43 2 rfl rfl ?_
  refine j_getr X fd_X5_35 h32 h35 dX5_carrySplit_44 ?_
  refine j_iload_n X dX5_carrySplit_47 4 rfl rfl ?_
  refine j_iload_n X dX5_carrySplit_48 5 rfl rfl ?_
  refine j_aload_n X dX5_carrySplit_49 2 rfl rfl ?_
  obtain ⟨i49, h50, hf51⟩ := bd_of hf38; clear hf38
  refine j_getr X fd_X5_14 h32 h50 dX5_carrySplit_50 ?_
  refine j_iload_n X dX5_carrySplit_53 4 rfl rfl ?_
  obtain ⟨h52, hf53⟩ := chk_of hf51; clear hf51
  obtain ⟨r54, σ55, h56, hf57⟩ := bc_of hf53; clear hf53
  refine j_callV0 X [.int a2] [.int a3, .int a2, .ref (q i34)] (c_X2_highOf l D cs q i49 a2 σ29 _ _ h56) mk_X2_highOf mv_X2_highOf ml_X5_77 h52 rfl (by decide) ⟨rfl, rfl⟩ ⟨Nat.le_of_ble_eq_true rfl, Nat.le_of_ble_eq_true rfl⟩ rfl (Nat.le_of_ble_eq_true rfl) ⟨Nat.le_of_ble_eq_true rfl, Nat.le_of_ble_eq_true rfl⟩ dX5_carrySplit_54 rfl (st' := [.int r54, .int a3, .int a2, .ref (q i34)]) rfl ?_
  obtain ⟨h58, hf59⟩ := chk_of hf57; clear hf57
  obtain ⟨r60, σ61, h62, hf63⟩ := bc_of hf59; clear hf59
  refine j_callV0 X [.int a2, .int a3, .int r54] [] (c_X4_stand l D cs q i34 a2 a3 r54 σ55 _ _ h62) mk_X4_stand mv_X4_stand ml_X5_169 h58 rfl (by decide) ⟨rfl, rfl⟩ ⟨Nat.le_of_ble_eq_true rfl, Nat.le_of_ble_eq_true rfl⟩ rfl (Nat.le_of_ble_eq_true rfl) ⟨Nat.le_of_ble_eq_true rfl, Nat.le_of_ble_eq_true rfl⟩ dX5_carrySplit_57 rfl (st' := []) rfl ?_
  refine j_aload_n X dX5_carrySplit_60 2 rfl rfl ?_
  obtain ⟨h64, hf65⟩ := chk_of hf63; clear hf63
  obtain ⟨i66, h67, hf68⟩ := bd_of hf65; clear hf65
  refine j_getr X fd_X5_35 h64 h67 dX5_carrySplit_61 ?_
  refine j_aload_n X dX5_carrySplit_64 3 rfl rfl ?_
  obtain ⟨h69, hf70⟩ := chk_of hf68; clear hf68
  obtain ⟨r71, σ72, h73, hf74⟩ := bc_of hf70; clear hf70
  refine j_callV0 X [.ref (q a1)] [] (c_X4_carry l D cs q i66 a1 σ61 _ _ h73) mk_X4_carry mv_X4_carry ml_X5_173 h69 rfl (by decide) ⟨rfl, rfl⟩ ⟨Nat.le_of_ble_eq_true rfl, Nat.le_of_ble_eq_true rfl⟩ rfl (Nat.le_of_ble_eq_true rfl) ⟨Nat.le_of_ble_eq_true rfl, Nat.le_of_ble_eq_true rfl⟩ dX5_carrySplit_65 rfl (st' := []) rfl ?_
  refine j_aload_n X dX5_carrySplit_68 2 rfl rfl ?_
  obtain ⟨h75, hf76⟩ := chk_of hf74; clear hf74
  obtain ⟨i77, h78, hf79⟩ := bd_of hf76; clear hf76
  refine j_getr X fd_X5_35 h75 h78 dX5_carrySplit_69 ?_
  refine j_lload X dX5_carrySplit_72 1 rfl ?_
  refine j_aload_n X dX5_carrySplit_74 2 rfl rfl ?_
  refine j_getr X fd_X5_35 h75 h78 dX5_carrySplit_75 ?_
  obtain ⟨h83, hf84⟩ := chk_of hf79; clear hf79
  refine j_getl X fd_X5_188 h83 dX5_carrySplit_78 (fun v85 ev85 => ?_)
  replace hf84 := lt_of hf84 v85 ev85
  refine j_mmin_long X ml_X5_156 (Nat.le_of_ble_eq_true rfl) (Nat.le_of_ble_eq_true rfl) (Nat.le_of_ble_eq_true rfl) (Nat.le_of_ble_eq_true rfl) dX5_carrySplit_81 (fun v87 ev87 => ?_)
  replace hf84 := lt_of hf84 v87 ev87
  refine j_putl X fp_X5_188 h83 dX5_carrySplit_84 (fun σ89 eσ89 => ?_)
  replace hf84 := lt_of hf84 σ89 eσ89
  have h91 : isO σ89 5 a0 := by rw [eσ89]; exact h75
  have h92 : isO σ89 4 i77 := by rw [eσ89]; exact h83
  refine j_aload_n X dX5_carrySplit_87 2 rfl rfl ?_
  obtain ⟨i93, h94, hf95⟩ := bd_of hf84; clear hf84
  refine j_getr X fd_X5_35 h91 h94 dX5_carrySplit_88 ?_
  refine j_lload X dX5_carrySplit_91 0 rfl ?_
  refine j_aload_n X dX5_carrySplit_93 2 rfl rfl ?_
  refine j_getr X fd_X5_35 h91 h94 dX5_carrySplit_94 ?_
  obtain ⟨h99, hf100⟩ := chk_of hf95; clear hf95
  refine j_getl X fd_X5_184 h99 dX5_carrySplit_97 (fun v101 ev101 => ?_)
  replace hf100 := lt_of hf100 v101 ev101
  refine j_mmax_long X ml_X5_162 (Nat.le_of_ble_eq_true rfl) (Nat.le_of_ble_eq_true rfl) (Nat.le_of_ble_eq_true rfl) (Nat.le_of_ble_eq_true rfl) dX5_carrySplit_100 (fun v103 ev103 => ?_)
  replace hf100 := lt_of hf100 v103 ev103
  refine j_putl X fp_X5_184 h99 dX5_carrySplit_103 (fun σ105 eσ105 => ?_)
  replace hf100 := lt_of hf100 σ105 eσ105
  have h107 : isO σ105 5 a0 := by rw [eσ105]; exact h91
  have h108 : isO σ105 4 i77 := by rw [eσ105]; exact h92
  have h109 : isO σ105 4 i93 := by rw [eσ105]; exact h99
  refine j_aload_n X dX5_carrySplit_106 2 rfl rfl ?_
  obtain ⟨i110, h111, hf112⟩ := bd_of hf100; clear hf100
  refine j_getr X fd_X5_35 h107 h111 dX5_carrySplit_107 ?_
  refine j_iload_n X dX5_carrySplit_110 4 rfl rfl ?_
  refine j_aload_n X dX5_carrySplit_111 2 rfl rfl ?_
  obtain ⟨i113, h114, hf115⟩ := bd_of hf112; clear hf112
  refine j_getr X fd_X5_14 h107 h114 dX5_carrySplit_112 ?_
  refine j_iload_n X dX5_carrySplit_115 4 rfl rfl ?_
  obtain ⟨h116, hf117⟩ := chk_of hf115; clear hf115
  obtain ⟨r118, σ119, h120, hf121⟩ := bc_of hf117; clear hf117
  refine j_callV0 X [.int a2] [.int a2, .ref (q i110)] (c_X2_lowOf l D cs q i113 a2 σ105 _ _ h120) mk_X2_lowOf mv_X2_lowOf ml_X5_73 h116 rfl (by decide) ⟨rfl, rfl⟩ ⟨Nat.le_of_ble_eq_true rfl, Nat.le_of_ble_eq_true rfl⟩ rfl (Nat.le_of_ble_eq_true rfl) ⟨Nat.le_of_ble_eq_true rfl, Nat.le_of_ble_eq_true rfl⟩ dX5_carrySplit_116 rfl (st' := [.int r118, .int a2, .ref (q i110)]) rfl ?_
  refine j_aload_n X dX5_carrySplit_119 2 rfl rfl ?_
  obtain ⟨h122, hf123⟩ := chk_of hf121; clear hf121
  obtain ⟨i124, h125, hf126⟩ := bd_of hf123; clear hf123
  refine j_getr X fd_X5_14 h122 h125 dX5_carrySplit_120 ?_
  refine j_iload_n X dX5_carrySplit_123 4 rfl rfl ?_
  obtain ⟨h127, hf128⟩ := chk_of hf126; clear hf126
  obtain ⟨r129, σ130, h131, hf132⟩ := bc_of hf128; clear hf128
  refine j_callV0 X [.int a2] [.int r118, .int a2, .ref (q i110)] (c_X2_highOf l D cs q i124 a2 σ119 _ _ h131) mk_X2_highOf mv_X2_highOf ml_X5_77 h127 rfl (by decide) ⟨rfl, rfl⟩ ⟨Nat.le_of_ble_eq_true rfl, Nat.le_of_ble_eq_true rfl⟩ rfl (Nat.le_of_ble_eq_true rfl) ⟨Nat.le_of_ble_eq_true rfl, Nat.le_of_ble_eq_true rfl⟩ dX5_carrySplit_124 rfl (st' := [.int r129, .int r118, .int a2, .ref (q i110)]) rfl ?_
  obtain ⟨h133, hf134⟩ := chk_of hf132; clear hf132
  obtain ⟨r135, σ136, h137, hf138⟩ := bc_of hf134; clear hf134
  refine j_callV0 X [.int a2, .int r118, .int r129] [] (c_X4_stand l D cs q i110 a2 r118 r129 σ130 _ _ h137) mk_X4_stand mv_X4_stand ml_X5_169 h133 rfl (by decide) ⟨rfl, rfl⟩ ⟨Nat.le_of_ble_eq_true rfl, Nat.le_of_ble_eq_true rfl⟩ rfl (Nat.le_of_ble_eq_true rfl) ⟨Nat.le_of_ble_eq_true rfl, Nat.le_of_ble_eq_true rfl⟩ dX5_carrySplit_127 rfl (st' := []) rfl ?_
  obtain ⟨er, es⟩ := rt_of hf138
  exact j_retv X hr hlk (Nat.le_of_ble_eq_true rfl) (Nat.le_of_ble_eq_true rfl) rfl es.symm rfl dX5_carrySplit_130
def lp_X5_best_102_b (K72 : Nat → Int32 → Int32 → Nat → Int64 → Int64 → Int32 → Int32 → Int32 → HS → Option (Int64 × HS)) (K102 : Nat → Int32 → Int32 → Nat → Int64 → Int64 → Int32 → Int32 → Int32 → Int32 → HS → Option (Int64 × HS)) (x0 : Nat) (x1 : Int32) (x2 : Int32) (x3 : Nat) (x4 : Int64) (x6 : Int64) (x8 : Int32) (x9 : Int32) (x10 : Int32) (x11 : Int32) (τ : HS) : Option (Int64 × HS) :=
  chk (isO τ 5 x0) (bd (hR τ x0 0) fun i92 =>
  chk (isO τ 2 i92) (bc (f_X2_highOf i92 x10 τ) fun r97 σ98 =>
  (if r97 < x11 then
  lt (x10 + (1 : Int32)) fun v104 =>
  K72 x0 x1 x2 x3 x4 x6 x8 x9 v104 σ98
  else
  chk (isO σ98 5 x0) (bc (f_X5_carrySplit x0 x3 x10 x11 σ98) fun r108 σ109 =>
  chk (isO σ109 5 x0) (bd (hR σ109 x0 4) fun i114 =>
  chk (isO σ109 4 i114) (lt (hB σ109 i114 4) fun v119 =>
  lt (hB σ109 i114 3) fun v124 =>
  lt ((v119 - v124)) fun v126 =>
  (if 0 ≤ (lg_cmp v126 x6) then
  lt (x11 + (1 : Int32)) fun v131 =>
  K102 x0 x1 x2 x3 x4 x6 x8 x9 x10 v131 σ109
  else
  lt (x11 + (1 : Int32)) fun v133 =>
  K102 x0 x1 x2 x3 x4 v126 x10 x11 x10 v133 σ109)))))))
def lp_X5_best_102 (K72 : Nat → Int32 → Int32 → Nat → Int64 → Int64 → Int32 → Int32 → Int32 → HS → Option (Int64 × HS)) : Nat → Nat → Int32 → Int32 → Nat → Int64 → Int64 → Int32 → Int32 → Int32 → Int32 → HS → Option (Int64 × HS)
  | 0 => fun _ _ _ _ _ _ _ _ _ _ _ => none
  | n + 1 => lp_X5_best_102_b K72 (lp_X5_best_102 K72 n)
def lp_X5_best_72_b  (K72 : Nat → Int32 → Int32 → Nat → Int64 → Int64 → Int32 → Int32 → Int32 → HS → Option (Int64 × HS)) (x0 : Nat) (x1 : Int32) (x2 : Int32) (x3 : Nat) (x4 : Int64) (x6 : Int64) (x8 : Int32) (x9 : Int32) (x10 : Int32) (τ : HS) : Option (Int64 × HS) :=
  (if (6 : Int32) ≤ x10 then
  (if x8 = (-1 : Int32) then
  some ((-1000 : Int64), τ)
  else
  (if x2 = 0 then
  some ((x8).toInt64, τ)
  else
  (if x2 = (1 : Int32) then
  some ((x9).toInt64, τ)
  else
  some ((x4 - x6), τ))))
  else
  chk (isO τ 0 x3) (bc (f_X0_hasSource x3 x10 τ) fun r72 σ73 =>
  (if r72 = 0 then
  lt (x10 + (1 : Int32)) fun v135 =>
  K72 x0 x1 x2 x3 x4 x6 x8 x9 v135 σ73
  else
  chk (isO σ73 5 x0) (bd (hR σ73 x0 0) fun i81 =>
  chk (isO σ73 2 i81) (bc (f_X2_lowOf i81 x10 σ73) fun r86 σ87 =>
  lp_X5_best_102 (K72) 1000 x0 x1 x2 x3 x4 x6 x8 x9 x10 r86 σ87)))))
def lp_X5_best_72  : Nat → Nat → Int32 → Int32 → Nat → Int64 → Int64 → Int32 → Int32 → Int32 → HS → Option (Int64 × HS)
  | 0 => fun _ _ _ _ _ _ _ _ _ _ => none
  | n + 1 => lp_X5_best_72_b  (lp_X5_best_72  n)
def f_X5_best (a0 : Nat) (a1 : Int32) (a2 : Int32) (σ : HS) : Option (Int64 × HS) :=
  chk (isO σ 5 a0) (bc (f_X5_formulaOf a0 a1 σ) fun r3 σ4 =>
  (oc r3
  (some ((-9223372036854775808 : Int64), σ4))
  (fun i7 =>
  (if a2 < 0 then
  some ((-9223372036854775808 : Int64), σ4)
  else
  (if a2 ≤ (2 : Int32) then
  chk (isO σ4 5 a0) (bc (f_X5_carryAsItIs a0 i7 σ4) fun r18 σ19 =>
  chk (isO σ19 5 a0) (bd (hR σ19 a0 4) fun i24 =>
  chk (isO σ19 4 i24) (bc (f_X4_hasWidth i24 σ19) fun r29 σ30 =>
  (if r29 = 0 then
  some ((-9223372036854775807 : Int64), σ30)
  else
  chk (isO σ30 5 a0) (bd (hR σ30 a0 4) fun i38 =>
  chk (isO σ30 4 i38) (lt (hB σ30 i38 4) fun v43 =>
  lt (hB σ30 i38 3) fun v48 =>
  lt ((v43 - v48)) fun v50 =>
  lt ((-1 : Int32)) fun v52 =>
  lt ((0 : Int32)) fun v54 =>
  lt ((0 : Int32)) fun v56 =>
  lp_X5_best_72  1000 a0 a1 a2 i7 v50 v50 v52 v54 v56 σ30))))))
  else
  some ((-9223372036854775808 : Int64), σ4))))))
abbrev rm_X5_best : Room := { frames := 5, cells := 0, slots := 0, locals := 320 }
set_option maxHeartbeats 4000000 in
set_option maxRecDepth 100000 in
theorem c_X5_best (l : Launch) (D : va_G) (cs : Nat → ClassId) (q : Nat → Nat) (a0 : Nat) (a1 : Int32) (a2 : Int32) (σ σ0 : HS) (r0 : Int64) (hf0 : f_X5_best a0 a1 a2 σ = some (r0, σ0)) : MT l yX5_best (Cond.code yX5_best cX5_best 14 (some .long) :: lw_g) rm_X5_best D cs q σ σ0 [.ref (q a0), .int a1, .int a2] (fun z => z = q) (fun _ => some (.long r0)) 0 0 := by
  unfold f_X5_best at hf0
  refine MT_of (cc := cX5_best) (lv0 := [(0, .ref (q a0)), (1, .int a1), (2, .int a2)]) (by decide) (Nat.le_of_ble_eq_true rfl) rfl (fun p e s m args below meth c A X hr hlk hin => ?_)
  have L102 : ∀ (K72 : Nat → Int32 → Int32 → Nat → Int64 → Int64 → Int32 → Int32 → Int32 → HS → Option (Int64 × HS)) (hK72 : ∀ (x0 : Nat) (x1 : Int32) (x2 : Int32) (x3 : Nat) (x4 : Int64) (x6 : Int64) (x8 : Int32) (x9 : Int32) (x10 : Int32) (τ : HS), K72 x0 x1 x2 x3 x4 x6 x8 x9 x10 τ = some (r0, σ0) → J p l e rm_X5_best s m args below meth c 14 D cs A s.heap 0 0 (MQ below (hQ D cs (fun z => z = q) (fun _ => some (.long r0)) σ0 A) args s 0 0 A) q τ [(0, .ref (q x0)), (1, .int x1), (2, .int x2), (3, .ref (q x3)), (4, .long x4), (6, .long x6), (8, .int x8), (9, .int x9), (10, .int x10)] 72 []), ∀ (nk : Nat) (x0 : Nat) (x1 : Int32) (x2 : Int32) (x3 : Nat) (x4 : Int64) (x6 : Int64) (x8 : Int32) (x9 : Int32) (x10 : Int32) (x11 : Int32) (τ : HS), lp_X5_best_102 K72 nk x0 x1 x2 x3 x4 x6 x8 x9 x10 x11 τ = some (r0, σ0) → J p l e rm_X5_best s m args below meth c 14 D cs A s.heap 0 0 (MQ below (hQ D cs (fun z => z = q) (fun _ => some (.long r0)) σ0 A) args s 0 0 A) q τ [(0, .ref (q x0)), (1, .int x1), (2, .int x2), (3, .ref (q x3)), (4, .long x4), (6, .long x6), (8, .int x8), (9, .int x9), (10, .int x10), (11, .int x11)] 102 [] := by
    intro K72 hK72
    intro nk
    induction nk with
    | zero => intro x0 x1 x2 x3 x4 x6 x8 x9 x10 x11 τ hf0; have hf1 : (none : Option (Int64 × HS)) = some (r0, σ0) := hf0; cases hf1
    | succ nk ih =>
      intro x0 x1 x2 x3 x4 x6 x8 x9 x10 x11 τ hf0
      replace hf0 : lp_X5_best_102_b K72 (lp_X5_best_102 K72 nk) x0 x1 x2 x3 x4 x6 x8 x9 x10 x11 τ = some (r0, σ0) := hf0
      unfold lp_X5_best_102_b at hf0
      refine j_iload X dX5_best_102 9 rfl ?_
      refine j_aload_n X dX5_best_104 0 rfl rfl ?_
      obtain ⟨h90, hf91⟩ := chk_of hf0; clear hf0
      obtain ⟨i92, h93, hf94⟩ := bd_of hf91; clear hf91
      refine j_getr X fd_X5_14 h90 h93 dX5_best_105 ?_
      refine j_iload X dX5_best_108 8 rfl ?_
      obtain ⟨h95, hf96⟩ := chk_of hf94; clear hf94
      obtain ⟨r97, σ98, h99, hf100⟩ := bc_of hf96; clear hf96
      refine j_callV0 X [.int x10] [.int x11] (c_X2_highOf l D cs q i92 x10 τ _ _ h99) mk_X2_highOf mv_X2_highOf ml_X5_77 h95 rfl (by decide) ⟨rfl, rfl⟩ ⟨Nat.le_of_ble_eq_true rfl, Nat.le_of_ble_eq_true rfl⟩ rfl (Nat.le_of_ble_eq_true rfl) ⟨Nat.le_of_ble_eq_true rfl, Nat.le_of_ble_eq_true rfl⟩ dX5_best_110 rfl (st' := [.int r97, .int x11]) rfl ?_
      refine j_icmp_gt X (tgt := 168) dX5_best_113 (by decide) (fun c101 => ?_) (fun c101 => ?_)
      · have hf102 := br_y hf100 c101; clear hf100
        obtain ⟨v104, ev104⟩ : ∃ y : Int32, y = x10 + (1 : Int32) := ⟨_, rfl⟩
        replace hf102 := lt_of hf102 v104 ev104
        refine j_iinc X (v := v104) (lv' := [(10, .int v104), (0, .ref (q x0)), (1, .int x1), (2, .int x2), (3, .ref (q x3)), (4, .long x4), (6, .long x6), (8, .int x8), (9, .int x9), (11, .int x11)]) dX5_best_168 8 rfl (by rw [ev104]; rfl) (by decide) rfl ?_
        refine j_goto X (tgt := 72) dX5_best_171 (by decide) ?_
        refine j_lvsub [1, 2, 3, 4, 5, 6, 7, 8, 0] (lv' := [(0, .ref (q x0)), (1, .int x1), (2, .int x2), (3, .ref (q x3)), (4, .long x4), (6, .long x6), (8, .int x8), (9, .int x9), (10, .int v104)]) rfl ?_
        exact hK72 x0 x1 x2 x3 x4 x6 x8 x9 v104 σ98 hf102
      · have hf103 := br_n hf100 c101; clear hf100
        refine j_aload_n X dX5_best_116 0 rfl rfl ?_
        refine j_aload_n X dX5_best_117 3 rfl rfl ?_
        refine j_iload X dX5_best_118 8 rfl ?_
        refine j_iload X dX5_best_120 9 rfl ?_
        obtain ⟨h106, hf107⟩ := chk_of hf103; clear hf103
        obtain ⟨r108, σ109, h110, hf111⟩ := bc_of hf107; clear hf107
        refine j_callV0 X [.ref (q x3), .int x10, .int x11] [] (c_X5_carrySplit l D cs q x0 x3 x10 x11 σ98 _ _ h110) mk_X5_carrySplit mv_X5_carrySplit ml_X5_176 h106 rfl (by decide) ⟨rfl, rfl⟩ ⟨Nat.le_of_ble_eq_true rfl, Nat.le_of_ble_eq_true rfl⟩ rfl (Nat.le_of_ble_eq_true rfl) ⟨Nat.le_of_ble_eq_true rfl, Nat.le_of_ble_eq_true rfl⟩ dX5_best_122 rfl (st' := []) rfl ?_
        refine j_aload_n X dX5_best_125 0 rfl rfl ?_
        obtain ⟨h112, hf113⟩ := chk_of hf111; clear hf111
        obtain ⟨i114, h115, hf116⟩ := bd_of hf113; clear hf113
        refine j_getr X fd_X5_35 h112 h115 dX5_best_126 ?_
        obtain ⟨h117, hf118⟩ := chk_of hf116; clear hf116
        refine j_getl X fd_X5_184 h117 dX5_best_129 (fun v119 ev119 => ?_)
        replace hf118 := lt_of hf118 v119 ev119
        refine j_aload_n X dX5_best_132 0 rfl rfl ?_
        refine j_getr X fd_X5_35 h112 h115 dX5_best_133 ?_
        refine j_getl X fd_X5_188 h117 dX5_best_136 (fun v124 ev124 => ?_)
        replace hf118 := lt_of hf118 v124 ev124
        refine j_lsub X dX5_best_139 ?_
        refine j_nml (fun v126 ev126 => ?_)
        replace hf118 := lt_of hf118 v126 ev126
        refine j_lstore X (lv' := [(12, .long v126), (0, .ref (q x0)), (1, .int x1), (2, .int x2), (3, .ref (q x3)), (4, .long x4), (6, .long x6), (8, .int x8), (9, .int x9), (10, .int x10), (11, .int x11)]) dX5_best_140 (by decide) rfl ?_
        refine j_lload X dX5_best_142 0 rfl ?_
        refine j_lload X dX5_best_144 6 rfl ?_
        refine j_lcmp X dX5_best_146 ?_
        refine j_if_ge X (tgt := 162) dX5_best_147 (by decide) (fun c128 => ?_) (fun c128 => ?_)
        · have hf129 := br_y hf118 c128; clear hf118
          obtain ⟨v131, ev131⟩ : ∃ y : Int32, y = x11 + (1 : Int32) := ⟨_, rfl⟩
          replace hf129 := lt_of hf129 v131 ev131
          refine j_iinc X (v := v131) (lv' := [(11, .int v131), (12, .long v126), (0, .ref (q x0)), (1, .int x1), (2, .int x2), (3, .ref (q x3)), (4, .long x4), (6, .long x6), (8, .int x8), (9, .int x9), (10, .int x10)]) dX5_best_162 10 rfl (by rw [ev131]; rfl) (by decide) rfl ?_
          refine j_goto X (tgt := 102) dX5_best_165 (by decide) ?_
          refine j_lvsub [2, 3, 4, 5, 6, 7, 8, 9, 10, 0] (lv' := [(0, .ref (q x0)), (1, .int x1), (2, .int x2), (3, .ref (q x3)), (4, .long x4), (6, .long x6), (8, .int x8), (9, .int x9), (10, .int x10), (11, .int v131)]) rfl ?_
          exact ih x0 x1 x2 x3 x4 x6 x8 x9 x10 v131 σ109 hf129
        · have hf130 := br_n hf118 c128; clear hf118
          refine j_lload X dX5_best_150 0 rfl ?_
          refine j_lstore X (lv' := [(6, .long v126), (12, .long v126), (0, .ref (q x0)), (1, .int x1), (2, .int x2), (3, .ref (q x3)), (4, .long x4), (8, .int x8), (9, .int x9), (10, .int x10), (11, .int x11)]) dX5_best_152 (by decide) rfl ?_
          refine j_iload X dX5_best_154 9 rfl ?_
          refine j_istore X (lv' := [(8, .int x10), (6, .long v126), (12, .long v126), (0, .ref (q x0)), (1, .int x1), (2, .int x2), (3, .ref (q x3)), (4, .long x4), (9, .int x9), (10, .int x10), (11, .int x11)]) dX5_best_156 (by decide) rfl ?_
          refine j_iload X dX5_best_158 10 rfl ?_
          refine j_istore X (lv' := [(9, .int x11), (8, .int x10), (6, .long v126), (12, .long v126), (0, .ref (q x0)), (1, .int x1), (2, .int x2), (3, .ref (q x3)), (4, .long x4), (10, .int x10), (11, .int x11)]) dX5_best_160 (by decide) rfl ?_
          obtain ⟨v133, ev133⟩ : ∃ y : Int32, y = x11 + (1 : Int32) := ⟨_, rfl⟩
          replace hf130 := lt_of hf130 v133 ev133
          refine j_iinc X (v := v133) (lv' := [(11, .int v133), (9, .int x11), (8, .int x10), (6, .long v126), (12, .long v126), (0, .ref (q x0)), (1, .int x1), (2, .int x2), (3, .ref (q x3)), (4, .long x4), (10, .int x10)]) dX5_best_162 10 rfl (by rw [ev133]; rfl) (by decide) rfl ?_
          refine j_goto X (tgt := 102) dX5_best_165 (by decide) ?_
          refine j_lvsub [5, 6, 7, 8, 9, 3, 2, 1, 10, 0] (lv' := [(0, .ref (q x0)), (1, .int x1), (2, .int x2), (3, .ref (q x3)), (4, .long x4), (6, .long v126), (8, .int x10), (9, .int x11), (10, .int x10), (11, .int v133)]) rfl ?_
          exact ih x0 x1 x2 x3 x4 v126 x10 x11 x10 v133 σ109 hf130
  have L72 : ∀ (nk : Nat) (x0 : Nat) (x1 : Int32) (x2 : Int32) (x3 : Nat) (x4 : Int64) (x6 : Int64) (x8 : Int32) (x9 : Int32) (x10 : Int32) (τ : HS), lp_X5_best_72  nk x0 x1 x2 x3 x4 x6 x8 x9 x10 τ = some (r0, σ0) → J p l e rm_X5_best s m args below meth c 14 D cs A s.heap 0 0 (MQ below (hQ D cs (fun z => z = q) (fun _ => some (.long r0)) σ0 A) args s 0 0 A) q τ [(0, .ref (q x0)), (1, .int x1), (2, .int x2), (3, .ref (q x3)), (4, .long x4), (6, .long x6), (8, .int x8), (9, .int x9), (10, .int x10)] 72 [] := by
    intro nk
    induction nk with
    | zero => intro x0 x1 x2 x3 x4 x6 x8 x9 x10 τ hf0; have hf1 : (none : Option (Int64 × HS)) = some (r0, σ0) := hf0; cases hf1
    | succ nk ih =>
      intro x0 x1 x2 x3 x4 x6 x8 x9 x10 τ hf0
      replace hf0 : lp_X5_best_72_b  (lp_X5_best_72  nk) x0 x1 x2 x3 x4 x6 x8 x9 x10 τ = some (r0, σ0) := hf0
      unfold lp_X5_best_72_b at hf0
      refine j_iload X dX5_best_72 8 rfl ?_
      refine j_bipush X (v := 6) dX5_best_74 (by decide) ?_
      refine j_icmp_ge X (tgt := 174) dX5_best_76 (by decide) (fun c58 => ?_) (fun c58 => ?_)
      · have hf59 := br_y hf0 c58; clear hf0
        refine j_iload X dX5_best_174 6 rfl ?_
        refine j_iconst X (v := -1) dX5_best_176 (by decide) ?_
        refine j_icmp_ne X (tgt := 184) dX5_best_177 (by decide) (fun c61 => ?_) (fun c61 => ?_)
        · have hf62 := br_n hf59 c61; clear hf59
          refine j_iload_n X dX5_best_184 2 rfl rfl ?_
          refine j_if_ne X (tgt := 194) dX5_best_185 (by decide) (fun c64 => ?_) (fun c64 => ?_)
          · have hf65 := br_n hf62 c64; clear hf62
            refine j_iload_n X dX5_best_194 2 rfl rfl ?_
            refine j_iconst X (v := 1) dX5_best_195 (by decide) ?_
            refine j_icmp_ne X (tgt := 205) dX5_best_196 (by decide) (fun c67 => ?_) (fun c67 => ?_)
            · have hf68 := br_n hf65 c67; clear hf65
              refine j_lload X dX5_best_205 4 rfl ?_
              refine j_lload X dX5_best_207 5 rfl ?_
              refine j_lsub X dX5_best_209 ?_
              obtain ⟨er, es⟩ := rt_of hf68
              subst er
              exact j_retl X hr hlk (Nat.le_of_ble_eq_true rfl) (Nat.le_of_ble_eq_true rfl) rfl es.symm rfl dX5_best_210
            · have hf69 := br_y hf65 c67; clear hf65
              refine j_iload X dX5_best_199 7 rfl ?_
              refine j_i2l X dX5_best_201 ?_
              refine j_goto X (tgt := 210) dX5_best_202 (by decide) ?_
              obtain ⟨er, es⟩ := rt_of hf69
              subst er
              exact j_retl X hr hlk (Nat.le_of_ble_eq_true rfl) (Nat.le_of_ble_eq_true rfl) rfl es.symm rfl dX5_best_210
          · have hf66 := br_y hf62 c64; clear hf62
            refine j_iload X dX5_best_188 6 rfl ?_
            refine j_i2l X dX5_best_190 ?_
            refine j_goto X (tgt := 210) dX5_best_191 (by decide) ?_
            obtain ⟨er, es⟩ := rt_of hf66
            subst er
            exact j_retl X hr hlk (Nat.le_of_ble_eq_true rfl) (Nat.le_of_ble_eq_true rfl) rfl es.symm rfl dX5_best_210
        · have hf63 := br_y hf59 c61; clear hf59
          refine j_ldc2 X k_X5_194 dX5_best_180 ?_
          obtain ⟨er, es⟩ := rt_of hf63
          subst er
          exact j_retl X hr hlk (Nat.le_of_ble_eq_true rfl) (Nat.le_of_ble_eq_true rfl) rfl es.symm rfl dX5_best_183
      · have hf60 := br_n hf0 c58; clear hf0
        refine j_aload_n X dX5_best_79 3 rfl rfl ?_
        refine j_iload X dX5_best_80 8 rfl ?_
        obtain ⟨h70, hf71⟩ := chk_of hf60; clear hf60
        obtain ⟨r72, σ73, h74, hf75⟩ := bc_of hf71; clear hf71
        refine j_callV0 X [.int x10] [] (c_X0_hasSource l D cs q x3 x10 τ _ _ h74) mk_X0_hasSource mv_X0_hasSource ml_X5_191 h70 rfl (by decide) ⟨rfl, rfl⟩ ⟨Nat.le_of_ble_eq_true rfl, Nat.le_of_ble_eq_true rfl⟩ rfl (Nat.le_of_ble_eq_true rfl) ⟨Nat.le_of_ble_eq_true rfl, Nat.le_of_ble_eq_true rfl⟩ dX5_best_82 rfl (st' := [.int r72]) rfl ?_
        refine j_if_ne X (tgt := 91) dX5_best_85 (by decide) (fun c76 => ?_) (fun c76 => ?_)
        · have hf77 := br_n hf75 c76; clear hf75
          refine j_aload_n X dX5_best_91 0 rfl rfl ?_
          obtain ⟨h79, hf80⟩ := chk_of hf77; clear hf77
          obtain ⟨i81, h82, hf83⟩ := bd_of hf80; clear hf80
          refine j_getr X fd_X5_14 h79 h82 dX5_best_92 ?_
          refine j_iload X dX5_best_95 8 rfl ?_
          obtain ⟨h84, hf85⟩ := chk_of hf83; clear hf83
          obtain ⟨r86, σ87, h88, hf89⟩ := bc_of hf85; clear hf85
          refine j_callV0 X [.int x10] [] (c_X2_lowOf l D cs q i81 x10 σ73 _ _ h88) mk_X2_lowOf mv_X2_lowOf ml_X5_73 h84 rfl (by decide) ⟨rfl, rfl⟩ ⟨Nat.le_of_ble_eq_true rfl, Nat.le_of_ble_eq_true rfl⟩ rfl (Nat.le_of_ble_eq_true rfl) ⟨Nat.le_of_ble_eq_true rfl, Nat.le_of_ble_eq_true rfl⟩ dX5_best_97 rfl (st' := [.int r86]) rfl ?_
          refine j_istore X (lv' := [(11, .int r86), (0, .ref (q x0)), (1, .int x1), (2, .int x2), (3, .ref (q x3)), (4, .long x4), (6, .long x6), (8, .int x8), (9, .int x9), (10, .int x10)]) dX5_best_100 (by decide) rfl ?_
          refine j_lvsub [1, 2, 3, 4, 5, 6, 7, 8, 9, 0] (lv' := [(0, .ref (q x0)), (1, .int x1), (2, .int x2), (3, .ref (q x3)), (4, .long x4), (6, .long x6), (8, .int x8), (9, .int x9), (10, .int x10), (11, .int r86)]) rfl ?_
          exact L102 (K72) (ih) 1000 x0 x1 x2 x3 x4 x6 x8 x9 x10 r86 σ87 hf89
        · have hf78 := br_y hf75 c76; clear hf75
          refine j_goto X (tgt := 168) dX5_best_88 (by decide) ?_
          obtain ⟨v135, ev135⟩ : ∃ y : Int32, y = x10 + (1 : Int32) := ⟨_, rfl⟩
          replace hf78 := lt_of hf78 v135 ev135
          refine j_iinc X (v := v135) (lv' := [(10, .int v135), (0, .ref (q x0)), (1, .int x1), (2, .int x2), (3, .ref (q x3)), (4, .long x4), (6, .long x6), (8, .int x8), (9, .int x9)]) dX5_best_168 8 rfl (by rw [ev135]; rfl) (by decide) rfl ?_
          refine j_goto X (tgt := 72) dX5_best_171 (by decide) ?_
          refine j_lvsub [1, 2, 3, 4, 5, 6, 7, 8, 0] (lv' := [(0, .ref (q x0)), (1, .int x1), (2, .int x2), (3, .ref (q x3)), (4, .long x4), (6, .long x6), (8, .int x8), (9, .int x9), (10, .int v135)]) rfl ?_
          exact ih x0 x1 x2 x3 x4 x6 x8 x9 v135 σ73 hf78
  refine j_aload_n X dX5_best_0 0 rfl rfl ?_
  refine j_iload_n X dX5_best_1 1 rfl rfl ?_
  obtain ⟨h1, hf2⟩ := chk_of hf0; clear hf0
  obtain ⟨r3, σ4, h5, hf6⟩ := bc_of hf2; clear hf2
  refine j_callV0 X [.int a1] [] (c_X5_formulaOf l D cs q a0 a1 σ _ _ h5) mk_X5_formulaOf mv_X5_formulaOf ml_X5_100 h1 rfl (by decide) ⟨rfl, rfl⟩ ⟨Nat.le_of_ble_eq_true rfl, Nat.le_of_ble_eq_true rfl⟩ rfl (Nat.le_of_ble_eq_true rfl) ⟨Nat.le_of_ble_eq_true rfl, Nat.le_of_ble_eq_true rfl⟩ dX5_best_2 rfl (st' := [va_rf (Option.map q r3)]) rfl ?_
  refine j_astore_nq X (lv' := [(3, va_rf (Option.map q r3)), (0, .ref (q a0)), (1, .int a1), (2, .int a2)]) dX5_best_5 rfl (by decide) rfl ?_
  refine j_aload_nq X dX5_best_6 0 rfl rfl ?_
  refine j_ifnull X (tgt := 19) dX5_best_7 (by decide) (fun c137 => ?_) (fun i7 c137 => ?_)
  · subst c137; have hf8 := (show _ = some (r0, σ0) from hf6); clear hf6; unfold oc at hf8; dsimp only at hf8
    refine j_ldc2 X k_X5_125 dX5_best_19 ?_
    obtain ⟨er, es⟩ := rt_of hf8
    subst er
    exact j_retl X hr hlk (Nat.le_of_ble_eq_true rfl) (Nat.le_of_ble_eq_true rfl) rfl es.symm rfl dX5_best_22
  · subst c137; have hf9 := (show _ = some (r0, σ0) from hf6); clear hf6; unfold oc at hf9; dsimp only at hf9
    refine j_iload_n X dX5_best_10 3 rfl rfl ?_
    refine j_if_lt X (tgt := 19) dX5_best_11 (by decide) (fun c10 => ?_) (fun c10 => ?_)
    · have hf11 := br_y hf9 c10; clear hf9
      refine j_ldc2 X k_X5_125 dX5_best_19 ?_
      obtain ⟨er, es⟩ := rt_of hf11
      subst er
      exact j_retl X hr hlk (Nat.le_of_ble_eq_true rfl) (Nat.le_of_ble_eq_true rfl) rfl es.symm rfl dX5_best_22
    · have hf12 := br_n hf9 c10; clear hf9
      refine j_iload_n X dX5_best_14 3 rfl rfl ?_
      refine j_iconst X (v := 2) dX5_best_15 (by decide) ?_
      refine j_icmp_le X (tgt := 23) dX5_best_16 (by decide) (fun c13 => ?_) (fun c13 => ?_)
      · have hf14 := br_y hf12 c13; clear hf12
        refine j_aload_n X dX5_best_23 1 rfl rfl ?_
        refine j_aload_n X dX5_best_24 0 rfl rfl ?_
        obtain ⟨h16, hf17⟩ := chk_of hf14; clear hf14
        obtain ⟨r18, σ19, h20, hf21⟩ := bc_of hf17; clear hf17
        refine j_callV0 X [.ref (q i7)] [] (c_X5_carryAsItIs l D cs q a0 i7 σ4 _ _ h20) mk_X5_carryAsItIs mv_X5_carryAsItIs ml_X5_127 h16 rfl (by decide) ⟨rfl, rfl⟩ ⟨Nat.le_of_ble_eq_true rfl, Nat.le_of_ble_eq_true rfl⟩ rfl (Nat.le_of_ble_eq_true rfl) ⟨Nat.le_of_ble_eq_true rfl, Nat.le_of_ble_eq_true rfl⟩ dX5_best_25 rfl (st' := []) rfl ?_
        refine j_aload_n X dX5_best_28 1 rfl rfl ?_
        obtain ⟨h22, hf23⟩ := chk_of hf21; clear hf21
        obtain ⟨i24, h25, hf26⟩ := bd_of hf23; clear hf23
        refine j_getr X fd_X5_35 h22 h25 dX5_best_29 ?_
        obtain ⟨h27, hf28⟩ := chk_of hf26; clear hf26
        obtain ⟨r29, σ30, h31, hf32⟩ := bc_of hf28; clear hf28
        refine j_callV0 X [] [] (c_X4_hasWidth l D cs q i24 σ19 _ _ h31) mk_X4_hasWidth mv_X4_hasWidth ml_X5_180 h27 rfl (by decide) ⟨rfl, rfl⟩ ⟨Nat.le_of_ble_eq_true rfl, Nat.le_of_ble_eq_true rfl⟩ rfl (Nat.le_of_ble_eq_true rfl) ⟨Nat.le_of_ble_eq_true rfl, Nat.le_of_ble_eq_true rfl⟩ dX5_best_32 rfl (st' := [.int r29]) rfl ?_
        refine j_if_ne X (tgt := 42) dX5_best_35 (by decide) (fun c33 => ?_) (fun c33 => ?_)
        · have hf34 := br_n hf32 c33; clear hf32
          refine j_aload_n X dX5_best_42 1 rfl rfl ?_
          obtain ⟨h36, hf37⟩ := chk_of hf34; clear hf34
          obtain ⟨i38, h39, hf40⟩ := bd_of hf37; clear hf37
          refine j_getr X fd_X5_35 h36 h39 dX5_best_43 ?_
          obtain ⟨h41, hf42⟩ := chk_of hf40; clear hf40
          refine j_getl X fd_X5_184 h41 dX5_best_46 (fun v43 ev43 => ?_)
          replace hf42 := lt_of hf42 v43 ev43
          refine j_aload_n X dX5_best_49 1 rfl rfl ?_
          refine j_getr X fd_X5_35 h36 h39 dX5_best_50 ?_
          refine j_getl X fd_X5_188 h41 dX5_best_53 (fun v48 ev48 => ?_)
          replace hf42 := lt_of hf42 v48 ev48
          refine j_lsub X dX5_best_56 ?_
          refine j_nml (fun v50 ev50 => ?_)
          replace hf42 := lt_of hf42 v50 ev50
          refine j_lstore X (lv' := [(4, .long v50), (3, .ref (q i7)), (0, .ref (q a0)), (1, .int a1), (2, .int a2)]) dX5_best_57 (by decide) rfl ?_
          refine j_lload X dX5_best_59 0 rfl ?_
          refine j_lstore X (lv' := [(6, .long v50), (4, .long v50), (3, .ref (q i7)), (0, .ref (q a0)), (1, .int a1), (2, .int a2)]) dX5_best_61 (by decide) rfl ?_
          refine j_iconst X (v := -1) dX5_best_63 (by decide) ?_
          refine j_nmi (fun v52 ev52 => ?_)
          replace hf42 := lt_of hf42 v52 ev52
          refine j_istore X (lv' := [(8, .int v52), (6, .long v50), (4, .long v50), (3, .ref (q i7)), (0, .ref (q a0)), (1, .int a1), (2, .int a2)]) dX5_best_64 (by decide) rfl ?_
          refine j_iconst X (v := 0) dX5_best_66 (by decide) ?_
          refine j_nmi (fun v54 ev54 => ?_)
          replace hf42 := lt_of hf42 v54 ev54
          refine j_istore X (lv' := [(9, .int v54), (8, .int v52), (6, .long v50), (4, .long v50), (3, .ref (q i7)), (0, .ref (q a0)), (1, .int a1), (2, .int a2)]) dX5_best_67 (by decide) rfl ?_
          refine j_iconst X (v := 0) dX5_best_69 (by decide) ?_
          refine j_nmi (fun v56 ev56 => ?_)
          replace hf42 := lt_of hf42 v56 ev56
          refine j_istore X (lv' := [(10, .int v56), (9, .int v54), (8, .int v52), (6, .long v50), (4, .long v50), (3, .ref (q i7)), (0, .ref (q a0)), (1, .int a1), (2, .int a2)]) dX5_best_70 (by decide) rfl ?_
          refine j_lvsub [6, 7, 8, 5, 4, 3, 2, 1, 0] (lv' := [(0, .ref (q a0)), (1, .int a1), (2, .int a2), (3, .ref (q i7)), (4, .long v50), (6, .long v50), (8, .int v52), (9, .int v54), (10, .int v56)]) rfl ?_
          exact L72  1000 a0 a1 a2 i7 v50 v50 v52 v54 v56 σ30 hf42
        · have hf35 := br_y hf32 c33; clear hf32
          refine j_ldc2 X k_X5_141 dX5_best_38 ?_
          obtain ⟨er, es⟩ := rt_of hf35
          subst er
          exact j_retl X hr hlk (Nat.le_of_ble_eq_true rfl) (Nat.le_of_ble_eq_true rfl) rfl es.symm rfl dX5_best_41
      · have hf15 := br_n hf12 c13; clear hf12
        refine j_ldc2 X k_X5_125 dX5_best_19 ?_
        obtain ⟨er, es⟩ := rt_of hf15
        subst er
        exact j_retl X hr hlk (Nat.le_of_ble_eq_true rfl) (Nat.le_of_ble_eq_true rfl) rfl es.symm rfl dX5_best_22
