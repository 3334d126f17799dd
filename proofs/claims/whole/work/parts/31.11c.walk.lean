abbrev rm_X4_carryPart : Room := { frames := 2, cells := 0, slots := 0, locals := 128 }
set_option maxHeartbeats 4000000 in
set_option maxRecDepth 100000 in
theorem c_X4_carryPart (l : Launch) (D : va_G) (cs : Nat → ClassId) (q : Nat → Nat) (a0 : Nat) (a1 : Nat) (a2 : Int32) (σ σ0 : HS) (r0 : Unit) (hf0 : f_X4_carryPart a0 a1 a2 σ = some (r0, σ0)) : MT l yX4_carryPart (Cond.code yX4_carryPart cX4_carryPart 6 none :: lw_g) rm_X4_carryPart D cs q σ σ0 [.ref (q a0), .ref (q a1), .int a2] (fun z => z = q) (fun _ => none) 0 0 := by
  unfold f_X4_carryPart at hf0
  refine MT_of (cc := cX4_carryPart) (lv0 := [(0, .ref (q a0)), (1, .ref (q a1)), (2, .int a2)]) (by decide) (Nat.le_of_ble_eq_true rfl) rfl (fun p e s m args below meth c A X hr hlk hin => ?_)
  refine j_aload_n X dX4_carryPart_0 1 rfl rfl ?_
  obtain ⟨h1, hf2⟩ := chk_of hf0; clear hf0
  obtain ⟨i3, h4, hf5⟩ := bd_of hf2; clear hf2
  refine j_getr X fd_X4_81 h1 h4 dX4_carryPart_1 ?_
  refine j_iload_n X dX4_carryPart_4 2 rfl rfl ?_
  obtain ⟨h6, hf7⟩ := chk_of hf5; clear hf5
  refine j_iald X h6 dX4_carryPart_5 (fun v8 ev8 => ?_)
  replace hf7 := lt_of hf7 v8 ev8
  refine j_istore_n X (lv' := [(3, .int v8), (0, .ref (q a0)), (1, .ref (q a1)), (2, .int a2)]) dX4_carryPart_6 rfl (by decide) rfl ?_
  refine j_aload_n X dX4_carryPart_7 2 rfl rfl ?_
  obtain ⟨i10, h11, hf12⟩ := bd_of hf7; clear hf7
  refine j_getr X fd_X4_84 h1 h11 dX4_carryPart_8 ?_
  refine j_iload_n X dX4_carryPart_11 3 rfl rfl ?_
  obtain ⟨h13, hf14⟩ := chk_of hf12; clear hf12
  refine j_iald X h13 dX4_carryPart_12 (fun v15 ev15 => ?_)
  replace hf14 := lt_of hf14 v15 ev15
  refine j_istore X (lv' := [(4, .int v15), (3, .int v8), (0, .ref (q a0)), (1, .ref (q a1)), (2, .int a2)]) dX4_carryPart_13 (by decide) rfl ?_
  refine j_aload_n X dX4_carryPart_15 3 rfl rfl ?_
  obtain ⟨i17, h18, hf19⟩ := bd_of hf14; clear hf14
  refine j_getr X fd_X4_87 h1 h18 dX4_carryPart_16 ?_
  refine j_iload_n X dX4_carryPart_19 4 rfl rfl ?_
  obtain ⟨h20, hf21⟩ := chk_of hf19; clear hf19
  refine j_iald X h20 dX4_carryPart_20 (fun v22 ev22 => ?_)
  replace hf21 := lt_of hf21 v22 ev22
  refine j_istore X (lv' := [(5, .int v22), (4, .int v15), (3, .int v8), (0, .ref (q a0)), (1, .ref (q a1)), (2, .int a2)]) dX4_carryPart_21 (by decide) rfl ?_
  refine j_aload_n X dX4_carryPart_23 4 rfl rfl ?_
  obtain ⟨i24, h25, hf26⟩ := bd_of hf21; clear hf21
  refine j_getr X fd_X4_90 h1 h25 dX4_carryPart_24 ?_
  refine j_iload_n X dX4_carryPart_27 5 rfl rfl ?_
  obtain ⟨h27, hf28⟩ := chk_of hf26; clear hf26
  refine j_iald X h27 dX4_carryPart_28 (fun v29 ev29 => ?_)
  replace hf28 := lt_of hf28 v29 ev29
  by_cases c31 : v29 = (0 : Int32)
  · have hf32 := br_y hf28 c31; clear hf28
    refine j_tabIn X (v := 0) (tgt := 64) dX4_carryPart_29 c31 (by decide) (by decide) rfl (by decide) ?_
    refine j_aload_n X dX4_carryPart_64 3 rfl rfl ?_
    obtain ⟨h34, hf35⟩ := chk_of hf32; clear hf32
    obtain ⟨i36, h37, hf38⟩ := bd_of hf35; clear hf35
    refine j_getr X fd_X4_37 h34 h37 dX4_carryPart_65 ?_
    refine j_iload_n X dX4_carryPart_68 5 rfl rfl ?_
    refine j_aload_n X dX4_carryPart_69 3 rfl rfl ?_
    obtain ⟨i39, h40, hf41⟩ := bd_of hf38; clear hf38
    refine j_getr X fd_X4_9 h34 h40 dX4_carryPart_70 ?_
    refine j_iload X dX4_carryPart_73 0 rfl ?_
    obtain ⟨h42, hf43⟩ := chk_of hf41; clear hf41
    refine j_iald X h42 dX4_carryPart_75 (fun v44 ev44 => ?_)
    replace hf43 := lt_of hf43 v44 ev44
    refine j_i2l X dX4_carryPart_76 ?_
    refine j_aload_n X dX4_carryPart_77 3 rfl rfl ?_
    obtain ⟨i46, h47, hf48⟩ := bd_of hf43; clear hf43
    refine j_getr X fd_X4_15 h34 h47 dX4_carryPart_78 ?_
    refine j_iload X dX4_carryPart_81 0 rfl ?_
    obtain ⟨h49, hf50⟩ := chk_of hf48; clear hf48
    refine j_iald X h49 dX4_carryPart_83 (fun v51 ev51 => ?_)
    replace hf50 := lt_of hf50 v51 ev51
    refine j_i2l X dX4_carryPart_84 ?_
    obtain ⟨h53, hf54⟩ := chk_of hf50; clear hf50
    obtain ⟨r55, σ56, h57, hf58⟩ := bc_of hf54; clear hf54
    refine j_callV0 X [.int a2, .long (v44).toInt64, .long (v51).toInt64] [] (c_X1_fromTo l D cs q i36 a2 (v44).toInt64 (v51).toInt64 σ _ _ h57) mk_X1_fromTo mv_X1_fromTo ml_X4_93 h53 rfl (by decide) ⟨rfl, rfl⟩ ⟨Nat.le_of_ble_eq_true rfl, Nat.le_of_ble_eq_true rfl⟩ rfl (Nat.le_of_ble_eq_true rfl) ⟨Nat.le_of_ble_eq_true rfl, Nat.le_of_ble_eq_true rfl⟩ dX4_carryPart_85 rfl (st' := []) rfl ?_
    refine j_goto X (tgt := 187) dX4_carryPart_88 (by decide) ?_
    obtain ⟨er, es⟩ := rt_of hf58
    exact j_retv X hr hlk (Nat.le_of_ble_eq_true rfl) (Nat.le_of_ble_eq_true rfl) rfl es.symm rfl dX4_carryPart_187
  · have hf33 := br_n hf28 c31; clear hf28
    by_cases c59 : v29 = (1 : Int32)
    · have hf60 := br_y hf33 c59; clear hf33
      refine j_tabIn X (v := 1) (tgt := 91) dX4_carryPart_29 c59 (by decide) (by decide) rfl (by decide) ?_
      refine j_aload_n X dX4_carryPart_91 3 rfl rfl ?_
      obtain ⟨h62, hf63⟩ := chk_of hf60; clear hf60
      obtain ⟨i64, h65, hf66⟩ := bd_of hf63; clear hf63
      refine j_getr X fd_X4_37 h62 h65 dX4_carryPart_92 ?_
      refine j_iload_n X dX4_carryPart_95 5 rfl rfl ?_
      refine j_iload X dX4_carryPart_96 0 rfl ?_
      refine j_i2l X dX4_carryPart_98 ?_
      refine j_iload X dX4_carryPart_99 0 rfl ?_
      refine j_i2l X dX4_carryPart_101 ?_
      obtain ⟨h67, hf68⟩ := chk_of hf66; clear hf66
      obtain ⟨r69, σ70, h71, hf72⟩ := bc_of hf68; clear hf68
      refine j_callV0 X [.int a2, .long (v22).toInt64, .long (v22).toInt64] [] (c_X1_fromTo l D cs q i64 a2 (v22).toInt64 (v22).toInt64 σ _ _ h71) mk_X1_fromTo mv_X1_fromTo ml_X4_93 h67 rfl (by decide) ⟨rfl, rfl⟩ ⟨Nat.le_of_ble_eq_true rfl, Nat.le_of_ble_eq_true rfl⟩ rfl (Nat.le_of_ble_eq_true rfl) ⟨Nat.le_of_ble_eq_true rfl, Nat.le_of_ble_eq_true rfl⟩ dX4_carryPart_102 rfl (st' := []) rfl ?_
      refine j_goto X (tgt := 187) dX4_carryPart_105 (by decide) ?_
      obtain ⟨er, es⟩ := rt_of hf72
      exact j_retv X hr hlk (Nat.le_of_ble_eq_true rfl) (Nat.le_of_ble_eq_true rfl) rfl es.symm rfl dX4_carryPart_187
    · have hf61 := br_n hf33 c59; clear hf33
      by_cases c73 : v29 = (2 : Int32)
      · have hf74 := br_y hf61 c73; clear hf61
        refine j_tabIn X (v := 2) (tgt := 108) dX4_carryPart_29 c73 (by decide) (by decide) rfl (by decide) ?_
        refine j_aload_n X dX4_carryPart_108 3 rfl rfl ?_
        obtain ⟨h76, hf77⟩ := chk_of hf74; clear hf74
        obtain ⟨i78, h79, hf80⟩ := bd_of hf77; clear hf77
        refine j_getr X fd_X4_37 h76 h79 dX4_carryPart_109 ?_
        refine j_iload_n X dX4_carryPart_112 5 rfl rfl ?_
        refine j_aload_n X dX4_carryPart_113 3 rfl rfl ?_
        refine j_getr X fd_X4_37 h76 h79 dX4_carryPart_114 ?_
        refine j_iload_n X dX4_carryPart_117 2 rfl rfl ?_
        obtain ⟨h84, hf85⟩ := chk_of hf80; clear hf80
        obtain ⟨r86, σ87, h88, hf89⟩ := bc_of hf85; clear hf85
        refine j_callV0 X [.int a2, .ref (q i78), .int v8] [] (c_X1_less l D cs q i78 a2 i78 v8 σ _ _ h88) mk_X1_less mv_X1_less ml_X4_97 h84 rfl (by decide) ⟨rfl, rfl⟩ ⟨Nat.le_of_ble_eq_true rfl, Nat.le_of_ble_eq_true rfl⟩ rfl (Nat.le_of_ble_eq_true rfl) ⟨Nat.le_of_ble_eq_true rfl, Nat.le_of_ble_eq_true rfl⟩ dX4_carryPart_118 rfl (st' := []) rfl ?_
        refine j_goto X (tgt := 187) dX4_carryPart_121 (by decide) ?_
        obtain ⟨er, es⟩ := rt_of hf89
        exact j_retv X hr hlk (Nat.le_of_ble_eq_true rfl) (Nat.le_of_ble_eq_true rfl) rfl es.symm rfl dX4_carryPart_187
      · have hf75 := br_n hf61 c73; clear hf61
        by_cases c90 : v29 = (3 : Int32)
        · have hf91 := br_y hf75 c90; clear hf75
          refine j_tabIn X (v := 3) (tgt := 124) dX4_carryPart_29 c90 (by decide) (by decide) rfl (by decide) ?_
          refine j_aload_n X dX4_carryPart_124 3 rfl rfl ?_
          obtain ⟨h93, hf94⟩ := chk_of hf91; clear hf91
          obtain ⟨i95, h96, hf97⟩ := bd_of hf94; clear hf94
          refine j_getr X fd_X4_37 h93 h96 dX4_carryPart_125 ?_
          refine j_iload_n X dX4_carryPart_128 5 rfl rfl ?_
          refine j_aload_n X dX4_carryPart_129 3 rfl rfl ?_
          refine j_getr X fd_X4_37 h93 h96 dX4_carryPart_130 ?_
          refine j_iload_n X dX4_carryPart_133 2 rfl rfl ?_
          refine j_aload_n X dX4_carryPart_134 3 rfl rfl ?_
          refine j_getr X fd_X4_37 h93 h96 dX4_carryPart_135 ?_
          refine j_iload X dX4_carryPart_138 1 rfl ?_
          obtain ⟨h104, hf105⟩ := chk_of hf97; clear hf97
          obtain ⟨r106, σ107, h108, hf109⟩ := bc_of hf105; clear hf105
          refine j_callV0 X [.int a2, .ref (q i95), .int v8, .ref (q i95), .int v15] [] (c_X1_sum l D cs q i95 a2 i95 v8 i95 v15 σ _ _ h108) mk_X1_sum mv_X1_sum ml_X4_101 h104 rfl (by decide) ⟨rfl, rfl⟩ ⟨Nat.le_of_ble_eq_true rfl, Nat.le_of_ble_eq_true rfl⟩ rfl (Nat.le_of_ble_eq_true rfl) ⟨Nat.le_of_ble_eq_true rfl, Nat.le_of_ble_eq_true rfl⟩ dX4_carryPart_140 rfl (st' := []) rfl ?_
          refine j_goto X (tgt := 187) dX4_carryPart_143 (by decide) ?_
          obtain ⟨er, es⟩ := rt_of hf109
          exact j_retv X hr hlk (Nat.le_of_ble_eq_true rfl) (Nat.le_of_ble_eq_true rfl) rfl es.symm rfl dX4_carryPart_187
        · have hf92 := br_n hf75 c90; clear hf75
          by_cases c110 : v29 = (4 : Int32)
          · have hf111 := br_y hf92 c110; clear hf92
            refine j_tabIn X (v := 4) (tgt := 146) dX4_carryPart_29 c110 (by decide) (by decide) rfl (by decide) ?_
            refine j_aload_n X dX4_carryPart_146 3 rfl rfl ?_
            obtain ⟨h113, hf114⟩ := chk_of hf111; clear hf111
            obtain ⟨i115, h116, hf117⟩ := bd_of hf114; clear hf114
            refine j_getr X fd_X4_37 h113 h116 dX4_carryPart_147 ?_
            refine j_iload_n X dX4_carryPart_150 5 rfl rfl ?_
            refine j_aload_n X dX4_carryPart_151 3 rfl rfl ?_
            refine j_getr X fd_X4_37 h113 h116 dX4_carryPart_152 ?_
            refine j_iload_n X dX4_carryPart_155 2 rfl rfl ?_
            refine j_aload_n X dX4_carryPart_156 3 rfl rfl ?_
            refine j_getr X fd_X4_37 h113 h116 dX4_carryPart_157 ?_
            refine j_iload X dX4_carryPart_160 1 rfl ?_
            obtain ⟨h124, hf125⟩ := chk_of hf117; clear hf117
            obtain ⟨r126, σ127, h128, hf129⟩ := bc_of hf125; clear hf125
            refine j_callV0 X [.int a2, .ref (q i115), .int v8, .ref (q i115), .int v15] [] (c_X1_difference l D cs q i115 a2 i115 v8 i115 v15 σ _ _ h128) mk_X1_difference mv_X1_difference ml_X4_105 h124 rfl (by decide) ⟨rfl, rfl⟩ ⟨Nat.le_of_ble_eq_true rfl, Nat.le_of_ble_eq_true rfl⟩ rfl (Nat.le_of_ble_eq_true rfl) ⟨Nat.le_of_ble_eq_true rfl, Nat.le_of_ble_eq_true rfl⟩ dX4_carryPart_162 rfl (st' := []) rfl ?_
            refine j_goto X (tgt := 187) dX4_carryPart_165 (by decide) ?_
            obtain ⟨er, es⟩ := rt_of hf129
            exact j_retv X hr hlk (Nat.le_of_ble_eq_true rfl) (Nat.le_of_ble_eq_true rfl) rfl es.symm rfl dX4_carryPart_187
          · have hf112 := br_n hf92 c110; clear hf92
            refine j_tabOut X (tgt := 168) dX4_carryPart_29 (by have z0 := lv_neT c31 (show ((0 : Int32)).toInt = 0 from rfl); have z1 := lv_neT c59 (show ((1 : Int32)).toInt = 1 from rfl); have z2 := lv_neT c73 (show ((2 : Int32)).toInt = 2 from rfl); have z3 := lv_neT c90 (show ((3 : Int32)).toInt = 3 from rfl); have z4 := lv_neT c110 (show ((4 : Int32)).toInt = 4 from rfl); omega) (by decide) ?_
            refine j_aload_n X dX4_carryPart_168 3 rfl rfl ?_
            obtain ⟨h130, hf131⟩ := chk_of hf112; clear hf112
            obtain ⟨i132, h133, hf134⟩ := bd_of hf131; clear hf131
            refine j_getr X fd_X4_37 h130 h133 dX4_carryPart_169 ?_
            refine j_iload_n X dX4_carryPart_172 5 rfl rfl ?_
            refine j_aload_n X dX4_carryPart_173 3 rfl rfl ?_
            refine j_getr X fd_X4_37 h130 h133 dX4_carryPart_174 ?_
            refine j_iload_n X dX4_carryPart_177 2 rfl rfl ?_
            refine j_aload_n X dX4_carryPart_178 3 rfl rfl ?_
            refine j_getr X fd_X4_37 h130 h133 dX4_carryPart_179 ?_
            refine j_iload X dX4_carryPart_182 1 rfl ?_
            obtain ⟨h141, hf142⟩ := chk_of hf134; clear hf134
            obtain ⟨r143, σ144, h145, hf146⟩ := bc_of hf142; clear hf142
            refine j_callV0 X [.int a2, .ref (q i132), .int v8, .ref (q i132), .int v15] [] (c_X1_product l D cs q i132 a2 i132 v8 i132 v15 σ _ _ h145) mk_X1_product mv_X1_product ml_X4_108 h141 rfl (by decide) ⟨rfl, rfl⟩ ⟨Nat.le_of_ble_eq_true rfl, Nat.le_of_ble_eq_true rfl⟩ rfl (Nat.le_of_ble_eq_true rfl) ⟨Nat.le_of_ble_eq_true rfl, Nat.le_of_ble_eq_true rfl⟩ dX4_carryPart_184 rfl (st' := []) rfl ?_
            obtain ⟨er, es⟩ := rt_of hf146
            exact j_retv X hr hlk (Nat.le_of_ble_eq_true rfl) (Nat.le_of_ble_eq_true rfl) rfl es.symm rfl dX4_carryPart_187
abbrev rm_X4_carry : Room := { frames := 3, cells := 0, slots := 0, locals := 192 }
set_option maxHeartbeats 4000000 in
set_option maxRecDepth 100000 in
theorem c_X4_carry (l : Launch) (D : va_G) (cs : Nat → ClassId) (q : Nat → Nat) (a0 : Nat) (a1 : Nat) (σ σ0 : HS) (r0 : Unit) (hf0 : f_X4_carry a0 a1 σ = some (r0, σ0)) : MT l yX4_carry (Cond.code yX4_carry cX4_carry 3 none :: lw_g) rm_X4_carry D cs q σ σ0 [.ref (q a0), .ref (q a1)] (fun z => z = q) (fun _ => none) 0 0 := by
  unfold f_X4_carry at hf0
  refine MT_of (cc := cX4_carry) (lv0 := [(0, .ref (q a0)), (1, .ref (q a1))]) (by decide) (Nat.le_of_ble_eq_true rfl) rfl (fun p e s m args below meth c A X hr hlk hin => ?_)
  have L2 : ∀ (nk : Nat) (x0 : Nat) (x1 : Nat) (x2 : Int32) (τ : HS), lp_X4_carry_2  nk x0 x1 x2 τ = some (r0, σ0) → J p l e rm_X4_carry s m args below meth c 3 D cs A s.heap 0 0 (MQ below (hQ D cs (fun z => z = q) (fun _ => none) σ0 A) args s 0 0 A) q τ [(0, .ref (q x0)), (1, .ref (q x1)), (2, .int x2)] 2 [] := by
    intro nk
    induction nk with
    | zero => intro x0 x1 x2 τ hf0; have hf1 : (none : Option (Unit × HS)) = some (r0, σ0) := hf0; cases hf1
    | succ nk ih =>
      intro x0 x1 x2 τ hf0
      replace hf0 : lp_X4_carry_2_b  (lp_X4_carry_2  nk) x0 x1 x2 τ = some (r0, σ0) := hf0
      unfold lp_X4_carry_2_b at hf0
      refine j_iload_n X dX4_carry_2 2 rfl rfl ?_
      refine j_aload_n X dX4_carry_3 1 rfl rfl ?_
      obtain ⟨h3, hf4⟩ := chk_of hf0; clear hf0
      refine j_geti X fd_X4_64 h3 dX4_carry_4 (fun v5 ev5 => ?_)
      replace hf4 := lt_of hf4 v5 ev5
      refine j_icmp_ge X (tgt := 22) dX4_carry_7 (by decide) (fun c7 => ?_) (fun c7 => ?_)
      · have hf8 := br_y hf4 c7; clear hf4
        refine j_aload_n X dX4_carry_22 1 rfl rfl ?_
        refine j_geti X fd_X4_64 h3 dX4_carry_23 (fun v10 ev10 => ?_)
        replace hf8 := lt_of hf8 v10 ev10
        refine j_iconst X (v := 1) dX4_carry_26 (by decide) ?_
        refine j_isub X dX4_carry_27 ?_
        refine j_nmi (fun v12 ev12 => ?_)
        replace hf8 := lt_of hf8 v12 ev12
        refine j_istore_n X (lv' := [(2, .int v12), (0, .ref (q x0)), (1, .ref (q x1))]) dX4_carry_28 rfl (by decide) rfl ?_
        refine j_aload_n X dX4_carry_29 1 rfl rfl ?_
        refine j_aload_n X dX4_carry_30 1 rfl rfl ?_
        obtain ⟨h14, hf15⟩ := chk_of hf8; clear hf8
        obtain ⟨i16, h17, hf18⟩ := bd_of hf15; clear hf15
        refine j_getr X fd_X4_37 h14 h17 dX4_carry_31 ?_
        obtain ⟨h19, hf20⟩ := chk_of hf18; clear hf18
        obtain ⟨i21, h22, hf23⟩ := bd_of hf20; clear hf20
        refine j_getr X fd_X4_74 h19 h22 dX4_carry_34 ?_
        refine j_iload_n X dX4_carry_37 0 rfl rfl ?_
        obtain ⟨h24, hf25⟩ := chk_of hf23; clear hf23
        refine j_zald X h24 dX4_carry_38 (fun v26 ev26 => ?_)
        replace hf25 := lt_of hf25 v26 ev26
        obtain ⟨h29, hf30⟩ := chk_of hf25; clear hf25
        refine j_putz X fp_X4_18 h14 h29 dX4_carry_39 (fun σ28 eσ28 => ?_)
        replace hf30 := lt_of hf30 σ28 eσ28
        have h32 : isO σ28 0 x1 := by rw [eσ28]; exact h3
        have h33 : isO σ28 4 x0 := by rw [eσ28]; exact h14
        have h34 : isO σ28 1 i16 := by rw [eσ28]; exact h19
        refine j_aload_n X dX4_carry_42 1 rfl rfl ?_
        refine j_aload_n X dX4_carry_43 1 rfl rfl ?_
        obtain ⟨i35, h36, hf37⟩ := bd_of hf30; clear hf30
        refine j_getr X fd_X4_37 h33 h36 dX4_carry_44 ?_
        obtain ⟨h38, hf39⟩ := chk_of hf37; clear hf37
        obtain ⟨i40, h41, hf42⟩ := bd_of hf39; clear hf39
        refine j_getr X fd_X4_77 h38 h41 dX4_carry_47 ?_
        refine j_iload_n X dX4_carry_50 0 rfl rfl ?_
        obtain ⟨h43, hf44⟩ := chk_of hf42; clear hf42
        refine j_lald X h43 dX4_carry_51 (fun v45 ev45 => ?_)
        replace hf44 := lt_of hf44 v45 ev45
        refine j_putl X fp_X4_22 h33 dX4_carry_52 (fun σ47 eσ47 => ?_)
        replace hf44 := lt_of hf44 σ47 eσ47
        have h49 : isO σ47 0 x1 := by rw [eσ47]; exact h32
        have h50 : isO σ47 4 x0 := by rw [eσ47]; exact h33
        have h51 : isO σ47 1 i16 := by rw [eσ47]; exact h34
        have h52 : isO σ47 1 i35 := by rw [eσ47]; exact h38
        refine j_aload_n X dX4_carry_55 1 rfl rfl ?_
        refine j_aload_n X dX4_carry_56 1 rfl rfl ?_
        obtain ⟨i53, h54, hf55⟩ := bd_of hf44; clear hf44
        refine j_getr X fd_X4_37 h50 h54 dX4_carry_57 ?_
        obtain ⟨h56, hf57⟩ := chk_of hf55; clear hf55
        obtain ⟨i58, h59, hf60⟩ := bd_of hf57; clear hf57
        refine j_getr X fd_X4_79 h56 h59 dX4_carry_60 ?_
        refine j_iload_n X dX4_carry_63 0 rfl rfl ?_
        obtain ⟨h61, hf62⟩ := chk_of hf60; clear hf60
        refine j_lald X h61 dX4_carry_64 (fun v63 ev63 => ?_)
        replace hf62 := lt_of hf62 v63 ev63
        refine j_putl X fp_X4_26 h50 dX4_carry_65 (fun σ65 eσ65 => ?_)
        replace hf62 := lt_of hf62 σ65 eσ65
        have h67 : isO σ65 0 x1 := by rw [eσ65]; exact h49
        have h68 : isO σ65 4 x0 := by rw [eσ65]; exact h50
        have h69 : isO σ65 1 i16 := by rw [eσ65]; exact h51
        have h70 : isO σ65 1 i35 := by rw [eσ65]; exact h52
        have h71 : isO σ65 1 i53 := by rw [eσ65]; exact h56
        obtain ⟨er, es⟩ := rt_of hf62
        exact j_retv X hr hlk (Nat.le_of_ble_eq_true rfl) (Nat.le_of_ble_eq_true rfl) rfl es.symm rfl dX4_carry_68
      · have hf9 := br_n hf4 c7; clear hf4
        refine j_aload_n X dX4_carry_10 0 rfl rfl ?_
        refine j_aload_n X dX4_carry_11 1 rfl rfl ?_
        refine j_iload_n X dX4_carry_12 2 rfl rfl ?_
        obtain ⟨h72, hf73⟩ := chk_of hf9; clear hf9
        obtain ⟨r74, σ75, h76, hf77⟩ := bc_of hf73; clear hf73
        refine j_callV0 X [.ref (q x1), .int x2] [] (c_X4_carryPart l D cs q x0 x1 x2 τ _ _ h76) mk_X4_carryPart mv_X4_carryPart ml_X4_70 h72 rfl (by decide) ⟨rfl, rfl⟩ ⟨Nat.le_of_ble_eq_true rfl, Nat.le_of_ble_eq_true rfl⟩ rfl (Nat.le_of_ble_eq_true rfl) ⟨Nat.le_of_ble_eq_true rfl, Nat.le_of_ble_eq_true rfl⟩ dX4_carry_13 rfl (st' := []) rfl ?_
        obtain ⟨v78, ev78⟩ : ∃ y : Int32, y = x2 + (1 : Int32) := ⟨_, rfl⟩
        replace hf77 := lt_of hf77 v78 ev78
        refine j_iinc X (v := v78) (lv' := [(2, .int v78), (0, .ref (q x0)), (1, .ref (q x1))]) dX4_carry_16 2 rfl (by rw [ev78]; rfl) (by decide) rfl ?_
        refine j_goto X (tgt := 2) dX4_carry_19 (by decide) ?_
        refine j_lvsub [1, 2, 0] (lv' := [(0, .ref (q x0)), (1, .ref (q x1)), (2, .int v78)]) rfl ?_
        exact ih x0 x1 v78 σ75 hf77
  refine j_iconst X (v := 0) dX4_carry_0 (by decide) ?_
  refine j_nmi (fun v1 ev1 => ?_)
  replace hf0 := lt_of hf0 v1 ev1
  refine j_istore_n X (lv' := [(2, .int v1), (0, .ref (q a0)), (1, .ref (q a1))]) dX4_carry_1 rfl (by decide) rfl ?_
  refine j_lvsub [1, 2, 0] (lv' := [(0, .ref (q a0)), (1, .ref (q a1)), (2, .int v1)]) rfl ?_
  exact L2  1000 a0 a1 v1 σ hf0
abbrev rm_X4_changePart : Room := { frames := 2, cells := 0, slots := 0, locals := 128 }
set_option maxHeartbeats 4000000 in
set_option maxRecDepth 100000 in
theorem c_X4_changePart (l : Launch) (D : va_G) (cs : Nat → ClassId) (q : Nat → Nat) (a0 : Nat) (a1 : Nat) (a2 : Int32) (a3 : Int32) (σ σ0 : HS) (r0 : Unit) (hf0 : f_X4_changePart a0 a1 a2 a3 σ = some (r0, σ0)) : MT l yX4_changePart (Cond.code yX4_changePart cX4_changePart 7 none :: lw_g) rm_X4_changePart D cs q σ σ0 [.ref (q a0), .ref (q a1), .int a2, .int a3] (fun z => z = q) (fun _ => none) 0 0 := by
  unfold f_X4_changePart at hf0
  refine MT_of (cc := cX4_changePart) (lv0 := [(0, .ref (q a0)), (1, .ref (q a1)), (2, .int a2), (3, .int a3)]) (by decide) (Nat.le_of_ble_eq_true rfl) rfl (fun p e s m args below meth c A X hr hlk hin => ?_)
  refine j_aload_n X dX4_changePart_0 1 rfl rfl ?_
  obtain ⟨h1, hf2⟩ := chk_of hf0; clear hf0
  obtain ⟨i3, h4, hf5⟩ := bd_of hf2; clear hf2
  refine j_getr X fd_X4_81 h1 h4 dX4_changePart_1 ?_
  refine j_iload_n X dX4_changePart_4 2 rfl rfl ?_
  obtain ⟨h6, hf7⟩ := chk_of hf5; clear hf5
  refine j_iald X h6 dX4_changePart_5 (fun v8 ev8 => ?_)
  replace hf7 := lt_of hf7 v8 ev8
  refine j_istore X (lv' := [(4, .int v8), (0, .ref (q a0)), (1, .ref (q a1)), (2, .int a2), (3, .int a3)]) dX4_changePart_6 (by decide) rfl ?_
  refine j_aload_n X dX4_changePart_8 2 rfl rfl ?_
  obtain ⟨i10, h11, hf12⟩ := bd_of hf7; clear hf7
  refine j_getr X fd_X4_84 h1 h11 dX4_changePart_9 ?_
  refine j_iload_n X dX4_changePart_12 3 rfl rfl ?_
  obtain ⟨h13, hf14⟩ := chk_of hf12; clear hf12
  refine j_iald X h13 dX4_changePart_13 (fun v15 ev15 => ?_)
  replace hf14 := lt_of hf14 v15 ev15
  refine j_istore X (lv' := [(5, .int v15), (4, .int v8), (0, .ref (q a0)), (1, .ref (q a1)), (2, .int a2), (3, .int a3)]) dX4_changePart_14 (by decide) rfl ?_
  refine j_aload_n X dX4_changePart_16 3 rfl rfl ?_
  obtain ⟨i17, h18, hf19⟩ := bd_of hf14; clear hf14
  refine j_getr X fd_X4_90 h1 h18 dX4_changePart_17 ?_
  refine j_iload_n X dX4_changePart_20 4 rfl rfl ?_
  obtain ⟨h20, hf21⟩ := chk_of hf19; clear hf19
  refine j_iald X h20 dX4_changePart_21 (fun v22 ev22 => ?_)
  replace hf21 := lt_of hf21 v22 ev22
  by_cases c24 : v22 = (0 : Int32)
  · have hf25 := br_y hf21 c24; clear hf21
    refine j_tabIn X (v := 0) (tgt := 56) dX4_changePart_22 c24 (by decide) (by decide) rfl (by decide) ?_
    refine j_aload_n X dX4_changePart_56 3 rfl rfl ?_
    obtain ⟨i27, h28, hf29⟩ := bd_of hf25; clear hf25
    refine j_getr X fd_X4_87 h1 h28 dX4_changePart_57 ?_
    refine j_iload_n X dX4_changePart_60 4 rfl rfl ?_
    obtain ⟨h30, hf31⟩ := chk_of hf29; clear hf29
    refine j_iald X h30 dX4_changePart_61 (fun v32 ev32 => ?_)
    replace hf31 := lt_of hf31 v32 ev32
    refine j_iload_n X dX4_changePart_62 5 rfl rfl ?_
    refine j_icmp_ne X (tgt := 70) dX4_changePart_63 (by decide) (fun c34 => ?_) (fun c34 => ?_)
    · have hf35 := br_n hf31 c34; clear hf31
      refine j_iconst X (v := 0) dX4_changePart_70 (by decide) ?_
      refine j_nmi (fun v37 ev37 => ?_)
      replace hf35 := lt_of hf35 v37 ev37
      refine j_istore X (lv' := [(6, .int v37), (5, .int v15), (4, .int v8), (0, .ref (q a0)), (1, .ref (q a1)), (2, .int a2), (3, .int a3)]) dX4_changePart_71 (by decide) rfl ?_
      refine j_aload_n X dX4_changePart_73 3 rfl rfl ?_
      obtain ⟨h39, hf40⟩ := chk_of hf35; clear hf35
      obtain ⟨i41, h42, hf43⟩ := bd_of hf40; clear hf40
      refine j_getr X fd_X4_41 h39 h42 dX4_changePart_74 ?_
      refine j_iload_n X dX4_changePart_77 5 rfl rfl ?_
      refine j_iload X dX4_changePart_78 0 rfl ?_
      refine j_i2l X dX4_changePart_80 ?_
      refine j_iload X dX4_changePart_81 0 rfl ?_
      refine j_i2l X dX4_changePart_83 ?_
      obtain ⟨h44, hf45⟩ := chk_of hf43; clear hf43
      obtain ⟨r46, σ47, h48, hf49⟩ := bc_of hf45; clear hf45
      refine j_callV0 X [.int a2, .long (v37).toInt64, .long (v37).toInt64] [] (c_X1_fromTo l D cs q i41 a2 (v37).toInt64 (v37).toInt64 σ _ _ h48) mk_X1_fromTo mv_X1_fromTo ml_X4_93 h44 rfl (by decide) ⟨rfl, rfl⟩ ⟨Nat.le_of_ble_eq_true rfl, Nat.le_of_ble_eq_true rfl⟩ rfl (Nat.le_of_ble_eq_true rfl) ⟨Nat.le_of_ble_eq_true rfl, Nat.le_of_ble_eq_true rfl⟩ dX4_changePart_84 rfl (st' := []) rfl ?_
      refine j_goto X (tgt := 224) dX4_changePart_87 (by decide) ?_
      obtain ⟨er, es⟩ := rt_of hf49
      exact j_retv X hr hlk (Nat.le_of_ble_eq_true rfl) (Nat.le_of_ble_eq_true rfl) rfl es.symm rfl dX4_changePart_224
    · have hf36 := br_y hf31 c34; clear hf31
      refine j_iconst X (v := 1) dX4_changePart_66 (by decide) ?_
      refine j_goto X (tgt := 71) dX4_changePart_67 (by decide) ?_
      refine j_nmi (fun v50 ev50 => ?_)
      replace hf36 := lt_of hf36 v50 ev50
      refine j_istore X (lv' := [(6, .int v50), (5, .int v15), (4, .int v8), (0, .ref (q a0)), (1, .ref (q a1)), (2, .int a2), (3, .int a3)]) dX4_changePart_71 (by decide) rfl ?_
      refine j_aload_n X dX4_changePart_73 3 rfl rfl ?_
      obtain ⟨h52, hf53⟩ := chk_of hf36; clear hf36
      obtain ⟨i54, h55, hf56⟩ := bd_of hf53; clear hf53
      refine j_getr X fd_X4_41 h52 h55 dX4_changePart_74 ?_
      refine j_iload_n X dX4_changePart_77 5 rfl rfl ?_
      refine j_iload X dX4_changePart_78 0 rfl ?_
      refine j_i2l X dX4_changePart_80 ?_
      refine j_iload X dX4_changePart_81 0 rfl ?_
      refine j_i2l X dX4_changePart_83 ?_
      obtain ⟨h57, hf58⟩ := chk_of hf56; clear hf56
      obtain ⟨r59, σ60, h61, hf62⟩ := bc_of hf58; clear hf58
      refine j_callV0 X [.int a2, .long (v50).toInt64, .long (v50).toInt64] [] (c_X1_fromTo l D cs q i54 a2 (v50).toInt64 (v50).toInt64 σ _ _ h61) mk_X1_fromTo mv_X1_fromTo ml_X4_93 h57 rfl (by decide) ⟨rfl, rfl⟩ ⟨Nat.le_of_ble_eq_true rfl, Nat.le_of_ble_eq_true rfl⟩ rfl (Nat.le_of_ble_eq_true rfl) ⟨Nat.le_of_ble_eq_true rfl, Nat.le_of_ble_eq_true rfl⟩ dX4_changePart_84 rfl (st' := []) rfl ?_
      refine j_goto X (tgt := 224) dX4_changePart_87 (by decide) ?_
      obtain ⟨er, es⟩ := rt_of hf62
      exact j_retv X hr hlk (Nat.le_of_ble_eq_true rfl) (Nat.le_of_ble_eq_true rfl) rfl es.symm rfl dX4_changePart_224
  · have hf26 := br_n hf21 c24; clear hf21
    by_cases c63 : v22 = (1 : Int32)
    · have hf64 := br_y hf26 c63; clear hf26
      refine j_tabIn X (v := 1) (tgt := 90) dX4_changePart_22 c63 (by decide) (by decide) rfl (by decide) ?_
      refine j_aload_n X dX4_changePart_90 2 rfl rfl ?_
      obtain ⟨h66, hf67⟩ := chk_of hf64; clear hf64
      obtain ⟨i68, h69, hf70⟩ := bd_of hf67; clear hf67
      refine j_getr X fd_X4_41 h66 h69 dX4_changePart_91 ?_
      refine j_iload_n X dX4_changePart_94 4 rfl rfl ?_
      refine j_lconst X (v := 0) dX4_changePart_95 (by decide) ?_
      refine j_lconst X (v := 0) dX4_changePart_96 (by decide) ?_
      obtain ⟨h71, hf72⟩ := chk_of hf70; clear hf70
      obtain ⟨r73, σ74, h75, hf76⟩ := bc_of hf72; clear hf72
      refine j_callV0 X [.int a2, .long (0 : Int64), .long (0 : Int64)] [] (c_X1_fromTo l D cs q i68 a2 (0 : Int64) (0 : Int64) σ _ _ h75) mk_X1_fromTo mv_X1_fromTo ml_X4_93 h71 rfl (by decide) ⟨rfl, rfl⟩ ⟨Nat.le_of_ble_eq_true rfl, Nat.le_of_ble_eq_true rfl⟩ rfl (Nat.le_of_ble_eq_true rfl) ⟨Nat.le_of_ble_eq_true rfl, Nat.le_of_ble_eq_true rfl⟩ dX4_changePart_97 rfl (st' := []) rfl ?_
      refine j_goto X (tgt := 224) dX4_changePart_100 (by decide) ?_
      obtain ⟨er, es⟩ := rt_of hf76
      exact j_retv X hr hlk (Nat.le_of_ble_eq_true rfl) (Nat.le_of_ble_eq_true rfl) rfl es.symm rfl dX4_changePart_224
    · have hf65 := br_n hf26 c63; clear hf26
      by_cases c77 : v22 = (2 : Int32)
      · have hf78 := br_y hf65 c77; clear hf65
        refine j_tabIn X (v := 2) (tgt := 103) dX4_changePart_22 c77 (by decide) (by decide) rfl (by decide) ?_
        refine j_aload_n X dX4_changePart_103 2 rfl rfl ?_
        obtain ⟨h80, hf81⟩ := chk_of hf78; clear hf78
        obtain ⟨i82, h83, hf84⟩ := bd_of hf81; clear hf81
        refine j_getr X fd_X4_41 h80 h83 dX4_changePart_104 ?_
        refine j_iload_n X dX4_changePart_107 4 rfl rfl ?_
        refine j_aload_n X dX4_changePart_108 2 rfl rfl ?_
        refine j_getr X fd_X4_41 h80 h83 dX4_changePart_109 ?_
        refine j_iload X dX4_changePart_112 1 rfl ?_
        obtain ⟨h88, hf89⟩ := chk_of hf84; clear hf84
        obtain ⟨r90, σ91, h92, hf93⟩ := bc_of hf89; clear hf89
        refine j_callV0 X [.int a2, .ref (q i82), .int v8] [] (c_X1_less l D cs q i82 a2 i82 v8 σ _ _ h92) mk_X1_less mv_X1_less ml_X4_97 h88 rfl (by decide) ⟨rfl, rfl⟩ ⟨Nat.le_of_ble_eq_true rfl, Nat.le_of_ble_eq_true rfl⟩ rfl (Nat.le_of_ble_eq_true rfl) ⟨Nat.le_of_ble_eq_true rfl, Nat.le_of_ble_eq_true rfl⟩ dX4_changePart_114 rfl (st' := []) rfl ?_
        refine j_goto X (tgt := 224) dX4_changePart_117 (by decide) ?_
        obtain ⟨er, es⟩ := rt_of hf93
        exact j_retv X hr hlk (Nat.le_of_ble_eq_true rfl) (Nat.le_of_ble_eq_true rfl) rfl es.symm rfl dX4_changePart_224
      · have hf79 := br_n hf65 c77; clear hf65
        by_cases c94 : v22 = (3 : Int32)
        · have hf95 := br_y hf79 c94; clear hf79
          refine j_tabIn X (v := 3) (tgt := 120) dX4_changePart_22 c94 (by decide) (by decide) rfl (by decide) ?_
          refine j_aload_n X dX4_changePart_120 2 rfl rfl ?_
          obtain ⟨h97, hf98⟩ := chk_of hf95; clear hf95
          obtain ⟨i99, h100, hf101⟩ := bd_of hf98; clear hf98
          refine j_getr X fd_X4_41 h97 h100 dX4_changePart_121 ?_
          refine j_iload_n X dX4_changePart_124 4 rfl rfl ?_
          refine j_aload_n X dX4_changePart_125 2 rfl rfl ?_
          refine j_getr X fd_X4_41 h97 h100 dX4_changePart_126 ?_
          refine j_iload X dX4_changePart_129 1 rfl ?_
          refine j_aload_n X dX4_changePart_131 2 rfl rfl ?_
          refine j_getr X fd_X4_41 h97 h100 dX4_changePart_132 ?_
          refine j_iload X dX4_changePart_135 0 rfl ?_
          obtain ⟨h108, hf109⟩ := chk_of hf101; clear hf101
          obtain ⟨r110, σ111, h112, hf113⟩ := bc_of hf109; clear hf109
          refine j_callV0 X [.int a2, .ref (q i99), .int v8, .ref (q i99), .int v15] [] (c_X1_sum l D cs q i99 a2 i99 v8 i99 v15 σ _ _ h112) mk_X1_sum mv_X1_sum ml_X4_101 h108 rfl (by decide) ⟨rfl, rfl⟩ ⟨Nat.le_of_ble_eq_true rfl, Nat.le_of_ble_eq_true rfl⟩ rfl (Nat.le_of_ble_eq_true rfl) ⟨Nat.le_of_ble_eq_true rfl, Nat.le_of_ble_eq_true rfl⟩ dX4_changePart_137 rfl (st' := []) rfl ?_
          refine j_goto X (tgt := 224) dX4_changePart_140 (by decide) ?_
          obtain ⟨er, es⟩ := rt_of hf113
          exact j_retv X hr hlk (Nat.le_of_ble_eq_true rfl) (Nat.le_of_ble_eq_true rfl) rfl es.symm rfl dX4_changePart_224
        · have hf96 := br_n hf79 c94; clear hf79
          by_cases c114 : v22 = (4 : Int32)
          · have hf115 := br_y hf96 c114; clear hf96
            refine j_tabIn X (v := 4) (tgt := 143) dX4_changePart_22 c114 (by decide) (by decide) rfl (by decide) ?_
            refine j_aload_n X dX4_changePart_143 2 rfl rfl ?_
            obtain ⟨h117, hf118⟩ := chk_of hf115; clear hf115
            obtain ⟨i119, h120, hf121⟩ := bd_of hf118; clear hf118
            refine j_getr X fd_X4_41 h117 h120 dX4_changePart_144 ?_
            refine j_iload_n X dX4_changePart_147 4 rfl rfl ?_
            refine j_aload_n X dX4_changePart_148 2 rfl rfl ?_
            refine j_getr X fd_X4_41 h117 h120 dX4_changePart_149 ?_
            refine j_iload X dX4_changePart_152 1 rfl ?_
            refine j_aload_n X dX4_changePart_154 2 rfl rfl ?_
            refine j_getr X fd_X4_41 h117 h120 dX4_changePart_155 ?_
            refine j_iload X dX4_changePart_158 0 rfl ?_
            obtain ⟨h128, hf129⟩ := chk_of hf121; clear hf121
            obtain ⟨r130, σ131, h132, hf133⟩ := bc_of hf129; clear hf129
            refine j_callV0 X [.int a2, .ref (q i119), .int v8, .ref (q i119), .int v15] [] (c_X1_difference l D cs q i119 a2 i119 v8 i119 v15 σ _ _ h132) mk_X1_difference mv_X1_difference ml_X4_105 h128 rfl (by decide) ⟨rfl, rfl⟩ ⟨Nat.le_of_ble_eq_true rfl, Nat.le_of_ble_eq_true rfl⟩ rfl (Nat.le_of_ble_eq_true rfl) ⟨Nat.le_of_ble_eq_true rfl, Nat.le_of_ble_eq_true rfl⟩ dX4_changePart_160 rfl (st' := []) rfl ?_
            refine j_goto X (tgt := 224) dX4_changePart_163 (by decide) ?_
            obtain ⟨er, es⟩ := rt_of hf133
            exact j_retv X hr hlk (Nat.le_of_ble_eq_true rfl) (Nat.le_of_ble_eq_true rfl) rfl es.symm rfl dX4_changePart_224
          · have hf116 := br_n hf96 c114; clear hf96
            refine j_tabOut X (tgt := 166) dX4_changePart_22 (by have z0 := lv_neT c24 (show ((0 : Int32)).toInt = 0 from rfl); have z1 := lv_neT c63 (show ((1 : Int32)).toInt = 1 from rfl); have z2 := lv_neT c77 (show ((2 : Int32)).toInt = 2 from rfl); have z3 := lv_neT c94 (show ((3 : Int32)).toInt = 3 from rfl); have z4 := lv_neT c114 (show ((4 : Int32)).toInt = 4 from rfl); omega) (by decide) ?_
            refine j_aload_n X dX4_changePart_166 2 rfl rfl ?_
            obtain ⟨h134, hf135⟩ := chk_of hf116; clear hf116
            obtain ⟨i136, h137, hf138⟩ := bd_of hf135; clear hf135
            refine j_getr X fd_X4_44 h134 h137 dX4_changePart_167 ?_
            refine j_iconst X (v := 0) dX4_changePart_170 (by decide) ?_
            refine j_aload_n X dX4_changePart_171 2 rfl rfl ?_
            obtain ⟨i139, h140, hf141⟩ := bd_of hf138; clear hf138
            refine j_getr X fd_X4_41 h134 h140 dX4_changePart_172 ?_
            refine j_iload X dX4_changePart_175 1 rfl ?_
            refine j_aload_n X dX4_changePart_177 2 rfl rfl ?_
            obtain ⟨i142, h143, hf144⟩ := bd_of hf141; clear hf141
            refine j_getr X fd_X4_37 h134 h143 dX4_changePart_178 ?_
            refine j_iload X dX4_changePart_181 0 rfl ?_
            obtain ⟨h145, hf146⟩ := chk_of hf144; clear hf144
            obtain ⟨r147, σ148, h149, hf150⟩ := bc_of hf146; clear hf146
            refine j_callV0 X [.int (0 : Int32), .ref (q i139), .int v8, .ref (q i142), .int v15] [] (c_X1_product l D cs q i136 (0 : Int32) i139 v8 i142 v15 σ _ _ h149) mk_X1_product mv_X1_product ml_X4_108 h145 rfl (by decide) ⟨rfl, rfl⟩ ⟨Nat.le_of_ble_eq_true rfl, Nat.le_of_ble_eq_true rfl⟩ rfl (Nat.le_of_ble_eq_true rfl) ⟨Nat.le_of_ble_eq_true rfl, Nat.le_of_ble_eq_true rfl⟩ dX4_changePart_183 rfl (st' := []) rfl ?_
            refine j_aload_n X dX4_changePart_186 2 rfl rfl ?_
            obtain ⟨h151, hf152⟩ := chk_of hf150; clear hf150
            obtain ⟨i153, h154, hf155⟩ := bd_of hf152; clear hf152
            refine j_getr X fd_X4_44 h151 h154 dX4_changePart_187 ?_
            refine j_iconst X (v := 1) dX4_changePart_190 (by decide) ?_
            refine j_aload_n X dX4_changePart_191 2 rfl rfl ?_
            obtain ⟨i156, h157, hf158⟩ := bd_of hf155; clear hf155
            refine j_getr X fd_X4_37 h151 h157 dX4_changePart_192 ?_
            refine j_iload X dX4_changePart_195 1 rfl ?_
            refine j_aload_n X dX4_changePart_197 2 rfl rfl ?_
            obtain ⟨i159, h160, hf161⟩ := bd_of hf158; clear hf158
            refine j_getr X fd_X4_41 h151 h160 dX4_changePart_198 ?_
            refine j_iload X dX4_changePart_201 0 rfl ?_
            obtain ⟨h162, hf163⟩ := chk_of hf161; clear hf161
            obtain ⟨r164, σ165, h166, hf167⟩ := bc_of hf163; clear hf163
            refine j_callV0 X [.int (1 : Int32), .ref (q i156), .int v8, .ref (q i159), .int v15] [] (c_X1_product l D cs q i153 (1 : Int32) i156 v8 i159 v15 σ148 _ _ h166) mk_X1_product mv_X1_product ml_X4_108 h162 rfl (by decide) ⟨rfl, rfl⟩ ⟨Nat.le_of_ble_eq_true rfl, Nat.le_of_ble_eq_true rfl⟩ rfl (Nat.le_of_ble_eq_true rfl) ⟨Nat.le_of_ble_eq_true rfl, Nat.le_of_ble_eq_true rfl⟩ dX4_changePart_203 rfl (st' := []) rfl ?_
            refine j_aload_n X dX4_changePart_206 2 rfl rfl ?_
            obtain ⟨h168, hf169⟩ := chk_of hf167; clear hf167
            obtain ⟨i170, h171, hf172⟩ := bd_of hf169; clear hf169
            refine j_getr X fd_X4_41 h168 h171 dX4_changePart_207 ?_
            refine j_iload_n X dX4_changePart_210 4 rfl rfl ?_
            refine j_aload_n X dX4_changePart_211 2 rfl rfl ?_
            obtain ⟨i173, h174, hf175⟩ := bd_of hf172; clear hf172
            refine j_getr X fd_X4_44 h168 h174 dX4_changePart_212 ?_
            refine j_iconst X (v := 0) dX4_changePart_215 (by decide) ?_
            refine j_aload_n X dX4_changePart_216 2 rfl rfl ?_
            refine j_getr X fd_X4_44 h168 h174 dX4_changePart_217 ?_
            refine j_iconst X (v := 1) dX4_changePart_220 (by decide) ?_
            obtain ⟨h179, hf180⟩ := chk_of hf175; clear hf175
            obtain ⟨r181, σ182, h183, hf184⟩ := bc_of hf180; clear hf180
            refine j_callV0 X [.int a2, .ref (q i173), .int (0 : Int32), .ref (q i173), .int (1 : Int32)] [] (c_X1_sum l D cs q i170 a2 i173 (0 : Int32) i173 (1 : Int32) σ165 _ _ h183) mk_X1_sum mv_X1_sum ml_X4_101 h179 rfl (by decide) ⟨rfl, rfl⟩ ⟨Nat.le_of_ble_eq_true rfl, Nat.le_of_ble_eq_true rfl⟩ rfl (Nat.le_of_ble_eq_true rfl) ⟨Nat.le_of_ble_eq_true rfl, Nat.le_of_ble_eq_true rfl⟩ dX4_changePart_221 rfl (st' := []) rfl ?_
            obtain ⟨er, es⟩ := rt_of hf184
            exact j_retv X hr hlk (Nat.le_of_ble_eq_true rfl) (Nat.le_of_ble_eq_true rfl) rfl es.symm rfl dX4_changePart_224
abbrev rm_X4_changeBy : Room := { frames := 3, cells := 0, slots := 0, locals := 192 }
set_option maxHeartbeats 4000000 in
set_option maxRecDepth 100000 in
theorem c_X4_changeBy (l : Launch) (D : va_G) (cs : Nat → ClassId) (q : Nat → Nat) (a0 : Nat) (a1 : Nat) (a2 : Int32) (σ σ0 : HS) (r0 : Int32) (hf0 : f_X4_changeBy a0 a1 a2 σ = some (r0, σ0)) : MT l yX4_changeBy (Cond.code yX4_changeBy cX4_changeBy 4 (some .int) :: lw_g) rm_X4_changeBy D cs q σ σ0 [.ref (q a0), .ref (q a1), .int a2] (fun z => z = q) (fun _ => some (.int r0)) 0 0 := by
  unfold f_X4_changeBy at hf0
  refine MT_of (cc := cX4_changeBy) (lv0 := [(0, .ref (q a0)), (1, .ref (q a1)), (2, .int a2)]) (by decide) (Nat.le_of_ble_eq_true rfl) rfl (fun p e s m args below meth c A X hr hlk hin => ?_)
  have L2 : ∀ (nk : Nat) (x0 : Nat) (x1 : Nat) (x2 : Int32) (x3 : Int32) (τ : HS), lp_X4_changeBy_2  nk x0 x1 x2 x3 τ = some (r0, σ0) → J p l e rm_X4_changeBy s m args below meth c 4 D cs A s.heap 0 0 (MQ below (hQ D cs (fun z => z = q) (fun _ => some (.int r0)) σ0 A) args s 0 0 A) q τ [(0, .ref (q x0)), (1, .ref (q x1)), (2, .int x2), (3, .int x3)] 2 [] := by
    intro nk
    induction nk with
    | zero => intro x0 x1 x2 x3 τ hf0; have hf1 : (none : Option (Int32 × HS)) = some (r0, σ0) := hf0; cases hf1
    | succ nk ih =>
      intro x0 x1 x2 x3 τ hf0
      replace hf0 : lp_X4_changeBy_2_b  (lp_X4_changeBy_2  nk) x0 x1 x2 x3 τ = some (r0, σ0) := hf0
      unfold lp_X4_changeBy_2_b at hf0
      refine j_iload_n X dX4_changeBy_2 3 rfl rfl ?_
      refine j_aload_n X dX4_changeBy_3 1 rfl rfl ?_
      obtain ⟨h3, hf4⟩ := chk_of hf0; clear hf0
      refine j_geti X fd_X4_64 h3 dX4_changeBy_4 (fun v5 ev5 => ?_)
      replace hf4 := lt_of hf4 v5 ev5
      refine j_icmp_ge X (tgt := 23) dX4_changeBy_7 (by decide) (fun c7 => ?_) (fun c7 => ?_)
      · have hf8 := br_y hf4 c7; clear hf4
        refine j_aload_n X dX4_changeBy_23 1 rfl rfl ?_
        refine j_geti X fd_X4_64 h3 dX4_changeBy_24 (fun v10 ev10 => ?_)
        replace hf8 := lt_of hf8 v10 ev10
        refine j_iconst X (v := 1) dX4_changeBy_27 (by decide) ?_
        refine j_isub X dX4_changeBy_28 ?_
        refine j_nmi (fun v12 ev12 => ?_)
        replace hf8 := lt_of hf8 v12 ev12
        refine j_istore_n X (lv' := [(3, .int v12), (0, .ref (q x0)), (1, .ref (q x1)), (2, .int x2)]) dX4_changeBy_29 rfl (by decide) rfl ?_
        refine j_aload_n X dX4_changeBy_30 1 rfl rfl ?_
        obtain ⟨h14, hf15⟩ := chk_of hf8; clear hf8
        obtain ⟨i16, h17, hf18⟩ := bd_of hf15; clear hf15
        refine j_getr X fd_X4_41 h14 h17 dX4_changeBy_31 ?_
        obtain ⟨h19, hf20⟩ := chk_of hf18; clear hf18
        obtain ⟨i21, h22, hf23⟩ := bd_of hf20; clear hf20
        refine j_getr X fd_X4_74 h19 h22 dX4_changeBy_34 ?_
        refine j_iload_n X dX4_changeBy_37 0 rfl rfl ?_
        obtain ⟨h24, hf25⟩ := chk_of hf23; clear hf23
        refine j_zald X h24 dX4_changeBy_38 (fun v26 ev26 => ?_)
        replace hf25 := lt_of hf25 v26 ev26
        refine j_if_eq X (tgt := 44) dX4_changeBy_39 (by decide) (fun c28 => ?_) (fun c28 => ?_)
        · have hf29 := br_y hf25 c28; clear hf25
          refine j_aload_n X dX4_changeBy_44 1 rfl rfl ?_
          refine j_getr X fd_X4_41 h14 h17 dX4_changeBy_45 ?_
          obtain ⟨i34, h35, hf36⟩ := bd_of hf29; clear hf29
          refine j_getr X fd_X4_77 h19 h35 dX4_changeBy_48 ?_
          refine j_iload_n X dX4_changeBy_51 0 rfl rfl ?_
          obtain ⟨h37, hf38⟩ := chk_of hf36; clear hf36
          refine j_lald X h37 dX4_changeBy_52 (fun v39 ev39 => ?_)
          replace hf38 := lt_of hf38 v39 ev39
          refine j_lconst X (v := 0) dX4_changeBy_53 (by decide) ?_
          refine j_lcmp X dX4_changeBy_54 ?_
          refine j_if_ne X (tgt := 74) dX4_changeBy_55 (by decide) (fun c41 => ?_) (fun c41 => ?_)
          · have hf42 := br_n hf38 c41; clear hf38
            refine j_aload_n X dX4_changeBy_74 1 rfl rfl ?_
            refine j_getr X fd_X4_41 h14 h17 dX4_changeBy_75 ?_
            refine j_getr X fd_X4_77 h19 h35 dX4_changeBy_78 ?_
            refine j_iload_n X dX4_changeBy_81 0 rfl rfl ?_
            obtain ⟨h50, hf51⟩ := chk_of hf42; clear hf42
            refine j_lald X h50 dX4_changeBy_82 (fun v52 ev52 => ?_)
            replace hf51 := lt_of hf51 v52 ev52
            refine j_lconst X (v := 0) dX4_changeBy_83 (by decide) ?_
            refine j_lcmp X dX4_changeBy_84 ?_
            refine j_if_lt X (tgt := 90) dX4_changeBy_85 (by decide) (fun c54 => ?_) (fun c54 => ?_)
            · have hf55 := br_y hf51 c54; clear hf51
              refine j_aload_n X dX4_changeBy_90 1 rfl rfl ?_
              refine j_getr X fd_X4_41 h14 h17 dX4_changeBy_91 ?_
              obtain ⟨i60, h61, hf62⟩ := bd_of hf55; clear hf55
              refine j_getr X fd_X4_79 h19 h61 dX4_changeBy_94 ?_
              refine j_iload_n X dX4_changeBy_97 0 rfl rfl ?_
              obtain ⟨h63, hf64⟩ := chk_of hf62; clear hf62
              refine j_lald X h63 dX4_changeBy_98 (fun v65 ev65 => ?_)
              replace hf64 := lt_of hf64 v65 ev65
              refine j_lconst X (v := 0) dX4_changeBy_99 (by decide) ?_
              refine j_lcmp X dX4_changeBy_100 ?_
              refine j_if_gt X (tgt := 108) dX4_changeBy_101 (by decide) (fun c67 => ?_) (fun c67 => ?_)
              · have hf68 := br_y hf64 c67; clear hf64
                refine j_iconst X (v := 3) dX4_changeBy_108 (by decide) ?_
                obtain ⟨er, es⟩ := rt_of hf68
                subst er
                exact j_reti X hr hlk (Nat.le_of_ble_eq_true rfl) (Nat.le_of_ble_eq_true rfl) rfl es.symm rfl dX4_changeBy_109
              · have hf69 := br_n hf64 c67; clear hf64
                refine j_iconst X (v := 2) dX4_changeBy_104 (by decide) ?_
                refine j_goto X (tgt := 109) dX4_changeBy_105 (by decide) ?_
                obtain ⟨er, es⟩ := rt_of hf69
                subst er
                exact j_reti X hr hlk (Nat.le_of_ble_eq_true rfl) (Nat.le_of_ble_eq_true rfl) rfl es.symm rfl dX4_changeBy_109
            · have hf56 := br_n hf51 c54; clear hf51
              refine j_iconst X (v := 1) dX4_changeBy_88 (by decide) ?_
              obtain ⟨er, es⟩ := rt_of hf56
              subst er
              exact j_reti X hr hlk (Nat.le_of_ble_eq_true rfl) (Nat.le_of_ble_eq_true rfl) rfl es.symm rfl dX4_changeBy_89
          · have hf43 := br_y hf38 c41; clear hf38
            refine j_aload_n X dX4_changeBy_58 1 rfl rfl ?_
            refine j_getr X fd_X4_41 h14 h17 dX4_changeBy_59 ?_
            obtain ⟨i73, h74, hf75⟩ := bd_of hf43; clear hf43
            refine j_getr X fd_X4_79 h19 h74 dX4_changeBy_62 ?_
            refine j_iload_n X dX4_changeBy_65 0 rfl rfl ?_
            obtain ⟨h76, hf77⟩ := chk_of hf75; clear hf75
            refine j_lald X h76 dX4_changeBy_66 (fun v78 ev78 => ?_)
            replace hf77 := lt_of hf77 v78 ev78
            refine j_lconst X (v := 0) dX4_changeBy_67 (by decide) ?_
            refine j_lcmp X dX4_changeBy_68 ?_
            refine j_if_ne X (tgt := 74) dX4_changeBy_69 (by decide) (fun c80 => ?_) (fun c80 => ?_)
            · have hf81 := br_n hf77 c80; clear hf77
              refine j_aload_n X dX4_changeBy_74 1 rfl rfl ?_
              refine j_getr X fd_X4_41 h14 h17 dX4_changeBy_75 ?_
              refine j_getr X fd_X4_77 h19 h35 dX4_changeBy_78 ?_
              refine j_iload_n X dX4_changeBy_81 0 rfl rfl ?_
              obtain ⟨h89, hf90⟩ := chk_of hf81; clear hf81
              refine j_lald X h89 dX4_changeBy_82 (fun v91 ev91 => ?_)
              replace hf90 := lt_of hf90 v91 ev91
              refine j_lconst X (v := 0) dX4_changeBy_83 (by decide) ?_
              refine j_lcmp X dX4_changeBy_84 ?_
              refine j_if_lt X (tgt := 90) dX4_changeBy_85 (by decide) (fun c93 => ?_) (fun c93 => ?_)
              · have hf94 := br_y hf90 c93; clear hf90
                refine j_aload_n X dX4_changeBy_90 1 rfl rfl ?_
                refine j_getr X fd_X4_41 h14 h17 dX4_changeBy_91 ?_
                refine j_getr X fd_X4_79 h19 h74 dX4_changeBy_94 ?_
                refine j_iload_n X dX4_changeBy_97 0 rfl rfl ?_
                obtain ⟨h102, hf103⟩ := chk_of hf94; clear hf94
                refine j_lald X h102 dX4_changeBy_98 (fun v104 ev104 => ?_)
                replace hf103 := lt_of hf103 v104 ev104
                refine j_lconst X (v := 0) dX4_changeBy_99 (by decide) ?_
                refine j_lcmp X dX4_changeBy_100 ?_
                refine j_if_gt X (tgt := 108) dX4_changeBy_101 (by decide) (fun c106 => ?_) (fun c106 => ?_)
                · have hf107 := br_y hf103 c106; clear hf103
                  refine j_iconst X (v := 3) dX4_changeBy_108 (by decide) ?_
                  obtain ⟨er, es⟩ := rt_of hf107
                  subst er
                  exact j_reti X hr hlk (Nat.le_of_ble_eq_true rfl) (Nat.le_of_ble_eq_true rfl) rfl es.symm rfl dX4_changeBy_109
                · have hf108 := br_n hf103 c106; clear hf103
                  refine j_iconst X (v := 2) dX4_changeBy_104 (by decide) ?_
                  refine j_goto X (tgt := 109) dX4_changeBy_105 (by decide) ?_
                  obtain ⟨er, es⟩ := rt_of hf108
                  subst er
                  exact j_reti X hr hlk (Nat.le_of_ble_eq_true rfl) (Nat.le_of_ble_eq_true rfl) rfl es.symm rfl dX4_changeBy_109
              · have hf95 := br_n hf90 c93; clear hf90
                refine j_iconst X (v := 1) dX4_changeBy_88 (by decide) ?_
                obtain ⟨er, es⟩ := rt_of hf95
                subst er
                exact j_reti X hr hlk (Nat.le_of_ble_eq_true rfl) (Nat.le_of_ble_eq_true rfl) rfl es.symm rfl dX4_changeBy_89
            · have hf82 := br_y hf77 c80; clear hf77
              refine j_iconst X (v := 0) dX4_changeBy_72 (by decide) ?_
              obtain ⟨er, es⟩ := rt_of hf82
              subst er
              exact j_reti X hr hlk (Nat.le_of_ble_eq_true rfl) (Nat.le_of_ble_eq_true rfl) rfl es.symm rfl dX4_changeBy_73
        · have hf30 := br_n hf25 c28; clear hf25
          refine j_iconst X (v := 3) dX4_changeBy_42 (by decide) ?_
          obtain ⟨er, es⟩ := rt_of hf30
          subst er
          exact j_reti X hr hlk (Nat.le_of_ble_eq_true rfl) (Nat.le_of_ble_eq_true rfl) rfl es.symm rfl dX4_changeBy_43
      · have hf9 := br_n hf4 c7; clear hf4
        refine j_aload_n X dX4_changeBy_10 0 rfl rfl ?_
        refine j_aload_n X dX4_changeBy_11 1 rfl rfl ?_
        refine j_iload_n X dX4_changeBy_12 3 rfl rfl ?_
        refine j_iload_n X dX4_changeBy_13 2 rfl rfl ?_
        obtain ⟨h109, hf110⟩ := chk_of hf9; clear hf9
        obtain ⟨r111, σ112, h113, hf114⟩ := bc_of hf110; clear hf110
        refine j_callV0 X [.ref (q x1), .int x3, .int x2] [] (c_X4_changePart l D cs q x0 x1 x3 x2 τ _ _ h113) mk_X4_changePart mv_X4_changePart ml_X4_125 h109 rfl (by decide) ⟨rfl, rfl⟩ ⟨Nat.le_of_ble_eq_true rfl, Nat.le_of_ble_eq_true rfl⟩ rfl (Nat.le_of_ble_eq_true rfl) ⟨Nat.le_of_ble_eq_true rfl, Nat.le_of_ble_eq_true rfl⟩ dX4_changeBy_14 rfl (st' := []) rfl ?_
        obtain ⟨v115, ev115⟩ : ∃ y : Int32, y = x3 + (1 : Int32) := ⟨_, rfl⟩
        replace hf114 := lt_of hf114 v115 ev115
        refine j_iinc X (v := v115) (lv' := [(3, .int v115), (0, .ref (q x0)), (1, .ref (q x1)), (2, .int x2)]) dX4_changeBy_17 3 rfl (by rw [ev115]; rfl) (by decide) rfl ?_
        refine j_goto X (tgt := 2) dX4_changeBy_20 (by decide) ?_
        refine j_lvsub [1, 2, 3, 0] (lv' := [(0, .ref (q x0)), (1, .ref (q x1)), (2, .int x2), (3, .int v115)]) rfl ?_
        exact ih x0 x1 x2 v115 σ112 hf114
  refine j_iconst X (v := 0) dX4_changeBy_0 (by decide) ?_
  refine j_nmi (fun v1 ev1 => ?_)
  replace hf0 := lt_of hf0 v1 ev1
  refine j_istore_n X (lv' := [(3, .int v1), (0, .ref (q a0)), (1, .ref (q a1)), (2, .int a2)]) dX4_changeBy_1 rfl (by decide) rfl ?_
  refine j_lvsub [1, 2, 3, 0] (lv' := [(0, .ref (q a0)), (1, .ref (q a1)), (2, .int a2), (3, .int v1)]) rfl ?_
  exact L2  1000 a0 a1 a2 v1 σ hf0
abbrev rm_X4_drawBy : Room := { frames := 1, cells := 0, slots := 0, locals := 64 }
set_option maxHeartbeats 4000000 in
set_option maxRecDepth 100000 in
theorem c_X4_drawBy (l : Launch) (D : va_G) (cs : Nat → ClassId) (q : Nat → Nat) (a0 : Nat) (a1 : Int32) (a2 : Nat) (σ σ0 : HS) (r0 : Unit) (hf0 : f_X4_drawBy a0 a1 a2 σ = some (r0, σ0)) : MT l yX4_drawBy (Cond.code yX4_drawBy cX4_drawBy 6 none :: lw_g) rm_X4_drawBy D cs q σ σ0 [.ref (q a0), .int a1, .ref (q a2)] (fun z => z = q) (fun _ => none) 0 0 := by
  unfold f_X4_drawBy at hf0
  refine MT_of (cc := cX4_drawBy) (lv0 := [(0, .ref (q a0)), (1, .int a1), (2, .ref (q a2))]) (by decide) (Nat.le_of_ble_eq_true rfl) rfl (fun p e s m args below meth c A X hr hlk hin => ?_)
  have L5 : ∀ (nk : Nat) (x0 : Nat) (x1 : Int32) (x2 : Nat) (x3 : Int32) (x4 : Int32) (τ : HS), lp_X4_drawBy_5  nk x0 x1 x2 x3 x4 τ = some (r0, σ0) → J p l e rm_X4_drawBy s m args below meth c 6 D cs A s.heap 0 0 (MQ below (hQ D cs (fun z => z = q) (fun _ => none) σ0 A) args s 0 0 A) q τ [(0, .ref (q x0)), (1, .int x1), (2, .ref (q x2)), (3, .int x3), (4, .int x4)] 5 [] := by
    intro nk
    induction nk with
    | zero => intro x0 x1 x2 x3 x4 τ hf0; have hf1 : (none : Option (Unit × HS)) = some (r0, σ0) := hf0; cases hf1
    | succ nk ih =>
      intro x0 x1 x2 x3 x4 τ hf0
      replace hf0 : lp_X4_drawBy_5_b  (lp_X4_drawBy_5  nk) x0 x1 x2 x3 x4 τ = some (r0, σ0) := hf0
      unfold lp_X4_drawBy_5_b at hf0
      refine j_iload X dX4_drawBy_5 4 rfl ?_
      refine j_bipush X (v := 6) dX4_drawBy_7 (by decide) ?_
      refine j_icmp_ge X (tgt := 64) dX4_drawBy_9 (by decide) (fun c3 => ?_) (fun c3 => ?_)
      · have hf4 := br_y hf0 c3; clear hf0
        obtain ⟨er, es⟩ := rt_of hf4
        exact j_retv X hr hlk (Nat.le_of_ble_eq_true rfl) (Nat.le_of_ble_eq_true rfl) rfl es.symm rfl dX4_drawBy_64
      · have hf5 := br_n hf0 c3; clear hf0
        refine j_iload_n X dX4_drawBy_12 3 rfl rfl ?_
        refine j_ldc X k_X4_133 dX4_drawBy_13 ?_
        refine j_imul X dX4_drawBy_15 ?_
        refine j_sipush X (v := 12345) dX4_drawBy_16 (by decide) ?_
        refine j_iadd X dX4_drawBy_19 ?_
        refine j_nmi (fun v6 ev6 => ?_)
        replace hf5 := lt_of hf5 v6 ev6
        refine j_istore_n X (lv' := [(3, .int v6), (0, .ref (q x0)), (1, .int x1), (2, .ref (q x2)), (4, .int x4)]) dX4_drawBy_20 rfl (by decide) rfl ?_
        refine j_iconst X (v := 2) dX4_drawBy_21 (by decide) ?_
        refine j_aload_n X dX4_drawBy_22 3 rfl rfl ?_
        obtain ⟨h8, hf9⟩ := chk_of hf5; clear hf5
        obtain ⟨i10, h11, hf12⟩ := bd_of hf9; clear hf9
        refine j_getr X fd_X4_134 h8 h11 dX4_drawBy_23 ?_
        refine j_iload X dX4_drawBy_26 4 rfl ?_
        obtain ⟨h13, hf14⟩ := chk_of hf12; clear hf12
        refine j_iald X h13 dX4_drawBy_28 (fun v15 ev15 => ?_)
        replace hf14 := lt_of hf14 v15 ev15
        refine j_imul X dX4_drawBy_29 ?_
        refine j_iconst X (v := 1) dX4_drawBy_30 (by decide) ?_
        refine j_iadd X dX4_drawBy_31 ?_
        refine j_nmi (fun v17 ev17 => ?_)
        replace hf14 := lt_of hf14 v17 ev17
        refine j_istore X (lv' := [(5, .int v17), (3, .int v6), (0, .ref (q x0)), (1, .int x1), (2, .ref (q x2)), (4, .int x4)]) dX4_drawBy_32 (by decide) rfl ?_
        refine j_aload_n X dX4_drawBy_34 2 rfl rfl ?_
        obtain ⟨h19, hf20⟩ := chk_of hf14; clear hf14
        obtain ⟨i21, h22, hf23⟩ := bd_of hf20; clear hf20
        refine j_getr X fd_X4_29 h19 h22 dX4_drawBy_35 ?_
        refine j_iload X dX4_drawBy_38 5 rfl ?_
        refine j_aload_n X dX4_drawBy_40 4 rfl rfl ?_
        refine j_iload X dX4_drawBy_41 5 rfl ?_
        obtain ⟨r24, σ25, h26, hf27⟩ := bc_of hf23; clear hf23
        refine j_callV0 X [.int x4] [.int x4, .ref (q i21)] (c_X2_lowOf l D cs q x2 x4 τ _ _ h26) mk_X2_lowOf mv_X2_lowOf ml_X4_51 h8 rfl (by decide) ⟨rfl, rfl⟩ ⟨Nat.le_of_ble_eq_true rfl, Nat.le_of_ble_eq_true rfl⟩ rfl (Nat.le_of_ble_eq_true rfl) ⟨Nat.le_of_ble_eq_true rfl, Nat.le_of_ble_eq_true rfl⟩ dX4_drawBy_43 rfl (st' := [.int r24, .int x4, .ref (q i21)]) rfl ?_
        refine j_iload_n X dX4_drawBy_46 1 rfl rfl ?_
        refine j_ldc X k_X4_139 dX4_drawBy_47 ?_
        refine j_iand X dX4_drawBy_49 ?_
        refine j_ldc X k_X4_140 dX4_drawBy_50 ?_
        refine j_idiv X dX4_drawBy_52 (by decide) ?_
        refine j_iload X dX4_drawBy_53 0 rfl ?_
        obtain ⟨h28, hf29⟩ := chk_of hf27; clear hf27
        refine j_irem X dX4_drawBy_55 h28 ?_
        refine j_iadd X dX4_drawBy_56 ?_
        obtain ⟨h30, hf31⟩ := chk_of hf29; clear hf29
        refine j_iast X h30 dX4_drawBy_57 (fun σ32 eσ32 => ?_)
        replace hf31 := lt_of hf31 σ32 eσ32
        obtain ⟨v34, ev34⟩ : ∃ y : Int32, y = x4 + (1 : Int32) := ⟨_, rfl⟩
        replace hf31 := lt_of hf31 v34 ev34
        refine j_iinc X (v := v34) (lv' := [(4, .int v34), (5, .int v17), (3, .int v6), (0, .ref (q x0)), (1, .int x1), (2, .ref (q x2))]) dX4_drawBy_58 5 rfl (by rw [ev34]; rfl) (by decide) rfl ?_
        refine j_goto X (tgt := 5) dX4_drawBy_61 (by decide) ?_
        refine j_lvsub [3, 4, 5, 2, 0] (lv' := [(0, .ref (q x0)), (1, .int x1), (2, .ref (q x2)), (3, .int v6), (4, .int v34)]) rfl ?_
        exact ih x0 x1 x2 v6 v34 σ32 hf31
  refine j_iload_n X dX4_drawBy_0 1 rfl rfl ?_
  refine j_istore_n X (lv' := [(3, .int a1), (0, .ref (q a0)), (1, .int a1), (2, .ref (q a2))]) dX4_drawBy_1 rfl (by decide) rfl ?_
  refine j_iconst X (v := 0) dX4_drawBy_2 (by decide) ?_
  refine j_nmi (fun v1 ev1 => ?_)
  replace hf0 := lt_of hf0 v1 ev1
  refine j_istore X (lv' := [(4, .int v1), (3, .int a1), (0, .ref (q a0)), (1, .int a1), (2, .ref (q a2))]) dX4_drawBy_3 (by decide) rfl ?_
  refine j_lvsub [2, 3, 4, 1, 0] (lv' := [(0, .ref (q a0)), (1, .int a1), (2, .ref (q a2)), (3, .int a1), (4, .int v1)]) rfl ?_
  exact L5  1000 a0 a1 a2 a1 v1 σ hf0
abbrev rm_X0_isMade : Room := { frames := 0, cells := 0, slots := 0, locals := 0 }
set_option maxHeartbeats 4000000 in
set_option maxRecDepth 100000 in
theorem c_X0_isMade (l : Launch) (D : va_G) (cs : Nat → ClassId) (q : Nat → Nat) (a0 : Int32) (σ σ0 : HS) (r0 : Int32) (hf0 : f_X0_isMade a0 σ = some (r0, σ0)) : MT l yX0_isMade (Cond.code yX0_isMade cX0_isMade 1 (some .boolean) :: lw_g) rm_X0_isMade D cs q σ σ0 [.int a0] (fun z => z = q) (fun _ => some (.int r0)) 0 0 := by
  unfold f_X0_isMade at hf0
  refine MT_of (cc := cX0_isMade) (lv0 := [(0, .int a0)]) (by decide) (Nat.le_of_ble_eq_true rfl) rfl (fun p e s m args below meth c A X hr hlk hin => ?_)
  refine j_iload_n X dX0_isMade_0 0 rfl rfl ?_
  refine j_iconst X (v := 1) dX0_isMade_1 (by decide) ?_
  refine j_icmp_le X (tgt := 9) dX0_isMade_2 (by decide) (fun c1 => ?_) (fun c1 => ?_)
  · have hf2 := br_y hf0 c1; clear hf0
    refine j_iconst X (v := 0) dX0_isMade_9 (by decide) ?_
    obtain ⟨er, es⟩ := rt_of hf2
    subst er
    exact j_retz X hr hlk (Nat.le_of_ble_eq_true rfl) (Nat.le_of_ble_eq_true rfl) rfl es.symm rfl (Or.inl rfl) dX0_isMade_10
  · have hf3 := br_n hf0 c1; clear hf0
    refine j_iconst X (v := 1) dX0_isMade_5 (by decide) ?_
    refine j_goto X (tgt := 10) dX0_isMade_6 (by decide) ?_
    obtain ⟨er, es⟩ := rt_of hf3
    subst er
    exact j_retz X hr hlk (Nat.le_of_ble_eq_true rfl) (Nat.le_of_ble_eq_true rfl) rfl es.symm rfl (Or.inr rfl) dX0_isMade_10
abbrev rm_X4_firstOverOf : Room := { frames := 1, cells := 0, slots := 0, locals := 64 }
set_option maxHeartbeats 4000000 in
set_option maxRecDepth 100000 in
theorem c_X4_firstOverOf (l : Launch) (D : va_G) (cs : Nat → ClassId) (q : Nat → Nat) (a0 : Nat) (a1 : Nat) (a2 : Int32) (σ σ0 : HS) (r0 : Int32) (hf0 : f_X4_firstOverOf a0 a1 a2 σ = some (r0, σ0)) : MT l yX4_firstOverOf (Cond.code yX4_firstOverOf cX4_firstOverOf 3 (some .int) :: lw_g) rm_X4_firstOverOf D cs q σ σ0 [.ref (q a0), .ref (q a1), .int a2] (fun z => z = q) (fun _ => some (.int r0)) 0 0 := by
  unfold f_X4_firstOverOf at hf0
  refine MT_of (cc := cX4_firstOverOf) (lv0 := [(0, .ref (q a0)), (1, .ref (q a1)), (2, .int a2)]) (by decide) (Nat.le_of_ble_eq_true rfl) rfl (fun p e s m args below meth c A X hr hlk hin => ?_)
  refine j_aload_n X dX4_firstOverOf_0 1 rfl rfl ?_
  obtain ⟨h1, hf2⟩ := chk_of hf0; clear hf0
  obtain ⟨i3, h4, hf5⟩ := bd_of hf2; clear hf2
  refine j_getr X fd_X4_90 h1 h4 dX4_firstOverOf_1 ?_
  refine j_iload_n X dX4_firstOverOf_4 2 rfl rfl ?_
  obtain ⟨h6, hf7⟩ := chk_of hf5; clear hf5
  refine j_iald X h6 dX4_firstOverOf_5 (fun v8 ev8 => ?_)
  replace hf7 := lt_of hf7 v8 ev8
  obtain ⟨r10, σ11, h12, hf13⟩ := bc_of hf7; clear hf7
  refine j_callS0 X [.int v8] [] (c_X0_isMade l D cs q v8 σ _ _ h12) mk_X0_isMade ms_X0_isMade ml_X4_121 ⟨rfl, rfl⟩ ⟨Nat.le_of_ble_eq_true rfl, Nat.le_of_ble_eq_true rfl⟩ rfl (Nat.le_of_ble_eq_true rfl) ⟨Nat.le_of_ble_eq_true rfl, Nat.le_of_ble_eq_true rfl⟩ dX4_firstOverOf_6 rfl (st' := [.int r10]) rfl ?_
  refine j_if_ne X (tgt := 14) dX4_firstOverOf_9 (by decide) (fun c14 => ?_) (fun c14 => ?_)
  · have hf15 := br_n hf13 c14; clear hf13
    refine j_aload_n X dX4_firstOverOf_14 0 rfl rfl ?_
    obtain ⟨h17, hf18⟩ := chk_of hf15; clear hf15
    obtain ⟨i19, h20, hf21⟩ := bd_of hf18; clear hf18
    refine j_getr X fd_X4_37 h17 h20 dX4_firstOverOf_15 ?_
    obtain ⟨h22, hf23⟩ := chk_of hf21; clear hf21
    obtain ⟨i24, h25, hf26⟩ := bd_of hf23; clear hf23
    refine j_getr X fd_X4_74 h22 h25 dX4_firstOverOf_18 ?_
    refine j_aload_n X dX4_firstOverOf_21 1 rfl rfl ?_
    obtain ⟨h27, hf28⟩ := chk_of hf26; clear hf26
    obtain ⟨i29, h30, hf31⟩ := bd_of hf28; clear hf28
    refine j_getr X fd_X4_81 h27 h30 dX4_firstOverOf_22 ?_
    refine j_iload_n X dX4_firstOverOf_25 2 rfl rfl ?_
    obtain ⟨h32, hf33⟩ := chk_of hf31; clear hf31
    refine j_iald X h32 dX4_firstOverOf_26 (fun v34 ev34 => ?_)
    replace hf33 := lt_of hf33 v34 ev34
    obtain ⟨h36, hf37⟩ := chk_of hf33; clear hf33
    refine j_zald X h36 dX4_firstOverOf_27 (fun v38 ev38 => ?_)
    replace hf37 := lt_of hf37 v38 ev38
    refine j_if_eq X (tgt := 38) dX4_firstOverOf_28 (by decide) (fun c40 => ?_) (fun c40 => ?_)
    · have hf41 := br_y hf37 c40; clear hf37
      refine j_aload_n X dX4_firstOverOf_38 0 rfl rfl ?_
      refine j_getr X fd_X4_37 h17 h20 dX4_firstOverOf_39 ?_
      refine j_getr X fd_X4_74 h22 h25 dX4_firstOverOf_42 ?_
      refine j_aload_n X dX4_firstOverOf_45 1 rfl rfl ?_
      obtain ⟨i49, h50, hf51⟩ := bd_of hf41; clear hf41
      refine j_getr X fd_X4_84 h27 h50 dX4_firstOverOf_46 ?_
      refine j_iload_n X dX4_firstOverOf_49 2 rfl rfl ?_
      obtain ⟨h52, hf53⟩ := chk_of hf51; clear hf51
      refine j_iald X h52 dX4_firstOverOf_50 (fun v54 ev54 => ?_)
      replace hf53 := lt_of hf53 v54 ev54
      obtain ⟨h56, hf57⟩ := chk_of hf53; clear hf53
      refine j_zald X h56 dX4_firstOverOf_51 (fun v58 ev58 => ?_)
      replace hf57 := lt_of hf57 v58 ev58
      refine j_if_eq X (tgt := 64) dX4_firstOverOf_52 (by decide) (fun c60 => ?_) (fun c60 => ?_)
      · have hf61 := br_y hf57 c60; clear hf57
        refine j_iconst X (v := -1) dX4_firstOverOf_64 (by decide) ?_
        obtain ⟨er, es⟩ := rt_of hf61
        subst er
        exact j_reti X hr hlk (Nat.le_of_ble_eq_true rfl) (Nat.le_of_ble_eq_true rfl) rfl es.symm rfl dX4_firstOverOf_65
      · have hf62 := br_n hf57 c60; clear hf57
        refine j_aload_n X dX4_firstOverOf_55 1 rfl rfl ?_
        refine j_getr X fd_X4_84 h27 h50 dX4_firstOverOf_56 ?_
        refine j_iload_n X dX4_firstOverOf_59 2 rfl rfl ?_
        obtain ⟨h66, hf67⟩ := chk_of hf62; clear hf62
        refine j_iald X h66 dX4_firstOverOf_60 (fun v68 ev68 => ?_)
        replace hf67 := lt_of hf67 v68 ev68
        refine j_goto X (tgt := 65) dX4_firstOverOf_61 (by decide) ?_
        obtain ⟨er, es⟩ := rt_of hf67
        subst er
        exact j_reti X hr hlk (Nat.le_of_ble_eq_true rfl) (Nat.le_of_ble_eq_true rfl) rfl es.symm rfl dX4_firstOverOf_65
    · have hf42 := br_n hf37 c40; clear hf37
      refine j_aload_n X dX4_firstOverOf_31 1 rfl rfl ?_
      refine j_getr X fd_X4_81 h27 h30 dX4_firstOverOf_32 ?_
      refine j_iload_n X dX4_firstOverOf_35 2 rfl rfl ?_
      obtain ⟨h73, hf74⟩ := chk_of hf42; clear hf42
      refine j_iald X h73 dX4_firstOverOf_36 (fun v75 ev75 => ?_)
      replace hf74 := lt_of hf74 v75 ev75
      obtain ⟨er, es⟩ := rt_of hf74
      subst er
      exact j_reti X hr hlk (Nat.le_of_ble_eq_true rfl) (Nat.le_of_ble_eq_true rfl) rfl es.symm rfl dX4_firstOverOf_37
  · have hf16 := br_y hf13 c14; clear hf13
    refine j_iconst X (v := -1) dX4_firstOverOf_12 (by decide) ?_
    obtain ⟨er, es⟩ := rt_of hf16
    subst er
    exact j_reti X hr hlk (Nat.le_of_ble_eq_true rfl) (Nat.le_of_ble_eq_true rfl) rfl es.symm rfl dX4_firstOverOf_13
abbrev rm_X4_hasWidth : Room := { frames := 1, cells := 0, slots := 0, locals := 64 }
set_option maxHeartbeats 4000000 in
set_option maxRecDepth 100000 in
theorem c_X4_hasWidth (l : Launch) (D : va_G) (cs : Nat → ClassId) (q : Nat → Nat) (a0 : Nat) (σ σ0 : HS) (r0 : Int32) (hf0 : f_X4_hasWidth a0 σ = some (r0, σ0)) : MT l yX4_hasWidth (Cond.code yX4_hasWidth cX4_hasWidth 1 (some .boolean) :: lw_g) rm_X4_hasWidth D cs q σ σ0 [.ref (q a0)] (fun z => z = q) (fun _ => some (.int r0)) 0 0 := by
  unfold f_X4_hasWidth at hf0
  refine MT_of (cc := cX4_hasWidth) (lv0 := [(0, .ref (q a0))]) (by decide) (Nat.le_of_ble_eq_true rfl) rfl (fun p e s m args below meth c A X hr hlk hin => ?_)
  refine j_aload_n X dX4_hasWidth_0 0 rfl rfl ?_
  obtain ⟨h1, hf2⟩ := chk_of hf0; clear hf0
  refine j_geti X fd_X4_18 h1 dX4_hasWidth_1 (fun v3 ev3 => ?_)
  replace hf2 := lt_of hf2 v3 ev3
  refine j_if_ne X (tgt := 25) dX4_hasWidth_4 (by decide) (fun c5 => ?_) (fun c5 => ?_)
  · have hf6 := br_n hf2 c5; clear hf2
    refine j_iconst X (v := 0) dX4_hasWidth_25 (by decide) ?_
    obtain ⟨er, es⟩ := rt_of hf6
    subst er
    exact j_retz X hr hlk (Nat.le_of_ble_eq_true rfl) (Nat.le_of_ble_eq_true rfl) rfl es.symm rfl (Or.inl rfl) dX4_hasWidth_26
  · have hf7 := br_y hf2 c5; clear hf2
    refine j_aload_n X dX4_hasWidth_7 0 rfl rfl ?_
    refine j_getl X fd_X4_26 h1 dX4_hasWidth_8 (fun v8 ev8 => ?_)
    replace hf7 := lt_of hf7 v8 ev8
    refine j_aload_n X dX4_hasWidth_11 0 rfl rfl ?_
    refine j_getl X fd_X4_22 h1 dX4_hasWidth_12 (fun v10 ev10 => ?_)
    replace hf7 := lt_of hf7 v10 ev10
    obtain ⟨r12, σ13, h14, hf15⟩ := bc_of hf7; clear hf7
    refine j_callS0 X [.long v8, .long v10] [] (c_X1_differenceFits l D cs q v8 v10 σ _ _ h14) mk_X1_differenceFits ms_X1_differenceFits ml_X4_111 ⟨rfl, rfl⟩ ⟨Nat.le_of_ble_eq_true rfl, Nat.le_of_ble_eq_true rfl⟩ rfl (Nat.le_of_ble_eq_true rfl) ⟨Nat.le_of_ble_eq_true rfl, Nat.le_of_ble_eq_true rfl⟩ dX4_hasWidth_15 rfl (st' := [.int r12]) rfl ?_
    refine j_if_eq X (tgt := 25) dX4_hasWidth_18 (by decide) (fun c16 => ?_) (fun c16 => ?_)
    · have hf17 := br_y hf15 c16; clear hf15
      refine j_iconst X (v := 0) dX4_hasWidth_25 (by decide) ?_
      obtain ⟨er, es⟩ := rt_of hf17
      subst er
      exact j_retz X hr hlk (Nat.le_of_ble_eq_true rfl) (Nat.le_of_ble_eq_true rfl) rfl es.symm rfl (Or.inl rfl) dX4_hasWidth_26
    · have hf18 := br_n hf15 c16; clear hf15
      refine j_iconst X (v := 1) dX4_hasWidth_21 (by decide) ?_
      refine j_goto X (tgt := 26) dX4_hasWidth_22 (by decide) ?_
      obtain ⟨er, es⟩ := rt_of hf18
      subst er
      exact j_retz X hr hlk (Nat.le_of_ble_eq_true rfl) (Nat.le_of_ble_eq_true rfl) rfl es.symm rfl (Or.inr rfl) dX4_hasWidth_26
abbrev rm_X4_stand : Room := { frames := 0, cells := 0, slots := 0, locals := 0 }
set_option maxHeartbeats 4000000 in
set_option maxRecDepth 100000 in
theorem c_X4_stand (l : Launch) (D : va_G) (cs : Nat → ClassId) (q : Nat → Nat) (a0 : Nat) (a1 : Int32) (a2 : Int32) (a3 : Int32) (σ σ0 : HS) (r0 : Unit) (hf0 : f_X4_stand a0 a1 a2 a3 σ = some (r0, σ0)) : MT l yX4_stand (Cond.code yX4_stand cX4_stand 4 none :: lw_g) rm_X4_stand D cs q σ σ0 [.ref (q a0), .int a1, .int a2, .int a3] (fun z => z = q) (fun _ => none) 0 0 := by
  unfold f_X4_stand at hf0
  refine MT_of (cc := cX4_stand) (lv0 := [(0, .ref (q a0)), (1, .int a1), (2, .int a2), (3, .int a3)]) (by decide) (Nat.le_of_ble_eq_true rfl) rfl (fun p e s m args below meth c A X hr hlk hin => ?_)
  refine j_aload_n X dX4_stand_0 0 rfl rfl ?_
  obtain ⟨h1, hf2⟩ := chk_of hf0; clear hf0
  obtain ⟨i3, h4, hf5⟩ := bd_of hf2; clear hf2
  refine j_getr X fd_X4_9 h1 h4 dX4_stand_1 ?_
  refine j_iload_n X dX4_stand_4 1 rfl rfl ?_
  refine j_iload_n X dX4_stand_5 2 rfl rfl ?_
  obtain ⟨h6, hf7⟩ := chk_of hf5; clear hf5
  refine j_iast X h6 dX4_stand_6 (fun σ8 eσ8 => ?_)
  replace hf7 := lt_of hf7 σ8 eσ8
  have h10 : isO σ8 4 a0 := by rw [eσ8]; exact h1
  refine j_aload_n X dX4_stand_7 0 rfl rfl ?_
  obtain ⟨i11, h12, hf13⟩ := bd_of hf7; clear hf7
  refine j_getr X fd_X4_15 h10 h12 dX4_stand_8 ?_
  refine j_iload_n X dX4_stand_11 1 rfl rfl ?_
  refine j_iload_n X dX4_stand_12 3 rfl rfl ?_
  obtain ⟨h14, hf15⟩ := chk_of hf13; clear hf13
  refine j_iast X h14 dX4_stand_13 (fun σ16 eσ16 => ?_)
  replace hf15 := lt_of hf15 σ16 eσ16
  have h18 : isO σ16 4 a0 := by rw [eσ16]; exact h10
  obtain ⟨er, es⟩ := rt_of hf15
  exact j_retv X hr hlk (Nat.le_of_ble_eq_true rfl) (Nat.le_of_ble_eq_true rfl) rfl es.symm rfl dX4_stand_14
abbrev rm_X4_standAs : Room := { frames := 1, cells := 0, slots := 0, locals := 64 }
set_option maxHeartbeats 4000000 in
set_option maxRecDepth 100000 in
theorem c_X4_standAs (l : Launch) (D : va_G) (cs : Nat → ClassId) (q : Nat → Nat) (a0 : Nat) (a1 : Nat) (σ σ0 : HS) (r0 : Unit) (hf0 : f_X4_standAs a0 a1 σ = some (r0, σ0)) : MT l yX4_standAs (Cond.code yX4_standAs cX4_standAs 3 none :: lw_g) rm_X4_standAs D cs q σ σ0 [.ref (q a0), .ref (q a1)] (fun z => z = q) (fun _ => none) 0 0 := by
  unfold f_X4_standAs at hf0
  refine MT_of (cc := cX4_standAs) (lv0 := [(0, .ref (q a0)), (1, .ref (q a1))]) (by decide) (Nat.le_of_ble_eq_true rfl) rfl (fun p e s m args below meth c A X hr hlk hin => ?_)
  have L2 : ∀ (nk : Nat) (x0 : Nat) (x1 : Nat) (x2 : Int32) (τ : HS), lp_X4_standAs_2  nk x0 x1 x2 τ = some (r0, σ0) → J p l e rm_X4_standAs s m args below meth c 3 D cs A s.heap 0 0 (MQ below (hQ D cs (fun z => z = q) (fun _ => none) σ0 A) args s 0 0 A) q τ [(0, .ref (q x0)), (1, .ref (q x1)), (2, .int x2)] 2 [] := by
    intro nk
    induction nk with
    | zero => intro x0 x1 x2 τ hf0; have hf1 : (none : Option (Unit × HS)) = some (r0, σ0) := hf0; cases hf1
    | succ nk ih =>
      intro x0 x1 x2 τ hf0
      replace hf0 : lp_X4_standAs_2_b  (lp_X4_standAs_2  nk) x0 x1 x2 τ = some (r0, σ0) := hf0
      unfold lp_X4_standAs_2_b at hf0
      refine j_iload_n X dX4_standAs_2 2 rfl rfl ?_
      refine j_bipush X (v := 6) dX4_standAs_3 (by decide) ?_
      refine j_icmp_ge X (tgt := 29) dX4_standAs_5 (by decide) (fun c3 => ?_) (fun c3 => ?_)
      · have hf4 := br_y hf0 c3; clear hf0
        obtain ⟨er, es⟩ := rt_of hf4
        exact j_retv X hr hlk (Nat.le_of_ble_eq_true rfl) (Nat.le_of_ble_eq_true rfl) rfl es.symm rfl dX4_standAs_29
      · have hf5 := br_n hf0 c3; clear hf0
        refine j_aload_n X dX4_standAs_8 0 rfl rfl ?_
        refine j_iload_n X dX4_standAs_9 2 rfl rfl ?_
        refine j_aload_n X dX4_standAs_10 1 rfl rfl ?_
        refine j_iload_n X dX4_standAs_11 2 rfl rfl ?_
        obtain ⟨h6, hf7⟩ := chk_of hf5; clear hf5
        obtain ⟨r8, σ9, h10, hf11⟩ := bc_of hf7; clear hf7
        refine j_callV0 X [.int x2] [.int x2, .ref (q x0)] (c_X2_lowOf l D cs q x1 x2 τ _ _ h10) mk_X2_lowOf mv_X2_lowOf ml_X4_51 h6 rfl (by decide) ⟨rfl, rfl⟩ ⟨Nat.le_of_ble_eq_true rfl, Nat.le_of_ble_eq_true rfl⟩ rfl (Nat.le_of_ble_eq_true rfl) ⟨Nat.le_of_ble_eq_true rfl, Nat.le_of_ble_eq_true rfl⟩ dX4_standAs_12 rfl (st' := [.int r8, .int x2, .ref (q x0)]) rfl ?_
        refine j_aload_n X dX4_standAs_15 1 rfl rfl ?_
        refine j_iload_n X dX4_standAs_16 2 rfl rfl ?_
        obtain ⟨h12, hf13⟩ := chk_of hf11; clear hf11
        obtain ⟨r14, σ15, h16, hf17⟩ := bc_of hf13; clear hf13
        refine j_callV0 X [.int x2] [.int r8, .int x2, .ref (q x0)] (c_X2_highOf l D cs q x1 x2 σ9 _ _ h16) mk_X2_highOf mv_X2_highOf ml_X4_57 h12 rfl (by decide) ⟨rfl, rfl⟩ ⟨Nat.le_of_ble_eq_true rfl, Nat.le_of_ble_eq_true rfl⟩ rfl (Nat.le_of_ble_eq_true rfl) ⟨Nat.le_of_ble_eq_true rfl, Nat.le_of_ble_eq_true rfl⟩ dX4_standAs_17 rfl (st' := [.int r14, .int r8, .int x2, .ref (q x0)]) rfl ?_
        obtain ⟨h18, hf19⟩ := chk_of hf17; clear hf17
        obtain ⟨r20, σ21, h22, hf23⟩ := bc_of hf19; clear hf19
        refine j_callV0 X [.int x2, .int r8, .int r14] [] (c_X4_stand l D cs q x0 x2 r8 r14 σ15 _ _ h22) mk_X4_stand mv_X4_stand ml_X4_60 h18 rfl (by decide) ⟨rfl, rfl⟩ ⟨Nat.le_of_ble_eq_true rfl, Nat.le_of_ble_eq_true rfl⟩ rfl (Nat.le_of_ble_eq_true rfl) ⟨Nat.le_of_ble_eq_true rfl, Nat.le_of_ble_eq_true rfl⟩ dX4_standAs_20 rfl (st' := []) rfl ?_
        obtain ⟨v24, ev24⟩ : ∃ y : Int32, y = x2 + (1 : Int32) := ⟨_, rfl⟩
        replace hf23 := lt_of hf23 v24 ev24
        refine j_iinc X (v := v24) (lv' := [(2, .int v24), (0, .ref (q x0)), (1, .ref (q x1))]) dX4_standAs_23 2 rfl (by rw [ev24]; rfl) (by decide) rfl ?_
        refine j_goto X (tgt := 2) dX4_standAs_26 (by decide) ?_
        refine j_lvsub [1, 2, 0] (lv' := [(0, .ref (q x0)), (1, .ref (q x1)), (2, .int v24)]) rfl ?_
        exact ih x0 x1 v24 σ21 hf23
  refine j_iconst X (v := 0) dX4_standAs_0 (by decide) ?_
  refine j_nmi (fun v1 ev1 => ?_)
  replace hf0 := lt_of hf0 v1 ev1
  refine j_istore_n X (lv' := [(2, .int v1), (0, .ref (q a0)), (1, .ref (q a1))]) dX4_standAs_1 rfl (by decide) rfl ?_
  refine j_lvsub [1, 2, 0] (lv' := [(0, .ref (q a0)), (1, .ref (q a1)), (2, .int v1)]) rfl ?_
  exact L2  1000 a0 a1 v1 σ hf0
abbrev rm_X4_told : Room := { frames := 2, cells := 0, slots := 0, locals := 128 }
set_option maxHeartbeats 4000000 in
set_option maxRecDepth 100000 in
theorem c_X4_told (l : Launch) (D : va_G) (cs : Nat → ClassId) (q : Nat → Nat) (a0 : Nat) (a1 : Int32) (σ σ0 : HS) (r0 : Int64) (hf0 : f_X4_told a0 a1 σ = some (r0, σ0)) : MT l yX4_told (Cond.code yX4_told cX4_told 2 (some .long) :: lw_g) rm_X4_told D cs q σ σ0 [.ref (q a0), .int a1] (fun z => z = q) (fun _ => some (.long r0)) 0 0 := by
  unfold f_X4_told at hf0
  refine MT_of (cc := cX4_told) (lv0 := [(0, .ref (q a0)), (1, .int a1)]) (by decide) (Nat.le_of_ble_eq_true rfl) rfl (fun p e s m args below meth c A X hr hlk hin => ?_)
  refine j_aload_n X dX4_told_0 0 rfl rfl ?_
  obtain ⟨h1, hf2⟩ := chk_of hf0; clear hf0
  refine j_geti X fd_X4_18 h1 dX4_told_1 (fun v3 ev3 => ?_)
  replace hf2 := lt_of hf2 v3 ev3
  refine j_if_ne X (tgt := 19) dX4_told_4 (by decide) (fun c5 => ?_) (fun c5 => ?_)
  · have hf6 := br_n hf2 c5; clear hf2
    refine j_ldc2 X k_X4_119 dX4_told_19 ?_
    obtain ⟨er, es⟩ := rt_of hf6
    subst er
    exact j_retl X hr hlk (Nat.le_of_ble_eq_true rfl) (Nat.le_of_ble_eq_true rfl) rfl es.symm rfl dX4_told_22
  · have hf7 := br_y hf2 c5; clear hf2
    refine j_iload_n X dX4_told_7 1 rfl rfl ?_
    refine j_iconst X (v := 2) dX4_told_8 (by decide) ?_
    refine j_icmp_ne X (tgt := 23) dX4_told_9 (by decide) (fun c8 => ?_) (fun c8 => ?_)
    · have hf9 := br_n hf7 c8; clear hf7
      refine j_iload_n X dX4_told_23 1 rfl rfl ?_
      refine j_if_ne X (tgt := 34) dX4_told_24 (by decide) (fun c11 => ?_) (fun c11 => ?_)
      · have hf12 := br_n hf9 c11; clear hf9
        refine j_iload_n X dX4_told_34 1 rfl rfl ?_
        refine j_iconst X (v := 1) dX4_told_35 (by decide) ?_
        refine j_icmp_ne X (tgt := 46) dX4_told_36 (by decide) (fun c14 => ?_) (fun c14 => ?_)
        · have hf15 := br_n hf12 c14; clear hf12
          refine j_aload_n X dX4_told_46 0 rfl rfl ?_
          refine j_getl X fd_X4_26 h1 dX4_told_47 (fun v17 ev17 => ?_)
          replace hf15 := lt_of hf15 v17 ev17
          refine j_aload_n X dX4_told_50 0 rfl rfl ?_
          refine j_getl X fd_X4_22 h1 dX4_told_51 (fun v19 ev19 => ?_)
          replace hf15 := lt_of hf15 v19 ev19
          refine j_lsub X dX4_told_54 ?_
          obtain ⟨er, es⟩ := rt_of hf15
          subst er
          exact j_retl X hr hlk (Nat.le_of_ble_eq_true rfl) (Nat.le_of_ble_eq_true rfl) rfl es.symm rfl dX4_told_55
        · have hf16 := br_y hf12 c14; clear hf12
          refine j_aload_n X dX4_told_39 0 rfl rfl ?_
          refine j_getl X fd_X4_26 h1 dX4_told_40 (fun v21 ev21 => ?_)
          replace hf16 := lt_of hf16 v21 ev21
          refine j_goto X (tgt := 55) dX4_told_43 (by decide) ?_
          obtain ⟨er, es⟩ := rt_of hf16
          subst er
          exact j_retl X hr hlk (Nat.le_of_ble_eq_true rfl) (Nat.le_of_ble_eq_true rfl) rfl es.symm rfl dX4_told_55
      · have hf13 := br_y hf9 c11; clear hf9
        refine j_aload_n X dX4_told_27 0 rfl rfl ?_
        refine j_getl X fd_X4_22 h1 dX4_told_28 (fun v23 ev23 => ?_)
        replace hf13 := lt_of hf13 v23 ev23
        refine j_goto X (tgt := 55) dX4_told_31 (by decide) ?_
        obtain ⟨er, es⟩ := rt_of hf13
        subst er
        exact j_retl X hr hlk (Nat.le_of_ble_eq_true rfl) (Nat.le_of_ble_eq_true rfl) rfl es.symm rfl dX4_told_55
    · have hf10 := br_y hf7 c8; clear hf7
      refine j_aload_n X dX4_told_12 0 rfl rfl ?_
      obtain ⟨r25, σ26, h27, hf28⟩ := bc_of hf10; clear hf10
      refine j_callV0 X [] [] (c_X4_hasWidth l D cs q a0 σ _ _ h27) mk_X4_hasWidth mv_X4_hasWidth ml_X4_115 h1 rfl (by decide) ⟨rfl, rfl⟩ ⟨Nat.le_of_ble_eq_true rfl, Nat.le_of_ble_eq_true rfl⟩ rfl (Nat.le_of_ble_eq_true rfl) ⟨Nat.le_of_ble_eq_true rfl, Nat.le_of_ble_eq_true rfl⟩ dX4_told_13 rfl (st' := [.int r25]) rfl ?_
      refine j_if_ne X (tgt := 23) dX4_told_16 (by decide) (fun c29 => ?_) (fun c29 => ?_)
      · have hf30 := br_n hf28 c29; clear hf28
        refine j_iload_n X dX4_told_23 1 rfl rfl ?_
        refine j_if_ne X (tgt := 34) dX4_told_24 (by decide) (fun c32 => ?_) (fun c32 => ?_)
        · have hf33 := br_n hf30 c32; clear hf30
          refine j_iload_n X dX4_told_34 1 rfl rfl ?_
          refine j_iconst X (v := 1) dX4_told_35 (by decide) ?_
          refine j_icmp_ne X (tgt := 46) dX4_told_36 (by decide) (fun c35 => ?_) (fun c35 => ?_)
          · have hf36 := br_n hf33 c35; clear hf33
            refine j_aload_n X dX4_told_46 0 rfl rfl ?_
            obtain ⟨h38, hf39⟩ := chk_of hf36; clear hf36
            refine j_getl X fd_X4_26 h38 dX4_told_47 (fun v40 ev40 => ?_)
            replace hf39 := lt_of hf39 v40 ev40
            refine j_aload_n X dX4_told_50 0 rfl rfl ?_
            refine j_getl X fd_X4_22 h38 dX4_told_51 (fun v42 ev42 => ?_)
            replace hf39 := lt_of hf39 v42 ev42
            refine j_lsub X dX4_told_54 ?_
            obtain ⟨er, es⟩ := rt_of hf39
            subst er
            exact j_retl X hr hlk (Nat.le_of_ble_eq_true rfl) (Nat.le_of_ble_eq_true rfl) rfl es.symm rfl dX4_told_55
          · have hf37 := br_y hf33 c35; clear hf33
            refine j_aload_n X dX4_told_39 0 rfl rfl ?_
            obtain ⟨h44, hf45⟩ := chk_of hf37; clear hf37
            refine j_getl X fd_X4_26 h44 dX4_told_40 (fun v46 ev46 => ?_)
            replace hf45 := lt_of hf45 v46 ev46
            refine j_goto X (tgt := 55) dX4_told_43 (by decide) ?_
            obtain ⟨er, es⟩ := rt_of hf45
            subst er
            exact j_retl X hr hlk (Nat.le_of_ble_eq_true rfl) (Nat.le_of_ble_eq_true rfl) rfl es.symm rfl dX4_told_55
        · have hf34 := br_y hf30 c32; clear hf30
          refine j_aload_n X dX4_told_27 0 rfl rfl ?_
          obtain ⟨h48, hf49⟩ := chk_of hf34; clear hf34
          refine j_getl X fd_X4_22 h48 dX4_told_28 (fun v50 ev50 => ?_)
          replace hf49 := lt_of hf49 v50 ev50
          refine j_goto X (tgt := 55) dX4_told_31 (by decide) ?_
          obtain ⟨er, es⟩ := rt_of hf49
          subst er
          exact j_retl X hr hlk (Nat.le_of_ble_eq_true rfl) (Nat.le_of_ble_eq_true rfl) rfl es.symm rfl dX4_told_55
      · have hf31 := br_y hf28 c29; clear hf28
        refine j_ldc2 X k_X4_119 dX4_told_19 ?_
        obtain ⟨er, es⟩ := rt_of hf31
        subst er
        exact j_retl X hr hlk (Nat.le_of_ble_eq_true rfl) (Nat.le_of_ble_eq_true rfl) rfl es.symm rfl dX4_told_22
abbrev rm_X4_worthOfPart : Room := { frames := 0, cells := 0, slots := 0, locals := 0 }
set_option maxHeartbeats 4000000 in
set_option maxRecDepth 100000 in
theorem c_X4_worthOfPart (l : Launch) (D : va_G) (cs : Nat → ClassId) (q : Nat → Nat) (a0 : Nat) (a1 : Nat) (a2 : Int32) (σ σ0 : HS) (r0 : Int64) (hf0 : f_X4_worthOfPart a0 a1 a2 σ = some (r0, σ0)) : MT l yX4_worthOfPart (Cond.code yX4_worthOfPart cX4_worthOfPart 5 (some .long) :: lw_g) rm_X4_worthOfPart D cs q σ σ0 [.ref (q a0), .ref (q a1), .int a2] (fun z => z = q) (fun _ => some (.long r0)) 0 0 := by
  unfold f_X4_worthOfPart at hf0
  refine MT_of (cc := cX4_worthOfPart) (lv0 := [(0, .ref (q a0)), (1, .ref (q a1)), (2, .int a2)]) (by decide) (Nat.le_of_ble_eq_true rfl) rfl (fun p e s m args below meth c A X hr hlk hin => ?_)
  refine j_aload_n X dX4_worthOfPart_0 1 rfl rfl ?_
  obtain ⟨h1, hf2⟩ := chk_of hf0; clear hf0
  obtain ⟨i3, h4, hf5⟩ := bd_of hf2; clear hf2
  refine j_getr X fd_X4_81 h1 h4 dX4_worthOfPart_1 ?_
  refine j_iload_n X dX4_worthOfPart_4 2 rfl rfl ?_
  obtain ⟨h6, hf7⟩ := chk_of hf5; clear hf5
  refine j_iald X h6 dX4_worthOfPart_5 (fun v8 ev8 => ?_)
  replace hf7 := lt_of hf7 v8 ev8
  refine j_istore_n X (lv' := [(3, .int v8), (0, .ref (q a0)), (1, .ref (q a1)), (2, .int a2)]) dX4_worthOfPart_6 rfl (by decide) rfl ?_
  refine j_aload_n X dX4_worthOfPart_7 2 rfl rfl ?_
  obtain ⟨i10, h11, hf12⟩ := bd_of hf7; clear hf7
  refine j_getr X fd_X4_84 h1 h11 dX4_worthOfPart_8 ?_
  refine j_iload_n X dX4_worthOfPart_11 3 rfl rfl ?_
  obtain ⟨h13, hf14⟩ := chk_of hf12; clear hf12
  refine j_iald X h13 dX4_worthOfPart_12 (fun v15 ev15 => ?_)
  replace hf14 := lt_of hf14 v15 ev15
  refine j_istore X (lv' := [(4, .int v15), (3, .int v8), (0, .ref (q a0)), (1, .ref (q a1)), (2, .int a2)]) dX4_worthOfPart_13 (by decide) rfl ?_
  refine j_aload_n X dX4_worthOfPart_15 3 rfl rfl ?_
  obtain ⟨i17, h18, hf19⟩ := bd_of hf14; clear hf14
  refine j_getr X fd_X4_90 h1 h18 dX4_worthOfPart_16 ?_
  refine j_iload_n X dX4_worthOfPart_19 4 rfl rfl ?_
  obtain ⟨h20, hf21⟩ := chk_of hf19; clear hf19
  refine j_iald X h20 dX4_worthOfPart_20 (fun v22 ev22 => ?_)
  replace hf21 := lt_of hf21 v22 ev22
  by_cases c24 : v22 = (0 : Int32)
  · have hf25 := br_y hf21 c24; clear hf21
    refine j_tabIn X (v := 0) (tgt := 56) dX4_worthOfPart_21 c24 (by decide) (by decide) rfl (by decide) ?_
    refine j_aload_n X dX4_worthOfPart_56 2 rfl rfl ?_
    obtain ⟨h27, hf28⟩ := chk_of hf25; clear hf25
    obtain ⟨i29, h30, hf31⟩ := bd_of hf28; clear hf28
    refine j_getr X fd_X4_29 h27 h30 dX4_worthOfPart_57 ?_
    refine j_aload_n X dX4_worthOfPart_60 3 rfl rfl ?_
    obtain ⟨i32, h33, hf34⟩ := bd_of hf31; clear hf31
    refine j_getr X fd_X4_87 h1 h33 dX4_worthOfPart_61 ?_
    refine j_iload_n X dX4_worthOfPart_64 4 rfl rfl ?_
    obtain ⟨h35, hf36⟩ := chk_of hf34; clear hf34
    refine j_iald X h35 dX4_worthOfPart_65 (fun v37 ev37 => ?_)
    replace hf36 := lt_of hf36 v37 ev37
    obtain ⟨h39, hf40⟩ := chk_of hf36; clear hf36
    refine j_iald X h39 dX4_worthOfPart_66 (fun v41 ev41 => ?_)
    replace hf40 := lt_of hf40 v41 ev41
    refine j_i2l X dX4_worthOfPart_67 ?_
    obtain ⟨er, es⟩ := rt_of hf40
    subst er
    exact j_retl X hr hlk (Nat.le_of_ble_eq_true rfl) (Nat.le_of_ble_eq_true rfl) rfl es.symm rfl dX4_worthOfPart_68
  · have hf26 := br_n hf21 c24; clear hf21
    by_cases c43 : v22 = (1 : Int32)
    · have hf44 := br_y hf26 c43; clear hf26
      refine j_tabIn X (v := 1) (tgt := 69) dX4_worthOfPart_21 c43 (by decide) (by decide) rfl (by decide) ?_
      refine j_aload_n X dX4_worthOfPart_69 3 rfl rfl ?_
      obtain ⟨i46, h47, hf48⟩ := bd_of hf44; clear hf44
      refine j_getr X fd_X4_87 h1 h47 dX4_worthOfPart_70 ?_
      refine j_iload_n X dX4_worthOfPart_73 4 rfl rfl ?_
      obtain ⟨h49, hf50⟩ := chk_of hf48; clear hf48
      refine j_iald X h49 dX4_worthOfPart_74 (fun v51 ev51 => ?_)
      replace hf50 := lt_of hf50 v51 ev51
      refine j_i2l X dX4_worthOfPart_75 ?_
      obtain ⟨er, es⟩ := rt_of hf50
      subst er
      exact j_retl X hr hlk (Nat.le_of_ble_eq_true rfl) (Nat.le_of_ble_eq_true rfl) rfl es.symm rfl dX4_worthOfPart_76
    · have hf45 := br_n hf26 c43; clear hf26
      by_cases c53 : v22 = (2 : Int32)
      · have hf54 := br_y hf45 c53; clear hf45
        refine j_tabIn X (v := 2) (tgt := 77) dX4_worthOfPart_21 c53 (by decide) (by decide) rfl (by decide) ?_
        refine j_aload_n X dX4_worthOfPart_77 2 rfl rfl ?_
        obtain ⟨h56, hf57⟩ := chk_of hf54; clear hf54
        obtain ⟨i58, h59, hf60⟩ := bd_of hf57; clear hf57
        refine j_getr X fd_X4_47 h56 h59 dX4_worthOfPart_78 ?_
        refine j_iload_n X dX4_worthOfPart_81 1 rfl rfl ?_
        obtain ⟨h61, hf62⟩ := chk_of hf60; clear hf60
        refine j_lald X h61 dX4_worthOfPart_82 (fun v63 ev63 => ?_)
        replace hf62 := lt_of hf62 v63 ev63
        refine j_lneg X dX4_worthOfPart_83 ?_
        obtain ⟨er, es⟩ := rt_of hf62
        subst er
        exact j_retl X hr hlk (Nat.le_of_ble_eq_true rfl) (Nat.le_of_ble_eq_true rfl) rfl es.symm rfl dX4_worthOfPart_84
      · have hf55 := br_n hf45 c53; clear hf45
        by_cases c65 : v22 = (3 : Int32)
        · have hf66 := br_y hf55 c65; clear hf55
          refine j_tabIn X (v := 3) (tgt := 85) dX4_worthOfPart_21 c65 (by decide) (by decide) rfl (by decide) ?_
          refine j_aload_n X dX4_worthOfPart_85 2 rfl rfl ?_
          obtain ⟨h68, hf69⟩ := chk_of hf66; clear hf66
          obtain ⟨i70, h71, hf72⟩ := bd_of hf69; clear hf69
          refine j_getr X fd_X4_47 h68 h71 dX4_worthOfPart_86 ?_
          refine j_iload_n X dX4_worthOfPart_89 1 rfl rfl ?_
          obtain ⟨h73, hf74⟩ := chk_of hf72; clear hf72
          refine j_lald X h73 dX4_worthOfPart_90 (fun v75 ev75 => ?_)
          replace hf74 := lt_of hf74 v75 ev75
          refine j_aload_n X dX4_worthOfPart_91 2 rfl rfl ?_
          refine j_getr X fd_X4_47 h68 h71 dX4_worthOfPart_92 ?_
          refine j_iload X dX4_worthOfPart_95 0 rfl ?_
          obtain ⟨h80, hf81⟩ := chk_of hf74; clear hf74
          refine j_lald X h80 dX4_worthOfPart_97 (fun v82 ev82 => ?_)
          replace hf81 := lt_of hf81 v82 ev82
          refine j_ladd X dX4_worthOfPart_98 ?_
          obtain ⟨er, es⟩ := rt_of hf81
          subst er
          exact j_retl X hr hlk (Nat.le_of_ble_eq_true rfl) (Nat.le_of_ble_eq_true rfl) rfl es.symm rfl dX4_worthOfPart_99
        · have hf67 := br_n hf55 c65; clear hf55
          by_cases c84 : v22 = (4 : Int32)
          · have hf85 := br_y hf67 c84; clear hf67
            refine j_tabIn X (v := 4) (tgt := 100) dX4_worthOfPart_21 c84 (by decide) (by decide) rfl (by decide) ?_
            refine j_aload_n X dX4_worthOfPart_100 2 rfl rfl ?_
            obtain ⟨h87, hf88⟩ := chk_of hf85; clear hf85
            obtain ⟨i89, h90, hf91⟩ := bd_of hf88; clear hf88
            refine j_getr X fd_X4_47 h87 h90 dX4_worthOfPart_101 ?_
            refine j_iload_n X dX4_worthOfPart_104 1 rfl rfl ?_
            obtain ⟨h92, hf93⟩ := chk_of hf91; clear hf91
            refine j_lald X h92 dX4_worthOfPart_105 (fun v94 ev94 => ?_)
            replace hf93 := lt_of hf93 v94 ev94
            refine j_aload_n X dX4_worthOfPart_106 2 rfl rfl ?_
            refine j_getr X fd_X4_47 h87 h90 dX4_worthOfPart_107 ?_
            refine j_iload X dX4_worthOfPart_110 0 rfl ?_
            obtain ⟨h99, hf100⟩ := chk_of hf93; clear hf93
            refine j_lald X h99 dX4_worthOfPart_112 (fun v101 ev101 => ?_)
            replace hf100 := lt_of hf100 v101 ev101
            refine j_lsub X dX4_worthOfPart_113 ?_
            obtain ⟨er, es⟩ := rt_of hf100
            subst er
            exact j_retl X hr hlk (Nat.le_of_ble_eq_true rfl) (Nat.le_of_ble_eq_true rfl) rfl es.symm rfl dX4_worthOfPart_114
          · have hf86 := br_n hf67 c84; clear hf67
            refine j_tabOut X (tgt := 115) dX4_worthOfPart_21 (by have z0 := lv_neT c24 (show ((0 : Int32)).toInt = 0 from rfl); have z1 := lv_neT c43 (show ((1 : Int32)).toInt = 1 from rfl); have z2 := lv_neT c53 (show ((2 : Int32)).toInt = 2 from rfl); have z3 := lv_neT c65 (show ((3 : Int32)).toInt = 3 from rfl); have z4 := lv_neT c84 (show ((4 : Int32)).toInt = 4 from rfl); omega) (by decide) ?_
            refine j_aload_n X dX4_worthOfPart_115 2 rfl rfl ?_
            obtain ⟨h103, hf104⟩ := chk_of hf86; clear hf86
            obtain ⟨i105, h106, hf107⟩ := bd_of hf104; clear hf104
            refine j_getr X fd_X4_47 h103 h106 dX4_worthOfPart_116 ?_
            refine j_iload_n X dX4_worthOfPart_119 1 rfl rfl ?_
            obtain ⟨h108, hf109⟩ := chk_of hf107; clear hf107
            refine j_lald X h108 dX4_worthOfPart_120 (fun v110 ev110 => ?_)
            replace hf109 := lt_of hf109 v110 ev110
            refine j_aload_n X dX4_worthOfPart_121 2 rfl rfl ?_
            refine j_getr X fd_X4_47 h103 h106 dX4_worthOfPart_122 ?_
            refine j_iload X dX4_worthOfPart_125 0 rfl ?_
            obtain ⟨h115, hf116⟩ := chk_of hf109; clear hf109
            refine j_lald X h115 dX4_worthOfPart_127 (fun v117 ev117 => ?_)
            replace hf116 := lt_of hf116 v117 ev117
            refine j_lmul X dX4_worthOfPart_128 ?_
            obtain ⟨er, es⟩ := rt_of hf116
            subst er
            exact j_retl X hr hlk (Nat.le_of_ble_eq_true rfl) (Nat.le_of_ble_eq_true rfl) rfl es.symm rfl dX4_worthOfPart_129
abbrev rm_X4_worthOf : Room := { frames := 1, cells := 0, slots := 0, locals := 64 }
set_option maxHeartbeats 4000000 in
set_option maxRecDepth 100000 in
theorem c_X4_worthOf (l : Launch) (D : va_G) (cs : Nat → ClassId) (q : Nat → Nat) (a0 : Nat) (a1 : Nat) (σ σ0 : HS) (r0 : Int64) (hf0 : f_X4_worthOf a0 a1 σ = some (r0, σ0)) : MT l yX4_worthOf (Cond.code yX4_worthOf cX4_worthOf 3 (some .long) :: lw_g) rm_X4_worthOf D cs q σ σ0 [.ref (q a0), .ref (q a1)] (fun z => z = q) (fun _ => some (.long r0)) 0 0 := by
  unfold f_X4_worthOf at hf0
  refine MT_of (cc := cX4_worthOf) (lv0 := [(0, .ref (q a0)), (1, .ref (q a1))]) (by decide) (Nat.le_of_ble_eq_true rfl) rfl (fun p e s m args below meth c A X hr hlk hin => ?_)
  have L2 : ∀ (nk : Nat) (x0 : Nat) (x1 : Nat) (x2 : Int32) (τ : HS), lp_X4_worthOf_2  nk x0 x1 x2 τ = some (r0, σ0) → J p l e rm_X4_worthOf s m args below meth c 3 D cs A s.heap 0 0 (MQ below (hQ D cs (fun z => z = q) (fun _ => some (.long r0)) σ0 A) args s 0 0 A) q τ [(0, .ref (q x0)), (1, .ref (q x1)), (2, .int x2)] 2 [] := by
    intro nk
    induction nk with
    | zero => intro x0 x1 x2 τ hf0; have hf1 : (none : Option (Int64 × HS)) = some (r0, σ0) := hf0; cases hf1
    | succ nk ih =>
      intro x0 x1 x2 τ hf0
      replace hf0 : lp_X4_worthOf_2_b  (lp_X4_worthOf_2  nk) x0 x1 x2 τ = some (r0, σ0) := hf0
      unfold lp_X4_worthOf_2_b at hf0
      refine j_iload_n X dX4_worthOf_2 2 rfl rfl ?_
      refine j_aload_n X dX4_worthOf_3 1 rfl rfl ?_
      obtain ⟨h3, hf4⟩ := chk_of hf0; clear hf0
      refine j_geti X fd_X4_64 h3 dX4_worthOf_4 (fun v5 ev5 => ?_)
      replace hf4 := lt_of hf4 v5 ev5
      refine j_icmp_ge X (tgt := 28) dX4_worthOf_7 (by decide) (fun c7 => ?_) (fun c7 => ?_)
      · have hf8 := br_y hf4 c7; clear hf4
        refine j_aload_n X dX4_worthOf_28 0 rfl rfl ?_
        obtain ⟨h10, hf11⟩ := chk_of hf8; clear hf8
        obtain ⟨i12, h13, hf14⟩ := bd_of hf11; clear hf11
        refine j_getr X fd_X4_47 h10 h13 dX4_worthOf_29 ?_
        refine j_aload_n X dX4_worthOf_32 1 rfl rfl ?_
        refine j_geti X fd_X4_64 h3 dX4_worthOf_33 (fun v15 ev15 => ?_)
        replace hf14 := lt_of hf14 v15 ev15
        refine j_iconst X (v := 1) dX4_worthOf_36 (by decide) ?_
        refine j_isub X dX4_worthOf_37 ?_
        obtain ⟨h17, hf18⟩ := chk_of hf14; clear hf14
        refine j_lald X h17 dX4_worthOf_38 (fun v19 ev19 => ?_)
        replace hf18 := lt_of hf18 v19 ev19
        obtain ⟨er, es⟩ := rt_of hf18
        subst er
        exact j_retl X hr hlk (Nat.le_of_ble_eq_true rfl) (Nat.le_of_ble_eq_true rfl) rfl es.symm rfl dX4_worthOf_39
      · have hf9 := br_n hf4 c7; clear hf4
        refine j_aload_n X dX4_worthOf_10 0 rfl rfl ?_
        obtain ⟨h21, hf22⟩ := chk_of hf9; clear hf9
        obtain ⟨i23, h24, hf25⟩ := bd_of hf22; clear hf22
        refine j_getr X fd_X4_47 h21 h24 dX4_worthOf_11 ?_
        refine j_iload_n X dX4_worthOf_14 2 rfl rfl ?_
        refine j_aload_n X dX4_worthOf_15 0 rfl rfl ?_
        refine j_aload_n X dX4_worthOf_16 1 rfl rfl ?_
        refine j_iload_n X dX4_worthOf_17 2 rfl rfl ?_
        obtain ⟨r26, σ27, h28, hf29⟩ := bc_of hf25; clear hf25
        refine j_callV0 X [.ref (q x1), .int x2] [.int x2, .ref (q i23)] (c_X4_worthOfPart l D cs q x0 x1 x2 τ _ _ h28) mk_X4_worthOfPart mv_X4_worthOfPart ml_X4_129 h21 rfl (by decide) ⟨rfl, rfl⟩ ⟨Nat.le_of_ble_eq_true rfl, Nat.le_of_ble_eq_true rfl⟩ rfl (Nat.le_of_ble_eq_true rfl) ⟨Nat.le_of_ble_eq_true rfl, Nat.le_of_ble_eq_true rfl⟩ dX4_worthOf_18 rfl (st' := [.long r26, .int x2, .ref (q i23)]) rfl ?_
        obtain ⟨h30, hf31⟩ := chk_of hf29; clear hf29
        refine j_last X h30 dX4_worthOf_21 (fun σ32 eσ32 => ?_)
        replace hf31 := lt_of hf31 σ32 eσ32
        obtain ⟨v34, ev34⟩ : ∃ y : Int32, y = x2 + (1 : Int32) := ⟨_, rfl⟩
        replace hf31 := lt_of hf31 v34 ev34
        refine j_iinc X (v := v34) (lv' := [(2, .int v34), (0, .ref (q x0)), (1, .ref (q x1))]) dX4_worthOf_22 2 rfl (by rw [ev34]; rfl) (by decide) rfl ?_
        refine j_goto X (tgt := 2) dX4_worthOf_25 (by decide) ?_
        refine j_lvsub [1, 2, 0] (lv' := [(0, .ref (q x0)), (1, .ref (q x1)), (2, .int v34)]) rfl ?_
        exact ih x0 x1 v34 σ32 hf31
  refine j_iconst X (v := 0) dX4_worthOf_0 (by decide) ?_
  refine j_nmi (fun v1 ev1 => ?_)
  replace hf0 := lt_of hf0 v1 ev1
  refine j_istore_n X (lv' := [(2, .int v1), (0, .ref (q a0)), (1, .ref (q a1))]) dX4_worthOf_1 rfl (by decide) rfl ?_
  refine j_lvsub [1, 2, 0] (lv' := [(0, .ref (q a0)), (1, .ref (q a1)), (2, .int v1)]) rfl ?_
  exact L2  1000 a0 a1 v1 σ hf0
abbrev rm_X0_areAlike : Room := { frames := 1, cells := 0, slots := 0, locals := 64 }
set_option maxHeartbeats 4000000 in
set_option maxRecDepth 100000 in
theorem c_X0_areAlike (l : Launch) (D : va_G) (cs : Nat → ClassId) (q : Nat → Nat) (a0 : Nat) (a1 : Nat) (a2 : Int32) (a3 : Int32) (σ σ0 : HS) (r0 : Int32) (hf0 : f_X0_areAlike a0 a1 a2 a3 σ = some (r0, σ0)) : MT l yX0_areAlike (Cond.code yX0_areAlike cX0_areAlike 4 (some .boolean) :: lw_g) rm_X0_areAlike D cs q σ σ0 [.ref (q a0), .ref (q a1), .int a2, .int a3] (fun z => z = q) (fun _ => some (.int r0)) 0 0 := by
  unfold f_X0_areAlike at hf0
  refine MT_of (cc := cX0_areAlike) (lv0 := [(0, .ref (q a0)), (1, .ref (q a1)), (2, .int a2), (3, .int a3)]) (by decide) (Nat.le_of_ble_eq_true rfl) rfl (fun p e s m args below meth c A X hr hlk hin => ?_)
  refine j_aload_n X dX0_areAlike_0 0 rfl rfl ?_
  obtain ⟨h1, hf2⟩ := chk_of hf0; clear hf0
  obtain ⟨i3, h4, hf5⟩ := bd_of hf2; clear hf2
  refine j_getr X fd_X0_18 h1 h4 dX0_areAlike_1 ?_
  refine j_iload_n X dX0_areAlike_4 2 rfl rfl ?_
  obtain ⟨h6, hf7⟩ := chk_of hf5; clear hf5
  refine j_iald X h6 dX0_areAlike_5 (fun v8 ev8 => ?_)
  replace hf7 := lt_of hf7 v8 ev8
  refine j_aload_n X dX0_areAlike_6 0 rfl rfl ?_
  refine j_getr X fd_X0_18 h1 h4 dX0_areAlike_7 ?_
  refine j_iload_n X dX0_areAlike_10 3 rfl rfl ?_
  obtain ⟨h13, hf14⟩ := chk_of hf7; clear hf7
  refine j_iald X h13 dX0_areAlike_11 (fun v15 ev15 => ?_)
  replace hf14 := lt_of hf14 v15 ev15
  refine j_icmp_ne X (tgt := 30) dX0_areAlike_12 (by decide) (fun c17 => ?_) (fun c17 => ?_)
  · have hf18 := br_n hf14 c17; clear hf14
    refine j_iconst X (v := 0) dX0_areAlike_30 (by decide) ?_
    obtain ⟨er, es⟩ := rt_of hf18
    subst er
    exact j_retz X hr hlk (Nat.le_of_ble_eq_true rfl) (Nat.le_of_ble_eq_true rfl) rfl es.symm rfl (Or.inl rfl) dX0_areAlike_31
  · have hf19 := br_y hf14 c17; clear hf14
    refine j_aload_n X dX0_areAlike_15 0 rfl rfl ?_
    obtain ⟨i20, h21, hf22⟩ := bd_of hf19; clear hf19
    refine j_getr X fd_X0_41 h1 h21 dX0_areAlike_16 ?_
    refine j_iload_n X dX0_areAlike_19 2 rfl rfl ?_
    obtain ⟨h23, hf24⟩ := chk_of hf22; clear hf22
    refine j_iald X h23 dX0_areAlike_20 (fun v25 ev25 => ?_)
    replace hf24 := lt_of hf24 v25 ev25
    refine j_aload_n X dX0_areAlike_21 0 rfl rfl ?_
    refine j_getr X fd_X0_41 h1 h21 dX0_areAlike_22 ?_
    refine j_iload_n X dX0_areAlike_25 3 rfl rfl ?_
    obtain ⟨h30, hf31⟩ := chk_of hf24; clear hf24
    refine j_iald X h30 dX0_areAlike_26 (fun v32 ev32 => ?_)
    replace hf31 := lt_of hf31 v32 ev32
    refine j_icmp_eq X (tgt := 32) dX0_areAlike_27 (by decide) (fun c34 => ?_) (fun c34 => ?_)
    · have hf35 := br_y hf31 c34; clear hf31
      refine j_aload_n X dX0_areAlike_32 0 rfl rfl ?_
      refine j_getr X fd_X0_18 h1 h4 dX0_areAlike_33 ?_
      refine j_iload_n X dX0_areAlike_36 2 rfl rfl ?_
      obtain ⟨h40, hf41⟩ := chk_of hf35; clear hf35
      refine j_iald X h40 dX0_areAlike_37 (fun v42 ev42 => ?_)
      replace hf41 := lt_of hf41 v42 ev42
      obtain ⟨r44, σ45, h46, hf47⟩ := bc_of hf41; clear hf41
      refine j_callS0 X [.int v42] [] (c_X0_isMade l D cs q v42 σ _ _ h46) mk_X0_isMade ms_X0_isMade ml_X0_75 ⟨rfl, rfl⟩ ⟨Nat.le_of_ble_eq_true rfl, Nat.le_of_ble_eq_true rfl⟩ rfl (Nat.le_of_ble_eq_true rfl) ⟨Nat.le_of_ble_eq_true rfl, Nat.le_of_ble_eq_true rfl⟩ dX0_areAlike_38 rfl (st' := [.int r44]) rfl ?_
      refine j_if_eq X (tgt := 82) dX0_areAlike_41 (by decide) (fun c48 => ?_) (fun c48 => ?_)
      · have hf49 := br_y hf47 c48; clear hf47
        refine j_iconst X (v := 1) dX0_areAlike_82 (by decide) ?_
        refine j_goto X (tgt := 87) dX0_areAlike_83 (by decide) ?_
        obtain ⟨er, es⟩ := rt_of hf49
        subst er
        exact j_retz X hr hlk (Nat.le_of_ble_eq_true rfl) (Nat.le_of_ble_eq_true rfl) rfl es.symm rfl (Or.inr rfl) dX0_areAlike_87
      · have hf50 := br_n hf47 c48; clear hf47
        refine j_aload_n X dX0_areAlike_44 1 rfl rfl ?_
        refine j_aload_n X dX0_areAlike_45 0 rfl rfl ?_
        obtain ⟨h51, hf52⟩ := chk_of hf50; clear hf50
        obtain ⟨i53, h54, hf55⟩ := bd_of hf52; clear hf52
        refine j_getr X fd_X0_33 h51 h54 dX0_areAlike_46 ?_
        refine j_iload_n X dX0_areAlike_49 2 rfl rfl ?_
        obtain ⟨h56, hf57⟩ := chk_of hf55; clear hf55
        refine j_iald X h56 dX0_areAlike_50 (fun v58 ev58 => ?_)
        replace hf57 := lt_of hf57 v58 ev58
        obtain ⟨h60, hf61⟩ := chk_of hf57; clear hf57
        refine j_iald X h60 dX0_areAlike_51 (fun v62 ev62 => ?_)
        replace hf61 := lt_of hf61 v62 ev62
        refine j_aload_n X dX0_areAlike_52 1 rfl rfl ?_
        refine j_aload_n X dX0_areAlike_53 0 rfl rfl ?_
        refine j_getr X fd_X0_33 h51 h54 dX0_areAlike_54 ?_
        refine j_iload_n X dX0_areAlike_57 3 rfl rfl ?_
        obtain ⟨h67, hf68⟩ := chk_of hf61; clear hf61
        refine j_iald X h67 dX0_areAlike_58 (fun v69 ev69 => ?_)
        replace hf68 := lt_of hf68 v69 ev69
        obtain ⟨h71, hf72⟩ := chk_of hf68; clear hf68
        refine j_iald X h71 dX0_areAlike_59 (fun v73 ev73 => ?_)
        replace hf72 := lt_of hf72 v73 ev73
        refine j_icmp_ne X (tgt := 86) dX0_areAlike_60 (by decide) (fun c75 => ?_) (fun c75 => ?_)
        · have hf76 := br_n hf72 c75; clear hf72
          refine j_iconst X (v := 0) dX0_areAlike_86 (by decide) ?_
          obtain ⟨er, es⟩ := rt_of hf76
          subst er
          exact j_retz X hr hlk (Nat.le_of_ble_eq_true rfl) (Nat.le_of_ble_eq_true rfl) rfl es.symm rfl (Or.inl rfl) dX0_areAlike_87
        · have hf77 := br_y hf72 c75; clear hf72
          refine j_aload_n X dX0_areAlike_63 1 rfl rfl ?_
          refine j_aload_n X dX0_areAlike_64 0 rfl rfl ?_
          obtain ⟨i78, h79, hf80⟩ := bd_of hf77; clear hf77
          refine j_getr X fd_X0_37 h51 h79 dX0_areAlike_65 ?_
          refine j_iload_n X dX0_areAlike_68 2 rfl rfl ?_
          obtain ⟨h81, hf82⟩ := chk_of hf80; clear hf80
          refine j_iald X h81 dX0_areAlike_69 (fun v83 ev83 => ?_)
          replace hf82 := lt_of hf82 v83 ev83
          obtain ⟨h85, hf86⟩ := chk_of hf82; clear hf82
          refine j_iald X h85 dX0_areAlike_70 (fun v87 ev87 => ?_)
          replace hf86 := lt_of hf86 v87 ev87
          refine j_aload_n X dX0_areAlike_71 1 rfl rfl ?_
          refine j_aload_n X dX0_areAlike_72 0 rfl rfl ?_
          refine j_getr X fd_X0_37 h51 h79 dX0_areAlike_73 ?_
          refine j_iload_n X dX0_areAlike_76 3 rfl rfl ?_
          obtain ⟨h92, hf93⟩ := chk_of hf86; clear hf86
          refine j_iald X h92 dX0_areAlike_77 (fun v94 ev94 => ?_)
          replace hf93 := lt_of hf93 v94 ev94
          obtain ⟨h96, hf97⟩ := chk_of hf93; clear hf93
          refine j_iald X h96 dX0_areAlike_78 (fun v98 ev98 => ?_)
          replace hf97 := lt_of hf97 v98 ev98
          refine j_icmp_ne X (tgt := 86) dX0_areAlike_79 (by decide) (fun c100 => ?_) (fun c100 => ?_)
          · have hf101 := br_n hf97 c100; clear hf97
            refine j_iconst X (v := 0) dX0_areAlike_86 (by decide) ?_
            obtain ⟨er, es⟩ := rt_of hf101
            subst er
            exact j_retz X hr hlk (Nat.le_of_ble_eq_true rfl) (Nat.le_of_ble_eq_true rfl) rfl es.symm rfl (Or.inl rfl) dX0_areAlike_87
          · have hf102 := br_y hf97 c100; clear hf97
            refine j_iconst X (v := 1) dX0_areAlike_82 (by decide) ?_
            refine j_goto X (tgt := 87) dX0_areAlike_83 (by decide) ?_
            obtain ⟨er, es⟩ := rt_of hf102
            subst er
            exact j_retz X hr hlk (Nat.le_of_ble_eq_true rfl) (Nat.le_of_ble_eq_true rfl) rfl es.symm rfl (Or.inr rfl) dX0_areAlike_87
    · have hf36 := br_n hf31 c34; clear hf31
      refine j_iconst X (v := 0) dX0_areAlike_30 (by decide) ?_
      obtain ⟨er, es⟩ := rt_of hf36
      subst er
      exact j_retz X hr hlk (Nat.le_of_ble_eq_true rfl) (Nat.le_of_ble_eq_true rfl) rfl es.symm rfl (Or.inl rfl) dX0_areAlike_31
abbrev rm_X0_hasSource : Room := { frames := 0, cells := 0, slots := 0, locals := 0 }
set_option maxHeartbeats 4000000 in
set_option maxRecDepth 100000 in
theorem c_X0_hasSource (l : Launch) (D : va_G) (cs : Nat → ClassId) (q : Nat → Nat) (a0 : Nat) (a1 : Int32) (σ σ0 : HS) (r0 : Int32) (hf0 : f_X0_hasSource a0 a1 σ = some (r0, σ0)) : MT l yX0_hasSource (Cond.code yX0_hasSource cX0_hasSource 2 (some .boolean) :: lw_g) rm_X0_hasSource D cs q σ σ0 [.ref (q a0), .int a1] (fun z => z = q) (fun _ => some (.int r0)) 0 0 := by
  unfold f_X0_hasSource at hf0
  refine MT_of (cc := cX0_hasSource) (lv0 := [(0, .ref (q a0)), (1, .int a1)]) (by decide) (Nat.le_of_ble_eq_true rfl) rfl (fun p e s m args below meth c A X hr hlk hin => ?_)
  refine j_aload_n X dX0_hasSource_0 0 rfl rfl ?_
  obtain ⟨h1, hf2⟩ := chk_of hf0; clear hf0
  refine j_geti X fd_X0_49 h1 dX0_hasSource_1 (fun v3 ev3 => ?_)
  replace hf2 := lt_of hf2 v3 ev3
  refine j_iload_n X dX0_hasSource_4 1 rfl rfl ?_
  refine j_ishr X dX0_hasSource_5 ?_
  refine j_iconst X (v := 1) dX0_hasSource_6 (by decide) ?_
  refine j_iand X dX0_hasSource_7 ?_
  refine j_iconst X (v := 1) dX0_hasSource_8 (by decide) ?_
  refine j_icmp_ne X (tgt := 16) dX0_hasSource_9 (by decide) (fun c5 => ?_) (fun c5 => ?_)
  · have hf6 := br_n hf2 c5; clear hf2
    refine j_iconst X (v := 0) dX0_hasSource_16 (by decide) ?_
    obtain ⟨er, es⟩ := rt_of hf6
    subst er
    exact j_retz X hr hlk (Nat.le_of_ble_eq_true rfl) (Nat.le_of_ble_eq_true rfl) rfl es.symm rfl (Or.inl rfl) dX0_hasSource_17
  · have hf7 := br_y hf2 c5; clear hf2
    refine j_iconst X (v := 1) dX0_hasSource_12 (by decide) ?_
    refine j_goto X (tgt := 17) dX0_hasSource_13 (by decide) ?_
    obtain ⟨er, es⟩ := rt_of hf7
    subst er
    exact j_retz X hr hlk (Nat.le_of_ble_eq_true rfl) (Nat.le_of_ble_eq_true rfl) rfl es.symm rfl (Or.inr rfl) dX0_hasSource_17
abbrev rm_X0_isLike : Room := { frames := 0, cells := 0, slots := 0, locals := 0 }
set_option maxHeartbeats 4000000 in
set_option maxRecDepth 100000 in
theorem c_X0_isLike (l : Launch) (D : va_G) (cs : Nat → ClassId) (q : Nat → Nat) (a0 : Nat) (a1 : Nat) (σ σ0 : HS) (r0 : Int32) (hf0 : f_X0_isLike a0 a1 σ = some (r0, σ0)) : MT l yX0_isLike (Cond.code yX0_isLike cX0_isLike 3 (some .boolean) :: lw_g) rm_X0_isLike D cs q σ σ0 [.ref (q a0), .ref (q a1)] (fun z => z = q) (fun _ => some (.int r0)) 0 0 := by
  unfold f_X0_isLike at hf0
  refine MT_of (cc := cX0_isLike) (lv0 := [(0, .ref (q a0)), (1, .ref (q a1))]) (by decide) (Nat.le_of_ble_eq_true rfl) rfl (fun p e s m args below meth c A X hr hlk hin => ?_)
  have L15 : ∀ (nk : Nat) (x0 : Nat) (x1 : Nat) (x2 : Int32) (τ : HS), lp_X0_isLike_15  nk x0 x1 x2 τ = some (r0, σ0) → J p l e rm_X0_isLike s m args below meth c 3 D cs A s.heap 0 0 (MQ below (hQ D cs (fun z => z = q) (fun _ => some (.int r0)) σ0 A) args s 0 0 A) q τ [(0, .ref (q x0)), (1, .ref (q x1)), (2, .int x2)] 15 [] := by
    intro nk
    induction nk with
    | zero => intro x0 x1 x2 τ hf0; have hf1 : (none : Option (Int32 × HS)) = some (r0, σ0) := hf0; cases hf1
    | succ nk ih =>
      intro x0 x1 x2 τ hf0
      replace hf0 : lp_X0_isLike_15_b  (lp_X0_isLike_15  nk) x0 x1 x2 τ = some (r0, σ0) := hf0
      unfold lp_X0_isLike_15_b at hf0
      refine j_iload_n X dX0_isLike_15 2 rfl rfl ?_
      refine j_aload_n X dX0_isLike_16 0 rfl rfl ?_
      obtain ⟨h14, hf15⟩ := chk_of hf0; clear hf0
      refine j_geti X fd_X0_15 h14 dX0_isLike_17 (fun v16 ev16 => ?_)
      replace hf15 := lt_of hf15 v16 ev16
      refine j_icmp_ge X (tgt := 61) dX0_isLike_20 (by decide) (fun c18 => ?_) (fun c18 => ?_)
      · have hf19 := br_y hf15 c18; clear hf15
        refine j_iconst X (v := 1) dX0_isLike_61 (by decide) ?_
        obtain ⟨er, es⟩ := rt_of hf19
        subst er
        exact j_retz X hr hlk (Nat.le_of_ble_eq_true rfl) (Nat.le_of_ble_eq_true rfl) rfl es.symm rfl (Or.inr rfl) dX0_isLike_62
      · have hf20 := br_n hf15 c18; clear hf15
        refine j_aload_n X dX0_isLike_23 0 rfl rfl ?_
        obtain ⟨i21, h22, hf23⟩ := bd_of hf20; clear hf20
        refine j_getr X fd_X0_28 h14 h22 dX0_isLike_24 ?_
        refine j_iload_n X dX0_isLike_27 2 rfl rfl ?_
        obtain ⟨h24, hf25⟩ := chk_of hf23; clear hf23
        refine j_iald X h24 dX0_isLike_28 (fun v26 ev26 => ?_)
        replace hf25 := lt_of hf25 v26 ev26
        refine j_aload_n X dX0_isLike_29 1 rfl rfl ?_
        obtain ⟨h28, hf29⟩ := chk_of hf25; clear hf25
        obtain ⟨i30, h31, hf32⟩ := bd_of hf29; clear hf29
        refine j_getr X fd_X0_28 h28 h31 dX0_isLike_30 ?_
        refine j_iload_n X dX0_isLike_33 2 rfl rfl ?_
        obtain ⟨h33, hf34⟩ := chk_of hf32; clear hf32
        refine j_iald X h33 dX0_isLike_34 (fun v35 ev35 => ?_)
        replace hf34 := lt_of hf34 v35 ev35
        refine j_icmp_ne X (tgt := 53) dX0_isLike_35 (by decide) (fun c37 => ?_) (fun c37 => ?_)
        · have hf38 := br_n hf34 c37; clear hf34
          refine j_iconst X (v := 0) dX0_isLike_53 (by decide) ?_
          obtain ⟨er, es⟩ := rt_of hf38
          subst er
          exact j_retz X hr hlk (Nat.le_of_ble_eq_true rfl) (Nat.le_of_ble_eq_true rfl) rfl es.symm rfl (Or.inl rfl) dX0_isLike_54
        · have hf39 := br_y hf34 c37; clear hf34
          refine j_aload_n X dX0_isLike_38 0 rfl rfl ?_
          obtain ⟨i40, h41, hf42⟩ := bd_of hf39; clear hf39
          refine j_getr X fd_X0_44 h14 h41 dX0_isLike_39 ?_
          refine j_iload_n X dX0_isLike_42 2 rfl rfl ?_
          obtain ⟨h43, hf44⟩ := chk_of hf42; clear hf42
          refine j_iald X h43 dX0_isLike_43 (fun v45 ev45 => ?_)
          replace hf44 := lt_of hf44 v45 ev45
          refine j_aload_n X dX0_isLike_44 1 rfl rfl ?_
          obtain ⟨i47, h48, hf49⟩ := bd_of hf44; clear hf44
          refine j_getr X fd_X0_44 h28 h48 dX0_isLike_45 ?_
          refine j_iload_n X dX0_isLike_48 2 rfl rfl ?_
          obtain ⟨h50, hf51⟩ := chk_of hf49; clear hf49
          refine j_iald X h50 dX0_isLike_49 (fun v52 ev52 => ?_)
          replace hf51 := lt_of hf51 v52 ev52
          refine j_icmp_eq X (tgt := 55) dX0_isLike_50 (by decide) (fun c54 => ?_) (fun c54 => ?_)
          · have hf55 := br_y hf51 c54; clear hf51
            obtain ⟨v57, ev57⟩ : ∃ y : Int32, y = x2 + (1 : Int32) := ⟨_, rfl⟩
            replace hf55 := lt_of hf55 v57 ev57
            refine j_iinc X (v := v57) (lv' := [(2, .int v57), (0, .ref (q x0)), (1, .ref (q x1))]) dX0_isLike_55 2 rfl (by rw [ev57]; rfl) (by decide) rfl ?_
            refine j_goto X (tgt := 15) dX0_isLike_58 (by decide) ?_
            refine j_lvsub [1, 2, 0] (lv' := [(0, .ref (q x0)), (1, .ref (q x1)), (2, .int v57)]) rfl ?_
            exact ih x0 x1 v57 τ hf55
          · have hf56 := br_n hf51 c54; clear hf51
            refine j_iconst X (v := 0) dX0_isLike_53 (by decide) ?_
            obtain ⟨er, es⟩ := rt_of hf56
            subst er
            exact j_retz X hr hlk (Nat.le_of_ble_eq_true rfl) (Nat.le_of_ble_eq_true rfl) rfl es.symm rfl (Or.inl rfl) dX0_isLike_54
  refine j_aload_n X dX0_isLike_0 0 rfl rfl ?_
  obtain ⟨h1, hf2⟩ := chk_of hf0; clear hf0
  refine j_geti X fd_X0_15 h1 dX0_isLike_1 (fun v3 ev3 => ?_)
  replace hf2 := lt_of hf2 v3 ev3
  refine j_aload_n X dX0_isLike_4 1 rfl rfl ?_
  obtain ⟨h5, hf6⟩ := chk_of hf2; clear hf2
  refine j_geti X fd_X0_15 h5 dX0_isLike_5 (fun v7 ev7 => ?_)
  replace hf6 := lt_of hf6 v7 ev7
  refine j_icmp_eq X (tgt := 13) dX0_isLike_8 (by decide) (fun c9 => ?_) (fun c9 => ?_)
  · have hf10 := br_y hf6 c9; clear hf6
    refine j_iconst X (v := 0) dX0_isLike_13 (by decide) ?_
    refine j_nmi (fun v12 ev12 => ?_)
    replace hf10 := lt_of hf10 v12 ev12
    refine j_istore_n X (lv' := [(2, .int v12), (0, .ref (q a0)), (1, .ref (q a1))]) dX0_isLike_14 rfl (by decide) rfl ?_
    refine j_lvsub [1, 2, 0] (lv' := [(0, .ref (q a0)), (1, .ref (q a1)), (2, .int v12)]) rfl ?_
    exact L15  1000 a0 a1 v12 σ hf10
  · have hf11 := br_n hf6 c9; clear hf6
    refine j_iconst X (v := 0) dX0_isLike_11 (by decide) ?_
    obtain ⟨er, es⟩ := rt_of hf11
    subst er
    exact j_retz X hr hlk (Nat.le_of_ble_eq_true rfl) (Nat.le_of_ble_eq_true rfl) rfl es.symm rfl (Or.inl rfl) dX0_isLike_12
abbrev rm_X0_sourcesIn : Room := { frames := 0, cells := 0, slots := 0, locals := 0 }
set_option maxHeartbeats 4000000 in
set_option maxRecDepth 100000 in
theorem c_X0_sourcesIn (l : Launch) (D : va_G) (cs : Nat → ClassId) (q : Nat → Nat) (a0 : Nat) (σ σ0 : HS) (r0 : Int32) (hf0 : f_X0_sourcesIn a0 σ = some (r0, σ0)) : MT l yX0_sourcesIn (Cond.code yX0_sourcesIn cX0_sourcesIn 3 (some .int) :: lw_g) rm_X0_sourcesIn D cs q σ σ0 [.ref (q a0)] (fun z => z = q) (fun _ => some (.int r0)) 0 0 := by
  unfold f_X0_sourcesIn at hf0
  refine MT_of (cc := cX0_sourcesIn) (lv0 := [(0, .ref (q a0))]) (by decide) (Nat.le_of_ble_eq_true rfl) rfl (fun p e s m args below meth c A X hr hlk hin => ?_)
  have L4 : ∀ (nk : Nat) (x0 : Nat) (x1 : Int32) (x2 : Int32) (τ : HS), lp_X0_sourcesIn_4  nk x0 x1 x2 τ = some (r0, σ0) → J p l e rm_X0_sourcesIn s m args below meth c 3 D cs A s.heap 0 0 (MQ below (hQ D cs (fun z => z = q) (fun _ => some (.int r0)) σ0 A) args s 0 0 A) q τ [(0, .ref (q x0)), (1, .int x1), (2, .int x2)] 4 [] := by
    intro nk
    induction nk with
    | zero => intro x0 x1 x2 τ hf0; have hf1 : (none : Option (Int32 × HS)) = some (r0, σ0) := hf0; cases hf1
    | succ nk ih =>
      intro x0 x1 x2 τ hf0
      replace hf0 : lp_X0_sourcesIn_4_b  (lp_X0_sourcesIn_4  nk) x0 x1 x2 τ = some (r0, σ0) := hf0
      unfold lp_X0_sourcesIn_4_b at hf0
      refine j_iload_n X dX0_sourcesIn_4 2 rfl rfl ?_
      refine j_aload_n X dX0_sourcesIn_5 0 rfl rfl ?_
      obtain ⟨h5, hf6⟩ := chk_of hf0; clear hf0
      refine j_geti X fd_X0_9 h5 dX0_sourcesIn_6 (fun v7 ev7 => ?_)
      replace hf6 := lt_of hf6 v7 ev7
      refine j_icmp_ge X (tgt := 38) dX0_sourcesIn_9 (by decide) (fun c9 => ?_) (fun c9 => ?_)
      · have hf10 := br_y hf6 c9; clear hf6
        refine j_iload_n X dX0_sourcesIn_38 1 rfl rfl ?_
        obtain ⟨er, es⟩ := rt_of hf10
        subst er
        exact j_reti X hr hlk (Nat.le_of_ble_eq_true rfl) (Nat.le_of_ble_eq_true rfl) rfl es.symm rfl dX0_sourcesIn_39
      · have hf11 := br_n hf6 c9; clear hf6
        refine j_aload_n X dX0_sourcesIn_12 0 rfl rfl ?_
        obtain ⟨i12, h13, hf14⟩ := bd_of hf11; clear hf11
        refine j_getr X fd_X0_18 h5 h13 dX0_sourcesIn_13 ?_
        refine j_iload_n X dX0_sourcesIn_16 2 rfl rfl ?_
        obtain ⟨h15, hf16⟩ := chk_of hf14; clear hf14
        refine j_iald X h15 dX0_sourcesIn_17 (fun v17 ev17 => ?_)
        replace hf16 := lt_of hf16 v17 ev17
        refine j_if_ne X (tgt := 32) dX0_sourcesIn_18 (by decide) (fun c19 => ?_) (fun c19 => ?_)
        · have hf20 := br_n hf16 c19; clear hf16
          obtain ⟨v22, ev22⟩ : ∃ y : Int32, y = x2 + (1 : Int32) := ⟨_, rfl⟩
          replace hf20 := lt_of hf20 v22 ev22
          refine j_iinc X (v := v22) (lv' := [(2, .int v22), (0, .ref (q x0)), (1, .int x1)]) dX0_sourcesIn_32 2 rfl (by rw [ev22]; rfl) (by decide) rfl ?_
          refine j_goto X (tgt := 4) dX0_sourcesIn_35 (by decide) ?_
          refine j_lvsub [1, 2, 0] (lv' := [(0, .ref (q x0)), (1, .int x1), (2, .int v22)]) rfl ?_
          exact ih x0 x1 v22 τ hf20
        · have hf21 := br_y hf16 c19; clear hf16
          refine j_iload_n X dX0_sourcesIn_21 1 rfl rfl ?_
          refine j_iconst X (v := 1) dX0_sourcesIn_22 (by decide) ?_
          refine j_aload_n X dX0_sourcesIn_23 0 rfl rfl ?_
          obtain ⟨i24, h25, hf26⟩ := bd_of hf21; clear hf21
          refine j_getr X fd_X0_41 h5 h25 dX0_sourcesIn_24 ?_
          refine j_iload_n X dX0_sourcesIn_27 2 rfl rfl ?_
          obtain ⟨h27, hf28⟩ := chk_of hf26; clear hf26
          refine j_iald X h27 dX0_sourcesIn_28 (fun v29 ev29 => ?_)
          replace hf28 := lt_of hf28 v29 ev29
          refine j_ishl X dX0_sourcesIn_29 ?_
          refine j_ior X dX0_sourcesIn_30 ?_
          refine j_nmi (fun v31 ev31 => ?_)
          replace hf28 := lt_of hf28 v31 ev31
          refine j_istore_n X (lv' := [(1, .int v31), (0, .ref (q x0)), (2, .int x2)]) dX0_sourcesIn_31 rfl (by decide) rfl ?_
          obtain ⟨v33, ev33⟩ : ∃ y : Int32, y = x2 + (1 : Int32) := ⟨_, rfl⟩
          replace hf28 := lt_of hf28 v33 ev33
          refine j_iinc X (v := v33) (lv' := [(2, .int v33), (1, .int v31), (0, .ref (q x0))]) dX0_sourcesIn_32 2 rfl (by rw [ev33]; rfl) (by decide) rfl ?_
          refine j_goto X (tgt := 4) dX0_sourcesIn_35 (by decide) ?_
          refine j_lvsub [2, 1, 0] (lv' := [(0, .ref (q x0)), (1, .int v31), (2, .int v33)]) rfl ?_
          exact ih x0 v31 v33 τ hf28
  refine j_iconst X (v := 0) dX0_sourcesIn_0 (by decide) ?_
  refine j_nmi (fun v1 ev1 => ?_)
  replace hf0 := lt_of hf0 v1 ev1
  refine j_istore_n X (lv' := [(1, .int v1), (0, .ref (q a0))]) dX0_sourcesIn_1 rfl (by decide) rfl ?_
  refine j_iconst X (v := 0) dX0_sourcesIn_2 (by decide) ?_
  refine j_nmi (fun v3 ev3 => ?_)
  replace hf0 := lt_of hf0 v3 ev3
  refine j_istore_n X (lv' := [(2, .int v3), (1, .int v1), (0, .ref (q a0))]) dX0_sourcesIn_3 rfl (by decide) rfl ?_
  refine j_lvsub [2, 1, 0] (lv' := [(0, .ref (q a0)), (1, .int v1), (2, .int v3)]) rfl ?_
  exact L4  1000 a0 v1 v3 σ hf0
