abbrev rm_X5_of : Room := { frames := 1, cells := 0, slots := 0, locals := 64 }
set_option maxHeartbeats 4000000 in
set_option maxRecDepth 100000 in
theorem c_X5_of (l : Launch) (D : va_G) (cs : Nat → ClassId) (q : Nat → Nat) (a0 : Nat) (a1 : Int32) (a2 : Int32) (σ σ0 : HS) (r0 : Int32) (hf0 : f_X5_of a0 a1 a2 σ = some (r0, σ0)) : MT l yX5_of (Cond.code yX5_of cX5_of 3 (some .int) :: lw_g) rm_X5_of D cs q σ σ0 [.ref (q a0), .int a1, .int a2] (fun z => z = q) (fun _ => some (.int r0)) 0 0 := by
  unfold f_X5_of at hf0
  refine MT_of (cc := cX5_of) (lv0 := [(0, .ref (q a0)), (1, .int a1), (2, .int a2)]) (by decide) (Nat.le_of_ble_eq_true rfl) rfl (fun p e s m args below meth c A X hr hlk hin => ?_)
  refine j_iload_n X dX5_of_0 1 rfl rfl ?_
  obtain ⟨r1, σ2, h3, hf4⟩ := bc_of hf0; clear hf0
  refine j_callS0 X [.int a1] [] (c_X5_isSource l D cs q a1 σ _ _ h3) mk_X5_isSource ms_X5_isSource ml_X5_61 ⟨rfl, rfl⟩ ⟨Nat.le_of_ble_eq_true rfl, Nat.le_of_ble_eq_true rfl⟩ rfl (Nat.le_of_ble_eq_true rfl) ⟨Nat.le_of_ble_eq_true rfl, Nat.le_of_ble_eq_true rfl⟩ dX5_of_1 rfl (st' := [.int r1]) rfl ?_
  refine j_if_ne X (tgt := 11) dX5_of_4 (by decide) (fun c5 => ?_) (fun c5 => ?_)
  · have hf6 := br_n hf4 c5; clear hf4
    refine j_iload_n X dX5_of_11 2 rfl rfl ?_
    by_cases c8 : a2 = (0 : Int32)
    · have hf9 := br_y hf6 c8; clear hf6
      refine j_tabIn X (v := 0) (tgt := 48) dX5_of_12 c8 (by decide) (by decide) rfl (by decide) ?_
      refine j_aload_n X dX5_of_48 0 rfl rfl ?_
      obtain ⟨h11, hf12⟩ := chk_of hf9; clear hf9
      obtain ⟨i13, h14, hf15⟩ := bd_of hf12; clear hf12
      refine j_getr X fd_X5_14 h11 h14 dX5_of_49 ?_
      refine j_iload_n X dX5_of_52 2 rfl rfl ?_
      obtain ⟨h16, hf17⟩ := chk_of hf15; clear hf15
      obtain ⟨r18, σ19, h20, hf21⟩ := bc_of hf17; clear hf17
      refine j_callV0 X [.int a2] [] (c_X2_rowOf l D cs q i13 a2 σ2 _ _ h20) mk_X2_rowOf mv_X2_rowOf ml_X5_69 h16 rfl (by decide) ⟨rfl, rfl⟩ ⟨Nat.le_of_ble_eq_true rfl, Nat.le_of_ble_eq_true rfl⟩ rfl (Nat.le_of_ble_eq_true rfl) ⟨Nat.le_of_ble_eq_true rfl, Nat.le_of_ble_eq_true rfl⟩ dX5_of_53 rfl (st' := [va_rf (Option.map q r18)]) rfl ?_
      obtain ⟨i22, h23, hf24⟩ := bd_of hf21; clear hf21; subst h23
      refine j_iload_n X dX5_of_56 1 rfl rfl ?_
      obtain ⟨h25, hf26⟩ := chk_of hf24; clear hf24
      refine j_iald X h25 dX5_of_57 (fun v27 ev27 => ?_)
      replace hf26 := lt_of hf26 v27 ev27
      obtain ⟨er, es⟩ := rt_of hf26
      subst er
      exact j_reti X hr hlk (Nat.le_of_ble_eq_true rfl) (Nat.le_of_ble_eq_true rfl) rfl es.symm rfl dX5_of_58
    · have hf10 := br_n hf6 c8; clear hf6
      by_cases c29 : a2 = (1 : Int32)
      · have hf30 := br_y hf10 c29; clear hf10
        refine j_tabIn X (v := 1) (tgt := 48) dX5_of_12 c29 (by decide) (by decide) rfl (by decide) ?_
        refine j_aload_n X dX5_of_48 0 rfl rfl ?_
        obtain ⟨h32, hf33⟩ := chk_of hf30; clear hf30
        obtain ⟨i34, h35, hf36⟩ := bd_of hf33; clear hf33
        refine j_getr X fd_X5_14 h32 h35 dX5_of_49 ?_
        refine j_iload_n X dX5_of_52 2 rfl rfl ?_
        obtain ⟨h37, hf38⟩ := chk_of hf36; clear hf36
        obtain ⟨r39, σ40, h41, hf42⟩ := bc_of hf38; clear hf38
        refine j_callV0 X [.int a2] [] (c_X2_rowOf l D cs q i34 a2 σ2 _ _ h41) mk_X2_rowOf mv_X2_rowOf ml_X5_69 h37 rfl (by decide) ⟨rfl, rfl⟩ ⟨Nat.le_of_ble_eq_true rfl, Nat.le_of_ble_eq_true rfl⟩ rfl (Nat.le_of_ble_eq_true rfl) ⟨Nat.le_of_ble_eq_true rfl, Nat.le_of_ble_eq_true rfl⟩ dX5_of_53 rfl (st' := [va_rf (Option.map q r39)]) rfl ?_
        obtain ⟨i43, h44, hf45⟩ := bd_of hf42; clear hf42; subst h44
        refine j_iload_n X dX5_of_56 1 rfl rfl ?_
        obtain ⟨h46, hf47⟩ := chk_of hf45; clear hf45
        refine j_iald X h46 dX5_of_57 (fun v48 ev48 => ?_)
        replace hf47 := lt_of hf47 v48 ev48
        obtain ⟨er, es⟩ := rt_of hf47
        subst er
        exact j_reti X hr hlk (Nat.le_of_ble_eq_true rfl) (Nat.le_of_ble_eq_true rfl) rfl es.symm rfl dX5_of_58
      · have hf31 := br_n hf10 c29; clear hf10
        by_cases c50 : a2 = (2 : Int32)
        · have hf51 := br_y hf31 c50; clear hf31
          refine j_tabIn X (v := 2) (tgt := 48) dX5_of_12 c50 (by decide) (by decide) rfl (by decide) ?_
          refine j_aload_n X dX5_of_48 0 rfl rfl ?_
          obtain ⟨h53, hf54⟩ := chk_of hf51; clear hf51
          obtain ⟨i55, h56, hf57⟩ := bd_of hf54; clear hf54
          refine j_getr X fd_X5_14 h53 h56 dX5_of_49 ?_
          refine j_iload_n X dX5_of_52 2 rfl rfl ?_
          obtain ⟨h58, hf59⟩ := chk_of hf57; clear hf57
          obtain ⟨r60, σ61, h62, hf63⟩ := bc_of hf59; clear hf59
          refine j_callV0 X [.int a2] [] (c_X2_rowOf l D cs q i55 a2 σ2 _ _ h62) mk_X2_rowOf mv_X2_rowOf ml_X5_69 h58 rfl (by decide) ⟨rfl, rfl⟩ ⟨Nat.le_of_ble_eq_true rfl, Nat.le_of_ble_eq_true rfl⟩ rfl (Nat.le_of_ble_eq_true rfl) ⟨Nat.le_of_ble_eq_true rfl, Nat.le_of_ble_eq_true rfl⟩ dX5_of_53 rfl (st' := [va_rf (Option.map q r60)]) rfl ?_
          obtain ⟨i64, h65, hf66⟩ := bd_of hf63; clear hf63; subst h65
          refine j_iload_n X dX5_of_56 1 rfl rfl ?_
          obtain ⟨h67, hf68⟩ := chk_of hf66; clear hf66
          refine j_iald X h67 dX5_of_57 (fun v69 ev69 => ?_)
          replace hf68 := lt_of hf68 v69 ev69
          obtain ⟨er, es⟩ := rt_of hf68
          subst er
          exact j_reti X hr hlk (Nat.le_of_ble_eq_true rfl) (Nat.le_of_ble_eq_true rfl) rfl es.symm rfl dX5_of_58
        · have hf52 := br_n hf31 c50; clear hf31
          by_cases c71 : a2 = (3 : Int32)
          · have hf72 := br_y hf52 c71; clear hf52
            refine j_tabIn X (v := 3) (tgt := 59) dX5_of_12 c71 (by decide) (by decide) rfl (by decide) ?_
            refine j_aload_n X dX5_of_59 0 rfl rfl ?_
            obtain ⟨h74, hf75⟩ := chk_of hf72; clear hf72
            obtain ⟨i76, h77, hf78⟩ := bd_of hf75; clear hf75
            refine j_getr X fd_X5_14 h74 h77 dX5_of_60 ?_
            refine j_iload_n X dX5_of_63 1 rfl rfl ?_
            obtain ⟨h79, hf80⟩ := chk_of hf78; clear hf78
            obtain ⟨r81, σ82, h83, hf84⟩ := bc_of hf80; clear hf80
            refine j_callV0 X [.int a1] [] (c_X2_lowOf l D cs q i76 a1 σ2 _ _ h83) mk_X2_lowOf mv_X2_lowOf ml_X5_73 h79 rfl (by decide) ⟨rfl, rfl⟩ ⟨Nat.le_of_ble_eq_true rfl, Nat.le_of_ble_eq_true rfl⟩ rfl (Nat.le_of_ble_eq_true rfl) ⟨Nat.le_of_ble_eq_true rfl, Nat.le_of_ble_eq_true rfl⟩ dX5_of_64 rfl (st' := [.int r81]) rfl ?_
            obtain ⟨er, es⟩ := rt_of hf84
            subst er
            exact j_reti X hr hlk (Nat.le_of_ble_eq_true rfl) (Nat.le_of_ble_eq_true rfl) rfl es.symm rfl dX5_of_67
          · have hf73 := br_n hf52 c71; clear hf52
            by_cases c85 : a2 = (4 : Int32)
            · have hf86 := br_y hf73 c85; clear hf73
              refine j_tabIn X (v := 4) (tgt := 68) dX5_of_12 c85 (by decide) (by decide) rfl (by decide) ?_
              refine j_aload_n X dX5_of_68 0 rfl rfl ?_
              obtain ⟨h88, hf89⟩ := chk_of hf86; clear hf86
              obtain ⟨i90, h91, hf92⟩ := bd_of hf89; clear hf89
              refine j_getr X fd_X5_14 h88 h91 dX5_of_69 ?_
              refine j_iload_n X dX5_of_72 1 rfl rfl ?_
              obtain ⟨h93, hf94⟩ := chk_of hf92; clear hf92
              obtain ⟨r95, σ96, h97, hf98⟩ := bc_of hf94; clear hf94
              refine j_callV0 X [.int a1] [] (c_X2_highOf l D cs q i90 a1 σ2 _ _ h97) mk_X2_highOf mv_X2_highOf ml_X5_77 h93 rfl (by decide) ⟨rfl, rfl⟩ ⟨Nat.le_of_ble_eq_true rfl, Nat.le_of_ble_eq_true rfl⟩ rfl (Nat.le_of_ble_eq_true rfl) ⟨Nat.le_of_ble_eq_true rfl, Nat.le_of_ble_eq_true rfl⟩ dX5_of_73 rfl (st' := [.int r95]) rfl ?_
              obtain ⟨er, es⟩ := rt_of hf98
              subst er
              exact j_reti X hr hlk (Nat.le_of_ble_eq_true rfl) (Nat.le_of_ble_eq_true rfl) rfl es.symm rfl dX5_of_76
            · have hf87 := br_n hf73 c85; clear hf73
              refine j_tabOut X (tgt := 77) dX5_of_12 (by have z0 := lv_neT c8 (show ((0 : Int32)).toInt = 0 from rfl); have z1 := lv_neT c29 (show ((1 : Int32)).toInt = 1 from rfl); have z2 := lv_neT c50 (show ((2 : Int32)).toInt = 2 from rfl); have z3 := lv_neT c71 (show ((3 : Int32)).toInt = 3 from rfl); have z4 := lv_neT c85 (show ((4 : Int32)).toInt = 4 from rfl); omega) (by decide) ?_
              refine j_sipush X (v := -1000) dX5_of_77 (by decide) ?_
              obtain ⟨er, es⟩ := rt_of hf87
              subst er
              exact j_reti X hr hlk (Nat.le_of_ble_eq_true rfl) (Nat.le_of_ble_eq_true rfl) rfl es.symm rfl dX5_of_80
  · have hf7 := br_y hf4 c5; clear hf4
    refine j_sipush X (v := -1000) dX5_of_7 (by decide) ?_
    obtain ⟨er, es⟩ := rt_of hf7
    subst er
    exact j_reti X hr hlk (Nat.le_of_ble_eq_true rfl) (Nat.le_of_ble_eq_true rfl) rfl es.symm rfl dX5_of_10
abbrev rm_X5_parts : Room := { frames := 1, cells := 0, slots := 0, locals := 64 }
set_option maxHeartbeats 4000000 in
set_option maxRecDepth 100000 in
theorem c_X5_parts (l : Launch) (D : va_G) (cs : Nat → ClassId) (q : Nat → Nat) (a0 : Nat) (a1 : Int32) (a2 : Int32) (σ σ0 : HS) (r0 : Int32) (hf0 : f_X5_parts a0 a1 a2 σ = some (r0, σ0)) : MT l yX5_parts (Cond.code yX5_parts cX5_parts 4 (some .int) :: lw_g) rm_X5_parts D cs q σ σ0 [.ref (q a0), .int a1, .int a2] (fun z => z = q) (fun _ => some (.int r0)) 0 0 := by
  unfold f_X5_parts at hf0
  refine MT_of (cc := cX5_parts) (lv0 := [(0, .ref (q a0)), (1, .int a1), (2, .int a2)]) (by decide) (Nat.le_of_ble_eq_true rfl) rfl (fun p e s m args below meth c A X hr hlk hin => ?_)
  refine j_aload_n X dX5_parts_0 0 rfl rfl ?_
  refine j_iload_n X dX5_parts_1 1 rfl rfl ?_
  obtain ⟨h1, hf2⟩ := chk_of hf0; clear hf0
  obtain ⟨r3, σ4, h5, hf6⟩ := bc_of hf2; clear hf2
  refine j_callV0 X [.int a1] [] (c_X5_formulaOf l D cs q a0 a1 σ _ _ h5) mk_X5_formulaOf mv_X5_formulaOf ml_X5_100 h1 rfl (by decide) ⟨rfl, rfl⟩ ⟨Nat.le_of_ble_eq_true rfl, Nat.le_of_ble_eq_true rfl⟩ rfl (Nat.le_of_ble_eq_true rfl) ⟨Nat.le_of_ble_eq_true rfl, Nat.le_of_ble_eq_true rfl⟩ dX5_parts_2 rfl (st' := [va_rf (Option.map q r3)]) rfl ?_
  refine j_astore_nq X (lv' := [(3, va_rf (Option.map q r3)), (0, .ref (q a0)), (1, .int a1), (2, .int a2)]) dX5_parts_5 rfl (by decide) rfl ?_
  refine j_aload_nq X dX5_parts_6 0 rfl rfl ?_
  refine j_ifnonnull X (tgt := 12) dX5_parts_7 (by decide) (fun c45 => ?_) (fun i7 c45 => ?_)
  · subst c45; have hf8 := (show _ = some (r0, σ0) from hf6); clear hf6; unfold oc at hf8; dsimp only at hf8
    refine j_iconst X (v := -1) dX5_parts_10 (by decide) ?_
    obtain ⟨er, es⟩ := rt_of hf8
    subst er
    exact j_reti X hr hlk (Nat.le_of_ble_eq_true rfl) (Nat.le_of_ble_eq_true rfl) rfl es.symm rfl dX5_parts_11
  · subst c45; have hf9 := (show _ = some (r0, σ0) from hf6); clear hf6; unfold oc at hf9; dsimp only at hf9
    refine j_iload_n X dX5_parts_12 3 rfl rfl ?_
    by_cases c10 : a2 = (0 : Int32)
    · have hf11 := br_y hf9 c10; clear hf9
      refine j_tabIn X (v := 0) (tgt := 48) dX5_parts_13 c10 (by decide) (by decide) rfl (by decide) ?_
      refine j_aload_n X dX5_parts_48 0 rfl rfl ?_
      obtain ⟨h13, hf14⟩ := chk_of hf11; clear hf11
      refine j_geti X fd_X5_104 h13 dX5_parts_49 (fun v15 ev15 => ?_)
      replace hf14 := lt_of hf14 v15 ev15
      obtain ⟨er, es⟩ := rt_of hf14
      subst er
      exact j_reti X hr hlk (Nat.le_of_ble_eq_true rfl) (Nat.le_of_ble_eq_true rfl) rfl es.symm rfl dX5_parts_52
    · have hf12 := br_n hf9 c10; clear hf9
      by_cases c17 : a2 = (1 : Int32)
      · have hf18 := br_y hf12 c17; clear hf12
        refine j_tabIn X (v := 1) (tgt := 53) dX5_parts_13 c17 (by decide) (by decide) rfl (by decide) ?_
        refine j_aload_n X dX5_parts_53 0 rfl rfl ?_
        obtain ⟨h20, hf21⟩ := chk_of hf18; clear hf18
        refine j_geti X fd_X5_109 h20 dX5_parts_54 (fun v22 ev22 => ?_)
        replace hf21 := lt_of hf21 v22 ev22
        obtain ⟨er, es⟩ := rt_of hf21
        subst er
        exact j_reti X hr hlk (Nat.le_of_ble_eq_true rfl) (Nat.le_of_ble_eq_true rfl) rfl es.symm rfl dX5_parts_57
      · have hf19 := br_n hf12 c17; clear hf12
        by_cases c24 : a2 = (2 : Int32)
        · have hf25 := br_y hf19 c24; clear hf19
          refine j_tabIn X (v := 2) (tgt := 58) dX5_parts_13 c24 (by decide) (by decide) rfl (by decide) ?_
          refine j_aload_n X dX5_parts_58 0 rfl rfl ?_
          obtain ⟨h27, hf28⟩ := chk_of hf25; clear hf25
          refine j_geti X fd_X5_112 h27 dX5_parts_59 (fun v29 ev29 => ?_)
          replace hf28 := lt_of hf28 v29 ev29
          obtain ⟨er, es⟩ := rt_of hf28
          subst er
          exact j_reti X hr hlk (Nat.le_of_ble_eq_true rfl) (Nat.le_of_ble_eq_true rfl) rfl es.symm rfl dX5_parts_62
        · have hf26 := br_n hf19 c24; clear hf19
          by_cases c31 : a2 = (3 : Int32)
          · have hf32 := br_y hf26 c31; clear hf26
            refine j_tabIn X (v := 3) (tgt := 63) dX5_parts_13 c31 (by decide) (by decide) rfl (by decide) ?_
            refine j_aload_n X dX5_parts_63 0 rfl rfl ?_
            obtain ⟨h34, hf35⟩ := chk_of hf32; clear hf32
            refine j_geti X fd_X5_115 h34 dX5_parts_64 (fun v36 ev36 => ?_)
            replace hf35 := lt_of hf35 v36 ev36
            obtain ⟨er, es⟩ := rt_of hf35
            subst er
            exact j_reti X hr hlk (Nat.le_of_ble_eq_true rfl) (Nat.le_of_ble_eq_true rfl) rfl es.symm rfl dX5_parts_67
          · have hf33 := br_n hf26 c31; clear hf26
            by_cases c38 : a2 = (4 : Int32)
            · have hf39 := br_y hf33 c38; clear hf33
              refine j_tabIn X (v := 4) (tgt := 68) dX5_parts_13 c38 (by decide) (by decide) rfl (by decide) ?_
              refine j_aload_n X dX5_parts_68 0 rfl rfl ?_
              obtain ⟨h41, hf42⟩ := chk_of hf39; clear hf39
              refine j_geti X fd_X5_118 h41 dX5_parts_69 (fun v43 ev43 => ?_)
              replace hf42 := lt_of hf42 v43 ev43
              obtain ⟨er, es⟩ := rt_of hf42
              subst er
              exact j_reti X hr hlk (Nat.le_of_ble_eq_true rfl) (Nat.le_of_ble_eq_true rfl) rfl es.symm rfl dX5_parts_72
            · have hf40 := br_n hf33 c38; clear hf33
              refine j_tabOut X (tgt := 73) dX5_parts_13 (by have z0 := lv_neT c10 (show ((0 : Int32)).toInt = 0 from rfl); have z1 := lv_neT c17 (show ((1 : Int32)).toInt = 1 from rfl); have z2 := lv_neT c24 (show ((2 : Int32)).toInt = 2 from rfl); have z3 := lv_neT c31 (show ((3 : Int32)).toInt = 3 from rfl); have z4 := lv_neT c38 (show ((4 : Int32)).toInt = 4 from rfl); omega) (by decide) ?_
              refine j_iconst X (v := -1) dX5_parts_73 (by decide) ?_
              obtain ⟨er, es⟩ := rt_of hf40
              subst er
              exact j_reti X hr hlk (Nat.le_of_ble_eq_true rfl) (Nat.le_of_ble_eq_true rfl) rfl es.symm rfl dX5_parts_74
abbrev rm_X5_plan : Room := { frames := 1, cells := 0, slots := 0, locals := 64 }
set_option maxHeartbeats 4000000 in
set_option maxRecDepth 100000 in
theorem c_X5_plan (l : Launch) (D : va_G) (cs : Nat → ClassId) (q : Nat → Nat) (a0 : Nat) (a1 : Int32) (a2 : Int32) (a3 : Int32) (σ σ0 : HS) (r0 : Int32) (hf0 : f_X5_plan a0 a1 a2 a3 σ = some (r0, σ0)) : MT l yX5_plan (Cond.code yX5_plan cX5_plan 5 (some .int) :: lw_g) rm_X5_plan D cs q σ σ0 [.ref (q a0), .int a1, .int a2, .int a3] (fun z => z = q) (fun _ => some (.int r0)) 0 0 := by
  unfold f_X5_plan at hf0
  refine MT_of (cc := cX5_plan) (lv0 := [(0, .ref (q a0)), (1, .int a1), (2, .int a2), (3, .int a3)]) (by decide) (Nat.le_of_ble_eq_true rfl) rfl (fun p e s m args below meth c A X hr hlk hin => ?_)
  refine j_iload_n X dX5_plan_0 1 rfl rfl ?_
  refine j_iconst X (v := -1) dX5_plan_1 (by decide) ?_
  refine j_icmp_ne X (tgt := 15) dX5_plan_2 (by decide) (fun c1 => ?_) (fun c1 => ?_)
  · have hf2 := br_n hf0 c1; clear hf0
    refine j_iload_n X dX5_plan_15 1 rfl rfl ?_
    obtain ⟨r4, σ5, h6, hf7⟩ := bc_of hf2; clear hf2
    refine j_callS0 X [.int a1] [] (c_X5_isSource l D cs q a1 σ _ _ h6) mk_X5_isSource ms_X5_isSource ml_X5_61 ⟨rfl, rfl⟩ ⟨Nat.le_of_ble_eq_true rfl, Nat.le_of_ble_eq_true rfl⟩ rfl (Nat.le_of_ble_eq_true rfl) ⟨Nat.le_of_ble_eq_true rfl, Nat.le_of_ble_eq_true rfl⟩ dX5_plan_16 rfl (st' := [.int r4]) rfl ?_
    refine j_if_eq X (tgt := 31) dX5_plan_19 (by decide) (fun c8 => ?_) (fun c8 => ?_)
    · have hf9 := br_y hf7 c8; clear hf7
      refine j_iconst X (v := -1) dX5_plan_31 (by decide) ?_
      obtain ⟨er, es⟩ := rt_of hf9
      subst er
      exact j_reti X hr hlk (Nat.le_of_ble_eq_true rfl) (Nat.le_of_ble_eq_true rfl) rfl es.symm rfl dX5_plan_32
    · have hf10 := br_n hf7 c8; clear hf7
      refine j_iload_n X dX5_plan_22 2 rfl rfl ?_
      refine j_if_lt X (tgt := 31) dX5_plan_23 (by decide) (fun c11 => ?_) (fun c11 => ?_)
      · have hf12 := br_y hf10 c11; clear hf10
        refine j_iconst X (v := -1) dX5_plan_31 (by decide) ?_
        obtain ⟨er, es⟩ := rt_of hf12
        subst er
        exact j_reti X hr hlk (Nat.le_of_ble_eq_true rfl) (Nat.le_of_ble_eq_true rfl) rfl es.symm rfl dX5_plan_32
      · have hf13 := br_n hf10 c11; clear hf10
        refine j_iload_n X dX5_plan_26 2 rfl rfl ?_
        refine j_iconst X (v := 2) dX5_plan_27 (by decide) ?_
        refine j_icmp_le X (tgt := 33) dX5_plan_28 (by decide) (fun c14 => ?_) (fun c14 => ?_)
        · have hf15 := br_y hf13 c14; clear hf13
          refine j_iload_n X dX5_plan_33 2 rfl rfl ?_
          refine j_iconst X (v := 2) dX5_plan_34 (by decide) ?_
          refine j_icmp_ne X (tgt := 55) dX5_plan_35 (by decide) (fun c17 => ?_) (fun c17 => ?_)
          · have hf18 := br_n hf15 c17; clear hf15
            refine j_iload_n X dX5_plan_55 2 rfl rfl ?_
            refine j_iload_n X dX5_plan_56 3 rfl rfl ?_
            obtain ⟨r20, σ21, h22, hf23⟩ := bc_of hf18; clear hf18
            refine j_callS0 X [.int a2, .int a3] [] (c_X5_mayBecome l D cs q a2 a3 σ5 _ _ h22) mk_X5_mayBecome ms_X5_mayBecome ml_X5_65 ⟨rfl, rfl⟩ ⟨Nat.le_of_ble_eq_true rfl, Nat.le_of_ble_eq_true rfl⟩ rfl (Nat.le_of_ble_eq_true rfl) ⟨Nat.le_of_ble_eq_true rfl, Nat.le_of_ble_eq_true rfl⟩ dX5_plan_57 rfl (st' := [.int r20]) rfl ?_
            refine j_istore X (lv' := [(4, .int r20), (0, .ref (q a0)), (1, .int a1), (2, .int a2), (3, .int a3)]) dX5_plan_60 (by decide) rfl ?_
            refine j_iload X dX5_plan_62 0 rfl ?_
            refine j_if_ne X (tgt := 70) dX5_plan_64 (by decide) (fun c24 => ?_) (fun c24 => ?_)
            · have hf25 := br_n hf23 c24; clear hf23
              refine j_aload_n X dX5_plan_70 1 rfl rfl ?_
              obtain ⟨h27, hf28⟩ := chk_of hf25; clear hf25
              obtain ⟨i29, h30, hf31⟩ := bd_of hf28; clear hf28
              refine j_getr X fd_X5_14 h27 h30 dX5_plan_71 ?_
              obtain ⟨h32, hf33⟩ := chk_of hf31; clear hf31
              refine j_geti X fd_X5_217 h32 dX5_plan_74 (fun v34 ev34 => ?_)
              replace hf33 := lt_of hf33 v34 ev34
              refine j_bipush X (v := 8) dX5_plan_77 (by decide) ?_
              refine j_icmp_lt X (tgt := 85) dX5_plan_79 (by decide) (fun c36 => ?_) (fun c36 => ?_)
              · have hf37 := br_y hf33 c36; clear hf33
                refine j_aload_n X dX5_plan_85 1 rfl rfl ?_
                refine j_getr X fd_X5_14 h27 h30 dX5_plan_86 ?_
                obtain ⟨i42, h43, hf44⟩ := bd_of hf37; clear hf37
                refine j_getr X fd_X5_220 h32 h43 dX5_plan_89 ?_
                refine j_aload_n X dX5_plan_92 1 rfl rfl ?_
                refine j_getr X fd_X5_14 h27 h30 dX5_plan_93 ?_
                refine j_geti X fd_X5_217 h32 dX5_plan_96 (fun v48 ev48 => ?_)
                replace hf44 := lt_of hf44 v48 ev48
                refine j_iload_n X dX5_plan_99 2 rfl rfl ?_
                obtain ⟨h50, hf51⟩ := chk_of hf44; clear hf44
                refine j_iast X h50 dX5_plan_100 (fun σ52 eσ52 => ?_)
                replace hf51 := lt_of hf51 σ52 eσ52
                have h54 : isO σ52 5 a0 := by rw [eσ52]; exact h27
                have h55 : isO σ52 2 i29 := by rw [eσ52]; exact h32
                refine j_aload_n X dX5_plan_101 1 rfl rfl ?_
                obtain ⟨i56, h57, hf58⟩ := bd_of hf51; clear hf51
                refine j_getr X fd_X5_14 h54 h57 dX5_plan_102 ?_
                obtain ⟨h59, hf60⟩ := chk_of hf58; clear hf58
                obtain ⟨i61, h62, hf63⟩ := bd_of hf60; clear hf60
                refine j_getr X fd_X5_223 h59 h62 dX5_plan_105 ?_
                refine j_aload_n X dX5_plan_108 1 rfl rfl ?_
                refine j_getr X fd_X5_14 h54 h57 dX5_plan_109 ?_
                refine j_geti X fd_X5_217 h59 dX5_plan_112 (fun v67 ev67 => ?_)
                replace hf63 := lt_of hf63 v67 ev67
                refine j_iload_n X dX5_plan_115 3 rfl rfl ?_
                obtain ⟨h69, hf70⟩ := chk_of hf63; clear hf63
                refine j_iast X h69 dX5_plan_116 (fun σ71 eσ71 => ?_)
                replace hf70 := lt_of hf70 σ71 eσ71
                have h73 : isO σ71 5 a0 := by rw [eσ71]; exact h54
                have h74 : isO σ71 2 i29 := by rw [eσ71]; exact h55
                have h75 : isO σ71 2 i56 := by rw [eσ71]; exact h59
                refine j_aload_n X dX5_plan_117 1 rfl rfl ?_
                obtain ⟨i76, h77, hf78⟩ := bd_of hf70; clear hf70
                refine j_getr X fd_X5_14 h73 h77 dX5_plan_118 ?_
                obtain ⟨h79, hf80⟩ := chk_of hf78; clear hf78
                obtain ⟨i81, h82, hf83⟩ := bd_of hf80; clear hf80
                refine j_getr X fd_X5_226 h79 h82 dX5_plan_121 ?_
                refine j_aload_n X dX5_plan_124 1 rfl rfl ?_
                refine j_getr X fd_X5_14 h73 h77 dX5_plan_125 ?_
                refine j_geti X fd_X5_217 h79 dX5_plan_128 (fun v87 ev87 => ?_)
                replace hf83 := lt_of hf83 v87 ev87
                refine j_iload_n X dX5_plan_131 4 rfl rfl ?_
                obtain ⟨h89, hf90⟩ := chk_of hf83; clear hf83
                refine j_iast X h89 dX5_plan_132 (fun σ91 eσ91 => ?_)
                replace hf90 := lt_of hf90 σ91 eσ91
                have h93 : isO σ91 5 a0 := by rw [eσ91]; exact h73
                have h94 : isO σ91 2 i29 := by rw [eσ91]; exact h74
                have h95 : isO σ91 2 i56 := by rw [eσ91]; exact h75
                have h96 : isO σ91 2 i76 := by rw [eσ91]; exact h79
                refine j_aload_n X dX5_plan_133 1 rfl rfl ?_
                obtain ⟨i97, h98, hf99⟩ := bd_of hf90; clear hf90
                refine j_getr X fd_X5_14 h93 h98 dX5_plan_134 ?_
                refine j_dup X dX5_plan_137 rfl ?_
                obtain ⟨h100, hf101⟩ := chk_of hf99; clear hf99
                refine j_geti X fd_X5_217 h100 dX5_plan_138 (fun v102 ev102 => ?_)
                replace hf101 := lt_of hf101 v102 ev102
                refine j_iconst X (v := 1) dX5_plan_141 (by decide) ?_
                refine j_iadd X dX5_plan_142 ?_
                refine j_puti X fp_X5_217 h100 dX5_plan_143 (fun σ104 eσ104 => ?_)
                replace hf101 := lt_of hf101 σ104 eσ104
                have h106 : isO σ104 5 a0 := by rw [eσ104]; exact h93
                have h107 : isO σ104 2 i29 := by rw [eσ104]; exact h94
                have h108 : isO σ104 2 i56 := by rw [eσ104]; exact h95
                have h109 : isO σ104 2 i76 := by rw [eσ104]; exact h96
                have h110 : isO σ104 2 i97 := by rw [eσ104]; exact h100
                refine j_aload_n X dX5_plan_146 1 rfl rfl ?_
                obtain ⟨i111, h112, hf113⟩ := bd_of hf101; clear hf101
                refine j_getr X fd_X5_14 h106 h112 dX5_plan_147 ?_
                obtain ⟨h114, hf115⟩ := chk_of hf113; clear hf113
                refine j_geti X fd_X5_217 h114 dX5_plan_150 (fun v116 ev116 => ?_)
                replace hf115 := lt_of hf115 v116 ev116
                obtain ⟨er, es⟩ := rt_of hf115
                subst er
                exact j_reti X hr hlk (Nat.le_of_ble_eq_true rfl) (Nat.le_of_ble_eq_true rfl) rfl es.symm rfl dX5_plan_153
              · have hf38 := br_n hf33 c36; clear hf33
                refine j_bipush X (v := -4) dX5_plan_82 (by decide) ?_
                obtain ⟨er, es⟩ := rt_of hf38
                subst er
                exact j_reti X hr hlk (Nat.le_of_ble_eq_true rfl) (Nat.le_of_ble_eq_true rfl) rfl es.symm rfl dX5_plan_84
            · have hf26 := br_y hf23 c24; clear hf23
              refine j_bipush X (v := -2) dX5_plan_67 (by decide) ?_
              obtain ⟨er, es⟩ := rt_of hf26
              subst er
              exact j_reti X hr hlk (Nat.le_of_ble_eq_true rfl) (Nat.le_of_ble_eq_true rfl) rfl es.symm rfl dX5_plan_69
          · have hf19 := br_y hf15 c17; clear hf15
            refine j_iload_n X dX5_plan_38 3 rfl rfl ?_
            refine j_if_lt X (tgt := 51) dX5_plan_39 (by decide) (fun c118 => ?_) (fun c118 => ?_)
            · have hf119 := br_y hf19 c118; clear hf19
              refine j_iconst X (v := 0) dX5_plan_51 (by decide) ?_
              refine j_goto X (tgt := 60) dX5_plan_52 (by decide) ?_
              refine j_nmi (fun v121 ev121 => ?_)
              replace hf119 := lt_of hf119 v121 ev121
              refine j_istore X (lv' := [(4, .int v121), (0, .ref (q a0)), (1, .int a1), (2, .int a2), (3, .int a3)]) dX5_plan_60 (by decide) rfl ?_
              refine j_iload X dX5_plan_62 0 rfl ?_
              refine j_if_ne X (tgt := 70) dX5_plan_64 (by decide) (fun c123 => ?_) (fun c123 => ?_)
              · have hf124 := br_n hf119 c123; clear hf119
                refine j_aload_n X dX5_plan_70 1 rfl rfl ?_
                obtain ⟨h126, hf127⟩ := chk_of hf124; clear hf124
                obtain ⟨i128, h129, hf130⟩ := bd_of hf127; clear hf127
                refine j_getr X fd_X5_14 h126 h129 dX5_plan_71 ?_
                obtain ⟨h131, hf132⟩ := chk_of hf130; clear hf130
                refine j_geti X fd_X5_217 h131 dX5_plan_74 (fun v133 ev133 => ?_)
                replace hf132 := lt_of hf132 v133 ev133
                refine j_bipush X (v := 8) dX5_plan_77 (by decide) ?_
                refine j_icmp_lt X (tgt := 85) dX5_plan_79 (by decide) (fun c135 => ?_) (fun c135 => ?_)
                · have hf136 := br_y hf132 c135; clear hf132
                  refine j_aload_n X dX5_plan_85 1 rfl rfl ?_
                  refine j_getr X fd_X5_14 h126 h129 dX5_plan_86 ?_
                  obtain ⟨i141, h142, hf143⟩ := bd_of hf136; clear hf136
                  refine j_getr X fd_X5_220 h131 h142 dX5_plan_89 ?_
                  refine j_aload_n X dX5_plan_92 1 rfl rfl ?_
                  refine j_getr X fd_X5_14 h126 h129 dX5_plan_93 ?_
                  refine j_geti X fd_X5_217 h131 dX5_plan_96 (fun v147 ev147 => ?_)
                  replace hf143 := lt_of hf143 v147 ev147
                  refine j_iload_n X dX5_plan_99 2 rfl rfl ?_
                  obtain ⟨h149, hf150⟩ := chk_of hf143; clear hf143
                  refine j_iast X h149 dX5_plan_100 (fun σ151 eσ151 => ?_)
                  replace hf150 := lt_of hf150 σ151 eσ151
                  have h153 : isO σ151 5 a0 := by rw [eσ151]; exact h126
                  have h154 : isO σ151 2 i128 := by rw [eσ151]; exact h131
                  refine j_aload_n X dX5_plan_101 1 rfl rfl ?_
                  obtain ⟨i155, h156, hf157⟩ := bd_of hf150; clear hf150
                  refine j_getr X fd_X5_14 h153 h156 dX5_plan_102 ?_
                  obtain ⟨h158, hf159⟩ := chk_of hf157; clear hf157
                  obtain ⟨i160, h161, hf162⟩ := bd_of hf159; clear hf159
                  refine j_getr X fd_X5_223 h158 h161 dX5_plan_105 ?_
                  refine j_aload_n X dX5_plan_108 1 rfl rfl ?_
                  refine j_getr X fd_X5_14 h153 h156 dX5_plan_109 ?_
                  refine j_geti X fd_X5_217 h158 dX5_plan_112 (fun v166 ev166 => ?_)
                  replace hf162 := lt_of hf162 v166 ev166
                  refine j_iload_n X dX5_plan_115 3 rfl rfl ?_
                  obtain ⟨h168, hf169⟩ := chk_of hf162; clear hf162
                  refine j_iast X h168 dX5_plan_116 (fun σ170 eσ170 => ?_)
                  replace hf169 := lt_of hf169 σ170 eσ170
                  have h172 : isO σ170 5 a0 := by rw [eσ170]; exact h153
                  have h173 : isO σ170 2 i128 := by rw [eσ170]; exact h154
                  have h174 : isO σ170 2 i155 := by rw [eσ170]; exact h158
                  refine j_aload_n X dX5_plan_117 1 rfl rfl ?_
                  obtain ⟨i175, h176, hf177⟩ := bd_of hf169; clear hf169
                  refine j_getr X fd_X5_14 h172 h176 dX5_plan_118 ?_
                  obtain ⟨h178, hf179⟩ := chk_of hf177; clear hf177
                  obtain ⟨i180, h181, hf182⟩ := bd_of hf179; clear hf179
                  refine j_getr X fd_X5_226 h178 h181 dX5_plan_121 ?_
                  refine j_aload_n X dX5_plan_124 1 rfl rfl ?_
                  refine j_getr X fd_X5_14 h172 h176 dX5_plan_125 ?_
                  refine j_geti X fd_X5_217 h178 dX5_plan_128 (fun v186 ev186 => ?_)
                  replace hf182 := lt_of hf182 v186 ev186
                  refine j_iload_n X dX5_plan_131 4 rfl rfl ?_
                  obtain ⟨h188, hf189⟩ := chk_of hf182; clear hf182
                  refine j_iast X h188 dX5_plan_132 (fun σ190 eσ190 => ?_)
                  replace hf189 := lt_of hf189 σ190 eσ190
                  have h192 : isO σ190 5 a0 := by rw [eσ190]; exact h172
                  have h193 : isO σ190 2 i128 := by rw [eσ190]; exact h173
                  have h194 : isO σ190 2 i155 := by rw [eσ190]; exact h174
                  have h195 : isO σ190 2 i175 := by rw [eσ190]; exact h178
                  refine j_aload_n X dX5_plan_133 1 rfl rfl ?_
                  obtain ⟨i196, h197, hf198⟩ := bd_of hf189; clear hf189
                  refine j_getr X fd_X5_14 h192 h197 dX5_plan_134 ?_
                  refine j_dup X dX5_plan_137 rfl ?_
                  obtain ⟨h199, hf200⟩ := chk_of hf198; clear hf198
                  refine j_geti X fd_X5_217 h199 dX5_plan_138 (fun v201 ev201 => ?_)
                  replace hf200 := lt_of hf200 v201 ev201
                  refine j_iconst X (v := 1) dX5_plan_141 (by decide) ?_
                  refine j_iadd X dX5_plan_142 ?_
                  refine j_puti X fp_X5_217 h199 dX5_plan_143 (fun σ203 eσ203 => ?_)
                  replace hf200 := lt_of hf200 σ203 eσ203
                  have h205 : isO σ203 5 a0 := by rw [eσ203]; exact h192
                  have h206 : isO σ203 2 i128 := by rw [eσ203]; exact h193
                  have h207 : isO σ203 2 i155 := by rw [eσ203]; exact h194
                  have h208 : isO σ203 2 i175 := by rw [eσ203]; exact h195
                  have h209 : isO σ203 2 i196 := by rw [eσ203]; exact h199
                  refine j_aload_n X dX5_plan_146 1 rfl rfl ?_
                  obtain ⟨i210, h211, hf212⟩ := bd_of hf200; clear hf200
                  refine j_getr X fd_X5_14 h205 h211 dX5_plan_147 ?_
                  obtain ⟨h213, hf214⟩ := chk_of hf212; clear hf212
                  refine j_geti X fd_X5_217 h213 dX5_plan_150 (fun v215 ev215 => ?_)
                  replace hf214 := lt_of hf214 v215 ev215
                  obtain ⟨er, es⟩ := rt_of hf214
                  subst er
                  exact j_reti X hr hlk (Nat.le_of_ble_eq_true rfl) (Nat.le_of_ble_eq_true rfl) rfl es.symm rfl dX5_plan_153
                · have hf137 := br_n hf132 c135; clear hf132
                  refine j_bipush X (v := -4) dX5_plan_82 (by decide) ?_
                  obtain ⟨er, es⟩ := rt_of hf137
                  subst er
                  exact j_reti X hr hlk (Nat.le_of_ble_eq_true rfl) (Nat.le_of_ble_eq_true rfl) rfl es.symm rfl dX5_plan_84
              · have hf125 := br_y hf119 c123; clear hf119
                refine j_bipush X (v := -2) dX5_plan_67 (by decide) ?_
                obtain ⟨er, es⟩ := rt_of hf125
                subst er
                exact j_reti X hr hlk (Nat.le_of_ble_eq_true rfl) (Nat.le_of_ble_eq_true rfl) rfl es.symm rfl dX5_plan_69
            · have hf120 := br_n hf19 c118; clear hf19
              refine j_iload_n X dX5_plan_42 3 rfl rfl ?_
              refine j_iconst X (v := 4) dX5_plan_43 (by decide) ?_
              refine j_icmp_gt X (tgt := 51) dX5_plan_44 (by decide) (fun c217 => ?_) (fun c217 => ?_)
              · have hf218 := br_y hf120 c217; clear hf120
                refine j_iconst X (v := 0) dX5_plan_51 (by decide) ?_
                refine j_goto X (tgt := 60) dX5_plan_52 (by decide) ?_
                refine j_nmi (fun v220 ev220 => ?_)
                replace hf218 := lt_of hf218 v220 ev220
                refine j_istore X (lv' := [(4, .int v220), (0, .ref (q a0)), (1, .int a1), (2, .int a2), (3, .int a3)]) dX5_plan_60 (by decide) rfl ?_
                refine j_iload X dX5_plan_62 0 rfl ?_
                refine j_if_ne X (tgt := 70) dX5_plan_64 (by decide) (fun c222 => ?_) (fun c222 => ?_)
                · have hf223 := br_n hf218 c222; clear hf218
                  refine j_aload_n X dX5_plan_70 1 rfl rfl ?_
                  obtain ⟨h225, hf226⟩ := chk_of hf223; clear hf223
                  obtain ⟨i227, h228, hf229⟩ := bd_of hf226; clear hf226
                  refine j_getr X fd_X5_14 h225 h228 dX5_plan_71 ?_
                  obtain ⟨h230, hf231⟩ := chk_of hf229; clear hf229
                  refine j_geti X fd_X5_217 h230 dX5_plan_74 (fun v232 ev232 => ?_)
                  replace hf231 := lt_of hf231 v232 ev232
                  refine j_bipush X (v := 8) dX5_plan_77 (by decide) ?_
                  refine j_icmp_lt X (tgt := 85) dX5_plan_79 (by decide) (fun c234 => ?_) (fun c234 => ?_)
                  · have hf235 := br_y hf231 c234; clear hf231
                    refine j_aload_n X dX5_plan_85 1 rfl rfl ?_
                    refine j_getr X fd_X5_14 h225 h228 dX5_plan_86 ?_
                    obtain ⟨i240, h241, hf242⟩ := bd_of hf235; clear hf235
                    refine j_getr X fd_X5_220 h230 h241 dX5_plan_89 ?_
                    refine j_aload_n X dX5_plan_92 1 rfl rfl ?_
                    refine j_getr X fd_X5_14 h225 h228 dX5_plan_93 ?_
                    refine j_geti X fd_X5_217 h230 dX5_plan_96 (fun v246 ev246 => ?_)
                    replace hf242 := lt_of hf242 v246 ev246
                    refine j_iload_n X dX5_plan_99 2 rfl rfl ?_
                    obtain ⟨h248, hf249⟩ := chk_of hf242; clear hf242
                    refine j_iast X h248 dX5_plan_100 (fun σ250 eσ250 => ?_)
                    replace hf249 := lt_of hf249 σ250 eσ250
                    have h252 : isO σ250 5 a0 := by rw [eσ250]; exact h225
                    have h253 : isO σ250 2 i227 := by rw [eσ250]; exact h230
                    refine j_aload_n X dX5_plan_101 1 rfl rfl ?_
                    obtain ⟨i254, h255, hf256⟩ := bd_of hf249; clear hf249
                    refine j_getr X fd_X5_14 h252 h255 dX5_plan_102 ?_
                    obtain ⟨h257, hf258⟩ := chk_of hf256; clear hf256
                    obtain ⟨i259, h260, hf261⟩ := bd_of hf258; clear hf258
                    refine j_getr X fd_X5_223 h257 h260 dX5_plan_105 ?_
                    refine j_aload_n X dX5_plan_108 1 rfl rfl ?_
                    refine j_getr X fd_X5_14 h252 h255 dX5_plan_109 ?_
                    refine j_geti X fd_X5_217 h257 dX5_plan_112 (fun v265 ev265 => ?_)
                    replace hf261 := lt_of hf261 v265 ev265
                    refine j_iload_n X dX5_plan_115 3 rfl rfl ?_
                    obtain ⟨h267, hf268⟩ := chk_of hf261; clear hf261
                    refine j_iast X h267 dX5_plan_116 (fun σ269 eσ269 => ?_)
                    replace hf268 := lt_of hf268 σ269 eσ269
                    have h271 : isO σ269 5 a0 := by rw [eσ269]; exact h252
                    have h272 : isO σ269 2 i227 := by rw [eσ269]; exact h253
                    have h273 : isO σ269 2 i254 := by rw [eσ269]; exact h257
                    refine j_aload_n X dX5_plan_117 1 rfl rfl ?_
                    obtain ⟨i274, h275, hf276⟩ := bd_of hf268; clear hf268
                    refine j_getr X fd_X5_14 h271 h275 dX5_plan_118 ?_
                    obtain ⟨h277, hf278⟩ := chk_of hf276; clear hf276
                    obtain ⟨i279, h280, hf281⟩ := bd_of hf278; clear hf278
                    refine j_getr X fd_X5_226 h277 h280 dX5_plan_121 ?_
                    refine j_aload_n X dX5_plan_124 1 rfl rfl ?_
                    refine j_getr X fd_X5_14 h271 h275 dX5_plan_125 ?_
                    refine j_geti X fd_X5_217 h277 dX5_plan_128 (fun v285 ev285 => ?_)
                    replace hf281 := lt_of hf281 v285 ev285
                    refine j_iload_n X dX5_plan_131 4 rfl rfl ?_
                    obtain ⟨h287, hf288⟩ := chk_of hf281; clear hf281
                    refine j_iast X h287 dX5_plan_132 (fun σ289 eσ289 => ?_)
                    replace hf288 := lt_of hf288 σ289 eσ289
                    have h291 : isO σ289 5 a0 := by rw [eσ289]; exact h271
                    have h292 : isO σ289 2 i227 := by rw [eσ289]; exact h272
                    have h293 : isO σ289 2 i254 := by rw [eσ289]; exact h273
                    have h294 : isO σ289 2 i274 := by rw [eσ289]; exact h277
                    refine j_aload_n X dX5_plan_133 1 rfl rfl ?_
                    obtain ⟨i295, h296, hf297⟩ := bd_of hf288; clear hf288
                    refine j_getr X fd_X5_14 h291 h296 dX5_plan_134 ?_
                    refine j_dup X dX5_plan_137 rfl ?_
                    obtain ⟨h298, hf299⟩ := chk_of hf297; clear hf297
                    refine j_geti X fd_X5_217 h298 dX5_plan_138 (fun v300 ev300 => ?_)
                    replace hf299 := lt_of hf299 v300 ev300
                    refine j_iconst X (v := 1) dX5_plan_141 (by decide) ?_
                    refine j_iadd X dX5_plan_142 ?_
                    refine j_puti X fp_X5_217 h298 dX5_plan_143 (fun σ302 eσ302 => ?_)
                    replace hf299 := lt_of hf299 σ302 eσ302
                    have h304 : isO σ302 5 a0 := by rw [eσ302]; exact h291
                    have h305 : isO σ302 2 i227 := by rw [eσ302]; exact h292
                    have h306 : isO σ302 2 i254 := by rw [eσ302]; exact h293
                    have h307 : isO σ302 2 i274 := by rw [eσ302]; exact h294
                    have h308 : isO σ302 2 i295 := by rw [eσ302]; exact h298
                    refine j_aload_n X dX5_plan_146 1 rfl rfl ?_
                    obtain ⟨i309, h310, hf311⟩ := bd_of hf299; clear hf299
                    refine j_getr X fd_X5_14 h304 h310 dX5_plan_147 ?_
                    obtain ⟨h312, hf313⟩ := chk_of hf311; clear hf311
                    refine j_geti X fd_X5_217 h312 dX5_plan_150 (fun v314 ev314 => ?_)
                    replace hf313 := lt_of hf313 v314 ev314
                    obtain ⟨er, es⟩ := rt_of hf313
                    subst er
                    exact j_reti X hr hlk (Nat.le_of_ble_eq_true rfl) (Nat.le_of_ble_eq_true rfl) rfl es.symm rfl dX5_plan_153
                  · have hf236 := br_n hf231 c234; clear hf231
                    refine j_bipush X (v := -4) dX5_plan_82 (by decide) ?_
                    obtain ⟨er, es⟩ := rt_of hf236
                    subst er
                    exact j_reti X hr hlk (Nat.le_of_ble_eq_true rfl) (Nat.le_of_ble_eq_true rfl) rfl es.symm rfl dX5_plan_84
                · have hf224 := br_y hf218 c222; clear hf218
                  refine j_bipush X (v := -2) dX5_plan_67 (by decide) ?_
                  obtain ⟨er, es⟩ := rt_of hf224
                  subst er
                  exact j_reti X hr hlk (Nat.le_of_ble_eq_true rfl) (Nat.le_of_ble_eq_true rfl) rfl es.symm rfl dX5_plan_69
              · have hf219 := br_n hf120 c217; clear hf120
                refine j_iconst X (v := 1) dX5_plan_47 (by decide) ?_
                refine j_goto X (tgt := 60) dX5_plan_48 (by decide) ?_
                refine j_nmi (fun v316 ev316 => ?_)
                replace hf219 := lt_of hf219 v316 ev316
                refine j_istore X (lv' := [(4, .int v316), (0, .ref (q a0)), (1, .int a1), (2, .int a2), (3, .int a3)]) dX5_plan_60 (by decide) rfl ?_
                refine j_iload X dX5_plan_62 0 rfl ?_
                refine j_if_ne X (tgt := 70) dX5_plan_64 (by decide) (fun c318 => ?_) (fun c318 => ?_)
                · have hf319 := br_n hf219 c318; clear hf219
                  refine j_aload_n X dX5_plan_70 1 rfl rfl ?_
                  obtain ⟨h321, hf322⟩ := chk_of hf319; clear hf319
                  obtain ⟨i323, h324, hf325⟩ := bd_of hf322; clear hf322
                  refine j_getr X fd_X5_14 h321 h324 dX5_plan_71 ?_
                  obtain ⟨h326, hf327⟩ := chk_of hf325; clear hf325
                  refine j_geti X fd_X5_217 h326 dX5_plan_74 (fun v328 ev328 => ?_)
                  replace hf327 := lt_of hf327 v328 ev328
                  refine j_bipush X (v := 8) dX5_plan_77 (by decide) ?_
                  refine j_icmp_lt X (tgt := 85) dX5_plan_79 (by decide) (fun c330 => ?_) (fun c330 => ?_)
                  · have hf331 := br_y hf327 c330; clear hf327
                    refine j_aload_n X dX5_plan_85 1 rfl rfl ?_
                    refine j_getr X fd_X5_14 h321 h324 dX5_plan_86 ?_
                    obtain ⟨i336, h337, hf338⟩ := bd_of hf331; clear hf331
                    refine j_getr X fd_X5_220 h326 h337 dX5_plan_89 ?_
                    refine j_aload_n X dX5_plan_92 1 rfl rfl ?_
                    refine j_getr X fd_X5_14 h321 h324 dX5_plan_93 ?_
                    refine j_geti X fd_X5_217 h326 dX5_plan_96 (fun v342 ev342 => ?_)
                    replace hf338 := lt_of hf338 v342 ev342
                    refine j_iload_n X dX5_plan_99 2 rfl rfl ?_
                    obtain ⟨h344, hf345⟩ := chk_of hf338; clear hf338
                    refine j_iast X h344 dX5_plan_100 (fun σ346 eσ346 => ?_)
                    replace hf345 := lt_of hf345 σ346 eσ346
                    have h348 : isO σ346 5 a0 := by rw [eσ346]; exact h321
                    have h349 : isO σ346 2 i323 := by rw [eσ346]; exact h326
                    refine j_aload_n X dX5_plan_101 1 rfl rfl ?_
                    obtain ⟨i350, h351, hf352⟩ := bd_of hf345; clear hf345
                    refine j_getr X fd_X5_14 h348 h351 dX5_plan_102 ?_
                    obtain ⟨h353, hf354⟩ := chk_of hf352; clear hf352
                    obtain ⟨i355, h356, hf357⟩ := bd_of hf354; clear hf354
                    refine j_getr X fd_X5_223 h353 h356 dX5_plan_105 ?_
                    refine j_aload_n X dX5_plan_108 1 rfl rfl ?_
                    refine j_getr X fd_X5_14 h348 h351 dX5_plan_109 ?_
                    refine j_geti X fd_X5_217 h353 dX5_plan_112 (fun v361 ev361 => ?_)
                    replace hf357 := lt_of hf357 v361 ev361
                    refine j_iload_n X dX5_plan_115 3 rfl rfl ?_
                    obtain ⟨h363, hf364⟩ := chk_of hf357; clear hf357
                    refine j_iast X h363 dX5_plan_116 (fun σ365 eσ365 => ?_)
                    replace hf364 := lt_of hf364 σ365 eσ365
                    have h367 : isO σ365 5 a0 := by rw [eσ365]; exact h348
                    have h368 : isO σ365 2 i323 := by rw [eσ365]; exact h349
                    have h369 : isO σ365 2 i350 := by rw [eσ365]; exact h353
                    refine j_aload_n X dX5_plan_117 1 rfl rfl ?_
                    obtain ⟨i370, h371, hf372⟩ := bd_of hf364; clear hf364
                    refine j_getr X fd_X5_14 h367 h371 dX5_plan_118 ?_
                    obtain ⟨h373, hf374⟩ := chk_of hf372; clear hf372
                    obtain ⟨i375, h376, hf377⟩ := bd_of hf374; clear hf374
                    refine j_getr X fd_X5_226 h373 h376 dX5_plan_121 ?_
                    refine j_aload_n X dX5_plan_124 1 rfl rfl ?_
                    refine j_getr X fd_X5_14 h367 h371 dX5_plan_125 ?_
                    refine j_geti X fd_X5_217 h373 dX5_plan_128 (fun v381 ev381 => ?_)
                    replace hf377 := lt_of hf377 v381 ev381
                    refine j_iload_n X dX5_plan_131 4 rfl rfl ?_
                    obtain ⟨h383, hf384⟩ := chk_of hf377; clear hf377
                    refine j_iast X h383 dX5_plan_132 (fun σ385 eσ385 => ?_)
                    replace hf384 := lt_of hf384 σ385 eσ385
                    have h387 : isO σ385 5 a0 := by rw [eσ385]; exact h367
                    have h388 : isO σ385 2 i323 := by rw [eσ385]; exact h368
                    have h389 : isO σ385 2 i350 := by rw [eσ385]; exact h369
                    have h390 : isO σ385 2 i370 := by rw [eσ385]; exact h373
                    refine j_aload_n X dX5_plan_133 1 rfl rfl ?_
                    obtain ⟨i391, h392, hf393⟩ := bd_of hf384; clear hf384
                    refine j_getr X fd_X5_14 h387 h392 dX5_plan_134 ?_
                    refine j_dup X dX5_plan_137 rfl ?_
                    obtain ⟨h394, hf395⟩ := chk_of hf393; clear hf393
                    refine j_geti X fd_X5_217 h394 dX5_plan_138 (fun v396 ev396 => ?_)
                    replace hf395 := lt_of hf395 v396 ev396
                    refine j_iconst X (v := 1) dX5_plan_141 (by decide) ?_
                    refine j_iadd X dX5_plan_142 ?_
                    refine j_puti X fp_X5_217 h394 dX5_plan_143 (fun σ398 eσ398 => ?_)
                    replace hf395 := lt_of hf395 σ398 eσ398
                    have h400 : isO σ398 5 a0 := by rw [eσ398]; exact h387
                    have h401 : isO σ398 2 i323 := by rw [eσ398]; exact h388
                    have h402 : isO σ398 2 i350 := by rw [eσ398]; exact h389
                    have h403 : isO σ398 2 i370 := by rw [eσ398]; exact h390
                    have h404 : isO σ398 2 i391 := by rw [eσ398]; exact h394
                    refine j_aload_n X dX5_plan_146 1 rfl rfl ?_
                    obtain ⟨i405, h406, hf407⟩ := bd_of hf395; clear hf395
                    refine j_getr X fd_X5_14 h400 h406 dX5_plan_147 ?_
                    obtain ⟨h408, hf409⟩ := chk_of hf407; clear hf407
                    refine j_geti X fd_X5_217 h408 dX5_plan_150 (fun v410 ev410 => ?_)
                    replace hf409 := lt_of hf409 v410 ev410
                    obtain ⟨er, es⟩ := rt_of hf409
                    subst er
                    exact j_reti X hr hlk (Nat.le_of_ble_eq_true rfl) (Nat.le_of_ble_eq_true rfl) rfl es.symm rfl dX5_plan_153
                  · have hf332 := br_n hf327 c330; clear hf327
                    refine j_bipush X (v := -4) dX5_plan_82 (by decide) ?_
                    obtain ⟨er, es⟩ := rt_of hf332
                    subst er
                    exact j_reti X hr hlk (Nat.le_of_ble_eq_true rfl) (Nat.le_of_ble_eq_true rfl) rfl es.symm rfl dX5_plan_84
                · have hf320 := br_y hf219 c318; clear hf219
                  refine j_bipush X (v := -2) dX5_plan_67 (by decide) ?_
                  obtain ⟨er, es⟩ := rt_of hf320
                  subst er
                  exact j_reti X hr hlk (Nat.le_of_ble_eq_true rfl) (Nat.le_of_ble_eq_true rfl) rfl es.symm rfl dX5_plan_69
        · have hf16 := br_n hf13 c14; clear hf13
          refine j_iconst X (v := -1) dX5_plan_31 (by decide) ?_
          obtain ⟨er, es⟩ := rt_of hf16
          subst er
          exact j_reti X hr hlk (Nat.le_of_ble_eq_true rfl) (Nat.le_of_ble_eq_true rfl) rfl es.symm rfl dX5_plan_32
  · have hf3 := br_y hf0 c1; clear hf0
    refine j_aload_n X dX5_plan_5 0 rfl rfl ?_
    obtain ⟨h412, hf413⟩ := chk_of hf3; clear hf3
    obtain ⟨i414, h415, hf416⟩ := bd_of hf413; clear hf413
    refine j_getr X fd_X5_14 h412 h415 dX5_plan_6 ?_
    refine j_iconst X (v := 0) dX5_plan_9 (by decide) ?_
    obtain ⟨h417, hf418⟩ := chk_of hf416; clear hf416
    refine j_puti X fp_X5_217 h417 dX5_plan_10 (fun σ419 eσ419 => ?_)
    replace hf418 := lt_of hf418 σ419 eσ419
    have h421 : isO σ419 5 a0 := by rw [eσ419]; exact h412
    have h422 : isO σ419 2 i414 := by rw [eσ419]; exact h417
    refine j_iconst X (v := 0) dX5_plan_13 (by decide) ?_
    obtain ⟨er, es⟩ := rt_of hf418
    subst er
    exact j_reti X hr hlk (Nat.le_of_ble_eq_true rfl) (Nat.le_of_ble_eq_true rfl) rfl es.symm rfl dX5_plan_14
abbrev rm_X5_put : Room := { frames := 1, cells := 0, slots := 0, locals := 64 }
set_option maxHeartbeats 4000000 in
set_option maxRecDepth 100000 in
theorem c_X5_put (l : Launch) (D : va_G) (cs : Nat → ClassId) (q : Nat → Nat) (a0 : Nat) (a1 : Int32) (a2 : Int32) (a3 : Int64) (σ σ0 : HS) (r0 : Int32) (hf0 : f_X5_put a0 a1 a2 a3 σ = some (r0, σ0)) : MT l yX5_put (Cond.code yX5_put cX5_put 5 (some .int) :: lw_g) rm_X5_put D cs q σ σ0 [.ref (q a0), .int a1, .int a2, .long a3] (fun z => z = q) (fun _ => some (.int r0)) 0 0 := by
  unfold f_X5_put at hf0
  refine MT_of (cc := cX5_put) (lv0 := [(0, .ref (q a0)), (1, .int a1), (2, .int a2), (3, .long a3)]) (by decide) (Nat.le_of_ble_eq_true rfl) rfl (fun p e s m args below meth c A X hr hlk hin => ?_)
  refine j_iload_n X dX5_put_0 1 rfl rfl ?_
  obtain ⟨r1, σ2, h3, hf4⟩ := bc_of hf0; clear hf0
  refine j_callS0 X [.int a1] [] (c_X5_isList l D cs q a1 σ _ _ h3) mk_X5_isList ms_X5_isList ml_X5_232 ⟨rfl, rfl⟩ ⟨Nat.le_of_ble_eq_true rfl, Nat.le_of_ble_eq_true rfl⟩ rfl (Nat.le_of_ble_eq_true rfl) ⟨Nat.le_of_ble_eq_true rfl, Nat.le_of_ble_eq_true rfl⟩ dX5_put_1 rfl (st' := [.int r1]) rfl ?_
  refine j_if_ne X (tgt := 9) dX5_put_4 (by decide) (fun c5 => ?_) (fun c5 => ?_)
  · have hf6 := br_n hf4 c5; clear hf4
    refine j_aload_n X dX5_put_9 0 rfl rfl ?_
    obtain ⟨h8, hf9⟩ := chk_of hf6; clear hf6
    obtain ⟨i10, h11, hf12⟩ := bd_of hf9; clear hf9
    refine j_getr X fd_X5_44 h8 h11 dX5_put_10 ?_
    refine j_iload_n X dX5_put_13 1 rfl rfl ?_
    obtain ⟨h13, hf14⟩ := chk_of hf12; clear hf12
    refine j_iald X h13 dX5_put_14 (fun v15 ev15 => ?_)
    replace hf14 := lt_of hf14 v15 ev15
    refine j_bipush X (v := -11) dX5_put_15 (by decide) ?_
    refine j_icmp_ne X (tgt := 23) dX5_put_17 (by decide) (fun c17 => ?_) (fun c17 => ?_)
    · have hf18 := br_n hf14 c17; clear hf14
      refine j_iload_n X dX5_put_23 2 rfl rfl ?_
      refine j_if_lt X (tgt := 37) dX5_put_24 (by decide) (fun c20 => ?_) (fun c20 => ?_)
      · have hf21 := br_y hf18 c20; clear hf18
        refine j_bipush X (v := -13) dX5_put_37 (by decide) ?_
        obtain ⟨er, es⟩ := rt_of hf21
        subst er
        exact j_reti X hr hlk (Nat.le_of_ble_eq_true rfl) (Nat.le_of_ble_eq_true rfl) rfl es.symm rfl dX5_put_39
      · have hf22 := br_n hf18 c20; clear hf18
        refine j_iload_n X dX5_put_27 2 rfl rfl ?_
        refine j_aload_n X dX5_put_28 0 rfl rfl ?_
        refine j_getr X fd_X5_44 h8 h11 dX5_put_29 ?_
        refine j_iload_n X dX5_put_32 1 rfl rfl ?_
        obtain ⟨h26, hf27⟩ := chk_of hf22; clear hf22
        refine j_iald X h26 dX5_put_33 (fun v28 ev28 => ?_)
        replace hf27 := lt_of hf27 v28 ev28
        refine j_icmp_lt X (tgt := 40) dX5_put_34 (by decide) (fun c30 => ?_) (fun c30 => ?_)
        · have hf31 := br_y hf27 c30; clear hf27
          refine j_aload_n X dX5_put_40 0 rfl rfl ?_
          obtain ⟨i33, h34, hf35⟩ := bd_of hf31; clear hf31
          refine j_getr X fd_X5_41 h8 h34 dX5_put_41 ?_
          refine j_iload_n X dX5_put_44 1 rfl rfl ?_
          obtain ⟨h36, hf37⟩ := chk_of hf35; clear hf35
          refine j_aaldR X h36 dX5_put_45 (fun o38 eo38 => ?_)
          replace hf37 := lt_of hf37 o38 eo38
          obtain ⟨i40, h41, hf42⟩ := bd_of hf37; clear hf37; subst h41
          refine j_iload_n X dX5_put_46 2 rfl rfl ?_
          refine j_lload_n X dX5_put_47 3 rfl rfl ?_
          obtain ⟨h43, hf44⟩ := chk_of hf42; clear hf42
          refine j_last X h43 dX5_put_48 (fun σ45 eσ45 => ?_)
          replace hf44 := lt_of hf44 σ45 eσ45
          have h47 : isO σ45 5 a0 := by rw [eσ45]; exact h8
          refine j_iconst X (v := 1) dX5_put_49 (by decide) ?_
          obtain ⟨er, es⟩ := rt_of hf44
          subst er
          exact j_reti X hr hlk (Nat.le_of_ble_eq_true rfl) (Nat.le_of_ble_eq_true rfl) rfl es.symm rfl dX5_put_50
        · have hf32 := br_n hf27 c30; clear hf27
          refine j_bipush X (v := -13) dX5_put_37 (by decide) ?_
          obtain ⟨er, es⟩ := rt_of hf32
          subst er
          exact j_reti X hr hlk (Nat.le_of_ble_eq_true rfl) (Nat.le_of_ble_eq_true rfl) rfl es.symm rfl dX5_put_39
    · have hf19 := br_y hf14 c17; clear hf14
      refine j_bipush X (v := -11) dX5_put_20 (by decide) ?_
      obtain ⟨er, es⟩ := rt_of hf19
      subst er
      exact j_reti X hr hlk (Nat.le_of_ble_eq_true rfl) (Nat.le_of_ble_eq_true rfl) rfl es.symm rfl dX5_put_22
  · have hf7 := br_y hf4 c5; clear hf4
    refine j_iconst X (v := -1) dX5_put_7 (by decide) ?_
    obtain ⟨er, es⟩ := rt_of hf7
    subst er
    exact j_reti X hr hlk (Nat.le_of_ble_eq_true rfl) (Nat.le_of_ble_eq_true rfl) rfl es.symm rfl dX5_put_8
abbrev rm_X5_rises : Room := { frames := 5, cells := 0, slots := 0, locals := 320 }
set_option maxHeartbeats 4000000 in
set_option maxRecDepth 100000 in
theorem c_X5_rises (l : Launch) (D : va_G) (cs : Nat → ClassId) (q : Nat → Nat) (a0 : Nat) (a1 : Int32) (a2 : Int32) (σ σ0 : HS) (r0 : Int32) (hf0 : f_X5_rises a0 a1 a2 σ = some (r0, σ0)) : MT l yX5_rises (Cond.code yX5_rises cX5_rises 4 (some .int) :: lw_g) rm_X5_rises D cs q σ σ0 [.ref (q a0), .int a1, .int a2] (fun z => z = q) (fun _ => some (.int r0)) 0 0 := by
  unfold f_X5_rises at hf0
  refine MT_of (cc := cX5_rises) (lv0 := [(0, .ref (q a0)), (1, .int a1), (2, .int a2)]) (by decide) (Nat.le_of_ble_eq_true rfl) rfl (fun p e s m args below meth c A X hr hlk hin => ?_)
  refine j_aload_n X dX5_rises_0 0 rfl rfl ?_
  refine j_iload_n X dX5_rises_1 1 rfl rfl ?_
  obtain ⟨h1, hf2⟩ := chk_of hf0; clear hf0
  obtain ⟨r3, σ4, h5, hf6⟩ := bc_of hf2; clear hf2
  refine j_callV0 X [.int a1] [] (c_X5_formulaOf l D cs q a0 a1 σ _ _ h5) mk_X5_formulaOf mv_X5_formulaOf ml_X5_100 h1 rfl (by decide) ⟨rfl, rfl⟩ ⟨Nat.le_of_ble_eq_true rfl, Nat.le_of_ble_eq_true rfl⟩ rfl (Nat.le_of_ble_eq_true rfl) ⟨Nat.le_of_ble_eq_true rfl, Nat.le_of_ble_eq_true rfl⟩ dX5_rises_2 rfl (st' := [va_rf (Option.map q r3)]) rfl ?_
  refine j_astore_nq X (lv' := [(3, va_rf (Option.map q r3)), (0, .ref (q a0)), (1, .int a1), (2, .int a2)]) dX5_rises_5 rfl (by decide) rfl ?_
  refine j_aload_nq X dX5_rises_6 0 rfl rfl ?_
  refine j_ifnull X (tgt := 17) dX5_rises_7 (by decide) (fun c42 => ?_) (fun i7 c42 => ?_)
  · subst c42; have hf8 := (show _ = some (r0, σ0) from hf6); clear hf6; unfold oc at hf8; dsimp only at hf8
    refine j_iconst X (v := -1) dX5_rises_17 (by decide) ?_
    obtain ⟨er, es⟩ := rt_of hf8
    subst er
    exact j_reti X hr hlk (Nat.le_of_ble_eq_true rfl) (Nat.le_of_ble_eq_true rfl) rfl es.symm rfl dX5_rises_18
  · subst c42; have hf9 := (show _ = some (r0, σ0) from hf6); clear hf6; unfold oc at hf9; dsimp only at hf9
    refine j_iload_n X dX5_rises_10 3 rfl rfl ?_
    obtain ⟨r10, σ11, h12, hf13⟩ := bc_of hf9; clear hf9
    refine j_callS0 X [.int a2] [] (c_X5_isSource l D cs q a2 σ4 _ _ h12) mk_X5_isSource ms_X5_isSource ml_X5_61 ⟨rfl, rfl⟩ ⟨Nat.le_of_ble_eq_true rfl, Nat.le_of_ble_eq_true rfl⟩ rfl (Nat.le_of_ble_eq_true rfl) ⟨Nat.le_of_ble_eq_true rfl, Nat.le_of_ble_eq_true rfl⟩ dX5_rises_11 rfl (st' := [.int r10]) rfl ?_
    refine j_if_ne X (tgt := 19) dX5_rises_14 (by decide) (fun c14 => ?_) (fun c14 => ?_)
    · have hf15 := br_n hf13 c14; clear hf13
      refine j_aload_n X dX5_rises_19 1 rfl rfl ?_
      refine j_aload_n X dX5_rises_20 0 rfl rfl ?_
      obtain ⟨h17, hf18⟩ := chk_of hf15; clear hf15
      obtain ⟨r19, σ20, h21, hf22⟩ := bc_of hf18; clear hf18
      refine j_callV0 X [.ref (q i7)] [] (c_X5_carryAsItIs l D cs q a0 i7 σ11 _ _ h21) mk_X5_carryAsItIs mv_X5_carryAsItIs ml_X5_127 h17 rfl (by decide) ⟨rfl, rfl⟩ ⟨Nat.le_of_ble_eq_true rfl, Nat.le_of_ble_eq_true rfl⟩ rfl (Nat.le_of_ble_eq_true rfl) ⟨Nat.le_of_ble_eq_true rfl, Nat.le_of_ble_eq_true rfl⟩ dX5_rises_21 rfl (st' := []) rfl ?_
      refine j_aload_n X dX5_rises_24 1 rfl rfl ?_
      obtain ⟨h23, hf24⟩ := chk_of hf22; clear hf22
      obtain ⟨i25, h26, hf27⟩ := bd_of hf24; clear hf24
      refine j_getr X fd_X5_35 h23 h26 dX5_rises_25 ?_
      obtain ⟨h28, hf29⟩ := chk_of hf27; clear hf27
      refine j_geti X fd_X5_131 h28 dX5_rises_28 (fun v30 ev30 => ?_)
      replace hf29 := lt_of hf29 v30 ev30
      refine j_if_eq X (tgt := 39) dX5_rises_31 (by decide) (fun c32 => ?_) (fun c32 => ?_)
      · have hf33 := br_y hf29 c32; clear hf29
        refine j_aload_n X dX5_rises_39 1 rfl rfl ?_
        refine j_getr X fd_X5_35 h23 h26 dX5_rises_40 ?_
        refine j_aload_n X dX5_rises_43 0 rfl rfl ?_
        refine j_iload_n X dX5_rises_44 3 rfl rfl ?_
        obtain ⟨r38, σ39, h40, hf41⟩ := bc_of hf33; clear hf33
        refine j_callV0 X [.ref (q i7), .int a2] [] (c_X4_changeBy l D cs q i25 i7 a2 σ20 _ _ h40) mk_X4_changeBy mv_X4_changeBy ml_X5_165 h28 rfl (by decide) ⟨rfl, rfl⟩ ⟨Nat.le_of_ble_eq_true rfl, Nat.le_of_ble_eq_true rfl⟩ rfl (Nat.le_of_ble_eq_true rfl) ⟨Nat.le_of_ble_eq_true rfl, Nat.le_of_ble_eq_true rfl⟩ dX5_rises_45 rfl (st' := [.int r38]) rfl ?_
        obtain ⟨er, es⟩ := rt_of hf41
        subst er
        exact j_reti X hr hlk (Nat.le_of_ble_eq_true rfl) (Nat.le_of_ble_eq_true rfl) rfl es.symm rfl dX5_rises_48
      · have hf34 := br_n hf29 c32; clear hf29
        refine j_bipush X (v := -6) dX5_rises_34 (by decide) ?_
        refine j_goto X (tgt := 48) dX5_rises_36 (by decide) ?_
        obtain ⟨er, es⟩ := rt_of hf34
        subst er
        exact j_reti X hr hlk (Nat.le_of_ble_eq_true rfl) (Nat.le_of_ble_eq_true rfl) rfl es.symm rfl dX5_rises_48
    · have hf16 := br_y hf13 c14; clear hf13
      refine j_iconst X (v := -1) dX5_rises_17 (by decide) ?_
      obtain ⟨er, es⟩ := rt_of hf16
      subst er
      exact j_reti X hr hlk (Nat.le_of_ble_eq_true rfl) (Nat.le_of_ble_eq_true rfl) rfl es.symm rfl dX5_rises_18
abbrev rm_X5_set : Room := { frames := 1, cells := 0, slots := 0, locals := 64 }
set_option maxHeartbeats 4000000 in
set_option maxRecDepth 100000 in
theorem c_X5_set (l : Launch) (D : va_G) (cs : Nat → ClassId) (q : Nat → Nat) (a0 : Nat) (a1 : Int32) (a2 : Int32) (a3 : Int32) (σ σ0 : HS) (r0 : Int32) (hf0 : f_X5_set a0 a1 a2 a3 σ = some (r0, σ0)) : MT l yX5_set (Cond.code yX5_set cX5_set 6 (some .int) :: lw_g) rm_X5_set D cs q σ σ0 [.ref (q a0), .int a1, .int a2, .int a3] (fun z => z = q) (fun _ => some (.int r0)) 0 0 := by
  unfold f_X5_set at hf0
  refine MT_of (cc := cX5_set) (lv0 := [(0, .ref (q a0)), (1, .int a1), (2, .int a2), (3, .int a3)]) (by decide) (Nat.le_of_ble_eq_true rfl) rfl (fun p e s m args below meth c A X hr hlk hin => ?_)
  refine j_iload_n X dX5_set_0 1 rfl rfl ?_
  obtain ⟨r1, σ2, h3, hf4⟩ := bc_of hf0; clear hf0
  refine j_callS0 X [.int a1] [] (c_X5_isSource l D cs q a1 σ _ _ h3) mk_X5_isSource ms_X5_isSource ml_X5_61 ⟨rfl, rfl⟩ ⟨Nat.le_of_ble_eq_true rfl, Nat.le_of_ble_eq_true rfl⟩ rfl (Nat.le_of_ble_eq_true rfl) ⟨Nat.le_of_ble_eq_true rfl, Nat.le_of_ble_eq_true rfl⟩ dX5_set_1 rfl (st' := [.int r1]) rfl ?_
  refine j_if_eq X (tgt := 16) dX5_set_4 (by decide) (fun c5 => ?_) (fun c5 => ?_)
  · have hf6 := br_y hf4 c5; clear hf4
    refine j_sipush X (v := -1000) dX5_set_16 (by decide) ?_
    obtain ⟨er, es⟩ := rt_of hf6
    subst er
    exact j_reti X hr hlk (Nat.le_of_ble_eq_true rfl) (Nat.le_of_ble_eq_true rfl) rfl es.symm rfl dX5_set_19
  · have hf7 := br_n hf4 c5; clear hf4
    refine j_iload_n X dX5_set_7 2 rfl rfl ?_
    refine j_if_lt X (tgt := 16) dX5_set_8 (by decide) (fun c8 => ?_) (fun c8 => ?_)
    · have hf9 := br_y hf7 c8; clear hf7
      refine j_sipush X (v := -1000) dX5_set_16 (by decide) ?_
      obtain ⟨er, es⟩ := rt_of hf9
      subst er
      exact j_reti X hr hlk (Nat.le_of_ble_eq_true rfl) (Nat.le_of_ble_eq_true rfl) rfl es.symm rfl dX5_set_19
    · have hf10 := br_n hf7 c8; clear hf7
      refine j_iload_n X dX5_set_11 2 rfl rfl ?_
      refine j_iconst X (v := 2) dX5_set_12 (by decide) ?_
      refine j_icmp_le X (tgt := 20) dX5_set_13 (by decide) (fun c11 => ?_) (fun c11 => ?_)
      · have hf12 := br_y hf10 c11; clear hf10
        refine j_iload_n X dX5_set_20 2 rfl rfl ?_
        refine j_iload_n X dX5_set_21 3 rfl rfl ?_
        obtain ⟨r14, σ15, h16, hf17⟩ := bc_of hf12; clear hf12
        refine j_callS0 X [.int a2, .int a3] [] (c_X5_mayBecome l D cs q a2 a3 σ2 _ _ h16) mk_X5_mayBecome ms_X5_mayBecome ml_X5_65 ⟨rfl, rfl⟩ ⟨Nat.le_of_ble_eq_true rfl, Nat.le_of_ble_eq_true rfl⟩ rfl (Nat.le_of_ble_eq_true rfl) ⟨Nat.le_of_ble_eq_true rfl, Nat.le_of_ble_eq_true rfl⟩ dX5_set_22 rfl (st' := [.int r14]) rfl ?_
        refine j_if_ne X (tgt := 32) dX5_set_25 (by decide) (fun c18 => ?_) (fun c18 => ?_)
        · have hf19 := br_n hf17 c18; clear hf17
          refine j_aload_n X dX5_set_32 0 rfl rfl ?_
          obtain ⟨h21, hf22⟩ := chk_of hf19; clear hf19
          obtain ⟨i23, h24, hf25⟩ := bd_of hf22; clear hf22
          refine j_getr X fd_X5_14 h21 h24 dX5_set_33 ?_
          refine j_iload_n X dX5_set_36 2 rfl rfl ?_
          obtain ⟨h26, hf27⟩ := chk_of hf25; clear hf25
          obtain ⟨r28, σ29, h30, hf31⟩ := bc_of hf27; clear hf27
          refine j_callV0 X [.int a2] [] (c_X2_rowOf l D cs q i23 a2 σ15 _ _ h30) mk_X2_rowOf mv_X2_rowOf ml_X5_69 h26 rfl (by decide) ⟨rfl, rfl⟩ ⟨Nat.le_of_ble_eq_true rfl, Nat.le_of_ble_eq_true rfl⟩ rfl (Nat.le_of_ble_eq_true rfl) ⟨Nat.le_of_ble_eq_true rfl, Nat.le_of_ble_eq_true rfl⟩ dX5_set_37 rfl (st' := [va_rf (Option.map q r28)]) rfl ?_
          obtain ⟨i32, h33, hf34⟩ := bd_of hf31; clear hf31; subst h33
          refine j_astore X (lv' := [(4, .ref (q i32)), (0, .ref (q a0)), (1, .int a1), (2, .int a2), (3, .int a3)]) dX5_set_40 (by decide) rfl ?_
          refine j_aload X dX5_set_42 0 rfl ?_
          refine j_iload_n X dX5_set_44 2 rfl rfl ?_
          obtain ⟨h35, hf36⟩ := chk_of hf34; clear hf34
          refine j_iald X h35 dX5_set_45 (fun v37 ev37 => ?_)
          replace hf36 := lt_of hf36 v37 ev37
          refine j_istore X (lv' := [(5, .int v37), (4, .ref (q i32)), (0, .ref (q a0)), (1, .int a1), (2, .int a2), (3, .int a3)]) dX5_set_46 (by decide) rfl ?_
          refine j_aload X dX5_set_48 1 rfl ?_
          refine j_iload_n X dX5_set_50 3 rfl rfl ?_
          refine j_iload_n X dX5_set_51 5 rfl rfl ?_
          obtain ⟨h39, hf40⟩ := chk_of hf36; clear hf36
          refine j_iast X h39 dX5_set_52 (fun σ41 eσ41 => ?_)
          replace hf40 := lt_of hf40 σ41 eσ41
          refine j_iload X dX5_set_53 0 rfl ?_
          obtain ⟨er, es⟩ := rt_of hf40
          subst er
          exact j_reti X hr hlk (Nat.le_of_ble_eq_true rfl) (Nat.le_of_ble_eq_true rfl) rfl es.symm rfl dX5_set_55
        · have hf20 := br_y hf17 c18; clear hf17
          refine j_sipush X (v := -1001) dX5_set_28 (by decide) ?_
          obtain ⟨er, es⟩ := rt_of hf20
          subst er
          exact j_reti X hr hlk (Nat.le_of_ble_eq_true rfl) (Nat.le_of_ble_eq_true rfl) rfl es.symm rfl dX5_set_31
      · have hf13 := br_n hf10 c11; clear hf10
        refine j_sipush X (v := -1000) dX5_set_16 (by decide) ?_
        obtain ⟨er, es⟩ := rt_of hf13
        subst er
        exact j_reti X hr hlk (Nat.le_of_ble_eq_true rfl) (Nat.le_of_ble_eq_true rfl) rfl es.symm rfl dX5_set_19
abbrev rm_X5_span : Room := { frames := 5, cells := 0, slots := 0, locals := 320 }
set_option maxHeartbeats 4000000 in
set_option maxRecDepth 100000 in
theorem c_X5_span (l : Launch) (D : va_G) (cs : Nat → ClassId) (q : Nat → Nat) (a0 : Nat) (a1 : Int32) (a2 : Int32) (σ σ0 : HS) (r0 : Int64) (hf0 : f_X5_span a0 a1 a2 σ = some (r0, σ0)) : MT l yX5_span (Cond.code yX5_span cX5_span 4 (some .long) :: lw_g) rm_X5_span D cs q σ σ0 [.ref (q a0), .int a1, .int a2] (fun z => z = q) (fun _ => some (.long r0)) 0 0 := by
  unfold f_X5_span at hf0
  refine MT_of (cc := cX5_span) (lv0 := [(0, .ref (q a0)), (1, .int a1), (2, .int a2)]) (by decide) (Nat.le_of_ble_eq_true rfl) rfl (fun p e s m args below meth c A X hr hlk hin => ?_)
  refine j_aload_n X dX5_span_0 0 rfl rfl ?_
  refine j_iload_n X dX5_span_1 1 rfl rfl ?_
  obtain ⟨h1, hf2⟩ := chk_of hf0; clear hf0
  obtain ⟨r3, σ4, h5, hf6⟩ := bc_of hf2; clear hf2
  refine j_callV0 X [.int a1] [] (c_X5_formulaOf l D cs q a0 a1 σ _ _ h5) mk_X5_formulaOf mv_X5_formulaOf ml_X5_100 h1 rfl (by decide) ⟨rfl, rfl⟩ ⟨Nat.le_of_ble_eq_true rfl, Nat.le_of_ble_eq_true rfl⟩ rfl (Nat.le_of_ble_eq_true rfl) ⟨Nat.le_of_ble_eq_true rfl, Nat.le_of_ble_eq_true rfl⟩ dX5_span_2 rfl (st' := [va_rf (Option.map q r3)]) rfl ?_
  refine j_astore_nq X (lv' := [(3, va_rf (Option.map q r3)), (0, .ref (q a0)), (1, .int a1), (2, .int a2)]) dX5_span_5 rfl (by decide) rfl ?_
  refine j_aload_nq X dX5_span_6 0 rfl rfl ?_
  refine j_ifnull X (tgt := 19) dX5_span_7 (by decide) (fun c56 => ?_) (fun i7 c56 => ?_)
  · subst c56; have hf8 := (show _ = some (r0, σ0) from hf6); clear hf6; unfold oc at hf8; dsimp only at hf8
    refine j_ldc2 X k_X5_125 dX5_span_19 ?_
    obtain ⟨er, es⟩ := rt_of hf8
    subst er
    exact j_retl X hr hlk (Nat.le_of_ble_eq_true rfl) (Nat.le_of_ble_eq_true rfl) rfl es.symm rfl dX5_span_22
  · subst c56; have hf9 := (show _ = some (r0, σ0) from hf6); clear hf6; unfold oc at hf9; dsimp only at hf9
    refine j_iload_n X dX5_span_10 3 rfl rfl ?_
    refine j_if_lt X (tgt := 19) dX5_span_11 (by decide) (fun c10 => ?_) (fun c10 => ?_)
    · have hf11 := br_y hf9 c10; clear hf9
      refine j_ldc2 X k_X5_125 dX5_span_19 ?_
      obtain ⟨er, es⟩ := rt_of hf11
      subst er
      exact j_retl X hr hlk (Nat.le_of_ble_eq_true rfl) (Nat.le_of_ble_eq_true rfl) rfl es.symm rfl dX5_span_22
    · have hf12 := br_n hf9 c10; clear hf9
      refine j_iload_n X dX5_span_14 3 rfl rfl ?_
      refine j_iconst X (v := 2) dX5_span_15 (by decide) ?_
      refine j_icmp_le X (tgt := 23) dX5_span_16 (by decide) (fun c13 => ?_) (fun c13 => ?_)
      · have hf14 := br_y hf12 c13; clear hf12
        refine j_aload_n X dX5_span_23 1 rfl rfl ?_
        refine j_aload_n X dX5_span_24 0 rfl rfl ?_
        obtain ⟨h16, hf17⟩ := chk_of hf14; clear hf14
        obtain ⟨r18, σ19, h20, hf21⟩ := bc_of hf17; clear hf17
        refine j_callV0 X [.ref (q i7)] [] (c_X5_carryAsItIs l D cs q a0 i7 σ4 _ _ h20) mk_X5_carryAsItIs mv_X5_carryAsItIs ml_X5_127 h16 rfl (by decide) ⟨rfl, rfl⟩ ⟨Nat.le_of_ble_eq_true rfl, Nat.le_of_ble_eq_true rfl⟩ rfl (Nat.le_of_ble_eq_true rfl) ⟨Nat.le_of_ble_eq_true rfl, Nat.le_of_ble_eq_true rfl⟩ dX5_span_25 rfl (st' := []) rfl ?_
        refine j_aload_n X dX5_span_28 1 rfl rfl ?_
        obtain ⟨h22, hf23⟩ := chk_of hf21; clear hf21
        obtain ⟨i24, h25, hf26⟩ := bd_of hf23; clear hf23
        refine j_getr X fd_X5_35 h22 h25 dX5_span_29 ?_
        obtain ⟨h27, hf28⟩ := chk_of hf26; clear hf26
        refine j_geti X fd_X5_131 h27 dX5_span_32 (fun v29 ev29 => ?_)
        replace hf28 := lt_of hf28 v29 ev29
        refine j_if_eq X (tgt := 43) dX5_span_35 (by decide) (fun c31 => ?_) (fun c31 => ?_)
        · have hf32 := br_y hf28 c31; clear hf28
          refine j_aload_n X dX5_span_43 1 rfl rfl ?_
          refine j_getr X fd_X5_35 h22 h25 dX5_span_44 ?_
          refine j_iload_n X dX5_span_47 3 rfl rfl ?_
          obtain ⟨r37, σ38, h39, hf40⟩ := bc_of hf32; clear hf32
          refine j_callV0 X [.int a2] [] (c_X4_told l D cs q i24 a2 σ19 _ _ h39) mk_X4_told mv_X4_told ml_X5_137 h27 rfl (by decide) ⟨rfl, rfl⟩ ⟨Nat.le_of_ble_eq_true rfl, Nat.le_of_ble_eq_true rfl⟩ rfl (Nat.le_of_ble_eq_true rfl) ⟨Nat.le_of_ble_eq_true rfl, Nat.le_of_ble_eq_true rfl⟩ dX5_span_48 rfl (st' := [.long r37]) rfl ?_
          obtain ⟨er, es⟩ := rt_of hf40
          subst er
          exact j_retl X hr hlk (Nat.le_of_ble_eq_true rfl) (Nat.le_of_ble_eq_true rfl) rfl es.symm rfl dX5_span_51
        · have hf33 := br_n hf28 c31; clear hf28
          refine j_aload_n X dX5_span_38 1 rfl rfl ?_
          refine j_aload_n X dX5_span_39 0 rfl rfl ?_
          obtain ⟨r41, σ42, h43, hf44⟩ := bc_of hf33; clear hf33
          refine j_callV0 X [.ref (q i7)] [] (c_X5_keepWay l D cs q a0 i7 σ19 _ _ h43) mk_X5_keepWay mv_X5_keepWay ml_X5_134 h22 rfl (by decide) ⟨rfl, rfl⟩ ⟨Nat.le_of_ble_eq_true rfl, Nat.le_of_ble_eq_true rfl⟩ rfl (Nat.le_of_ble_eq_true rfl) ⟨Nat.le_of_ble_eq_true rfl, Nat.le_of_ble_eq_true rfl⟩ dX5_span_40 rfl (st' := []) rfl ?_
          refine j_aload_n X dX5_span_43 1 rfl rfl ?_
          obtain ⟨h45, hf46⟩ := chk_of hf44; clear hf44
          obtain ⟨i47, h48, hf49⟩ := bd_of hf46; clear hf46
          refine j_getr X fd_X5_35 h45 h48 dX5_span_44 ?_
          refine j_iload_n X dX5_span_47 3 rfl rfl ?_
          obtain ⟨h50, hf51⟩ := chk_of hf49; clear hf49
          obtain ⟨r52, σ53, h54, hf55⟩ := bc_of hf51; clear hf51
          refine j_callV0 X [.int a2] [] (c_X4_told l D cs q i47 a2 σ42 _ _ h54) mk_X4_told mv_X4_told ml_X5_137 h50 rfl (by decide) ⟨rfl, rfl⟩ ⟨Nat.le_of_ble_eq_true rfl, Nat.le_of_ble_eq_true rfl⟩ rfl (Nat.le_of_ble_eq_true rfl) ⟨Nat.le_of_ble_eq_true rfl, Nat.le_of_ble_eq_true rfl⟩ dX5_span_48 rfl (st' := [.long r52]) rfl ?_
          obtain ⟨er, es⟩ := rt_of hf55
          subst er
          exact j_retl X hr hlk (Nat.le_of_ble_eq_true rfl) (Nat.le_of_ble_eq_true rfl) rfl es.symm rfl dX5_span_51
      · have hf15 := br_n hf12 c13; clear hf12
        refine j_ldc2 X k_X5_125 dX5_span_19 ?_
        obtain ⟨er, es⟩ := rt_of hf15
        subst er
        exact j_retl X hr hlk (Nat.le_of_ble_eq_true rfl) (Nat.le_of_ble_eq_true rfl) rfl es.symm rfl dX5_span_22
abbrev rm_X5_split : Room := { frames := 5, cells := 0, slots := 0, locals := 320 }
set_option maxHeartbeats 4000000 in
set_option maxRecDepth 100000 in
theorem c_X5_split (l : Launch) (D : va_G) (cs : Nat → ClassId) (q : Nat → Nat) (a0 : Nat) (a1 : Int32) (a2 : Int32) (a3 : Int32) (a4 : Int32) (σ σ0 : HS) (r0 : Int64) (hf0 : f_X5_split a0 a1 a2 a3 a4 σ = some (r0, σ0)) : MT l yX5_split (Cond.code yX5_split cX5_split 6 (some .long) :: lw_g) rm_X5_split D cs q σ σ0 [.ref (q a0), .int a1, .int a2, .int a3, .int a4] (fun z => z = q) (fun _ => some (.long r0)) 0 0 := by
  unfold f_X5_split at hf0
  refine MT_of (cc := cX5_split) (lv0 := [(0, .ref (q a0)), (1, .int a1), (2, .int a2), (3, .int a3), (4, .int a4)]) (by decide) (Nat.le_of_ble_eq_true rfl) rfl (fun p e s m args below meth c A X hr hlk hin => ?_)
  refine j_aload_n X dX5_split_0 0 rfl rfl ?_
  refine j_iload_n X dX5_split_1 1 rfl rfl ?_
  obtain ⟨h1, hf2⟩ := chk_of hf0; clear hf0
  obtain ⟨r3, σ4, h5, hf6⟩ := bc_of hf2; clear hf2
  refine j_callV0 X [.int a1] [] (c_X5_formulaOf l D cs q a0 a1 σ _ _ h5) mk_X5_formulaOf mv_X5_formulaOf ml_X5_100 h1 rfl (by decide) ⟨rfl, rfl⟩ ⟨Nat.le_of_ble_eq_true rfl, Nat.le_of_ble_eq_true rfl⟩ rfl (Nat.le_of_ble_eq_true rfl) ⟨Nat.le_of_ble_eq_true rfl, Nat.le_of_ble_eq_true rfl⟩ dX5_split_2 rfl (st' := [va_rf (Option.map q r3)]) rfl ?_
  refine j_astoreq X (lv' := [(5, va_rf (Option.map q r3)), (0, .ref (q a0)), (1, .int a1), (2, .int a2), (3, .int a3), (4, .int a4)]) dX5_split_5 (by decide) rfl ?_
  refine j_aloadq X dX5_split_7 0 rfl ?_
  refine j_ifnull X (tgt := 30) dX5_split_9 (by decide) (fun c84 => ?_) (fun i7 c84 => ?_)
  · subst c84; have hf8 := (show _ = some (r0, σ0) from hf6); clear hf6; unfold oc at hf8; dsimp only at hf8
    refine j_ldc2 X k_X5_125 dX5_split_30 ?_
    obtain ⟨er, es⟩ := rt_of hf8
    subst er
    exact j_retl X hr hlk (Nat.le_of_ble_eq_true rfl) (Nat.le_of_ble_eq_true rfl) rfl es.symm rfl dX5_split_33
  · subst c84; have hf9 := (show _ = some (r0, σ0) from hf6); clear hf6; unfold oc at hf9; dsimp only at hf9
    refine j_iload_n X dX5_split_12 3 rfl rfl ?_
    obtain ⟨r10, σ11, h12, hf13⟩ := bc_of hf9; clear hf9
    refine j_callS0 X [.int a2] [] (c_X5_isSource l D cs q a2 σ4 _ _ h12) mk_X5_isSource ms_X5_isSource ml_X5_61 ⟨rfl, rfl⟩ ⟨Nat.le_of_ble_eq_true rfl, Nat.le_of_ble_eq_true rfl⟩ rfl (Nat.le_of_ble_eq_true rfl) ⟨Nat.le_of_ble_eq_true rfl, Nat.le_of_ble_eq_true rfl⟩ dX5_split_13 rfl (st' := [.int r10]) rfl ?_
    refine j_if_eq X (tgt := 30) dX5_split_16 (by decide) (fun c14 => ?_) (fun c14 => ?_)
    · have hf15 := br_y hf13 c14; clear hf13
      refine j_ldc2 X k_X5_125 dX5_split_30 ?_
      obtain ⟨er, es⟩ := rt_of hf15
      subst er
      exact j_retl X hr hlk (Nat.le_of_ble_eq_true rfl) (Nat.le_of_ble_eq_true rfl) rfl es.symm rfl dX5_split_33
    · have hf16 := br_n hf13 c14; clear hf13
      refine j_iload X dX5_split_19 5 rfl ?_
      refine j_if_lt X (tgt := 30) dX5_split_21 (by decide) (fun c17 => ?_) (fun c17 => ?_)
      · have hf18 := br_y hf16 c17; clear hf16
        refine j_ldc2 X k_X5_125 dX5_split_30 ?_
        obtain ⟨er, es⟩ := rt_of hf18
        subst er
        exact j_retl X hr hlk (Nat.le_of_ble_eq_true rfl) (Nat.le_of_ble_eq_true rfl) rfl es.symm rfl dX5_split_33
      · have hf19 := br_n hf16 c17; clear hf16
        refine j_iload X dX5_split_24 5 rfl ?_
        refine j_iconst X (v := 2) dX5_split_26 (by decide) ?_
        refine j_icmp_le X (tgt := 34) dX5_split_27 (by decide) (fun c20 => ?_) (fun c20 => ?_)
        · have hf21 := br_y hf19 c20; clear hf19
          refine j_iload_n X dX5_split_34 4 rfl rfl ?_
          refine j_aload_n X dX5_split_35 1 rfl rfl ?_
          obtain ⟨h23, hf24⟩ := chk_of hf21; clear hf21
          obtain ⟨i25, h26, hf27⟩ := bd_of hf24; clear hf24
          refine j_getr X fd_X5_14 h23 h26 dX5_split_36 ?_
          refine j_iload_n X dX5_split_39 3 rfl rfl ?_
          obtain ⟨h28, hf29⟩ := chk_of hf27; clear hf27
          obtain ⟨r30, σ31, h32, hf33⟩ := bc_of hf29; clear hf29
          refine j_callV0 X [.int a2] [.int a3] (c_X2_lowOf l D cs q i25 a2 σ11 _ _ h32) mk_X2_lowOf mv_X2_lowOf ml_X5_73 h28 rfl (by decide) ⟨rfl, rfl⟩ ⟨Nat.le_of_ble_eq_true rfl, Nat.le_of_ble_eq_true rfl⟩ rfl (Nat.le_of_ble_eq_true rfl) ⟨Nat.le_of_ble_eq_true rfl, Nat.le_of_ble_eq_true rfl⟩ dX5_split_40 rfl (st' := [.int r30, .int a3]) rfl ?_
          refine j_icmp_lt X (tgt := 58) dX5_split_43 (by decide) (fun c34 => ?_) (fun c34 => ?_)
          · have hf35 := br_y hf33 c34; clear hf33
            refine j_ldc2 X k_X5_125 dX5_split_58 ?_
            obtain ⟨er, es⟩ := rt_of hf35
            subst er
            exact j_retl X hr hlk (Nat.le_of_ble_eq_true rfl) (Nat.le_of_ble_eq_true rfl) rfl es.symm rfl dX5_split_61
          · have hf36 := br_n hf33 c34; clear hf33
            refine j_iload_n X dX5_split_46 4 rfl rfl ?_
            refine j_aload_n X dX5_split_47 1 rfl rfl ?_
            obtain ⟨h37, hf38⟩ := chk_of hf36; clear hf36
            obtain ⟨i39, h40, hf41⟩ := bd_of hf38; clear hf38
            refine j_getr X fd_X5_14 h37 h40 dX5_split_48 ?_
            refine j_iload_n X dX5_split_51 3 rfl rfl ?_
            obtain ⟨h42, hf43⟩ := chk_of hf41; clear hf41
            obtain ⟨r44, σ45, h46, hf47⟩ := bc_of hf43; clear hf43
            refine j_callV0 X [.int a2] [.int a3] (c_X2_highOf l D cs q i39 a2 σ31 _ _ h46) mk_X2_highOf mv_X2_highOf ml_X5_77 h42 rfl (by decide) ⟨rfl, rfl⟩ ⟨Nat.le_of_ble_eq_true rfl, Nat.le_of_ble_eq_true rfl⟩ rfl (Nat.le_of_ble_eq_true rfl) ⟨Nat.le_of_ble_eq_true rfl, Nat.le_of_ble_eq_true rfl⟩ dX5_split_52 rfl (st' := [.int r44, .int a3]) rfl ?_
            refine j_icmp_le X (tgt := 62) dX5_split_55 (by decide) (fun c48 => ?_) (fun c48 => ?_)
            · have hf49 := br_y hf47 c48; clear hf47
              refine j_aload_n X dX5_split_62 1 rfl rfl ?_
              refine j_aload X dX5_split_63 0 rfl ?_
              obtain ⟨h51, hf52⟩ := chk_of hf49; clear hf49
              obtain ⟨r53, σ54, h55, hf56⟩ := bc_of hf52; clear hf52
              refine j_callV0 X [.ref (q i7)] [] (c_X5_carryAsItIs l D cs q a0 i7 σ45 _ _ h55) mk_X5_carryAsItIs mv_X5_carryAsItIs ml_X5_127 h51 rfl (by decide) ⟨rfl, rfl⟩ ⟨Nat.le_of_ble_eq_true rfl, Nat.le_of_ble_eq_true rfl⟩ rfl (Nat.le_of_ble_eq_true rfl) ⟨Nat.le_of_ble_eq_true rfl, Nat.le_of_ble_eq_true rfl⟩ dX5_split_65 rfl (st' := []) rfl ?_
              refine j_aload_n X dX5_split_68 1 rfl rfl ?_
              obtain ⟨h57, hf58⟩ := chk_of hf56; clear hf56
              obtain ⟨i59, h60, hf61⟩ := bd_of hf58; clear hf58
              refine j_getr X fd_X5_35 h57 h60 dX5_split_69 ?_
              obtain ⟨h62, hf63⟩ := chk_of hf61; clear hf61
              refine j_geti X fd_X5_131 h62 dX5_split_72 (fun v64 ev64 => ?_)
              replace hf63 := lt_of hf63 v64 ev64
              refine j_if_eq X (tgt := 82) dX5_split_75 (by decide) (fun c66 => ?_) (fun c66 => ?_)
              · have hf67 := br_y hf63 c66; clear hf63
                refine j_aload_n X dX5_split_82 1 rfl rfl ?_
                refine j_aload X dX5_split_83 0 rfl ?_
                refine j_iload_n X dX5_split_85 3 rfl rfl ?_
                refine j_iload_n X dX5_split_86 4 rfl rfl ?_
                obtain ⟨r69, σ70, h71, hf72⟩ := bc_of hf67; clear hf67
                refine j_callV0 X [.ref (q i7), .int a2, .int a3] [] (c_X5_carrySplit l D cs q a0 i7 a2 a3 σ54 _ _ h71) mk_X5_carrySplit mv_X5_carrySplit ml_X5_176 h57 rfl (by decide) ⟨rfl, rfl⟩ ⟨Nat.le_of_ble_eq_true rfl, Nat.le_of_ble_eq_true rfl⟩ rfl (Nat.le_of_ble_eq_true rfl) ⟨Nat.le_of_ble_eq_true rfl, Nat.le_of_ble_eq_true rfl⟩ dX5_split_87 rfl (st' := []) rfl ?_
                refine j_aload_n X dX5_split_90 1 rfl rfl ?_
                obtain ⟨h73, hf74⟩ := chk_of hf72; clear hf72
                obtain ⟨i75, h76, hf77⟩ := bd_of hf74; clear hf74
                refine j_getr X fd_X5_35 h73 h76 dX5_split_91 ?_
                refine j_iload X dX5_split_94 5 rfl ?_
                obtain ⟨h78, hf79⟩ := chk_of hf77; clear hf77
                obtain ⟨r80, σ81, h82, hf83⟩ := bc_of hf79; clear hf79
                refine j_callV0 X [.int a4] [] (c_X4_told l D cs q i75 a4 σ70 _ _ h82) mk_X4_told mv_X4_told ml_X5_137 h78 rfl (by decide) ⟨rfl, rfl⟩ ⟨Nat.le_of_ble_eq_true rfl, Nat.le_of_ble_eq_true rfl⟩ rfl (Nat.le_of_ble_eq_true rfl) ⟨Nat.le_of_ble_eq_true rfl, Nat.le_of_ble_eq_true rfl⟩ dX5_split_96 rfl (st' := [.long r80]) rfl ?_
                obtain ⟨er, es⟩ := rt_of hf83
                subst er
                exact j_retl X hr hlk (Nat.le_of_ble_eq_true rfl) (Nat.le_of_ble_eq_true rfl) rfl es.symm rfl dX5_split_99
              · have hf68 := br_n hf63 c66; clear hf63
                refine j_ldc2 X k_X5_141 dX5_split_78 ?_
                obtain ⟨er, es⟩ := rt_of hf68
                subst er
                exact j_retl X hr hlk (Nat.le_of_ble_eq_true rfl) (Nat.le_of_ble_eq_true rfl) rfl es.symm rfl dX5_split_81
            · have hf50 := br_n hf47 c48; clear hf47
              refine j_ldc2 X k_X5_125 dX5_split_58 ?_
              obtain ⟨er, es⟩ := rt_of hf50
              subst er
              exact j_retl X hr hlk (Nat.le_of_ble_eq_true rfl) (Nat.le_of_ble_eq_true rfl) rfl es.symm rfl dX5_split_61
        · have hf22 := br_n hf19 c20; clear hf19
          refine j_ldc2 X k_X5_125 dX5_split_30 ?_
          obtain ⟨er, es⟩ := rt_of hf22
          subst er
          exact j_retl X hr hlk (Nat.le_of_ble_eq_true rfl) (Nat.le_of_ble_eq_true rfl) rfl es.symm rfl dX5_split_33
abbrev rm_X5_tight : Room := { frames := 5, cells := 0, slots := 0, locals := 320 }
set_option maxHeartbeats 4000000 in
set_option maxRecDepth 100000 in
theorem c_X5_tight (l : Launch) (D : va_G) (cs : Nat → ClassId) (q : Nat → Nat) (a0 : Nat) (a1 : Int32) (a2 : Int32) (σ σ0 : HS) (r0 : Int64) (hf0 : f_X5_tight a0 a1 a2 σ = some (r0, σ0)) : MT l yX5_tight (Cond.code yX5_tight cX5_tight 8 (some .long) :: lw_g) rm_X5_tight D cs q σ σ0 [.ref (q a0), .int a1, .int a2] (fun z => z = q) (fun _ => some (.long r0)) 0 0 := by
  unfold f_X5_tight at hf0
  refine MT_of (cc := cX5_tight) (lv0 := [(0, .ref (q a0)), (1, .int a1), (2, .int a2)]) (by decide) (Nat.le_of_ble_eq_true rfl) rfl (fun p e s m args below meth c A X hr hlk hin => ?_)
  have L67 : ∀ (nk : Nat) (x0 : Nat) (x1 : Int32) (x2 : Int32) (x3 : Nat) (x4 : Int32) (x5 : Int32) (x6 : Int32) (τ : HS), lp_X5_tight_67  nk x0 x1 x2 x3 x4 x5 x6 τ = some (r0, σ0) → J p l e rm_X5_tight s m args below meth c 8 D cs A s.heap 0 0 (MQ below (hQ D cs (fun z => z = q) (fun _ => some (.long r0)) σ0 A) args s 0 0 A) q τ [(0, .ref (q x0)), (1, .int x1), (2, .int x2), (3, .ref (q x3)), (4, .int x4), (5, .int x5), (6, .int x6)] 67 [] := by
    intro nk
    induction nk with
    | zero => intro x0 x1 x2 x3 x4 x5 x6 τ hf0; have hf1 : (none : Option (Int64 × HS)) = some (r0, σ0) := hf0; cases hf1
    | succ nk ih =>
      intro x0 x1 x2 x3 x4 x5 x6 τ hf0
      replace hf0 : lp_X5_tight_67_b  (lp_X5_tight_67  nk) x0 x1 x2 x3 x4 x5 x6 τ = some (r0, σ0) := hf0
      unfold lp_X5_tight_67_b at hf0
      refine j_iload X dX5_tight_67 6 rfl ?_
      refine j_bipush X (v := 6) dX5_tight_69 (by decide) ?_
      refine j_icmp_ge X (tgt := 163) dX5_tight_71 (by decide) (fun c46 => ?_) (fun c46 => ?_)
      · have hf47 := br_y hf0 c46; clear hf0
        refine j_aload_n X dX5_tight_163 0 rfl rfl ?_
        obtain ⟨h49, hf50⟩ := chk_of hf47; clear hf47
        obtain ⟨i51, h52, hf53⟩ := bd_of hf50; clear hf50
        refine j_getr X fd_X5_35 h49 h52 dX5_tight_164 ?_
        refine j_aload_n X dX5_tight_167 3 rfl rfl ?_
        obtain ⟨h54, hf55⟩ := chk_of hf53; clear hf53
        obtain ⟨r56, σ57, h58, hf59⟩ := bc_of hf55; clear hf55
        refine j_callV0 X [.ref (q x3)] [] (c_X4_carry l D cs q i51 x3 τ _ _ h58) mk_X4_carry mv_X4_carry ml_X5_173 h54 rfl (by decide) ⟨rfl, rfl⟩ ⟨Nat.le_of_ble_eq_true rfl, Nat.le_of_ble_eq_true rfl⟩ rfl (Nat.le_of_ble_eq_true rfl) ⟨Nat.le_of_ble_eq_true rfl, Nat.le_of_ble_eq_true rfl⟩ dX5_tight_168 rfl (st' := []) rfl ?_
        refine j_aload_n X dX5_tight_171 0 rfl rfl ?_
        obtain ⟨h60, hf61⟩ := chk_of hf59; clear hf59
        obtain ⟨i62, h63, hf64⟩ := bd_of hf61; clear hf61
        refine j_getr X fd_X5_35 h60 h63 dX5_tight_172 ?_
        refine j_iload_n X dX5_tight_175 2 rfl rfl ?_
        obtain ⟨h65, hf66⟩ := chk_of hf64; clear hf64
        obtain ⟨r67, σ68, h69, hf70⟩ := bc_of hf66; clear hf66
        refine j_callV0 X [.int x2] [] (c_X4_told l D cs q i62 x2 σ57 _ _ h69) mk_X4_told mv_X4_told ml_X5_137 h65 rfl (by decide) ⟨rfl, rfl⟩ ⟨Nat.le_of_ble_eq_true rfl, Nat.le_of_ble_eq_true rfl⟩ rfl (Nat.le_of_ble_eq_true rfl) ⟨Nat.le_of_ble_eq_true rfl, Nat.le_of_ble_eq_true rfl⟩ dX5_tight_176 rfl (st' := [.long r67]) rfl ?_
        obtain ⟨er, es⟩ := rt_of hf70
        subst er
        exact j_retl X hr hlk (Nat.le_of_ble_eq_true rfl) (Nat.le_of_ble_eq_true rfl) rfl es.symm rfl dX5_tight_179
      · have hf48 := br_n hf0 c46; clear hf0
        refine j_aload_n X dX5_tight_74 0 rfl rfl ?_
        obtain ⟨h71, hf72⟩ := chk_of hf48; clear hf48
        obtain ⟨i73, h74, hf75⟩ := bd_of hf72; clear hf72
        refine j_getr X fd_X5_35 h71 h74 dX5_tight_75 ?_
        refine j_aload_n X dX5_tight_78 3 rfl rfl ?_
        refine j_iload X dX5_tight_79 6 rfl ?_
        obtain ⟨h76, hf77⟩ := chk_of hf75; clear hf75
        obtain ⟨r78, σ79, h80, hf81⟩ := bc_of hf77; clear hf77
        refine j_callV0 X [.ref (q x3), .int x6] [] (c_X4_changeBy l D cs q i73 x3 x6 τ _ _ h80) mk_X4_changeBy mv_X4_changeBy ml_X5_165 h76 rfl (by decide) ⟨rfl, rfl⟩ ⟨Nat.le_of_ble_eq_true rfl, Nat.le_of_ble_eq_true rfl⟩ rfl (Nat.le_of_ble_eq_true rfl) ⟨Nat.le_of_ble_eq_true rfl, Nat.le_of_ble_eq_true rfl⟩ dX5_tight_81 rfl (st' := [.int r78]) rfl ?_
        refine j_istore X (lv' := [(7, .int r78), (0, .ref (q x0)), (1, .int x1), (2, .int x2), (3, .ref (q x3)), (4, .int x4), (5, .int x5), (6, .int x6)]) dX5_tight_84 (by decide) rfl ?_
        refine j_iload X dX5_tight_86 0 rfl ?_
        refine j_iload X dX5_tight_88 5 rfl ?_
        refine j_icmp_ne X (tgt := 123) dX5_tight_90 (by decide) (fun c82 => ?_) (fun c82 => ?_)
        · have hf83 := br_n hf81 c82; clear hf81
          refine j_iload X dX5_tight_123 0 rfl ?_
          refine j_iload X dX5_tight_125 6 rfl ?_
          refine j_icmp_ne X (tgt := 157) dX5_tight_127 (by decide) (fun c85 => ?_) (fun c85 => ?_)
          · have hf86 := br_n hf83 c85; clear hf83
            obtain ⟨v88, ev88⟩ : ∃ y : Int32, y = x6 + (1 : Int32) := ⟨_, rfl⟩
            replace hf86 := lt_of hf86 v88 ev88
            refine j_iinc X (v := v88) (lv' := [(6, .int v88), (7, .int r78), (0, .ref (q x0)), (1, .int x1), (2, .int x2), (3, .ref (q x3)), (4, .int x4), (5, .int x5)]) dX5_tight_157 7 rfl (by rw [ev88]; rfl) (by decide) rfl ?_
            refine j_goto X (tgt := 67) dX5_tight_160 (by decide) ?_
            refine j_lvsub [2, 3, 4, 5, 6, 7, 0] (lv' := [(0, .ref (q x0)), (1, .int x1), (2, .int x2), (3, .ref (q x3)), (4, .int x4), (5, .int x5), (6, .int v88)]) rfl ?_
            exact ih x0 x1 x2 x3 x4 x5 v88 σ79 hf86
          · have hf87 := br_y hf83 c85; clear hf83
            refine j_aload_n X dX5_tight_130 1 rfl rfl ?_
            obtain ⟨h90, hf91⟩ := chk_of hf87; clear hf87
            obtain ⟨i92, h93, hf94⟩ := bd_of hf91; clear hf91
            refine j_getr X fd_X5_35 h90 h93 dX5_tight_131 ?_
            refine j_iload X dX5_tight_134 7 rfl ?_
            refine j_aload_n X dX5_tight_136 1 rfl rfl ?_
            obtain ⟨i95, h96, hf97⟩ := bd_of hf94; clear hf94
            refine j_getr X fd_X5_14 h90 h96 dX5_tight_137 ?_
            refine j_iload X dX5_tight_140 7 rfl ?_
            obtain ⟨h98, hf99⟩ := chk_of hf97; clear hf97
            obtain ⟨r100, σ101, h102, hf103⟩ := bc_of hf99; clear hf99
            refine j_callV0 X [.int x6] [.int x6, .ref (q i92)] (c_X2_highOf l D cs q i95 x6 σ79 _ _ h102) mk_X2_highOf mv_X2_highOf ml_X5_77 h98 rfl (by decide) ⟨rfl, rfl⟩ ⟨Nat.le_of_ble_eq_true rfl, Nat.le_of_ble_eq_true rfl⟩ rfl (Nat.le_of_ble_eq_true rfl) ⟨Nat.le_of_ble_eq_true rfl, Nat.le_of_ble_eq_true rfl⟩ dX5_tight_142 rfl (st' := [.int r100, .int x6, .ref (q i92)]) rfl ?_
            refine j_aload_n X dX5_tight_145 1 rfl rfl ?_
            obtain ⟨h104, hf105⟩ := chk_of hf103; clear hf103
            obtain ⟨i106, h107, hf108⟩ := bd_of hf105; clear hf105
            refine j_getr X fd_X5_14 h104 h107 dX5_tight_146 ?_
            refine j_iload X dX5_tight_149 7 rfl ?_
            obtain ⟨h109, hf110⟩ := chk_of hf108; clear hf108
            obtain ⟨r111, σ112, h113, hf114⟩ := bc_of hf110; clear hf110
            refine j_callV0 X [.int x6] [.int r100, .int x6, .ref (q i92)] (c_X2_highOf l D cs q i106 x6 σ101 _ _ h113) mk_X2_highOf mv_X2_highOf ml_X5_77 h109 rfl (by decide) ⟨rfl, rfl⟩ ⟨Nat.le_of_ble_eq_true rfl, Nat.le_of_ble_eq_true rfl⟩ rfl (Nat.le_of_ble_eq_true rfl) ⟨Nat.le_of_ble_eq_true rfl, Nat.le_of_ble_eq_true rfl⟩ dX5_tight_151 rfl (st' := [.int r111, .int r100, .int x6, .ref (q i92)]) rfl ?_
            obtain ⟨h115, hf116⟩ := chk_of hf114; clear hf114
            obtain ⟨r117, σ118, h119, hf120⟩ := bc_of hf116; clear hf116
            refine j_callV0 X [.int x6, .int r100, .int r111] [] (c_X4_stand l D cs q i92 x6 r100 r111 σ112 _ _ h119) mk_X4_stand mv_X4_stand ml_X5_169 h115 rfl (by decide) ⟨rfl, rfl⟩ ⟨Nat.le_of_ble_eq_true rfl, Nat.le_of_ble_eq_true rfl⟩ rfl (Nat.le_of_ble_eq_true rfl) ⟨Nat.le_of_ble_eq_true rfl, Nat.le_of_ble_eq_true rfl⟩ dX5_tight_154 rfl (st' := []) rfl ?_
            obtain ⟨v121, ev121⟩ : ∃ y : Int32, y = x6 + (1 : Int32) := ⟨_, rfl⟩
            replace hf120 := lt_of hf120 v121 ev121
            refine j_iinc X (v := v121) (lv' := [(6, .int v121), (7, .int r78), (0, .ref (q x0)), (1, .int x1), (2, .int x2), (3, .ref (q x3)), (4, .int x4), (5, .int x5)]) dX5_tight_157 7 rfl (by rw [ev121]; rfl) (by decide) rfl ?_
            refine j_goto X (tgt := 67) dX5_tight_160 (by decide) ?_
            refine j_lvsub [2, 3, 4, 5, 6, 7, 0] (lv' := [(0, .ref (q x0)), (1, .int x1), (2, .int x2), (3, .ref (q x3)), (4, .int x4), (5, .int x5), (6, .int v121)]) rfl ?_
            exact ih x0 x1 x2 x3 x4 x5 v121 σ118 hf120
        · have hf84 := br_y hf81 c82; clear hf81
          refine j_aload_n X dX5_tight_93 1 rfl rfl ?_
          obtain ⟨h123, hf124⟩ := chk_of hf84; clear hf84
          obtain ⟨i125, h126, hf127⟩ := bd_of hf124; clear hf124
          refine j_getr X fd_X5_35 h123 h126 dX5_tight_94 ?_
          refine j_iload X dX5_tight_97 7 rfl ?_
          refine j_aload_n X dX5_tight_99 1 rfl rfl ?_
          obtain ⟨i128, h129, hf130⟩ := bd_of hf127; clear hf127
          refine j_getr X fd_X5_14 h123 h129 dX5_tight_100 ?_
          refine j_iload X dX5_tight_103 7 rfl ?_
          obtain ⟨h131, hf132⟩ := chk_of hf130; clear hf130
          obtain ⟨r133, σ134, h135, hf136⟩ := bc_of hf132; clear hf132
          refine j_callV0 X [.int x6] [.int x6, .ref (q i125)] (c_X2_lowOf l D cs q i128 x6 σ79 _ _ h135) mk_X2_lowOf mv_X2_lowOf ml_X5_73 h131 rfl (by decide) ⟨rfl, rfl⟩ ⟨Nat.le_of_ble_eq_true rfl, Nat.le_of_ble_eq_true rfl⟩ rfl (Nat.le_of_ble_eq_true rfl) ⟨Nat.le_of_ble_eq_true rfl, Nat.le_of_ble_eq_true rfl⟩ dX5_tight_105 rfl (st' := [.int r133, .int x6, .ref (q i125)]) rfl ?_
          refine j_aload_n X dX5_tight_108 1 rfl rfl ?_
          obtain ⟨h137, hf138⟩ := chk_of hf136; clear hf136
          obtain ⟨i139, h140, hf141⟩ := bd_of hf138; clear hf138
          refine j_getr X fd_X5_14 h137 h140 dX5_tight_109 ?_
          refine j_iload X dX5_tight_112 7 rfl ?_
          obtain ⟨h142, hf143⟩ := chk_of hf141; clear hf141
          obtain ⟨r144, σ145, h146, hf147⟩ := bc_of hf143; clear hf143
          refine j_callV0 X [.int x6] [.int r133, .int x6, .ref (q i125)] (c_X2_lowOf l D cs q i139 x6 σ134 _ _ h146) mk_X2_lowOf mv_X2_lowOf ml_X5_73 h142 rfl (by decide) ⟨rfl, rfl⟩ ⟨Nat.le_of_ble_eq_true rfl, Nat.le_of_ble_eq_true rfl⟩ rfl (Nat.le_of_ble_eq_true rfl) ⟨Nat.le_of_ble_eq_true rfl, Nat.le_of_ble_eq_true rfl⟩ dX5_tight_114 rfl (st' := [.int r144, .int r133, .int x6, .ref (q i125)]) rfl ?_
          obtain ⟨h148, hf149⟩ := chk_of hf147; clear hf147
          obtain ⟨r150, σ151, h152, hf153⟩ := bc_of hf149; clear hf149
          refine j_callV0 X [.int x6, .int r133, .int r144] [] (c_X4_stand l D cs q i125 x6 r133 r144 σ145 _ _ h152) mk_X4_stand mv_X4_stand ml_X5_169 h148 rfl (by decide) ⟨rfl, rfl⟩ ⟨Nat.le_of_ble_eq_true rfl, Nat.le_of_ble_eq_true rfl⟩ rfl (Nat.le_of_ble_eq_true rfl) ⟨Nat.le_of_ble_eq_true rfl, Nat.le_of_ble_eq_true rfl⟩ dX5_tight_117 rfl (st' := []) rfl ?_
          refine j_goto X (tgt := 157) dX5_tight_120 (by decide) ?_
          obtain ⟨v154, ev154⟩ : ∃ y : Int32, y = x6 + (1 : Int32) := ⟨_, rfl⟩
          replace hf153 := lt_of hf153 v154 ev154
          refine j_iinc X (v := v154) (lv' := [(6, .int v154), (7, .int r78), (0, .ref (q x0)), (1, .int x1), (2, .int x2), (3, .ref (q x3)), (4, .int x4), (5, .int x5)]) dX5_tight_157 7 rfl (by rw [ev154]; rfl) (by decide) rfl ?_
          refine j_goto X (tgt := 67) dX5_tight_160 (by decide) ?_
          refine j_lvsub [2, 3, 4, 5, 6, 7, 0] (lv' := [(0, .ref (q x0)), (1, .int x1), (2, .int x2), (3, .ref (q x3)), (4, .int x4), (5, .int x5), (6, .int v154)]) rfl ?_
          exact ih x0 x1 x2 x3 x4 x5 v154 σ151 hf153
  refine j_aload_n X dX5_tight_0 0 rfl rfl ?_
  refine j_iload_n X dX5_tight_1 1 rfl rfl ?_
  obtain ⟨h1, hf2⟩ := chk_of hf0; clear hf0
  obtain ⟨r3, σ4, h5, hf6⟩ := bc_of hf2; clear hf2
  refine j_callV0 X [.int a1] [] (c_X5_formulaOf l D cs q a0 a1 σ _ _ h5) mk_X5_formulaOf mv_X5_formulaOf ml_X5_100 h1 rfl (by decide) ⟨rfl, rfl⟩ ⟨Nat.le_of_ble_eq_true rfl, Nat.le_of_ble_eq_true rfl⟩ rfl (Nat.le_of_ble_eq_true rfl) ⟨Nat.le_of_ble_eq_true rfl, Nat.le_of_ble_eq_true rfl⟩ dX5_tight_2 rfl (st' := [va_rf (Option.map q r3)]) rfl ?_
  refine j_astore_nq X (lv' := [(3, va_rf (Option.map q r3)), (0, .ref (q a0)), (1, .int a1), (2, .int a2)]) dX5_tight_5 rfl (by decide) rfl ?_
  refine j_aload_nq X dX5_tight_6 0 rfl rfl ?_
  refine j_ifnull X (tgt := 19) dX5_tight_7 (by decide) (fun c173 => ?_) (fun i7 c173 => ?_)
  · subst c173; have hf8 := (show _ = some (r0, σ0) from hf6); clear hf6; unfold oc at hf8; dsimp only at hf8
    refine j_ldc2 X k_X5_125 dX5_tight_19 ?_
    obtain ⟨er, es⟩ := rt_of hf8
    subst er
    exact j_retl X hr hlk (Nat.le_of_ble_eq_true rfl) (Nat.le_of_ble_eq_true rfl) rfl es.symm rfl dX5_tight_22
  · subst c173; have hf9 := (show _ = some (r0, σ0) from hf6); clear hf6; unfold oc at hf9; dsimp only at hf9
    refine j_iload_n X dX5_tight_10 3 rfl rfl ?_
    refine j_if_lt X (tgt := 19) dX5_tight_11 (by decide) (fun c10 => ?_) (fun c10 => ?_)
    · have hf11 := br_y hf9 c10; clear hf9
      refine j_ldc2 X k_X5_125 dX5_tight_19 ?_
      obtain ⟨er, es⟩ := rt_of hf11
      subst er
      exact j_retl X hr hlk (Nat.le_of_ble_eq_true rfl) (Nat.le_of_ble_eq_true rfl) rfl es.symm rfl dX5_tight_22
    · have hf12 := br_n hf9 c10; clear hf9
      refine j_iload_n X dX5_tight_14 3 rfl rfl ?_
      refine j_iconst X (v := 1) dX5_tight_15 (by decide) ?_
      refine j_icmp_le X (tgt := 23) dX5_tight_16 (by decide) (fun c13 => ?_) (fun c13 => ?_)
      · have hf14 := br_y hf12 c13; clear hf12
        refine j_aload_n X dX5_tight_23 1 rfl rfl ?_
        refine j_aload_n X dX5_tight_24 0 rfl rfl ?_
        obtain ⟨h16, hf17⟩ := chk_of hf14; clear hf14
        obtain ⟨r18, σ19, h20, hf21⟩ := bc_of hf17; clear hf17
        refine j_callV0 X [.ref (q i7)] [] (c_X5_carryAsItIs l D cs q a0 i7 σ4 _ _ h20) mk_X5_carryAsItIs mv_X5_carryAsItIs ml_X5_127 h16 rfl (by decide) ⟨rfl, rfl⟩ ⟨Nat.le_of_ble_eq_true rfl, Nat.le_of_ble_eq_true rfl⟩ rfl (Nat.le_of_ble_eq_true rfl) ⟨Nat.le_of_ble_eq_true rfl, Nat.le_of_ble_eq_true rfl⟩ dX5_tight_25 rfl (st' := []) rfl ?_
        refine j_aload_n X dX5_tight_28 1 rfl rfl ?_
        obtain ⟨h22, hf23⟩ := chk_of hf21; clear hf21
        obtain ⟨i24, h25, hf26⟩ := bd_of hf23; clear hf23
        refine j_getr X fd_X5_35 h22 h25 dX5_tight_29 ?_
        obtain ⟨h27, hf28⟩ := chk_of hf26; clear hf26
        refine j_geti X fd_X5_131 h27 dX5_tight_32 (fun v29 ev29 => ?_)
        replace hf28 := lt_of hf28 v29 ev29
        refine j_if_eq X (tgt := 42) dX5_tight_35 (by decide) (fun c31 => ?_) (fun c31 => ?_)
        · have hf32 := br_y hf28 c31; clear hf28
          refine j_iload_n X dX5_tight_42 3 rfl rfl ?_
          refine j_if_ne X (tgt := 50) dX5_tight_43 (by decide) (fun c34 => ?_) (fun c34 => ?_)
          · have hf35 := br_n hf32 c34; clear hf32
            refine j_iconst X (v := 2) dX5_tight_50 (by decide) ?_
            refine j_nmi (fun v37 ev37 => ?_)
            replace hf35 := lt_of hf35 v37 ev37
            refine j_istore X (lv' := [(4, .int v37), (3, .ref (q i7)), (0, .ref (q a0)), (1, .int a1), (2, .int a2)]) dX5_tight_51 (by decide) rfl ?_
            refine j_iload_n X dX5_tight_53 4 rfl rfl ?_
            refine j_if_ne X (tgt := 61) dX5_tight_54 (by decide) (fun c39 => ?_) (fun c39 => ?_)
            · have hf40 := br_n hf35 c39; clear hf35
              refine j_iconst X (v := 1) dX5_tight_61 (by decide) ?_
              refine j_nmi (fun v42 ev42 => ?_)
              replace hf40 := lt_of hf40 v42 ev42
              refine j_istore X (lv' := [(5, .int v42), (4, .int v37), (3, .ref (q i7)), (0, .ref (q a0)), (1, .int a1), (2, .int a2)]) dX5_tight_62 (by decide) rfl ?_
              refine j_iconst X (v := 0) dX5_tight_64 (by decide) ?_
              refine j_nmi (fun v44 ev44 => ?_)
              replace hf40 := lt_of hf40 v44 ev44
              refine j_istore X (lv' := [(6, .int v44), (5, .int v42), (4, .int v37), (3, .ref (q i7)), (0, .ref (q a0)), (1, .int a1), (2, .int a2)]) dX5_tight_65 (by decide) rfl ?_
              refine j_lvsub [4, 5, 6, 3, 2, 1, 0] (lv' := [(0, .ref (q a0)), (1, .int a1), (2, .int a2), (3, .ref (q i7)), (4, .int v37), (5, .int v42), (6, .int v44)]) rfl ?_
              exact L67  1000 a0 a1 a2 i7 v37 v42 v44 σ19 hf40
            · have hf41 := br_y hf35 c39; clear hf35
              refine j_iconst X (v := 2) dX5_tight_57 (by decide) ?_
              refine j_goto X (tgt := 62) dX5_tight_58 (by decide) ?_
              refine j_nmi (fun v156 ev156 => ?_)
              replace hf41 := lt_of hf41 v156 ev156
              refine j_istore X (lv' := [(5, .int v156), (4, .int v37), (3, .ref (q i7)), (0, .ref (q a0)), (1, .int a1), (2, .int a2)]) dX5_tight_62 (by decide) rfl ?_
              refine j_iconst X (v := 0) dX5_tight_64 (by decide) ?_
              refine j_nmi (fun v158 ev158 => ?_)
              replace hf41 := lt_of hf41 v158 ev158
              refine j_istore X (lv' := [(6, .int v158), (5, .int v156), (4, .int v37), (3, .ref (q i7)), (0, .ref (q a0)), (1, .int a1), (2, .int a2)]) dX5_tight_65 (by decide) rfl ?_
              refine j_lvsub [4, 5, 6, 3, 2, 1, 0] (lv' := [(0, .ref (q a0)), (1, .int a1), (2, .int a2), (3, .ref (q i7)), (4, .int v37), (5, .int v156), (6, .int v158)]) rfl ?_
              exact L67  1000 a0 a1 a2 i7 v37 v156 v158 σ19 hf41
          · have hf36 := br_y hf32 c34; clear hf32
            refine j_iconst X (v := 1) dX5_tight_46 (by decide) ?_
            refine j_goto X (tgt := 51) dX5_tight_47 (by decide) ?_
            refine j_nmi (fun v160 ev160 => ?_)
            replace hf36 := lt_of hf36 v160 ev160
            refine j_istore X (lv' := [(4, .int v160), (3, .ref (q i7)), (0, .ref (q a0)), (1, .int a1), (2, .int a2)]) dX5_tight_51 (by decide) rfl ?_
            refine j_iload_n X dX5_tight_53 4 rfl rfl ?_
            refine j_if_ne X (tgt := 61) dX5_tight_54 (by decide) (fun c162 => ?_) (fun c162 => ?_)
            · have hf163 := br_n hf36 c162; clear hf36
              refine j_iconst X (v := 1) dX5_tight_61 (by decide) ?_
              refine j_nmi (fun v165 ev165 => ?_)
              replace hf163 := lt_of hf163 v165 ev165
              refine j_istore X (lv' := [(5, .int v165), (4, .int v160), (3, .ref (q i7)), (0, .ref (q a0)), (1, .int a1), (2, .int a2)]) dX5_tight_62 (by decide) rfl ?_
              refine j_iconst X (v := 0) dX5_tight_64 (by decide) ?_
              refine j_nmi (fun v167 ev167 => ?_)
              replace hf163 := lt_of hf163 v167 ev167
              refine j_istore X (lv' := [(6, .int v167), (5, .int v165), (4, .int v160), (3, .ref (q i7)), (0, .ref (q a0)), (1, .int a1), (2, .int a2)]) dX5_tight_65 (by decide) rfl ?_
              refine j_lvsub [4, 5, 6, 3, 2, 1, 0] (lv' := [(0, .ref (q a0)), (1, .int a1), (2, .int a2), (3, .ref (q i7)), (4, .int v160), (5, .int v165), (6, .int v167)]) rfl ?_
              exact L67  1000 a0 a1 a2 i7 v160 v165 v167 σ19 hf163
            · have hf164 := br_y hf36 c162; clear hf36
              refine j_iconst X (v := 2) dX5_tight_57 (by decide) ?_
              refine j_goto X (tgt := 62) dX5_tight_58 (by decide) ?_
              refine j_nmi (fun v169 ev169 => ?_)
              replace hf164 := lt_of hf164 v169 ev169
              refine j_istore X (lv' := [(5, .int v169), (4, .int v160), (3, .ref (q i7)), (0, .ref (q a0)), (1, .int a1), (2, .int a2)]) dX5_tight_62 (by decide) rfl ?_
              refine j_iconst X (v := 0) dX5_tight_64 (by decide) ?_
              refine j_nmi (fun v171 ev171 => ?_)
              replace hf164 := lt_of hf164 v171 ev171
              refine j_istore X (lv' := [(6, .int v171), (5, .int v169), (4, .int v160), (3, .ref (q i7)), (0, .ref (q a0)), (1, .int a1), (2, .int a2)]) dX5_tight_65 (by decide) rfl ?_
              refine j_lvsub [4, 5, 6, 3, 2, 1, 0] (lv' := [(0, .ref (q a0)), (1, .int a1), (2, .int a2), (3, .ref (q i7)), (4, .int v160), (5, .int v169), (6, .int v171)]) rfl ?_
              exact L67  1000 a0 a1 a2 i7 v160 v169 v171 σ19 hf164
        · have hf33 := br_n hf28 c31; clear hf28
          refine j_ldc2 X k_X5_141 dX5_tight_38 ?_
          obtain ⟨er, es⟩ := rt_of hf33
          subst er
          exact j_retl X hr hlk (Nat.le_of_ble_eq_true rfl) (Nat.le_of_ble_eq_true rfl) rfl es.symm rfl dX5_tight_41
      · have hf15 := br_n hf12 c13; clear hf12
        refine j_ldc2 X k_X5_125 dX5_tight_19 ?_
        obtain ⟨er, es⟩ := rt_of hf15
        subst er
        exact j_retl X hr hlk (Nat.le_of_ble_eq_true rfl) (Nat.le_of_ble_eq_true rfl) rfl es.symm rfl dX5_tight_22
abbrev rm_X5_undo : Room := { frames := 2, cells := 0, slots := 0, locals := 128 }
set_option maxHeartbeats 4000000 in
set_option maxRecDepth 100000 in
theorem c_X5_undo (l : Launch) (D : va_G) (cs : Nat → ClassId) (q : Nat → Nat) (a0 : Nat) (σ σ0 : HS) (r0 : Int32) (hf0 : f_X5_undo a0 σ = some (r0, σ0)) : MT l yX5_undo (Cond.code yX5_undo cX5_undo 1 (some .int) :: lw_g) rm_X5_undo D cs q σ σ0 [.ref (q a0)] (fun z => z = q) (fun _ => some (.int r0)) 0 0 := by
  unfold f_X5_undo at hf0
  refine MT_of (cc := cX5_undo) (lv0 := [(0, .ref (q a0))]) (by decide) (Nat.le_of_ble_eq_true rfl) rfl (fun p e s m args below meth c A X hr hlk hin => ?_)
  refine j_aload_n X dX5_undo_0 0 rfl rfl ?_
  obtain ⟨h1, hf2⟩ := chk_of hf0; clear hf0
  refine j_geti X fd_X5_21 h1 dX5_undo_1 (fun v3 ev3 => ?_)
  replace hf2 := lt_of hf2 v3 ev3
  refine j_if_ne X (tgt := 10) dX5_undo_4 (by decide) (fun c5 => ?_) (fun c5 => ?_)
  · have hf6 := br_n hf2 c5; clear hf2
    refine j_aload_n X dX5_undo_10 0 rfl rfl ?_
    obtain ⟨i8, h9, hf10⟩ := bd_of hf6; clear hf6
    refine j_getr X fd_X5_14 h1 h9 dX5_undo_11 ?_
    refine j_aload_n X dX5_undo_14 0 rfl rfl ?_
    obtain ⟨i11, h12, hf13⟩ := bd_of hf10; clear hf10
    refine j_getr X fd_X5_18 h1 h12 dX5_undo_15 ?_
    obtain ⟨h14, hf15⟩ := chk_of hf13; clear hf13
    obtain ⟨r16, σ17, h18, hf19⟩ := bc_of hf15; clear hf15
    refine j_callV0 X [.ref (q i11)] [] (c_X2_becomeLike l D cs q i8 i11 σ _ _ h18) mk_X2_becomeLike mv_X2_becomeLike ml_X5_238 h14 rfl (by decide) ⟨rfl, rfl⟩ ⟨Nat.le_of_ble_eq_true rfl, Nat.le_of_ble_eq_true rfl⟩ rfl (Nat.le_of_ble_eq_true rfl) ⟨Nat.le_of_ble_eq_true rfl, Nat.le_of_ble_eq_true rfl⟩ dX5_undo_18 rfl (st' := []) rfl ?_
    refine j_aload_n X dX5_undo_21 0 rfl rfl ?_
    obtain ⟨h20, hf21⟩ := chk_of hf19; clear hf19
    obtain ⟨i22, h23, hf24⟩ := bd_of hf21; clear hf21
    refine j_getr X fd_X5_14 h20 h23 dX5_undo_22 ?_
    obtain ⟨h25, hf26⟩ := chk_of hf24; clear hf24
    refine j_geti X fd_X5_93 h25 dX5_undo_25 (fun v27 ev27 => ?_)
    replace hf26 := lt_of hf26 v27 ev27
    obtain ⟨er, es⟩ := rt_of hf26
    subst er
    exact j_reti X hr hlk (Nat.le_of_ble_eq_true rfl) (Nat.le_of_ble_eq_true rfl) rfl es.symm rfl dX5_undo_28
  · have hf7 := br_y hf2 c5; clear hf2
    refine j_bipush X (v := -3) dX5_undo_7 (by decide) ?_
    obtain ⟨er, es⟩ := rt_of hf7
    subst er
    exact j_reti X hr hlk (Nat.le_of_ble_eq_true rfl) (Nat.le_of_ble_eq_true rfl) rfl es.symm rfl dX5_undo_9
abbrev rm_X5_way : Room := { frames := 0, cells := 0, slots := 0, locals := 0 }
set_option maxHeartbeats 4000000 in
set_option maxRecDepth 100000 in
theorem c_X5_way (l : Launch) (D : va_G) (cs : Nat → ClassId) (q : Nat → Nat) (a0 : Nat) (a1 : Int32) (σ σ0 : HS) (r0 : Int32) (hf0 : f_X5_way a0 a1 σ = some (r0, σ0)) : MT l yX5_way (Cond.code yX5_way cX5_way 2 (some .int) :: lw_g) rm_X5_way D cs q σ σ0 [.ref (q a0), .int a1] (fun z => z = q) (fun _ => some (.int r0)) 0 0 := by
  unfold f_X5_way at hf0
  refine MT_of (cc := cX5_way) (lv0 := [(0, .ref (q a0)), (1, .int a1)]) (by decide) (Nat.le_of_ble_eq_true rfl) rfl (fun p e s m args below meth c A X hr hlk hin => ?_)
  refine j_iload_n X dX5_way_0 1 rfl rfl ?_
  refine j_iconst X (v := -1) dX5_way_1 (by decide) ?_
  refine j_icmp_ne X (tgt := 10) dX5_way_2 (by decide) (fun c1 => ?_) (fun c1 => ?_)
  · have hf2 := br_n hf0 c1; clear hf0
    refine j_iload_n X dX5_way_10 1 rfl rfl ?_
    refine j_if_lt X (tgt := 22) dX5_way_11 (by decide) (fun c4 => ?_) (fun c4 => ?_)
    · have hf5 := br_y hf2 c4; clear hf2
      refine j_iconst X (v := -1) dX5_way_22 (by decide) ?_
      obtain ⟨er, es⟩ := rt_of hf5
      subst er
      exact j_reti X hr hlk (Nat.le_of_ble_eq_true rfl) (Nat.le_of_ble_eq_true rfl) rfl es.symm rfl dX5_way_23
    · have hf6 := br_n hf2 c4; clear hf2
      refine j_iload_n X dX5_way_14 1 rfl rfl ?_
      refine j_aload_n X dX5_way_15 0 rfl rfl ?_
      obtain ⟨h7, hf8⟩ := chk_of hf6; clear hf6
      refine j_geti X fd_X5_51 h7 dX5_way_16 (fun v9 ev9 => ?_)
      replace hf8 := lt_of hf8 v9 ev9
      refine j_icmp_lt X (tgt := 24) dX5_way_19 (by decide) (fun c11 => ?_) (fun c11 => ?_)
      · have hf12 := br_y hf8 c11; clear hf8
        refine j_aload_n X dX5_way_24 0 rfl rfl ?_
        obtain ⟨i14, h15, hf16⟩ := bd_of hf12; clear hf12
        refine j_getr X fd_X5_48 h7 h15 dX5_way_25 ?_
        refine j_aload_n X dX5_way_28 0 rfl rfl ?_
        refine j_geti X fd_X5_51 h7 dX5_way_29 (fun v17 ev17 => ?_)
        replace hf16 := lt_of hf16 v17 ev17
        refine j_iconst X (v := 1) dX5_way_32 (by decide) ?_
        refine j_isub X dX5_way_33 ?_
        refine j_iload_n X dX5_way_34 1 rfl rfl ?_
        refine j_isub X dX5_way_35 ?_
        obtain ⟨h19, hf20⟩ := chk_of hf16; clear hf16
        refine j_iald X h19 dX5_way_36 (fun v21 ev21 => ?_)
        replace hf20 := lt_of hf20 v21 ev21
        obtain ⟨er, es⟩ := rt_of hf20
        subst er
        exact j_reti X hr hlk (Nat.le_of_ble_eq_true rfl) (Nat.le_of_ble_eq_true rfl) rfl es.symm rfl dX5_way_37
      · have hf13 := br_n hf8 c11; clear hf8
        refine j_iconst X (v := -1) dX5_way_22 (by decide) ?_
        obtain ⟨er, es⟩ := rt_of hf13
        subst er
        exact j_reti X hr hlk (Nat.le_of_ble_eq_true rfl) (Nat.le_of_ble_eq_true rfl) rfl es.symm rfl dX5_way_23
  · have hf3 := br_y hf0 c1; clear hf0
    refine j_aload_n X dX5_way_5 0 rfl rfl ?_
    obtain ⟨h23, hf24⟩ := chk_of hf3; clear hf3
    refine j_geti X fd_X5_51 h23 dX5_way_6 (fun v25 ev25 => ?_)
    replace hf24 := lt_of hf24 v25 ev25
    obtain ⟨er, es⟩ := rt_of hf24
    subst er
    exact j_reti X hr hlk (Nat.le_of_ble_eq_true rfl) (Nat.le_of_ble_eq_true rfl) rfl es.symm rfl dX5_way_9
abbrev rm_X5_widest : Room := { frames := 5, cells := 0, slots := 0, locals := 320 }
set_option maxHeartbeats 4000000 in
set_option maxRecDepth 100000 in
theorem c_X5_widest (l : Launch) (D : va_G) (cs : Nat → ClassId) (q : Nat → Nat) (a0 : Nat) (a1 : Int32) (σ σ0 : HS) (r0 : Int32) (hf0 : f_X5_widest a0 a1 σ = some (r0, σ0)) : MT l yX5_widest (Cond.code yX5_widest cX5_widest 9 (some .int) :: lw_g) rm_X5_widest D cs q σ σ0 [.ref (q a0), .int a1] (fun z => z = q) (fun _ => some (.int r0)) 0 0 := by
  unfold f_X5_widest at hf0
  refine MT_of (cc := cX5_widest) (lv0 := [(0, .ref (q a0)), (1, .int a1)]) (by decide) (Nat.le_of_ble_eq_true rfl) rfl (fun p e s m args below meth c A X hr hlk hin => ?_)
  have L39 : ∀ (nk : Nat) (x0 : Nat) (x1 : Int32) (x2 : Nat) (x3 : Int32) (x4 : Int64) (x6 : Int32) (τ : HS), lp_X5_widest_39  nk x0 x1 x2 x3 x4 x6 τ = some (r0, σ0) → J p l e rm_X5_widest s m args below meth c 9 D cs A s.heap 0 0 (MQ below (hQ D cs (fun z => z = q) (fun _ => some (.int r0)) σ0 A) args s 0 0 A) q τ [(0, .ref (q x0)), (1, .int x1), (2, .ref (q x2)), (3, .int x3), (4, .long x4), (6, .int x6)] 39 [] := by
    intro nk
    induction nk with
    | zero => intro x0 x1 x2 x3 x4 x6 τ hf0; have hf1 : (none : Option (Int32 × HS)) = some (r0, σ0) := hf0; cases hf1
    | succ nk ih =>
      intro x0 x1 x2 x3 x4 x6 τ hf0
      replace hf0 : lp_X5_widest_39_b  (lp_X5_widest_39  nk) x0 x1 x2 x3 x4 x6 τ = some (r0, σ0) := hf0
      unfold lp_X5_widest_39_b at hf0
      refine j_iload X dX5_widest_39 5 rfl ?_
      refine j_bipush X (v := 6) dX5_widest_41 (by decide) ?_
      refine j_icmp_ge X (tgt := 154) dX5_widest_43 (by decide) (fun c36 => ?_) (fun c36 => ?_)
      · have hf37 := br_y hf0 c36; clear hf0
        refine j_iload_n X dX5_widest_154 3 rfl rfl ?_
        obtain ⟨er, es⟩ := rt_of hf37
        subst er
        exact j_reti X hr hlk (Nat.le_of_ble_eq_true rfl) (Nat.le_of_ble_eq_true rfl) rfl es.symm rfl dX5_widest_155
      · have hf38 := br_n hf0 c36; clear hf0
        refine j_aload_n X dX5_widest_46 0 rfl rfl ?_
        obtain ⟨h39, hf40⟩ := chk_of hf38; clear hf38
        obtain ⟨i41, h42, hf43⟩ := bd_of hf40; clear hf40
        refine j_getr X fd_X5_14 h39 h42 dX5_widest_47 ?_
        obtain ⟨h44, hf45⟩ := chk_of hf43; clear hf43
        obtain ⟨i46, h47, hf48⟩ := bd_of hf45; clear hf45
        refine j_getr X fd_X5_196 h44 h47 dX5_widest_50 ?_
        refine j_iload X dX5_widest_53 5 rfl ?_
        obtain ⟨h49, hf50⟩ := chk_of hf48; clear hf48
        refine j_iald X h49 dX5_widest_55 (fun v51 ev51 => ?_)
        replace hf50 := lt_of hf50 v51 ev51
        refine j_if_ne X (tgt := 62) dX5_widest_56 (by decide) (fun c53 => ?_) (fun c53 => ?_)
        · have hf54 := br_n hf50 c53; clear hf50
          refine j_aload_n X dX5_widest_62 0 rfl rfl ?_
          obtain ⟨i56, h57, hf58⟩ := bd_of hf54; clear hf54
          refine j_getr X fd_X5_35 h39 h57 dX5_widest_63 ?_
          refine j_aload_n X dX5_widest_66 0 rfl rfl ?_
          refine j_getr X fd_X5_14 h39 h42 dX5_widest_67 ?_
          obtain ⟨h62, hf63⟩ := chk_of hf58; clear hf58
          obtain ⟨r64, σ65, h66, hf67⟩ := bc_of hf63; clear hf63
          refine j_callV0 X [.ref (q i41)] [] (c_X4_standAs l D cs q i56 i41 τ _ _ h66) mk_X4_standAs mv_X4_standAs ml_X5_199 h62 rfl (by decide) ⟨rfl, rfl⟩ ⟨Nat.le_of_ble_eq_true rfl, Nat.le_of_ble_eq_true rfl⟩ rfl (Nat.le_of_ble_eq_true rfl) ⟨Nat.le_of_ble_eq_true rfl, Nat.le_of_ble_eq_true rfl⟩ dX5_widest_70 rfl (st' := []) rfl ?_
          refine j_aload_n X dX5_widest_73 0 rfl rfl ?_
          obtain ⟨h68, hf69⟩ := chk_of hf67; clear hf67
          obtain ⟨i70, h71, hf72⟩ := bd_of hf69; clear hf69
          refine j_getr X fd_X5_35 h68 h71 dX5_widest_74 ?_
          refine j_iload X dX5_widest_77 5 rfl ?_
          refine j_aload_n X dX5_widest_79 0 rfl rfl ?_
          obtain ⟨i73, h74, hf75⟩ := bd_of hf72; clear hf72
          refine j_getr X fd_X5_14 h68 h74 dX5_widest_80 ?_
          obtain ⟨h76, hf77⟩ := chk_of hf75; clear hf75
          obtain ⟨i78, h79, hf80⟩ := bd_of hf77; clear hf77
          refine j_getr X fd_X5_145 h76 h79 dX5_widest_83 ?_
          refine j_iload X dX5_widest_86 5 rfl ?_
          obtain ⟨h81, hf82⟩ := chk_of hf80; clear hf80
          refine j_iald X h81 dX5_widest_88 (fun v83 ev83 => ?_)
          replace hf82 := lt_of hf82 v83 ev83
          refine j_aload_n X dX5_widest_89 0 rfl rfl ?_
          refine j_getr X fd_X5_14 h68 h74 dX5_widest_90 ?_
          refine j_getr X fd_X5_145 h76 h79 dX5_widest_93 ?_
          refine j_iload X dX5_widest_96 5 rfl ?_
          obtain ⟨h91, hf92⟩ := chk_of hf82; clear hf82
          refine j_iald X h91 dX5_widest_98 (fun v93 ev93 => ?_)
          replace hf92 := lt_of hf92 v93 ev93
          obtain ⟨h95, hf96⟩ := chk_of hf92; clear hf92
          obtain ⟨r97, σ98, h99, hf100⟩ := bc_of hf96; clear hf96
          refine j_callV0 X [.int x6, .int v83, .int v93] [] (c_X4_stand l D cs q i70 x6 v83 v93 σ65 _ _ h99) mk_X4_stand mv_X4_stand ml_X5_169 h95 rfl (by decide) ⟨rfl, rfl⟩ ⟨Nat.le_of_ble_eq_true rfl, Nat.le_of_ble_eq_true rfl⟩ rfl (Nat.le_of_ble_eq_true rfl) ⟨Nat.le_of_ble_eq_true rfl, Nat.le_of_ble_eq_true rfl⟩ dX5_widest_99 rfl (st' := []) rfl ?_
          refine j_aload_n X dX5_widest_102 0 rfl rfl ?_
          obtain ⟨h101, hf102⟩ := chk_of hf100; clear hf100
          obtain ⟨i103, h104, hf105⟩ := bd_of hf102; clear hf102
          refine j_getr X fd_X5_35 h101 h104 dX5_widest_103 ?_
          refine j_aload_n X dX5_widest_106 2 rfl rfl ?_
          obtain ⟨h106, hf107⟩ := chk_of hf105; clear hf105
          obtain ⟨r108, σ109, h110, hf111⟩ := bc_of hf107; clear hf107
          refine j_callV0 X [.ref (q x2)] [] (c_X4_carry l D cs q i103 x2 σ98 _ _ h110) mk_X4_carry mv_X4_carry ml_X5_173 h106 rfl (by decide) ⟨rfl, rfl⟩ ⟨Nat.le_of_ble_eq_true rfl, Nat.le_of_ble_eq_true rfl⟩ rfl (Nat.le_of_ble_eq_true rfl) ⟨Nat.le_of_ble_eq_true rfl, Nat.le_of_ble_eq_true rfl⟩ dX5_widest_107 rfl (st' := []) rfl ?_
          refine j_aload_n X dX5_widest_110 0 rfl rfl ?_
          obtain ⟨h112, hf113⟩ := chk_of hf111; clear hf111
          obtain ⟨i114, h115, hf116⟩ := bd_of hf113; clear hf113
          refine j_getr X fd_X5_35 h112 h115 dX5_widest_111 ?_
          obtain ⟨h117, hf118⟩ := chk_of hf116; clear hf116
          refine j_getl X fd_X5_184 h117 dX5_widest_114 (fun v119 ev119 => ?_)
          replace hf118 := lt_of hf118 v119 ev119
          refine j_aload_n X dX5_widest_117 0 rfl rfl ?_
          refine j_getr X fd_X5_35 h112 h115 dX5_widest_118 ?_
          refine j_getl X fd_X5_188 h117 dX5_widest_121 (fun v124 ev124 => ?_)
          replace hf118 := lt_of hf118 v124 ev124
          refine j_lsub X dX5_widest_124 ?_
          refine j_nml (fun v126 ev126 => ?_)
          replace hf118 := lt_of hf118 v126 ev126
          refine j_lstore X (lv' := [(7, .long v126), (0, .ref (q x0)), (1, .int x1), (2, .ref (q x2)), (3, .int x3), (4, .long x4), (6, .int x6)]) dX5_widest_125 (by decide) rfl ?_
          refine j_iload_n X dX5_widest_127 4 rfl rfl ?_
          refine j_bipush X (v := -5) dX5_widest_128 (by decide) ?_
          refine j_icmp_eq X (tgt := 141) dX5_widest_130 (by decide) (fun c128 => ?_) (fun c128 => ?_)
          · have hf129 := br_y hf118 c128; clear hf118
            refine j_lload X dX5_widest_141 0 rfl ?_
            refine j_lstore X (lv' := [(4, .long v126), (7, .long v126), (0, .ref (q x0)), (1, .int x1), (2, .ref (q x2)), (3, .int x3), (6, .int x6)]) dX5_widest_143 (by decide) rfl ?_
            refine j_iload X dX5_widest_145 6 rfl ?_
            refine j_istore_n X (lv' := [(3, .int x6), (4, .long v126), (7, .long v126), (0, .ref (q x0)), (1, .int x1), (2, .ref (q x2)), (6, .int x6)]) dX5_widest_147 rfl (by decide) rfl ?_
            obtain ⟨v131, ev131⟩ : ∃ y : Int32, y = x6 + (1 : Int32) := ⟨_, rfl⟩
            replace hf129 := lt_of hf129 v131 ev131
            refine j_iinc X (v := v131) (lv' := [(6, .int v131), (3, .int x6), (4, .long v126), (7, .long v126), (0, .ref (q x0)), (1, .int x1), (2, .ref (q x2))]) dX5_widest_148 6 rfl (by rw [ev131]; rfl) (by decide) rfl ?_
            refine j_goto X (tgt := 39) dX5_widest_151 (by decide) ?_
            refine j_lvsub [4, 5, 6, 1, 2, 0] (lv' := [(0, .ref (q x0)), (1, .int x1), (2, .ref (q x2)), (3, .int x6), (4, .long v126), (6, .int v131)]) rfl ?_
            exact ih x0 x1 x2 x6 v126 v131 σ109 hf129
          · have hf130 := br_n hf118 c128; clear hf118
            refine j_lload X dX5_widest_133 0 rfl ?_
            refine j_lload X dX5_widest_135 5 rfl ?_
            refine j_lcmp X dX5_widest_137 ?_
            refine j_if_ge X (tgt := 148) dX5_widest_138 (by decide) (fun c133 => ?_) (fun c133 => ?_)
            · have hf134 := br_y hf130 c133; clear hf130
              obtain ⟨v136, ev136⟩ : ∃ y : Int32, y = x6 + (1 : Int32) := ⟨_, rfl⟩
              replace hf134 := lt_of hf134 v136 ev136
              refine j_iinc X (v := v136) (lv' := [(6, .int v136), (7, .long v126), (0, .ref (q x0)), (1, .int x1), (2, .ref (q x2)), (3, .int x3), (4, .long x4)]) dX5_widest_148 6 rfl (by rw [ev136]; rfl) (by decide) rfl ?_
              refine j_goto X (tgt := 39) dX5_widest_151 (by decide) ?_
              refine j_lvsub [2, 3, 4, 5, 6, 0] (lv' := [(0, .ref (q x0)), (1, .int x1), (2, .ref (q x2)), (3, .int x3), (4, .long x4), (6, .int v136)]) rfl ?_
              exact ih x0 x1 x2 x3 x4 v136 σ109 hf134
            · have hf135 := br_n hf130 c133; clear hf130
              refine j_lload X dX5_widest_141 0 rfl ?_
              refine j_lstore X (lv' := [(4, .long v126), (7, .long v126), (0, .ref (q x0)), (1, .int x1), (2, .ref (q x2)), (3, .int x3), (6, .int x6)]) dX5_widest_143 (by decide) rfl ?_
              refine j_iload X dX5_widest_145 6 rfl ?_
              refine j_istore_n X (lv' := [(3, .int x6), (4, .long v126), (7, .long v126), (0, .ref (q x0)), (1, .int x1), (2, .ref (q x2)), (6, .int x6)]) dX5_widest_147 rfl (by decide) rfl ?_
              obtain ⟨v138, ev138⟩ : ∃ y : Int32, y = x6 + (1 : Int32) := ⟨_, rfl⟩
              replace hf135 := lt_of hf135 v138 ev138
              refine j_iinc X (v := v138) (lv' := [(6, .int v138), (3, .int x6), (4, .long v126), (7, .long v126), (0, .ref (q x0)), (1, .int x1), (2, .ref (q x2))]) dX5_widest_148 6 rfl (by rw [ev138]; rfl) (by decide) rfl ?_
              refine j_goto X (tgt := 39) dX5_widest_151 (by decide) ?_
              refine j_lvsub [4, 5, 6, 1, 2, 0] (lv' := [(0, .ref (q x0)), (1, .int x1), (2, .ref (q x2)), (3, .int x6), (4, .long v126), (6, .int v138)]) rfl ?_
              exact ih x0 x1 x2 x6 v126 v138 σ109 hf135
        · have hf55 := br_y hf50 c53; clear hf50
          refine j_goto X (tgt := 148) dX5_widest_59 (by decide) ?_
          obtain ⟨v140, ev140⟩ : ∃ y : Int32, y = x6 + (1 : Int32) := ⟨_, rfl⟩
          replace hf55 := lt_of hf55 v140 ev140
          refine j_iinc X (v := v140) (lv' := [(6, .int v140), (0, .ref (q x0)), (1, .int x1), (2, .ref (q x2)), (3, .int x3), (4, .long x4)]) dX5_widest_148 5 rfl (by rw [ev140]; rfl) (by decide) rfl ?_
          refine j_goto X (tgt := 39) dX5_widest_151 (by decide) ?_
          refine j_lvsub [1, 2, 3, 4, 5, 0] (lv' := [(0, .ref (q x0)), (1, .int x1), (2, .ref (q x2)), (3, .int x3), (4, .long x4), (6, .int v140)]) rfl ?_
          exact ih x0 x1 x2 x3 x4 v140 τ hf55
  refine j_aload_n X dX5_widest_0 0 rfl rfl ?_
  refine j_iload_n X dX5_widest_1 1 rfl rfl ?_
  obtain ⟨h1, hf2⟩ := chk_of hf0; clear hf0
  obtain ⟨r3, σ4, h5, hf6⟩ := bc_of hf2; clear hf2
  refine j_callV0 X [.int a1] [] (c_X5_formulaOf l D cs q a0 a1 σ _ _ h5) mk_X5_formulaOf mv_X5_formulaOf ml_X5_100 h1 rfl (by decide) ⟨rfl, rfl⟩ ⟨Nat.le_of_ble_eq_true rfl, Nat.le_of_ble_eq_true rfl⟩ rfl (Nat.le_of_ble_eq_true rfl) ⟨Nat.le_of_ble_eq_true rfl, Nat.le_of_ble_eq_true rfl⟩ dX5_widest_2 rfl (st' := [va_rf (Option.map q r3)]) rfl ?_
  refine j_astore_nq X (lv' := [(2, va_rf (Option.map q r3)), (0, .ref (q a0)), (1, .int a1)]) dX5_widest_5 rfl (by decide) rfl ?_
  refine j_aload_nq X dX5_widest_6 0 rfl rfl ?_
  refine j_ifnonnull X (tgt := 12) dX5_widest_7 (by decide) (fun c142 => ?_) (fun i7 c142 => ?_)
  · subst c142; have hf8 := (show _ = some (r0, σ0) from hf6); clear hf6; unfold oc at hf8; dsimp only at hf8
    refine j_iconst X (v := -1) dX5_widest_10 (by decide) ?_
    obtain ⟨er, es⟩ := rt_of hf8
    subst er
    exact j_reti X hr hlk (Nat.le_of_ble_eq_true rfl) (Nat.le_of_ble_eq_true rfl) rfl es.symm rfl dX5_widest_11
  · subst c142; have hf9 := (show _ = some (r0, σ0) from hf6); clear hf6; unfold oc at hf9; dsimp only at hf9
    refine j_aload_n X dX5_widest_12 1 rfl rfl ?_
    refine j_aload_n X dX5_widest_13 0 rfl rfl ?_
    obtain ⟨h10, hf11⟩ := chk_of hf9; clear hf9
    obtain ⟨r12, σ13, h14, hf15⟩ := bc_of hf11; clear hf11
    refine j_callV0 X [.ref (q i7)] [] (c_X5_carryAsItIs l D cs q a0 i7 σ4 _ _ h14) mk_X5_carryAsItIs mv_X5_carryAsItIs ml_X5_127 h10 rfl (by decide) ⟨rfl, rfl⟩ ⟨Nat.le_of_ble_eq_true rfl, Nat.le_of_ble_eq_true rfl⟩ rfl (Nat.le_of_ble_eq_true rfl) ⟨Nat.le_of_ble_eq_true rfl, Nat.le_of_ble_eq_true rfl⟩ dX5_widest_14 rfl (st' := []) rfl ?_
    refine j_aload_n X dX5_widest_17 1 rfl rfl ?_
    obtain ⟨h16, hf17⟩ := chk_of hf15; clear hf15
    obtain ⟨i18, h19, hf20⟩ := bd_of hf17; clear hf17
    refine j_getr X fd_X5_35 h16 h19 dX5_widest_18 ?_
    obtain ⟨h21, hf22⟩ := chk_of hf20; clear hf20
    obtain ⟨r23, σ24, h25, hf26⟩ := bc_of hf22; clear hf22
    refine j_callV0 X [] [] (c_X4_hasWidth l D cs q i18 σ13 _ _ h25) mk_X4_hasWidth mv_X4_hasWidth ml_X5_180 h21 rfl (by decide) ⟨rfl, rfl⟩ ⟨Nat.le_of_ble_eq_true rfl, Nat.le_of_ble_eq_true rfl⟩ rfl (Nat.le_of_ble_eq_true rfl) ⟨Nat.le_of_ble_eq_true rfl, Nat.le_of_ble_eq_true rfl⟩ dX5_widest_21 rfl (st' := [.int r23]) rfl ?_
    refine j_if_ne X (tgt := 30) dX5_widest_24 (by decide) (fun c27 => ?_) (fun c27 => ?_)
    · have hf28 := br_n hf26 c27; clear hf26
      refine j_bipush X (v := -5) dX5_widest_30 (by decide) ?_
      refine j_nmi (fun v30 ev30 => ?_)
      replace hf28 := lt_of hf28 v30 ev30
      refine j_istore_n X (lv' := [(3, .int v30), (2, .ref (q i7)), (0, .ref (q a0)), (1, .int a1)]) dX5_widest_32 rfl (by decide) rfl ?_
      refine j_lconst X (v := 0) dX5_widest_33 (by decide) ?_
      refine j_nml (fun v32 ev32 => ?_)
      replace hf28 := lt_of hf28 v32 ev32
      refine j_lstore X (lv' := [(4, .long v32), (3, .int v30), (2, .ref (q i7)), (0, .ref (q a0)), (1, .int a1)]) dX5_widest_34 (by decide) rfl ?_
      refine j_iconst X (v := 0) dX5_widest_36 (by decide) ?_
      refine j_nmi (fun v34 ev34 => ?_)
      replace hf28 := lt_of hf28 v34 ev34
      refine j_istore X (lv' := [(6, .int v34), (4, .long v32), (3, .int v30), (2, .ref (q i7)), (0, .ref (q a0)), (1, .int a1)]) dX5_widest_37 (by decide) rfl ?_
      refine j_lvsub [4, 5, 3, 2, 1, 0] (lv' := [(0, .ref (q a0)), (1, .int a1), (2, .ref (q i7)), (3, .int v30), (4, .long v32), (6, .int v34)]) rfl ?_
      exact L39  1000 a0 a1 i7 v30 v32 v34 σ24 hf28
    · have hf29 := br_y hf26 c27; clear hf26
      refine j_bipush X (v := -6) dX5_widest_27 (by decide) ?_
      obtain ⟨er, es⟩ := rt_of hf29
      subst er
      exact j_reti X hr hlk (Nat.le_of_ble_eq_true rfl) (Nat.le_of_ble_eq_true rfl) rfl es.symm rfl dX5_widest_29
