abbrev rm_X6_undo : Room := { frames := 2, cells := 0, slots := 0, locals := 128 }
set_option maxHeartbeats 4000000 in
set_option maxRecDepth 100000 in
theorem c_X6_undo (l : Launch) (D : va_G) (cs : Nat → ClassId) (q : Nat → Nat) (a0 : Nat) (σ σ0 : HS) (r0 : Int32) (hf0 : f_X6_undo a0 σ = some (r0, σ0)) : MT l yX6_undo (Cond.code yX6_undo cX6_undo 1 (some .int) :: lw_g) rm_X6_undo D cs q σ σ0 [.ref (q a0)] (fun z => z = q) (fun _ => some (.int r0)) 0 0 := by
  unfold f_X6_undo at hf0
  refine MT_of (cc := cX6_undo) (lv0 := [(0, .ref (q a0))]) (by decide) (Nat.le_of_ble_eq_true rfl) rfl (fun p e s m args below meth c A X hr hlk hin => ?_)
  refine j_aload_n X dX6_undo_0 0 rfl rfl ?_
  obtain ⟨h1, hf2⟩ := chk_of hf0; clear hf0
  refine j_geti X fd_X6_321 h1 dX6_undo_1 (fun v3 ev3 => ?_)
  replace hf2 := lt_of hf2 v3 ev3
  refine j_if_ne X (tgt := 10) dX6_undo_4 (by decide) (fun c5 => ?_) (fun c5 => ?_)
  · have hf6 := br_n hf2 c5; clear hf2
    refine j_aload_n X dX6_undo_10 0 rfl rfl ?_
    obtain ⟨i8, h9, hf10⟩ := bd_of hf6; clear hf6
    refine j_getr X fd_X6_15 h1 h9 dX6_undo_11 ?_
    refine j_aload_n X dX6_undo_14 0 rfl rfl ?_
    obtain ⟨i11, h12, hf13⟩ := bd_of hf10; clear hf10
    refine j_getr X fd_X6_11 h1 h12 dX6_undo_15 ?_
    refine j_bipush X (v := 18) dX6_undo_18 (by decide) ?_
    obtain ⟨r14, σ15, h16, hf17⟩ := bc_of hf13; clear hf13
    refine j_callS0 X [.ref (q i8), .ref (q i11), .int (18 : Int32)] [] (c_X6_copies l D cs q i8 i11 (18 : Int32) σ _ _ h16) mk_X6_copies ms_X6_copies ml_X6_311 ⟨rfl, rfl⟩ ⟨Nat.le_of_ble_eq_true rfl, Nat.le_of_ble_eq_true rfl⟩ rfl (Nat.le_of_ble_eq_true rfl) ⟨Nat.le_of_ble_eq_true rfl, Nat.le_of_ble_eq_true rfl⟩ dX6_undo_20 rfl (st' := []) rfl ?_
    refine j_aload_n X dX6_undo_23 0 rfl rfl ?_
    obtain ⟨h18, hf19⟩ := chk_of hf17; clear hf17
    obtain ⟨i20, h21, hf22⟩ := bd_of hf19; clear hf19
    refine j_getr X fd_X6_33 h18 h21 dX6_undo_24 ?_
    refine j_aload_n X dX6_undo_27 0 rfl rfl ?_
    obtain ⟨i23, h24, hf25⟩ := bd_of hf22; clear hf22
    refine j_getr X fd_X6_18 h18 h24 dX6_undo_28 ?_
    refine j_sipush X (v := 360) dX6_undo_31 (by decide) ?_
    obtain ⟨r26, σ27, h28, hf29⟩ := bc_of hf25; clear hf25
    refine j_callS0 X [.ref (q i20), .ref (q i23), .int (360 : Int32)] [] (c_X6_copies l D cs q i20 i23 (360 : Int32) σ15 _ _ h28) mk_X6_copies ms_X6_copies ml_X6_311 ⟨rfl, rfl⟩ ⟨Nat.le_of_ble_eq_true rfl, Nat.le_of_ble_eq_true rfl⟩ rfl (Nat.le_of_ble_eq_true rfl) ⟨Nat.le_of_ble_eq_true rfl, Nat.le_of_ble_eq_true rfl⟩ dX6_undo_34 rfl (st' := []) rfl ?_
    refine j_aload_n X dX6_undo_37 0 rfl rfl ?_
    obtain ⟨h30, hf31⟩ := chk_of hf29; clear hf29
    obtain ⟨i32, h33, hf34⟩ := bd_of hf31; clear hf31
    refine j_getr X fd_X6_36 h30 h33 dX6_undo_38 ?_
    refine j_aload_n X dX6_undo_41 0 rfl rfl ?_
    obtain ⟨i35, h36, hf37⟩ := bd_of hf34; clear hf34
    refine j_getr X fd_X6_21 h30 h36 dX6_undo_42 ?_
    refine j_sipush X (v := 360) dX6_undo_45 (by decide) ?_
    obtain ⟨r38, σ39, h40, hf41⟩ := bc_of hf37; clear hf37
    refine j_callS0 X [.ref (q i32), .ref (q i35), .int (360 : Int32)] [] (c_X6_copies l D cs q i32 i35 (360 : Int32) σ27 _ _ h40) mk_X6_copies ms_X6_copies ml_X6_311 ⟨rfl, rfl⟩ ⟨Nat.le_of_ble_eq_true rfl, Nat.le_of_ble_eq_true rfl⟩ rfl (Nat.le_of_ble_eq_true rfl) ⟨Nat.le_of_ble_eq_true rfl, Nat.le_of_ble_eq_true rfl⟩ dX6_undo_48 rfl (st' := []) rfl ?_
    refine j_aload_n X dX6_undo_51 0 rfl rfl ?_
    obtain ⟨h42, hf43⟩ := chk_of hf41; clear hf41
    obtain ⟨i44, h45, hf46⟩ := bd_of hf43; clear hf43
    refine j_getr X fd_X6_39 h42 h45 dX6_undo_52 ?_
    refine j_aload_n X dX6_undo_55 0 rfl rfl ?_
    obtain ⟨i47, h48, hf49⟩ := bd_of hf46; clear hf46
    refine j_getr X fd_X6_24 h42 h48 dX6_undo_56 ?_
    refine j_sipush X (v := 360) dX6_undo_59 (by decide) ?_
    obtain ⟨r50, σ51, h52, hf53⟩ := bc_of hf49; clear hf49
    refine j_callS0 X [.ref (q i44), .ref (q i47), .int (360 : Int32)] [] (c_X6_copies l D cs q i44 i47 (360 : Int32) σ39 _ _ h52) mk_X6_copies ms_X6_copies ml_X6_311 ⟨rfl, rfl⟩ ⟨Nat.le_of_ble_eq_true rfl, Nat.le_of_ble_eq_true rfl⟩ rfl (Nat.le_of_ble_eq_true rfl) ⟨Nat.le_of_ble_eq_true rfl, Nat.le_of_ble_eq_true rfl⟩ dX6_undo_62 rfl (st' := []) rfl ?_
    refine j_aload_n X dX6_undo_65 0 rfl rfl ?_
    obtain ⟨h54, hf55⟩ := chk_of hf53; clear hf53
    obtain ⟨i56, h57, hf58⟩ := bd_of hf55; clear hf55
    refine j_getr X fd_X6_42 h54 h57 dX6_undo_66 ?_
    refine j_aload_n X dX6_undo_69 0 rfl rfl ?_
    obtain ⟨i59, h60, hf61⟩ := bd_of hf58; clear hf58
    refine j_getr X fd_X6_27 h54 h60 dX6_undo_70 ?_
    refine j_sipush X (v := 360) dX6_undo_73 (by decide) ?_
    obtain ⟨r62, σ63, h64, hf65⟩ := bc_of hf61; clear hf61
    refine j_callS0 X [.ref (q i56), .ref (q i59), .int (360 : Int32)] [] (c_X6_copies l D cs q i56 i59 (360 : Int32) σ51 _ _ h64) mk_X6_copies ms_X6_copies ml_X6_311 ⟨rfl, rfl⟩ ⟨Nat.le_of_ble_eq_true rfl, Nat.le_of_ble_eq_true rfl⟩ rfl (Nat.le_of_ble_eq_true rfl) ⟨Nat.le_of_ble_eq_true rfl, Nat.le_of_ble_eq_true rfl⟩ dX6_undo_76 rfl (st' := []) rfl ?_
    refine j_aload_n X dX6_undo_79 0 rfl rfl ?_
    obtain ⟨h66, hf67⟩ := chk_of hf65; clear hf65
    obtain ⟨i68, h69, hf70⟩ := bd_of hf67; clear hf67
    refine j_getr X fd_X6_45 h66 h69 dX6_undo_80 ?_
    refine j_aload_n X dX6_undo_83 0 rfl rfl ?_
    obtain ⟨i71, h72, hf73⟩ := bd_of hf70; clear hf70
    refine j_getr X fd_X6_30 h66 h72 dX6_undo_84 ?_
    refine j_bipush X (v := 6) dX6_undo_87 (by decide) ?_
    obtain ⟨r74, σ75, h76, hf77⟩ := bc_of hf73; clear hf73
    refine j_callS0 X [.ref (q i68), .ref (q i71), .int (6 : Int32)] [] (c_X6_copies l D cs q i68 i71 (6 : Int32) σ63 _ _ h76) mk_X6_copies ms_X6_copies ml_X6_311 ⟨rfl, rfl⟩ ⟨Nat.le_of_ble_eq_true rfl, Nat.le_of_ble_eq_true rfl⟩ rfl (Nat.le_of_ble_eq_true rfl) ⟨Nat.le_of_ble_eq_true rfl, Nat.le_of_ble_eq_true rfl⟩ dX6_undo_89 rfl (st' := []) rfl ?_
    refine j_aload_n X dX6_undo_92 0 rfl rfl ?_
    obtain ⟨h78, hf79⟩ := chk_of hf77; clear hf77
    obtain ⟨i80, h81, hf82⟩ := bd_of hf79; clear hf79
    refine j_getr X fd_X6_83 h78 h81 dX6_undo_93 ?_
    refine j_aload_n X dX6_undo_96 0 rfl rfl ?_
    obtain ⟨i83, h84, hf85⟩ := bd_of hf82; clear hf82
    refine j_getr X fd_X6_80 h78 h84 dX6_undo_97 ?_
    refine j_bipush X (v := 24) dX6_undo_100 (by decide) ?_
    obtain ⟨r86, σ87, h88, hf89⟩ := bc_of hf85; clear hf85
    refine j_callS0 X [.ref (q i80), .ref (q i83), .int (24 : Int32)] [] (c_X6_copies l D cs q i80 i83 (24 : Int32) σ75 _ _ h88) mk_X6_copies ms_X6_copies ml_X6_311 ⟨rfl, rfl⟩ ⟨Nat.le_of_ble_eq_true rfl, Nat.le_of_ble_eq_true rfl⟩ rfl (Nat.le_of_ble_eq_true rfl) ⟨Nat.le_of_ble_eq_true rfl, Nat.le_of_ble_eq_true rfl⟩ dX6_undo_102 rfl (st' := []) rfl ?_
    refine j_aload_n X dX6_undo_105 0 rfl rfl ?_
    refine j_aload_n X dX6_undo_106 0 rfl rfl ?_
    obtain ⟨h90, hf91⟩ := chk_of hf89; clear hf89
    refine j_geti X fd_X6_315 h90 dX6_undo_107 (fun v92 ev92 => ?_)
    replace hf91 := lt_of hf91 v92 ev92
    refine j_puti X fp_X6_122 h90 dX6_undo_110 (fun σ94 eσ94 => ?_)
    replace hf91 := lt_of hf91 σ94 eσ94
    have h96 : isO σ94 6 a0 := by rw [eσ94]; exact h90
    refine j_aload_n X dX6_undo_113 0 rfl rfl ?_
    refine j_aload_n X dX6_undo_114 0 rfl rfl ?_
    refine j_geti X fd_X6_318 h96 dX6_undo_115 (fun v97 ev97 => ?_)
    replace hf91 := lt_of hf91 v97 ev97
    refine j_puti X fp_X6_297 h96 dX6_undo_118 (fun σ99 eσ99 => ?_)
    replace hf91 := lt_of hf91 σ99 eσ99
    have h101 : isO σ99 6 a0 := by rw [eσ99]; exact h96
    refine j_aload_n X dX6_undo_121 0 rfl rfl ?_
    refine j_geti X fd_X6_122 h101 dX6_undo_122 (fun v102 ev102 => ?_)
    replace hf91 := lt_of hf91 v102 ev102
    obtain ⟨er, es⟩ := rt_of hf91
    subst er
    exact j_reti X hr hlk (Nat.le_of_ble_eq_true rfl) (Nat.le_of_ble_eq_true rfl) rfl es.symm rfl dX6_undo_125
  · have hf7 := br_y hf2 c5; clear hf2
    refine j_bipush X (v := -3) dX6_undo_7 (by decide) ?_
    obtain ⟨er, es⟩ := rt_of hf7
    subst er
    exact j_reti X hr hlk (Nat.le_of_ble_eq_true rfl) (Nat.le_of_ble_eq_true rfl) rfl es.symm rfl dX6_undo_9
abbrev rm_X6_way : Room := { frames := 1, cells := 0, slots := 0, locals := 64 }
set_option maxHeartbeats 4000000 in
set_option maxRecDepth 100000 in
theorem c_X6_way (l : Launch) (D : va_G) (cs : Nat → ClassId) (q : Nat → Nat) (a0 : Nat) (a1 : Int32) (σ σ0 : HS) (r0 : Int32) (hf0 : f_X6_way a0 a1 σ = some (r0, σ0)) : MT l yX6_way (Cond.code yX6_way cX6_way 2 (some .int) :: lw_g) rm_X6_way D cs q σ σ0 [.ref (q a0), .int a1] (fun z => z = q) (fun _ => some (.int r0)) 0 0 := by
  unfold f_X6_way at hf0
  refine MT_of (cc := cX6_way) (lv0 := [(0, .ref (q a0)), (1, .int a1)]) (by decide) (Nat.le_of_ble_eq_true rfl) rfl (fun p e s m args below meth c A X hr hlk hin => ?_)
  refine j_iload_n X dX6_way_0 1 rfl rfl ?_
  refine j_iconst X (v := -1) dX6_way_1 (by decide) ?_
  refine j_icmp_ne X (tgt := 12) dX6_way_2 (by decide) (fun c1 => ?_) (fun c1 => ?_)
  · have hf2 := br_n hf0 c1; clear hf0
    refine j_iload_n X dX6_way_12 1 rfl rfl ?_
    refine j_i2l X dX6_way_13 ?_
    refine j_lconst X (v := 0) dX6_way_14 (by decide) ?_
    refine j_aload_n X dX6_way_15 0 rfl rfl ?_
    obtain ⟨h4, hf5⟩ := chk_of hf2; clear hf2
    refine j_geti X fd_X6_251 h4 dX6_way_16 (fun v6 ev6 => ?_)
    replace hf5 := lt_of hf5 v6 ev6
    refine j_iconst X (v := 1) dX6_way_19 (by decide) ?_
    refine j_isub X dX6_way_20 ?_
    refine j_i2l X dX6_way_21 ?_
    obtain ⟨r8, σ9, h10, hf11⟩ := bc_of hf5; clear hf5
    refine j_callS0 X [.long (a1).toInt64, .long (0 : Int64), .long ((v6 - (1 : Int32))).toInt64] [] (c_X6_isIn l D cs q (a1).toInt64 (0 : Int64) ((v6 - (1 : Int32))).toInt64 σ _ _ h10) mk_X6_isIn ms_X6_isIn ml_X6_97 ⟨rfl, rfl⟩ ⟨Nat.le_of_ble_eq_true rfl, Nat.le_of_ble_eq_true rfl⟩ rfl (Nat.le_of_ble_eq_true rfl) ⟨Nat.le_of_ble_eq_true rfl, Nat.le_of_ble_eq_true rfl⟩ dX6_way_22 rfl (st' := [.int r8]) rfl ?_
    refine j_if_eq X (tgt := 37) dX6_way_25 (by decide) (fun c12 => ?_) (fun c12 => ?_)
    · have hf13 := br_y hf11 c12; clear hf11
      refine j_iconst X (v := -1) dX6_way_37 (by decide) ?_
      obtain ⟨er, es⟩ := rt_of hf13
      subst er
      exact j_reti X hr hlk (Nat.le_of_ble_eq_true rfl) (Nat.le_of_ble_eq_true rfl) rfl es.symm rfl dX6_way_38
    · have hf14 := br_n hf11 c12; clear hf11
      refine j_aload_n X dX6_way_28 0 rfl rfl ?_
      obtain ⟨h15, hf16⟩ := chk_of hf14; clear hf14
      obtain ⟨i17, h18, hf19⟩ := bd_of hf16; clear hf16
      refine j_getr X fd_X6_68 h15 h18 dX6_way_29 ?_
      refine j_iload_n X dX6_way_32 1 rfl rfl ?_
      obtain ⟨h20, hf21⟩ := chk_of hf19; clear hf19
      refine j_iald X h20 dX6_way_33 (fun v22 ev22 => ?_)
      replace hf21 := lt_of hf21 v22 ev22
      refine j_goto X (tgt := 38) dX6_way_34 (by decide) ?_
      obtain ⟨er, es⟩ := rt_of hf21
      subst er
      exact j_reti X hr hlk (Nat.le_of_ble_eq_true rfl) (Nat.le_of_ble_eq_true rfl) rfl es.symm rfl dX6_way_38
  · have hf3 := br_y hf0 c1; clear hf0
    refine j_aload_n X dX6_way_5 0 rfl rfl ?_
    obtain ⟨h24, hf25⟩ := chk_of hf3; clear hf3
    refine j_geti X fd_X6_251 h24 dX6_way_6 (fun v26 ev26 => ?_)
    replace hf25 := lt_of hf25 v26 ev26
    refine j_goto X (tgt := 38) dX6_way_9 (by decide) ?_
    obtain ⟨er, es⟩ := rt_of hf25
    subst er
    exact j_reti X hr hlk (Nat.le_of_ble_eq_true rfl) (Nat.le_of_ble_eq_true rfl) rfl es.symm rfl dX6_way_38
abbrev rm_X6_widest : Room := { frames := 6, cells := 0, slots := 0, locals := 384 }
set_option maxHeartbeats 4000000 in
set_option maxRecDepth 100000 in
theorem c_X6_widest (l : Launch) (D : va_G) (cs : Nat → ClassId) (q : Nat → Nat) (a0 : Nat) (a1 : Int32) (σ σ0 : HS) (r0 : Int32) (hf0 : f_X6_widest a0 a1 σ = some (r0, σ0)) : MT l yX6_widest (Cond.code yX6_widest cX6_widest 8 (some .int) :: lw_g) rm_X6_widest D cs q σ σ0 [.ref (q a0), .int a1] (fun z => z = q) (fun _ => some (.int r0)) 0 0 := by
  unfold f_X6_widest at hf0
  refine MT_of (cc := cX6_widest) (lv0 := [(0, .ref (q a0)), (1, .int a1)]) (by decide) (Nat.le_of_ble_eq_true rfl) rfl (fun p e s m args below meth c A X hr hlk hin => ?_)
  have L33 : ∀ (nk : Nat) (x0 : Nat) (x1 : Int32) (x2 : Int32) (x3 : Int64) (x5 : Int32) (τ : HS), lp_X6_widest_33  nk x0 x1 x2 x3 x5 τ = some (r0, σ0) → J p l e rm_X6_widest s m args below meth c 8 D cs A s.heap 0 0 (MQ below (hQ D cs (fun z => z = q) (fun _ => some (.int r0)) σ0 A) args s 0 0 A) q τ [(0, .ref (q x0)), (1, .int x1), (2, .int x2), (3, .long x3), (5, .int x5)] 33 [] := by
    intro nk
    induction nk with
    | zero => intro x0 x1 x2 x3 x5 τ hf0; have hf1 : (none : Option (Int32 × HS)) = some (r0, σ0) := hf0; cases hf1
    | succ nk ih =>
      intro x0 x1 x2 x3 x5 τ hf0
      replace hf0 : lp_X6_widest_33_b  (lp_X6_widest_33  nk) x0 x1 x2 x3 x5 τ = some (r0, σ0) := hf0
      unfold lp_X6_widest_33_b at hf0
      refine j_iload X dX6_widest_33 4 rfl ?_
      refine j_bipush X (v := 6) dX6_widest_35 (by decide) ?_
      refine j_icmp_ge X (tgt := 100) dX6_widest_37 (by decide) (fun c25 => ?_) (fun c25 => ?_)
      · have hf26 := br_y hf0 c25; clear hf0
        refine j_iload_n X dX6_widest_100 2 rfl rfl ?_
        obtain ⟨er, es⟩ := rt_of hf26
        subst er
        exact j_reti X hr hlk (Nat.le_of_ble_eq_true rfl) (Nat.le_of_ble_eq_true rfl) rfl es.symm rfl dX6_widest_101
      · have hf27 := br_n hf0 c25; clear hf0
        refine j_aload_n X dX6_widest_40 0 rfl rfl ?_
        refine j_iload X dX6_widest_41 4 rfl ?_
        obtain ⟨h28, hf29⟩ := chk_of hf27; clear hf27
        obtain ⟨r30, σ31, h32, hf33⟩ := bc_of hf29; clear hf29
        refine j_callV0 X [.int x5] [] (c_X6_spanOf l D cs q x0 x5 τ _ _ h32) mk_X6_spanOf mv_X6_spanOf ml_X6_119 h28 rfl (by decide) ⟨rfl, rfl⟩ ⟨Nat.le_of_ble_eq_true rfl, Nat.le_of_ble_eq_true rfl⟩ rfl (Nat.le_of_ble_eq_true rfl) ⟨Nat.le_of_ble_eq_true rfl, Nat.le_of_ble_eq_true rfl⟩ dX6_widest_43 rfl (st' := [.int r30]) rfl ?_
        refine j_if_ne X (tgt := 52) dX6_widest_46 (by decide) (fun c34 => ?_) (fun c34 => ?_)
        · have hf35 := br_n hf33 c34; clear hf33
          refine j_aload_n X dX6_widest_52 0 rfl rfl ?_
          obtain ⟨h37, hf38⟩ := chk_of hf35; clear hf35
          obtain ⟨r39, σ40, h41, hf42⟩ := bc_of hf38; clear hf38
          refine j_callV0 X [] [] (c_X6_laysBox l D cs q x0 σ31 _ _ h41) mk_X6_laysBox mv_X6_laysBox ml_X6_233 h37 rfl (by decide) ⟨rfl, rfl⟩ ⟨Nat.le_of_ble_eq_true rfl, Nat.le_of_ble_eq_true rfl⟩ rfl (Nat.le_of_ble_eq_true rfl) ⟨Nat.le_of_ble_eq_true rfl, Nat.le_of_ble_eq_true rfl⟩ dX6_widest_53 rfl (st' := []) rfl ?_
          refine j_aload_n X dX6_widest_56 0 rfl rfl ?_
          refine j_iload X dX6_widest_57 4 rfl ?_
          refine j_aload_n X dX6_widest_59 0 rfl rfl ?_
          refine j_iload X dX6_widest_60 4 rfl ?_
          obtain ⟨h43, hf44⟩ := chk_of hf42; clear hf42
          obtain ⟨r45, σ46, h47, hf48⟩ := bc_of hf44; clear hf44
          refine j_callV0 X [.int x5] [.int x5, .ref (q x0)] (c_X6_valueOf l D cs q x0 x5 σ40 _ _ h47) mk_X6_valueOf mv_X6_valueOf ml_X6_115 h43 rfl (by decide) ⟨rfl, rfl⟩ ⟨Nat.le_of_ble_eq_true rfl, Nat.le_of_ble_eq_true rfl⟩ rfl (Nat.le_of_ble_eq_true rfl) ⟨Nat.le_of_ble_eq_true rfl, Nat.le_of_ble_eq_true rfl⟩ dX6_widest_62 rfl (st' := [.int r45, .int x5, .ref (q x0)]) rfl ?_
          obtain ⟨h49, hf50⟩ := chk_of hf48; clear hf48
          obtain ⟨r51, σ52, h53, hf54⟩ := bc_of hf50; clear hf50
          refine j_callV0 X [.int x5, .int r45] [] (c_X6_laysPoint l D cs q x0 x5 r45 σ46 _ _ h53) mk_X6_laysPoint mv_X6_laysPoint ml_X6_264 h49 rfl (by decide) ⟨rfl, rfl⟩ ⟨Nat.le_of_ble_eq_true rfl, Nat.le_of_ble_eq_true rfl⟩ rfl (Nat.le_of_ble_eq_true rfl) ⟨Nat.le_of_ble_eq_true rfl, Nat.le_of_ble_eq_true rfl⟩ dX6_widest_65 rfl (st' := []) rfl ?_
          refine j_aload_n X dX6_widest_68 0 rfl rfl ?_
          refine j_iload_n X dX6_widest_69 1 rfl rfl ?_
          obtain ⟨h55, hf56⟩ := chk_of hf54; clear hf54
          obtain ⟨r57, σ58, h59, hf60⟩ := bc_of hf56; clear hf56
          refine j_callV0 X [.int x1] [] (c_X6_widthBy l D cs q x0 x1 σ52 _ _ h59) mk_X6_widthBy mv_X6_widthBy ml_X6_248 h55 rfl (by decide) ⟨rfl, rfl⟩ ⟨Nat.le_of_ble_eq_true rfl, Nat.le_of_ble_eq_true rfl⟩ rfl (Nat.le_of_ble_eq_true rfl) ⟨Nat.le_of_ble_eq_true rfl, Nat.le_of_ble_eq_true rfl⟩ dX6_widest_70 rfl (st' := [.long r57]) rfl ?_
          refine j_lstore X (lv' := [(6, .long r57), (0, .ref (q x0)), (1, .int x1), (2, .int x2), (3, .long x3), (5, .int x5)]) dX6_widest_73 (by decide) rfl ?_
          refine j_iload_n X dX6_widest_75 3 rfl rfl ?_
          refine j_bipush X (v := -5) dX6_widest_76 (by decide) ?_
          refine j_icmp_eq X (tgt := 88) dX6_widest_78 (by decide) (fun c61 => ?_) (fun c61 => ?_)
          · have hf62 := br_y hf60 c61; clear hf60
            refine j_iload X dX6_widest_88 5 rfl ?_
            refine j_istore_n X (lv' := [(2, .int x5), (6, .long r57), (0, .ref (q x0)), (1, .int x1), (3, .long x3), (5, .int x5)]) dX6_widest_90 rfl (by decide) rfl ?_
            refine j_lload X dX6_widest_91 1 rfl ?_
            refine j_lstore_n X (lv' := [(3, .long r57), (2, .int x5), (6, .long r57), (0, .ref (q x0)), (1, .int x1), (5, .int x5)]) dX6_widest_93 rfl (by decide) rfl ?_
            obtain ⟨v64, ev64⟩ : ∃ y : Int32, y = x5 + (1 : Int32) := ⟨_, rfl⟩
            replace hf62 := lt_of hf62 v64 ev64
            refine j_iinc X (v := v64) (lv' := [(5, .int v64), (3, .long r57), (2, .int x5), (6, .long r57), (0, .ref (q x0)), (1, .int x1)]) dX6_widest_94 5 rfl (by rw [ev64]; rfl) (by decide) rfl ?_
            refine j_goto X (tgt := 33) dX6_widest_97 (by decide) ?_
            refine j_lvsub [4, 5, 2, 1, 0] (lv' := [(0, .ref (q x0)), (1, .int x1), (2, .int x5), (3, .long r57), (5, .int v64)]) rfl ?_
            exact ih x0 x1 x5 r57 v64 σ58 hf62
          · have hf63 := br_n hf60 c61; clear hf60
            refine j_lload X dX6_widest_81 0 rfl ?_
            refine j_lload_n X dX6_widest_83 4 rfl rfl ?_
            refine j_lcmp X dX6_widest_84 ?_
            refine j_if_ge X (tgt := 94) dX6_widest_85 (by decide) (fun c66 => ?_) (fun c66 => ?_)
            · have hf67 := br_y hf63 c66; clear hf63
              obtain ⟨v69, ev69⟩ : ∃ y : Int32, y = x5 + (1 : Int32) := ⟨_, rfl⟩
              replace hf67 := lt_of hf67 v69 ev69
              refine j_iinc X (v := v69) (lv' := [(5, .int v69), (6, .long r57), (0, .ref (q x0)), (1, .int x1), (2, .int x2), (3, .long x3)]) dX6_widest_94 5 rfl (by rw [ev69]; rfl) (by decide) rfl ?_
              refine j_goto X (tgt := 33) dX6_widest_97 (by decide) ?_
              refine j_lvsub [2, 3, 4, 5, 0] (lv' := [(0, .ref (q x0)), (1, .int x1), (2, .int x2), (3, .long x3), (5, .int v69)]) rfl ?_
              exact ih x0 x1 x2 x3 v69 σ58 hf67
            · have hf68 := br_n hf63 c66; clear hf63
              refine j_iload X dX6_widest_88 5 rfl ?_
              refine j_istore_n X (lv' := [(2, .int x5), (6, .long r57), (0, .ref (q x0)), (1, .int x1), (3, .long x3), (5, .int x5)]) dX6_widest_90 rfl (by decide) rfl ?_
              refine j_lload X dX6_widest_91 1 rfl ?_
              refine j_lstore_n X (lv' := [(3, .long r57), (2, .int x5), (6, .long r57), (0, .ref (q x0)), (1, .int x1), (5, .int x5)]) dX6_widest_93 rfl (by decide) rfl ?_
              obtain ⟨v71, ev71⟩ : ∃ y : Int32, y = x5 + (1 : Int32) := ⟨_, rfl⟩
              replace hf68 := lt_of hf68 v71 ev71
              refine j_iinc X (v := v71) (lv' := [(5, .int v71), (3, .long r57), (2, .int x5), (6, .long r57), (0, .ref (q x0)), (1, .int x1)]) dX6_widest_94 5 rfl (by rw [ev71]; rfl) (by decide) rfl ?_
              refine j_goto X (tgt := 33) dX6_widest_97 (by decide) ?_
              refine j_lvsub [4, 5, 2, 1, 0] (lv' := [(0, .ref (q x0)), (1, .int x1), (2, .int x5), (3, .long r57), (5, .int v71)]) rfl ?_
              exact ih x0 x1 x5 r57 v71 σ58 hf68
        · have hf36 := br_y hf33 c34; clear hf33
          refine j_goto X (tgt := 94) dX6_widest_49 (by decide) ?_
          obtain ⟨v73, ev73⟩ : ∃ y : Int32, y = x5 + (1 : Int32) := ⟨_, rfl⟩
          replace hf36 := lt_of hf36 v73 ev73
          refine j_iinc X (v := v73) (lv' := [(5, .int v73), (0, .ref (q x0)), (1, .int x1), (2, .int x2), (3, .long x3)]) dX6_widest_94 4 rfl (by rw [ev73]; rfl) (by decide) rfl ?_
          refine j_goto X (tgt := 33) dX6_widest_97 (by decide) ?_
          refine j_lvsub [1, 2, 3, 4, 0] (lv' := [(0, .ref (q x0)), (1, .int x1), (2, .int x2), (3, .long x3), (5, .int v73)]) rfl ?_
          exact ih x0 x1 x2 x3 v73 σ31 hf36
  refine j_aload_n X dX6_widest_0 0 rfl rfl ?_
  refine j_iload_n X dX6_widest_1 1 rfl rfl ?_
  obtain ⟨h1, hf2⟩ := chk_of hf0; clear hf0
  obtain ⟨r3, σ4, h5, hf6⟩ := bc_of hf2; clear hf2
  refine j_callV0 X [.int a1] [] (c_X6_isFormula l D cs q a0 a1 σ _ _ h5) mk_X6_isFormula mv_X6_isFormula ml_X6_180 h1 rfl (by decide) ⟨rfl, rfl⟩ ⟨Nat.le_of_ble_eq_true rfl, Nat.le_of_ble_eq_true rfl⟩ rfl (Nat.le_of_ble_eq_true rfl) ⟨Nat.le_of_ble_eq_true rfl, Nat.le_of_ble_eq_true rfl⟩ dX6_widest_2 rfl (st' := [.int r3]) rfl ?_
  refine j_if_ne X (tgt := 10) dX6_widest_5 (by decide) (fun c7 => ?_) (fun c7 => ?_)
  · have hf8 := br_n hf6 c7; clear hf6
    refine j_aload_n X dX6_widest_10 0 rfl rfl ?_
    refine j_iload_n X dX6_widest_11 1 rfl rfl ?_
    obtain ⟨h10, hf11⟩ := chk_of hf8; clear hf8
    obtain ⟨r12, σ13, h14, hf15⟩ := bc_of hf11; clear hf11
    refine j_callV0 X [.int a1] [] (c_X6_widthNow l D cs q a0 a1 σ4 _ _ h14) mk_X6_widthNow mv_X6_widthNow ml_X6_261 h10 rfl (by decide) ⟨rfl, rfl⟩ ⟨Nat.le_of_ble_eq_true rfl, Nat.le_of_ble_eq_true rfl⟩ rfl (Nat.le_of_ble_eq_true rfl) ⟨Nat.le_of_ble_eq_true rfl, Nat.le_of_ble_eq_true rfl⟩ dX6_widest_12 rfl (st' := [.long r12]) rfl ?_
    refine j_ldc2 X k_X6_239 dX6_widest_15 ?_
    refine j_lcmp X dX6_widest_18 ?_
    refine j_if_ne X (tgt := 25) dX6_widest_19 (by decide) (fun c16 => ?_) (fun c16 => ?_)
    · have hf17 := br_n hf15 c16; clear hf15
      refine j_bipush X (v := -5) dX6_widest_25 (by decide) ?_
      refine j_nmi (fun v19 ev19 => ?_)
      replace hf17 := lt_of hf17 v19 ev19
      refine j_istore_n X (lv' := [(2, .int v19), (0, .ref (q a0)), (1, .int a1)]) dX6_widest_27 rfl (by decide) rfl ?_
      refine j_lconst X (v := 0) dX6_widest_28 (by decide) ?_
      refine j_nml (fun v21 ev21 => ?_)
      replace hf17 := lt_of hf17 v21 ev21
      refine j_lstore_n X (lv' := [(3, .long v21), (2, .int v19), (0, .ref (q a0)), (1, .int a1)]) dX6_widest_29 rfl (by decide) rfl ?_
      refine j_iconst X (v := 0) dX6_widest_30 (by decide) ?_
      refine j_nmi (fun v23 ev23 => ?_)
      replace hf17 := lt_of hf17 v23 ev23
      refine j_istore X (lv' := [(5, .int v23), (3, .long v21), (2, .int v19), (0, .ref (q a0)), (1, .int a1)]) dX6_widest_31 (by decide) rfl ?_
      refine j_lvsub [3, 4, 2, 1, 0] (lv' := [(0, .ref (q a0)), (1, .int a1), (2, .int v19), (3, .long v21), (5, .int v23)]) rfl ?_
      exact L33  1000 a0 a1 v19 v21 v23 σ13 hf17
    · have hf18 := br_y hf15 c16; clear hf15
      refine j_bipush X (v := -6) dX6_widest_22 (by decide) ?_
      obtain ⟨er, es⟩ := rt_of hf18
      subst er
      exact j_reti X hr hlk (Nat.le_of_ble_eq_true rfl) (Nat.le_of_ble_eq_true rfl) rfl es.symm rfl dX6_widest_24
  · have hf9 := br_y hf6 c7; clear hf6
    refine j_iconst X (v := -1) dX6_widest_8 (by decide) ?_
    obtain ⟨er, es⟩ := rt_of hf9
    subst er
    exact j_reti X hr hlk (Nat.le_of_ble_eq_true rfl) (Nat.le_of_ble_eq_true rfl) rfl es.symm rfl dX6_widest_9
