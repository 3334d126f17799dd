abbrev rg_MA (n : Nat) : Room := { frames := 1 + n, cells := 0, slots := 0, locals := 64 * (1 + n) }
set_option maxHeartbeats 4000000 in
set_option maxRecDepth 100000 in
theorem cg_MA (l : Launch) (D : va_G) (cs : Nat → ClassId) (q : Nat → Nat) : ∀ ng : Nat, (∀ (a0 : Nat) (a1 : Int32) (a2 : Int32) (a3 : Int32) (a4 : Int32) (σ σ0 : HS) (r0 : Int32), g_MA ng 0 a0 a1 a2 a3 a4 σ = some (r0, σ0) → MT l yX6_areAlike (Cond.code yX6_areAlike cX6_areAlike 7 (some .boolean) :: lw_g) (rg_MA ng) D cs q σ σ0 [.ref (q a0), .int a1, .int a2, .int a3, .int a4] (fun z => z = q) (fun _ => some (.int r0)) 0 0) := by
  intro ng
  induction ng with
  | zero => exact (fun _ _ _ _ _ _ _ _ h => (by have h9 : (none : Option (Int32 × HS)) = some _ := h; cases h9))
  | succ ng ihg =>
    intro a0 a1 a2 a3 a4 σ σ0 r0 hf0
    replace hf0 : b_X6_areAlike (g_MA ng) a0 a1 a2 a3 a4 σ = some (r0, σ0) := hf0
    unfold b_X6_areAlike at hf0
    refine MT_of (cc := cX6_areAlike) (lv0 := [(0, .ref (q a0)), (1, .int a1), (2, .int a2), (3, .int a3), (4, .int a4)]) (by decide) (Nat.le_of_ble_eq_true rfl) rfl (fun p e s m args below meth c A X hr hlk hin => ?_)
    refine j_iload_n X dX6_areAlike_0 1 rfl rfl ?_
    refine j_iload_n X dX6_areAlike_1 2 rfl rfl ?_
    obtain ⟨r1, σ2, h3, hf4⟩ := bc_of hf0; clear hf0
    refine j_callS0 X [.int a1, .int a2] [] (c_X6_at l D cs q a1 a2 σ _ _ h3) mk_X6_at ms_X6_at ml_X6_134 ⟨rfl, rfl⟩ ⟨by dsimp only [rg_MA, rm_X6_at]; omega, by dsimp only [rg_MA, rm_X6_at]; omega⟩ rfl (Nat.le_of_ble_eq_true rfl) ⟨Nat.zero_le _, Nat.zero_le _⟩ dX6_areAlike_2 rfl (st' := [.int r1]) rfl ?_
    refine j_istore X (lv' := [(5, .int r1), (0, .ref (q a0)), (1, .int a1), (2, .int a2), (3, .int a3), (4, .int a4)]) dX6_areAlike_5 (by decide) rfl ?_
    refine j_iload_n X dX6_areAlike_7 4 rfl rfl ?_
    refine j_iload X dX6_areAlike_8 5 rfl ?_
    obtain ⟨r5, σ6, h7, hf8⟩ := bc_of hf4; clear hf4
    refine j_callS0 X [.int a3, .int a4] [] (c_X6_at l D cs q a3 a4 σ2 _ _ h7) mk_X6_at ms_X6_at ml_X6_134 ⟨rfl, rfl⟩ ⟨by dsimp only [rg_MA, rm_X6_at]; omega, by dsimp only [rg_MA, rm_X6_at]; omega⟩ rfl (Nat.le_of_ble_eq_true rfl) ⟨Nat.zero_le _, Nat.zero_le _⟩ dX6_areAlike_10 rfl (st' := [.int r5]) rfl ?_
    refine j_istore X (lv' := [(6, .int r5), (5, .int r1), (0, .ref (q a0)), (1, .int a1), (2, .int a2), (3, .int a3), (4, .int a4)]) dX6_areAlike_13 (by decide) rfl ?_
    refine j_aload_n X dX6_areAlike_15 2 rfl rfl ?_
    obtain ⟨h9, hf10⟩ := chk_of hf8; clear hf8
    obtain ⟨i11, h12, hf13⟩ := bd_of hf10; clear hf10
    refine j_getr X fd_X6_18 h9 h12 dX6_areAlike_16 ?_
    refine j_iload X dX6_areAlike_19 1 rfl ?_
    obtain ⟨h14, hf15⟩ := chk_of hf13; clear hf13
    refine j_iald X h14 dX6_areAlike_21 (fun v16 ev16 => ?_)
    replace hf15 := lt_of hf15 v16 ev16
    refine j_aload_n X dX6_areAlike_22 2 rfl rfl ?_
    refine j_getr X fd_X6_18 h9 h12 dX6_areAlike_23 ?_
    refine j_iload X dX6_areAlike_26 0 rfl ?_
    obtain ⟨h21, hf22⟩ := chk_of hf15; clear hf15
    refine j_iald X h21 dX6_areAlike_28 (fun v23 ev23 => ?_)
    replace hf22 := lt_of hf22 v23 ev23
    refine j_icmp_eq X (tgt := 34) dX6_areAlike_29 (by decide) (fun c25 => ?_) (fun c25 => ?_)
    · have hf26 := br_y hf22 c25; clear hf22
      refine j_aload_n X dX6_areAlike_34 2 rfl rfl ?_
      refine j_getr X fd_X6_18 h9 h12 dX6_areAlike_35 ?_
      refine j_iload X dX6_areAlike_38 1 rfl ?_
      obtain ⟨h31, hf32⟩ := chk_of hf26; clear hf26
      refine j_iald X h31 dX6_areAlike_40 (fun v33 ev33 => ?_)
      replace hf32 := lt_of hf32 v33 ev33
      refine j_iconst X (v := 1) dX6_areAlike_41 (by decide) ?_
      refine j_icmp_gt X (tgt := 68) dX6_areAlike_42 (by decide) (fun c35 => ?_) (fun c35 => ?_)
      · have hf36 := br_y hf32 c35; clear hf32
        refine j_aload_n X dX6_areAlike_68 2 rfl rfl ?_
        refine j_iload_n X dX6_areAlike_69 3 rfl rfl ?_
        refine j_aload_n X dX6_areAlike_70 2 rfl rfl ?_
        obtain ⟨i38, h39, hf40⟩ := bd_of hf36; clear hf36
        refine j_getr X fd_X6_21 h9 h39 dX6_areAlike_71 ?_
        refine j_iload X dX6_areAlike_74 1 rfl ?_
        obtain ⟨h41, hf42⟩ := chk_of hf40; clear hf40
        refine j_iald X h41 dX6_areAlike_76 (fun v43 ev43 => ?_)
        replace hf42 := lt_of hf42 v43 ev43
        refine j_iload_n X dX6_areAlike_77 5 rfl rfl ?_
        refine j_aload_n X dX6_areAlike_78 2 rfl rfl ?_
        refine j_getr X fd_X6_21 h9 h39 dX6_areAlike_79 ?_
        refine j_iload X dX6_areAlike_82 0 rfl ?_
        obtain ⟨h48, hf49⟩ := chk_of hf42; clear hf42
        refine j_iald X h48 dX6_areAlike_84 (fun v50 ev50 => ?_)
        replace hf49 := lt_of hf49 v50 ev50
        obtain ⟨r52, σ53, h54, hf55⟩ := bc_of hf49; clear hf49
        refine j_callV0 X [.int a1, .int v43, .int a3, .int v50] [] (ihg a0 a1 v43 a3 v50 σ6 _ _ h54) mk_X6_areAlike mv_X6_areAlike ml_X6_168 h9 rfl (by decide) ⟨rfl, rfl⟩ ⟨by dsimp only [rg_MA]; omega, by dsimp only [rg_MA]; omega⟩ rfl (Nat.le_of_ble_eq_true rfl) ⟨Nat.zero_le _, Nat.zero_le _⟩ dX6_areAlike_85 rfl (st' := [.int r52]) rfl ?_
        refine j_if_eq X (tgt := 129) dX6_areAlike_88 (by decide) (fun c56 => ?_) (fun c56 => ?_)
        · have hf57 := br_y hf55 c56; clear hf55
          refine j_iconst X (v := 0) dX6_areAlike_129 (by decide) ?_
          obtain ⟨er, es⟩ := rt_of hf57
          subst er
          exact j_retz X hr hlk (Nat.le_of_ble_eq_true rfl) (Nat.le_of_ble_eq_true rfl) rfl es.symm rfl (Or.inl rfl) dX6_areAlike_130
        · have hf58 := br_n hf55 c56; clear hf55
          refine j_aload_n X dX6_areAlike_91 2 rfl rfl ?_
          obtain ⟨h59, hf60⟩ := chk_of hf58; clear hf58
          obtain ⟨i61, h62, hf63⟩ := bd_of hf60; clear hf60
          refine j_getr X fd_X6_18 h59 h62 dX6_areAlike_92 ?_
          refine j_iload X dX6_areAlike_95 1 rfl ?_
          obtain ⟨h64, hf65⟩ := chk_of hf63; clear hf63
          refine j_iald X h64 dX6_areAlike_97 (fun v66 ev66 => ?_)
          replace hf65 := lt_of hf65 v66 ev66
          refine j_iconst X (v := 2) dX6_areAlike_98 (by decide) ?_
          refine j_icmp_eq X (tgt := 125) dX6_areAlike_99 (by decide) (fun c68 => ?_) (fun c68 => ?_)
          · have hf69 := br_y hf65 c68; clear hf65
            refine j_iconst X (v := 1) dX6_areAlike_125 (by decide) ?_
            refine j_goto X (tgt := 130) dX6_areAlike_126 (by decide) ?_
            obtain ⟨er, es⟩ := rt_of hf69
            subst er
            exact j_retz X hr hlk (Nat.le_of_ble_eq_true rfl) (Nat.le_of_ble_eq_true rfl) rfl es.symm rfl (Or.inr rfl) dX6_areAlike_130
          · have hf70 := br_n hf65 c68; clear hf65
            refine j_aload_n X dX6_areAlike_102 2 rfl rfl ?_
            refine j_iload_n X dX6_areAlike_103 3 rfl rfl ?_
            refine j_aload_n X dX6_areAlike_104 2 rfl rfl ?_
            obtain ⟨i71, h72, hf73⟩ := bd_of hf70; clear hf70
            refine j_getr X fd_X6_24 h59 h72 dX6_areAlike_105 ?_
            refine j_iload X dX6_areAlike_108 1 rfl ?_
            obtain ⟨h74, hf75⟩ := chk_of hf73; clear hf73
            refine j_iald X h74 dX6_areAlike_110 (fun v76 ev76 => ?_)
            replace hf75 := lt_of hf75 v76 ev76
            refine j_iload_n X dX6_areAlike_111 5 rfl rfl ?_
            refine j_aload_n X dX6_areAlike_112 2 rfl rfl ?_
            refine j_getr X fd_X6_24 h59 h72 dX6_areAlike_113 ?_
            refine j_iload X dX6_areAlike_116 0 rfl ?_
            obtain ⟨h81, hf82⟩ := chk_of hf75; clear hf75
            refine j_iald X h81 dX6_areAlike_118 (fun v83 ev83 => ?_)
            replace hf82 := lt_of hf82 v83 ev83
            obtain ⟨r85, σ86, h87, hf88⟩ := bc_of hf82; clear hf82
            refine j_callV0 X [.int a1, .int v76, .int a3, .int v83] [] (ihg a0 a1 v76 a3 v83 σ53 _ _ h87) mk_X6_areAlike mv_X6_areAlike ml_X6_168 h59 rfl (by decide) ⟨rfl, rfl⟩ ⟨by dsimp only [rg_MA]; omega, by dsimp only [rg_MA]; omega⟩ rfl (Nat.le_of_ble_eq_true rfl) ⟨Nat.zero_le _, Nat.zero_le _⟩ dX6_areAlike_119 rfl (st' := [.int r85]) rfl ?_
            refine j_if_eq X (tgt := 129) dX6_areAlike_122 (by decide) (fun c89 => ?_) (fun c89 => ?_)
            · have hf90 := br_y hf88 c89; clear hf88
              refine j_iconst X (v := 0) dX6_areAlike_129 (by decide) ?_
              obtain ⟨er, es⟩ := rt_of hf90
              subst er
              exact j_retz X hr hlk (Nat.le_of_ble_eq_true rfl) (Nat.le_of_ble_eq_true rfl) rfl es.symm rfl (Or.inl rfl) dX6_areAlike_130
            · have hf91 := br_n hf88 c89; clear hf88
              refine j_iconst X (v := 1) dX6_areAlike_125 (by decide) ?_
              refine j_goto X (tgt := 130) dX6_areAlike_126 (by decide) ?_
              obtain ⟨er, es⟩ := rt_of hf91
              subst er
              exact j_retz X hr hlk (Nat.le_of_ble_eq_true rfl) (Nat.le_of_ble_eq_true rfl) rfl es.symm rfl (Or.inr rfl) dX6_areAlike_130
      · have hf37 := br_n hf32 c35; clear hf32
        refine j_aload_n X dX6_areAlike_45 2 rfl rfl ?_
        obtain ⟨i92, h93, hf94⟩ := bd_of hf37; clear hf37
        refine j_getr X fd_X6_21 h9 h93 dX6_areAlike_46 ?_
        refine j_iload X dX6_areAlike_49 1 rfl ?_
        obtain ⟨h95, hf96⟩ := chk_of hf94; clear hf94
        refine j_iald X h95 dX6_areAlike_51 (fun v97 ev97 => ?_)
        replace hf96 := lt_of hf96 v97 ev97
        refine j_aload_n X dX6_areAlike_52 2 rfl rfl ?_
        refine j_getr X fd_X6_21 h9 h93 dX6_areAlike_53 ?_
        refine j_iload X dX6_areAlike_56 0 rfl ?_
        obtain ⟨h102, hf103⟩ := chk_of hf96; clear hf96
        refine j_iald X h102 dX6_areAlike_58 (fun v104 ev104 => ?_)
        replace hf103 := lt_of hf103 v104 ev104
        refine j_icmp_ne X (tgt := 66) dX6_areAlike_59 (by decide) (fun c106 => ?_) (fun c106 => ?_)
        · have hf107 := br_n hf103 c106; clear hf103
          refine j_iconst X (v := 0) dX6_areAlike_66 (by decide) ?_
          obtain ⟨er, es⟩ := rt_of hf107
          subst er
          exact j_retz X hr hlk (Nat.le_of_ble_eq_true rfl) (Nat.le_of_ble_eq_true rfl) rfl es.symm rfl (Or.inl rfl) dX6_areAlike_67
        · have hf108 := br_y hf103 c106; clear hf103
          refine j_iconst X (v := 1) dX6_areAlike_62 (by decide) ?_
          refine j_goto X (tgt := 67) dX6_areAlike_63 (by decide) ?_
          obtain ⟨er, es⟩ := rt_of hf108
          subst er
          exact j_retz X hr hlk (Nat.le_of_ble_eq_true rfl) (Nat.le_of_ble_eq_true rfl) rfl es.symm rfl (Or.inr rfl) dX6_areAlike_67
    · have hf27 := br_n hf22 c25; clear hf22
      refine j_iconst X (v := 0) dX6_areAlike_32 (by decide) ?_
      obtain ⟨er, es⟩ := rt_of hf27
      subst er
      exact j_retz X hr hlk (Nat.le_of_ble_eq_true rfl) (Nat.le_of_ble_eq_true rfl) rfl es.symm rfl (Or.inl rfl) dX6_areAlike_33
abbrev rm_X6_areAlike : Room := rg_MA 64
theorem c_X6_areAlike (l : Launch) (D : va_G) (cs : Nat → ClassId) (q : Nat → Nat) (a0 : Nat) (a1 : Int32) (a2 : Int32) (a3 : Int32) (a4 : Int32) (σ σ0 : HS) (r0 : Int32) (hf0 : f_X6_areAlike a0 a1 a2 a3 a4 σ = some (r0, σ0)) : MT l yX6_areAlike (Cond.code yX6_areAlike cX6_areAlike 7 (some .boolean) :: lw_g) rm_X6_areAlike D cs q σ σ0 [.ref (q a0), .int a1, .int a2, .int a3, .int a4] (fun z => z = q) (fun _ => some (.int r0)) 0 0 := (cg_MA l D cs q 64) a0 a1 a2 a3 a4 σ σ0 r0 hf0
abbrev rm_X6_alike : Room := { frames := 66, cells := 0, slots := 0, locals := 4224 }
set_option maxHeartbeats 4000000 in
set_option maxRecDepth 100000 in
theorem c_X6_alike (l : Launch) (D : va_G) (cs : Nat → ClassId) (q : Nat → Nat) (a0 : Nat) (a1 : Int32) (a2 : Int32) (σ σ0 : HS) (r0 : Int32) (hf0 : f_X6_alike a0 a1 a2 σ = some (r0, σ0)) : MT l yX6_alike (Cond.code yX6_alike cX6_alike 3 (some .int) :: lw_g) rm_X6_alike D cs q σ σ0 [.ref (q a0), .int a1, .int a2] (fun z => z = q) (fun _ => some (.int r0)) 0 0 := by
  unfold f_X6_alike at hf0
  refine MT_of (cc := cX6_alike) (lv0 := [(0, .ref (q a0)), (1, .int a1), (2, .int a2)]) (by decide) (Nat.le_of_ble_eq_true rfl) rfl (fun p e s m args below meth c A X hr hlk hin => ?_)
  refine j_aload_n X dX6_alike_0 0 rfl rfl ?_
  refine j_iload_n X dX6_alike_1 1 rfl rfl ?_
  obtain ⟨h1, hf2⟩ := chk_of hf0; clear hf0
  obtain ⟨r3, σ4, h5, hf6⟩ := bc_of hf2; clear hf2
  refine j_callV0 X [.int a1] [] (c_X6_isFormula l D cs q a0 a1 σ _ _ h5) mk_X6_isFormula mv_X6_isFormula ml_X6_180 h1 rfl (by decide) ⟨rfl, rfl⟩ ⟨Nat.le_of_ble_eq_true rfl, Nat.le_of_ble_eq_true rfl⟩ rfl (Nat.le_of_ble_eq_true rfl) ⟨Nat.le_of_ble_eq_true rfl, Nat.le_of_ble_eq_true rfl⟩ dX6_alike_2 rfl (st' := [.int r3]) rfl ?_
  refine j_if_eq X (tgt := 16) dX6_alike_5 (by decide) (fun c7 => ?_) (fun c7 => ?_)
  · have hf8 := br_y hf6 c7; clear hf6
    refine j_iconst X (v := -1) dX6_alike_16 (by decide) ?_
    obtain ⟨er, es⟩ := rt_of hf8
    subst er
    exact j_reti X hr hlk (Nat.le_of_ble_eq_true rfl) (Nat.le_of_ble_eq_true rfl) rfl es.symm rfl dX6_alike_17
  · have hf9 := br_n hf6 c7; clear hf6
    refine j_aload_n X dX6_alike_8 0 rfl rfl ?_
    refine j_iload_n X dX6_alike_9 2 rfl rfl ?_
    obtain ⟨h10, hf11⟩ := chk_of hf9; clear hf9
    obtain ⟨r12, σ13, h14, hf15⟩ := bc_of hf11; clear hf11
    refine j_callV0 X [.int a2] [] (c_X6_isFormula l D cs q a0 a2 σ4 _ _ h14) mk_X6_isFormula mv_X6_isFormula ml_X6_180 h10 rfl (by decide) ⟨rfl, rfl⟩ ⟨Nat.le_of_ble_eq_true rfl, Nat.le_of_ble_eq_true rfl⟩ rfl (Nat.le_of_ble_eq_true rfl) ⟨Nat.le_of_ble_eq_true rfl, Nat.le_of_ble_eq_true rfl⟩ dX6_alike_10 rfl (st' := [.int r12]) rfl ?_
    refine j_if_ne X (tgt := 18) dX6_alike_13 (by decide) (fun c16 => ?_) (fun c16 => ?_)
    · have hf17 := br_n hf15 c16; clear hf15
      refine j_aload_n X dX6_alike_18 0 rfl rfl ?_
      refine j_iload_n X dX6_alike_19 1 rfl rfl ?_
      refine j_aload_n X dX6_alike_20 0 rfl rfl ?_
      refine j_iload_n X dX6_alike_21 1 rfl rfl ?_
      obtain ⟨h19, hf20⟩ := chk_of hf17; clear hf17
      obtain ⟨r21, σ22, h23, hf24⟩ := bc_of hf20; clear hf20
      refine j_callV0 X [.int a1] [.int a1, .ref (q a0)] (c_X6_rootOf l D cs q a0 a1 σ13 _ _ h23) mk_X6_rootOf mv_X6_rootOf ml_X6_190 h19 rfl (by decide) ⟨rfl, rfl⟩ ⟨Nat.le_of_ble_eq_true rfl, Nat.le_of_ble_eq_true rfl⟩ rfl (Nat.le_of_ble_eq_true rfl) ⟨Nat.le_of_ble_eq_true rfl, Nat.le_of_ble_eq_true rfl⟩ dX6_alike_22 rfl (st' := [.int r21, .int a1, .ref (q a0)]) rfl ?_
      refine j_iload_n X dX6_alike_25 2 rfl rfl ?_
      refine j_aload_n X dX6_alike_26 0 rfl rfl ?_
      refine j_iload_n X dX6_alike_27 2 rfl rfl ?_
      obtain ⟨h25, hf26⟩ := chk_of hf24; clear hf24
      obtain ⟨r27, σ28, h29, hf30⟩ := bc_of hf26; clear hf26
      refine j_callV0 X [.int a2] [.int a2, .int r21, .int a1, .ref (q a0)] (c_X6_rootOf l D cs q a0 a2 σ22 _ _ h29) mk_X6_rootOf mv_X6_rootOf ml_X6_190 h25 rfl (by decide) ⟨rfl, rfl⟩ ⟨Nat.le_of_ble_eq_true rfl, Nat.le_of_ble_eq_true rfl⟩ rfl (Nat.le_of_ble_eq_true rfl) ⟨Nat.le_of_ble_eq_true rfl, Nat.le_of_ble_eq_true rfl⟩ dX6_alike_28 rfl (st' := [.int r27, .int a2, .int r21, .int a1, .ref (q a0)]) rfl ?_
      obtain ⟨h31, hf32⟩ := chk_of hf30; clear hf30
      obtain ⟨r33, σ34, h35, hf36⟩ := bc_of hf32; clear hf32
      refine j_callV0 X [.int a1, .int r21, .int a2, .int r27] [] (c_X6_areAlike l D cs q a0 a1 r21 a2 r27 σ28 _ _ h35) mk_X6_areAlike mv_X6_areAlike ml_X6_168 h31 rfl (by decide) ⟨rfl, rfl⟩ ⟨Nat.le_of_ble_eq_true rfl, Nat.le_of_ble_eq_true rfl⟩ rfl (Nat.le_of_ble_eq_true rfl) ⟨Nat.le_of_ble_eq_true rfl, Nat.le_of_ble_eq_true rfl⟩ dX6_alike_31 rfl (st' := [.int r33]) rfl ?_
      refine j_if_eq X (tgt := 41) dX6_alike_34 (by decide) (fun c37 => ?_) (fun c37 => ?_)
      · have hf38 := br_y hf36 c37; clear hf36
        refine j_iconst X (v := 0) dX6_alike_41 (by decide) ?_
        obtain ⟨er, es⟩ := rt_of hf38
        subst er
        exact j_reti X hr hlk (Nat.le_of_ble_eq_true rfl) (Nat.le_of_ble_eq_true rfl) rfl es.symm rfl dX6_alike_42
      · have hf39 := br_n hf36 c37; clear hf36
        refine j_iconst X (v := 1) dX6_alike_37 (by decide) ?_
        refine j_goto X (tgt := 42) dX6_alike_38 (by decide) ?_
        obtain ⟨er, es⟩ := rt_of hf39
        subst er
        exact j_reti X hr hlk (Nat.le_of_ble_eq_true rfl) (Nat.le_of_ble_eq_true rfl) rfl es.symm rfl dX6_alike_42
    · have hf18 := br_y hf15 c16; clear hf15
      refine j_iconst X (v := -1) dX6_alike_16 (by decide) ?_
      obtain ⟨er, es⟩ := rt_of hf18
      subst er
      exact j_reti X hr hlk (Nat.le_of_ble_eq_true rfl) (Nat.le_of_ble_eq_true rfl) rfl es.symm rfl dX6_alike_17
abbrev rm_X6_isSource : Room := { frames := 1, cells := 0, slots := 0, locals := 64 }
set_option maxHeartbeats 4000000 in
set_option maxRecDepth 100000 in
theorem c_X6_isSource (l : Launch) (D : va_G) (cs : Nat → ClassId) (q : Nat → Nat) (a0 : Int32) (σ σ0 : HS) (r0 : Int32) (hf0 : f_X6_isSource a0 σ = some (r0, σ0)) : MT l yX6_isSource (Cond.code yX6_isSource cX6_isSource 1 (some .boolean) :: lw_g) rm_X6_isSource D cs q σ σ0 [.int a0] (fun z => z = q) (fun _ => some (.int r0)) 0 0 := by
  unfold f_X6_isSource at hf0
  refine MT_of (cc := cX6_isSource) (lv0 := [(0, .int a0)]) (by decide) (Nat.le_of_ble_eq_true rfl) rfl (fun p e s m args below meth c A X hr hlk hin => ?_)
  refine j_iload_n X dX6_isSource_0 0 rfl rfl ?_
  refine j_i2l X dX6_isSource_1 ?_
  refine j_lconst X (v := 0) dX6_isSource_2 (by decide) ?_
  refine j_ldc2 X k_X6_95 dX6_isSource_3 ?_
  obtain ⟨r1, σ2, h3, hf4⟩ := bc_of hf0; clear hf0
  refine j_callS0 X [.long (a0).toInt64, .long (0 : Int64), .long (5 : Int64)] [] (c_X6_isIn l D cs q (a0).toInt64 (0 : Int64) (5 : Int64) σ _ _ h3) mk_X6_isIn ms_X6_isIn ml_X6_97 ⟨rfl, rfl⟩ ⟨Nat.le_of_ble_eq_true rfl, Nat.le_of_ble_eq_true rfl⟩ rfl (Nat.le_of_ble_eq_true rfl) ⟨Nat.le_of_ble_eq_true rfl, Nat.le_of_ble_eq_true rfl⟩ dX6_isSource_6 rfl (st' := [.int r1]) rfl ?_
  obtain ⟨h5, hf6⟩ := chk_of hf4; clear hf4
  obtain ⟨er, es⟩ := rt_of hf6
  subst er
  exact j_retz X hr hlk (Nat.le_of_ble_eq_true rfl) (Nat.le_of_ble_eq_true rfl) rfl es.symm rfl h5 dX6_isSource_9
abbrev rm_X6_of : Room := { frames := 2, cells := 0, slots := 0, locals := 128 }
set_option maxHeartbeats 4000000 in
set_option maxRecDepth 100000 in
theorem c_X6_of (l : Launch) (D : va_G) (cs : Nat → ClassId) (q : Nat → Nat) (a0 : Nat) (a1 : Int32) (a2 : Int32) (σ σ0 : HS) (r0 : Int32) (hf0 : f_X6_of a0 a1 a2 σ = some (r0, σ0)) : MT l yX6_of (Cond.code yX6_of cX6_of 3 (some .int) :: lw_g) rm_X6_of D cs q σ σ0 [.ref (q a0), .int a1, .int a2] (fun z => z = q) (fun _ => some (.int r0)) 0 0 := by
  unfold f_X6_of at hf0
  refine MT_of (cc := cX6_of) (lv0 := [(0, .ref (q a0)), (1, .int a1), (2, .int a2)]) (by decide) (Nat.le_of_ble_eq_true rfl) rfl (fun p e s m args below meth c A X hr hlk hin => ?_)
  refine j_iload_n X dX6_of_0 1 rfl rfl ?_
  obtain ⟨r1, σ2, h3, hf4⟩ := bc_of hf0; clear hf0
  refine j_callS0 X [.int a1] [] (c_X6_isSource l D cs q a1 σ _ _ h3) mk_X6_isSource ms_X6_isSource ml_X6_101 ⟨rfl, rfl⟩ ⟨Nat.le_of_ble_eq_true rfl, Nat.le_of_ble_eq_true rfl⟩ rfl (Nat.le_of_ble_eq_true rfl) ⟨Nat.le_of_ble_eq_true rfl, Nat.le_of_ble_eq_true rfl⟩ dX6_of_1 rfl (st' := [.int r1]) rfl ?_
  refine j_if_eq X (tgt := 19) dX6_of_4 (by decide) (fun c5 => ?_) (fun c5 => ?_)
  · have hf6 := br_y hf4 c5; clear hf4
    refine j_sipush X (v := -1000) dX6_of_19 (by decide) ?_
    obtain ⟨er, es⟩ := rt_of hf6
    subst er
    exact j_reti X hr hlk (Nat.le_of_ble_eq_true rfl) (Nat.le_of_ble_eq_true rfl) rfl es.symm rfl dX6_of_22
  · have hf7 := br_n hf4 c5; clear hf4
    refine j_iload_n X dX6_of_7 2 rfl rfl ?_
    refine j_i2l X dX6_of_8 ?_
    refine j_lconst X (v := 0) dX6_of_9 (by decide) ?_
    refine j_ldc2 X k_X6_113 dX6_of_10 ?_
    obtain ⟨r8, σ9, h10, hf11⟩ := bc_of hf7; clear hf7
    refine j_callS0 X [.long (a2).toInt64, .long (0 : Int64), .long (4 : Int64)] [] (c_X6_isIn l D cs q (a2).toInt64 (0 : Int64) (4 : Int64) σ2 _ _ h10) mk_X6_isIn ms_X6_isIn ml_X6_97 ⟨rfl, rfl⟩ ⟨Nat.le_of_ble_eq_true rfl, Nat.le_of_ble_eq_true rfl⟩ rfl (Nat.le_of_ble_eq_true rfl) ⟨Nat.le_of_ble_eq_true rfl, Nat.le_of_ble_eq_true rfl⟩ dX6_of_13 rfl (st' := [.int r8]) rfl ?_
    refine j_if_ne X (tgt := 23) dX6_of_16 (by decide) (fun c12 => ?_) (fun c12 => ?_)
    · have hf13 := br_n hf11 c12; clear hf11
      refine j_iload_n X dX6_of_23 2 rfl rfl ?_
      refine j_iconst X (v := 3) dX6_of_24 (by decide) ?_
      refine j_icmp_ge X (tgt := 41) dX6_of_25 (by decide) (fun c15 => ?_) (fun c15 => ?_)
      · have hf16 := br_y hf13 c15; clear hf13
        refine j_iload_n X dX6_of_41 2 rfl rfl ?_
        refine j_iconst X (v := 3) dX6_of_42 (by decide) ?_
        refine j_icmp_ne X (tgt := 60) dX6_of_43 (by decide) (fun c18 => ?_) (fun c18 => ?_)
        · have hf19 := br_n hf16 c18; clear hf16
          refine j_aload_n X dX6_of_60 0 rfl rfl ?_
          refine j_iload_n X dX6_of_61 1 rfl rfl ?_
          obtain ⟨h21, hf22⟩ := chk_of hf19; clear hf19
          obtain ⟨r23, σ24, h25, hf26⟩ := bc_of hf22; clear hf22
          refine j_callV0 X [.int a1] [] (c_X6_valueOf l D cs q a0 a1 σ9 _ _ h25) mk_X6_valueOf mv_X6_valueOf ml_X6_115 h21 rfl (by decide) ⟨rfl, rfl⟩ ⟨Nat.le_of_ble_eq_true rfl, Nat.le_of_ble_eq_true rfl⟩ rfl (Nat.le_of_ble_eq_true rfl) ⟨Nat.le_of_ble_eq_true rfl, Nat.le_of_ble_eq_true rfl⟩ dX6_of_62 rfl (st' := [.int r23]) rfl ?_
          refine j_aload_n X dX6_of_65 0 rfl rfl ?_
          refine j_iload_n X dX6_of_66 1 rfl rfl ?_
          obtain ⟨h27, hf28⟩ := chk_of hf26; clear hf26
          obtain ⟨r29, σ30, h31, hf32⟩ := bc_of hf28; clear hf28
          refine j_callV0 X [.int a1] [.int r23] (c_X6_spanOf l D cs q a0 a1 σ24 _ _ h31) mk_X6_spanOf mv_X6_spanOf ml_X6_119 h27 rfl (by decide) ⟨rfl, rfl⟩ ⟨Nat.le_of_ble_eq_true rfl, Nat.le_of_ble_eq_true rfl⟩ rfl (Nat.le_of_ble_eq_true rfl) ⟨Nat.le_of_ble_eq_true rfl, Nat.le_of_ble_eq_true rfl⟩ dX6_of_67 rfl (st' := [.int r29, .int r23]) rfl ?_
          refine j_iadd X dX6_of_70 ?_
          obtain ⟨er, es⟩ := rt_of hf32
          subst er
          exact j_reti X hr hlk (Nat.le_of_ble_eq_true rfl) (Nat.le_of_ble_eq_true rfl) rfl es.symm rfl dX6_of_71
        · have hf20 := br_y hf16 c18; clear hf16
          refine j_aload_n X dX6_of_46 0 rfl rfl ?_
          refine j_iload_n X dX6_of_47 1 rfl rfl ?_
          obtain ⟨h33, hf34⟩ := chk_of hf20; clear hf20
          obtain ⟨r35, σ36, h37, hf38⟩ := bc_of hf34; clear hf34
          refine j_callV0 X [.int a1] [] (c_X6_valueOf l D cs q a0 a1 σ9 _ _ h37) mk_X6_valueOf mv_X6_valueOf ml_X6_115 h33 rfl (by decide) ⟨rfl, rfl⟩ ⟨Nat.le_of_ble_eq_true rfl, Nat.le_of_ble_eq_true rfl⟩ rfl (Nat.le_of_ble_eq_true rfl) ⟨Nat.le_of_ble_eq_true rfl, Nat.le_of_ble_eq_true rfl⟩ dX6_of_48 rfl (st' := [.int r35]) rfl ?_
          refine j_aload_n X dX6_of_51 0 rfl rfl ?_
          refine j_iload_n X dX6_of_52 1 rfl rfl ?_
          obtain ⟨h39, hf40⟩ := chk_of hf38; clear hf38
          obtain ⟨r41, σ42, h43, hf44⟩ := bc_of hf40; clear hf40
          refine j_callV0 X [.int a1] [.int r35] (c_X6_spanOf l D cs q a0 a1 σ36 _ _ h43) mk_X6_spanOf mv_X6_spanOf ml_X6_119 h39 rfl (by decide) ⟨rfl, rfl⟩ ⟨Nat.le_of_ble_eq_true rfl, Nat.le_of_ble_eq_true rfl⟩ rfl (Nat.le_of_ble_eq_true rfl) ⟨Nat.le_of_ble_eq_true rfl, Nat.le_of_ble_eq_true rfl⟩ dX6_of_53 rfl (st' := [.int r41, .int r35]) rfl ?_
          refine j_isub X dX6_of_56 ?_
          refine j_goto X (tgt := 71) dX6_of_57 (by decide) ?_
          obtain ⟨er, es⟩ := rt_of hf44
          subst er
          exact j_reti X hr hlk (Nat.le_of_ble_eq_true rfl) (Nat.le_of_ble_eq_true rfl) rfl es.symm rfl dX6_of_71
      · have hf17 := br_n hf13 c15; clear hf13
        refine j_aload_n X dX6_of_28 0 rfl rfl ?_
        obtain ⟨h45, hf46⟩ := chk_of hf17; clear hf17
        obtain ⟨i47, h48, hf49⟩ := bd_of hf46; clear hf46
        refine j_getr X fd_X6_11 h45 h48 dX6_of_29 ?_
        refine j_iconst X (v := 3) dX6_of_32 (by decide) ?_
        refine j_iload_n X dX6_of_33 1 rfl rfl ?_
        refine j_imul X dX6_of_34 ?_
        refine j_iload_n X dX6_of_35 2 rfl rfl ?_
        refine j_iadd X dX6_of_36 ?_
        obtain ⟨h50, hf51⟩ := chk_of hf49; clear hf49
        refine j_iald X h50 dX6_of_37 (fun v52 ev52 => ?_)
        replace hf51 := lt_of hf51 v52 ev52
        refine j_goto X (tgt := 71) dX6_of_38 (by decide) ?_
        obtain ⟨er, es⟩ := rt_of hf51
        subst er
        exact j_reti X hr hlk (Nat.le_of_ble_eq_true rfl) (Nat.le_of_ble_eq_true rfl) rfl es.symm rfl dX6_of_71
    · have hf14 := br_y hf11 c12; clear hf11
      refine j_sipush X (v := -1000) dX6_of_19 (by decide) ?_
      obtain ⟨er, es⟩ := rt_of hf14
      subst er
      exact j_reti X hr hlk (Nat.le_of_ble_eq_true rfl) (Nat.le_of_ble_eq_true rfl) rfl es.symm rfl dX6_of_22
abbrev rm_X6_splits : Room := { frames := 4, cells := 0, slots := 0, locals := 256 }
set_option maxHeartbeats 4000000 in
set_option maxRecDepth 100000 in
theorem c_X6_splits (l : Launch) (D : va_G) (cs : Nat → ClassId) (q : Nat → Nat) (a0 : Nat) (a1 : Int32) (a2 : Int32) (a3 : Int32) (σ σ0 : HS) (r0 : Unit) (hf0 : f_X6_splits a0 a1 a2 a3 σ = some (r0, σ0)) : MT l yX6_splits (Cond.code yX6_splits cX6_splits 6 none :: lw_g) rm_X6_splits D cs q σ σ0 [.ref (q a0), .int a1, .int a2, .int a3] (fun z => z = q) (fun _ => none) 0 0 := by
  unfold f_X6_splits at hf0
  refine MT_of (cc := cX6_splits) (lv0 := [(0, .ref (q a0)), (1, .int a1), (2, .int a2), (3, .int a3)]) (by decide) (Nat.le_of_ble_eq_true rfl) rfl (fun p e s m args below meth c A X hr hlk hin => ?_)
  refine j_aload_n X dX6_splits_0 0 rfl rfl ?_
  obtain ⟨h1, hf2⟩ := chk_of hf0; clear hf0
  obtain ⟨r3, σ4, h5, hf6⟩ := bc_of hf2; clear hf2
  refine j_callV0 X [] [] (c_X6_laysBox l D cs q a0 σ _ _ h5) mk_X6_laysBox mv_X6_laysBox ml_X6_233 h1 rfl (by decide) ⟨rfl, rfl⟩ ⟨Nat.le_of_ble_eq_true rfl, Nat.le_of_ble_eq_true rfl⟩ rfl (Nat.le_of_ble_eq_true rfl) ⟨Nat.le_of_ble_eq_true rfl, Nat.le_of_ble_eq_true rfl⟩ dX6_splits_1 rfl (st' := []) rfl ?_
  refine j_aload_n X dX6_splits_4 0 rfl rfl ?_
  obtain ⟨h7, hf8⟩ := chk_of hf6; clear hf6
  obtain ⟨i9, h10, hf11⟩ := bd_of hf8; clear hf8
  refine j_getr X fd_X6_54 h7 h10 dX6_splits_5 ?_
  refine j_iload_n X dX6_splits_8 2 rfl rfl ?_
  obtain ⟨h12, hf13⟩ := chk_of hf11; clear hf11
  refine j_iald X h12 dX6_splits_9 (fun v14 ev14 => ?_)
  replace hf13 := lt_of hf13 v14 ev14
  refine j_istore X (lv' := [(4, .int v14), (0, .ref (q a0)), (1, .int a1), (2, .int a2), (3, .int a3)]) dX6_splits_10 (by decide) rfl ?_
  refine j_aload_n X dX6_splits_12 1 rfl rfl ?_
  refine j_getr X fd_X6_54 h7 h10 dX6_splits_13 ?_
  refine j_iload_n X dX6_splits_16 3 rfl rfl ?_
  refine j_iload_n X dX6_splits_17 4 rfl rfl ?_
  obtain ⟨h19, hf20⟩ := chk_of hf13; clear hf13
  refine j_iast X h19 dX6_splits_18 (fun σ21 eσ21 => ?_)
  replace hf20 := lt_of hf20 σ21 eσ21
  have h23 : isO σ21 6 a0 := by rw [eσ21]; exact h7
  refine j_aload_n X dX6_splits_19 1 rfl rfl ?_
  refine j_iload_n X dX6_splits_20 2 rfl rfl ?_
  obtain ⟨r24, σ25, h26, hf27⟩ := bc_of hf20; clear hf20
  refine j_callV0 X [.int a1] [] (c_X6_spans l D cs q a0 a1 σ21 _ _ h26) mk_X6_spans mv_X6_spans ml_X6_236 h23 rfl (by decide) ⟨rfl, rfl⟩ ⟨Nat.le_of_ble_eq_true rfl, Nat.le_of_ble_eq_true rfl⟩ rfl (Nat.le_of_ble_eq_true rfl) ⟨Nat.le_of_ble_eq_true rfl, Nat.le_of_ble_eq_true rfl⟩ dX6_splits_21 rfl (st' := [.int r24]) rfl ?_
  refine j_istore X (lv' := [(5, .int r24), (4, .int v14), (0, .ref (q a0)), (1, .int a1), (2, .int a2), (3, .int a3)]) dX6_splits_24 (by decide) rfl ?_
  refine j_aload_n X dX6_splits_26 2 rfl rfl ?_
  refine j_aload_n X dX6_splits_27 2 rfl rfl ?_
  refine j_iload_n X dX6_splits_28 3 rfl rfl ?_
  obtain ⟨h28, hf29⟩ := chk_of hf27; clear hf27
  obtain ⟨r30, σ31, h32, hf33⟩ := bc_of hf29; clear hf29
  refine j_callV0 X [.int a1] [.ref (q a0)] (c_X6_lowOf l D cs q a0 a1 σ25 _ _ h32) mk_X6_lowOf mv_X6_lowOf ml_X6_245 h28 rfl (by decide) ⟨rfl, rfl⟩ ⟨Nat.le_of_ble_eq_true rfl, Nat.le_of_ble_eq_true rfl⟩ rfl (Nat.le_of_ble_eq_true rfl) ⟨Nat.le_of_ble_eq_true rfl, Nat.le_of_ble_eq_true rfl⟩ dX6_splits_29 rfl (st' := [.long r30, .ref (q a0)]) rfl ?_
  obtain ⟨h34, hf35⟩ := chk_of hf33; clear hf33
  refine j_putl X fp_X6_274 h34 dX6_splits_32 (fun σ36 eσ36 => ?_)
  replace hf35 := lt_of hf35 σ36 eσ36
  have h38 : isO σ36 6 a0 := by rw [eσ36]; exact h34
  refine j_aload_n X dX6_splits_35 2 rfl rfl ?_
  refine j_aload_n X dX6_splits_36 2 rfl rfl ?_
  refine j_iload_n X dX6_splits_37 3 rfl rfl ?_
  obtain ⟨r39, σ40, h41, hf42⟩ := bc_of hf35; clear hf35
  refine j_callV0 X [.int a1] [.ref (q a0)] (c_X6_highOf l D cs q a0 a1 σ36 _ _ h41) mk_X6_highOf mv_X6_highOf ml_X6_241 h38 rfl (by decide) ⟨rfl, rfl⟩ ⟨Nat.le_of_ble_eq_true rfl, Nat.le_of_ble_eq_true rfl⟩ rfl (Nat.le_of_ble_eq_true rfl) ⟨Nat.le_of_ble_eq_true rfl, Nat.le_of_ble_eq_true rfl⟩ dX6_splits_38 rfl (st' := [.long r39, .ref (q a0)]) rfl ?_
  obtain ⟨h43, hf44⟩ := chk_of hf42; clear hf42
  refine j_putl X fp_X6_277 h43 dX6_splits_41 (fun σ45 eσ45 => ?_)
  replace hf44 := lt_of hf44 σ45 eσ45
  have h47 : isO σ45 6 a0 := by rw [eσ45]; exact h43
  refine j_aload_n X dX6_splits_44 2 rfl rfl ?_
  refine j_iload_n X dX6_splits_45 4 rfl rfl ?_
  refine j_iload_n X dX6_splits_46 5 rfl rfl ?_
  refine j_iload X dX6_splits_47 1 rfl ?_
  obtain ⟨r48, σ49, h50, hf51⟩ := bc_of hf44; clear hf44
  refine j_callV0 X [.int a2, .int a3, .int v14] [] (c_X6_lays l D cs q a0 a2 a3 v14 σ45 _ _ h50) mk_X6_lays mv_X6_lays ml_X6_200 h47 rfl (by decide) ⟨rfl, rfl⟩ ⟨Nat.le_of_ble_eq_true rfl, Nat.le_of_ble_eq_true rfl⟩ rfl (Nat.le_of_ble_eq_true rfl) ⟨Nat.le_of_ble_eq_true rfl, Nat.le_of_ble_eq_true rfl⟩ dX6_splits_49 rfl (st' := []) rfl ?_
  refine j_aload_n X dX6_splits_52 2 rfl rfl ?_
  refine j_iload_n X dX6_splits_53 3 rfl rfl ?_
  obtain ⟨h52, hf53⟩ := chk_of hf51; clear hf51
  obtain ⟨r54, σ55, h56, hf57⟩ := bc_of hf53; clear hf53
  refine j_callV0 X [.int a1] [] (c_X6_spans l D cs q a0 a1 σ49 _ _ h56) mk_X6_spans mv_X6_spans ml_X6_236 h52 rfl (by decide) ⟨rfl, rfl⟩ ⟨Nat.le_of_ble_eq_true rfl, Nat.le_of_ble_eq_true rfl⟩ rfl (Nat.le_of_ble_eq_true rfl) ⟨Nat.le_of_ble_eq_true rfl, Nat.le_of_ble_eq_true rfl⟩ dX6_splits_54 rfl (st' := [.int r54]) rfl ?_
  refine j_istore X (lv' := [(5, .int r54), (4, .int v14), (0, .ref (q a0)), (1, .int a1), (2, .int a2), (3, .int a3)]) dX6_splits_57 (by decide) rfl ?_
  refine j_aload_n X dX6_splits_59 2 rfl rfl ?_
  refine j_aload_n X dX6_splits_60 2 rfl rfl ?_
  obtain ⟨h58, hf59⟩ := chk_of hf57; clear hf57
  refine j_getl X fd_X6_274 h58 dX6_splits_61 (fun v60 ev60 => ?_)
  replace hf59 := lt_of hf59 v60 ev60
  refine j_aload_n X dX6_splits_64 2 rfl rfl ?_
  refine j_iload_n X dX6_splits_65 3 rfl rfl ?_
  obtain ⟨r62, σ63, h64, hf65⟩ := bc_of hf59; clear hf59
  refine j_callV0 X [.int a1] [.long v60, .ref (q a0)] (c_X6_lowOf l D cs q a0 a1 σ55 _ _ h64) mk_X6_lowOf mv_X6_lowOf ml_X6_245 h58 rfl (by decide) ⟨rfl, rfl⟩ ⟨Nat.le_of_ble_eq_true rfl, Nat.le_of_ble_eq_true rfl⟩ rfl (Nat.le_of_ble_eq_true rfl) ⟨Nat.le_of_ble_eq_true rfl, Nat.le_of_ble_eq_true rfl⟩ dX6_splits_66 rfl (st' := [.long r62, .long v60, .ref (q a0)]) rfl ?_
  refine j_mmin_long X ml_X6_208 (Nat.le_of_ble_eq_true rfl) (Nat.le_of_ble_eq_true rfl) (Nat.le_of_ble_eq_true rfl) (Nat.le_of_ble_eq_true rfl) dX6_splits_69 (fun v66 ev66 => ?_)
  replace hf65 := lt_of hf65 v66 ev66
  obtain ⟨h68, hf69⟩ := chk_of hf65; clear hf65
  refine j_putl X fp_X6_274 h68 dX6_splits_72 (fun σ70 eσ70 => ?_)
  replace hf69 := lt_of hf69 σ70 eσ70
  have h72 : isO σ70 6 a0 := by rw [eσ70]; exact h68
  refine j_aload_n X dX6_splits_75 2 rfl rfl ?_
  refine j_aload_n X dX6_splits_76 2 rfl rfl ?_
  refine j_getl X fd_X6_277 h72 dX6_splits_77 (fun v73 ev73 => ?_)
  replace hf69 := lt_of hf69 v73 ev73
  refine j_aload_n X dX6_splits_80 2 rfl rfl ?_
  refine j_iload_n X dX6_splits_81 3 rfl rfl ?_
  obtain ⟨r75, σ76, h77, hf78⟩ := bc_of hf69; clear hf69
  refine j_callV0 X [.int a1] [.long v73, .ref (q a0)] (c_X6_highOf l D cs q a0 a1 σ70 _ _ h77) mk_X6_highOf mv_X6_highOf ml_X6_241 h72 rfl (by decide) ⟨rfl, rfl⟩ ⟨Nat.le_of_ble_eq_true rfl, Nat.le_of_ble_eq_true rfl⟩ rfl (Nat.le_of_ble_eq_true rfl) ⟨Nat.le_of_ble_eq_true rfl, Nat.le_of_ble_eq_true rfl⟩ dX6_splits_82 rfl (st' := [.long r75, .long v73, .ref (q a0)]) rfl ?_
  refine j_mmax_long X ml_X6_215 (Nat.le_of_ble_eq_true rfl) (Nat.le_of_ble_eq_true rfl) (Nat.le_of_ble_eq_true rfl) (Nat.le_of_ble_eq_true rfl) dX6_splits_85 (fun v79 ev79 => ?_)
  replace hf78 := lt_of hf78 v79 ev79
  obtain ⟨h81, hf82⟩ := chk_of hf78; clear hf78
  refine j_putl X fp_X6_277 h81 dX6_splits_88 (fun σ83 eσ83 => ?_)
  replace hf82 := lt_of hf82 σ83 eσ83
  have h85 : isO σ83 6 a0 := by rw [eσ83]; exact h81
  obtain ⟨er, es⟩ := rt_of hf82
  exact j_retv X hr hlk (Nat.le_of_ble_eq_true rfl) (Nat.le_of_ble_eq_true rfl) rfl es.symm rfl dX6_splits_91
abbrev rm_X6_best : Room := { frames := 6, cells := 0, slots := 0, locals := 384 }
set_option maxHeartbeats 4000000 in
set_option maxRecDepth 100000 in
theorem c_X6_best (l : Launch) (D : va_G) (cs : Nat → ClassId) (q : Nat → Nat) (a0 : Nat) (a1 : Int32) (a2 : Int32) (σ σ0 : HS) (r0 : Int64) (hf0 : f_X6_best a0 a1 a2 σ = some (r0, σ0)) : MT l yX6_best (Cond.code yX6_best cX6_best 11 (some .long) :: lw_g) rm_X6_best D cs q σ σ0 [.ref (q a0), .int a1, .int a2] (fun z => z = q) (fun _ => some (.long r0)) 0 0 := by
  unfold f_X6_best at hf0
  refine MT_of (cc := cX6_best) (lv0 := [(0, .ref (q a0)), (1, .int a1), (2, .int a2)]) (by decide) (Nat.le_of_ble_eq_true rfl) rfl (fun p e s m args below meth c A X hr hlk hin => ?_)
  have L70 : ∀ (K54 : Nat → Int32 → Int32 → Int64 → Int64 → Int32 → Int32 → Int32 → HS → Option (Int64 × HS)) (hK54 : ∀ (x0 : Nat) (x1 : Int32) (x2 : Int32) (x3 : Int64) (x5 : Int64) (x7 : Int32) (x8 : Int32) (x9 : Int32) (τ : HS), K54 x0 x1 x2 x3 x5 x7 x8 x9 τ = some (r0, σ0) → J p l e rm_X6_best s m args below meth c 11 D cs A s.heap 0 0 (MQ below (hQ D cs (fun z => z = q) (fun _ => some (.long r0)) σ0 A) args s 0 0 A) q τ [(0, .ref (q x0)), (1, .int x1), (2, .int x2), (3, .long x3), (5, .long x5), (7, .int x7), (8, .int x8), (9, .int x9)] 54 []), ∀ (nk : Nat) (x0 : Nat) (x1 : Int32) (x2 : Int32) (x3 : Int64) (x5 : Int64) (x7 : Int32) (x8 : Int32) (x9 : Int32) (x10 : Int32) (τ : HS), lp_X6_best_70 K54 nk x0 x1 x2 x3 x5 x7 x8 x9 x10 τ = some (r0, σ0) → J p l e rm_X6_best s m args below meth c 11 D cs A s.heap 0 0 (MQ below (hQ D cs (fun z => z = q) (fun _ => some (.long r0)) σ0 A) args s 0 0 A) q τ [(0, .ref (q x0)), (1, .int x1), (2, .int x2), (3, .long x3), (5, .long x5), (7, .int x7), (8, .int x8), (9, .int x9), (10, .int x10)] 70 [] := by
    intro K54 hK54
    intro nk
    induction nk with
    | zero => intro x0 x1 x2 x3 x5 x7 x8 x9 x10 τ hf0; have hf1 : (none : Option (Int64 × HS)) = some (r0, σ0) := hf0; cases hf1
    | succ nk ih =>
      intro x0 x1 x2 x3 x5 x7 x8 x9 x10 τ hf0
      replace hf0 : lp_X6_best_70_b K54 (lp_X6_best_70 K54 nk) x0 x1 x2 x3 x5 x7 x8 x9 x10 τ = some (r0, σ0) := hf0
      unfold lp_X6_best_70_b at hf0
      refine j_iload X dX6_best_70 8 rfl ?_
      refine j_aload_n X dX6_best_72 0 rfl rfl ?_
      refine j_iload X dX6_best_73 7 rfl ?_
      refine j_iconst X (v := 4) dX6_best_75 (by decide) ?_
      obtain ⟨h50, hf51⟩ := chk_of hf0; clear hf0
      obtain ⟨r52, σ53, h54, hf55⟩ := bc_of hf51; clear hf51
      refine j_callV0 X [.int x9, .int (4 : Int32)] [.int x10] (c_X6_of l D cs q x0 x9 (4 : Int32) τ _ _ h54) mk_X6_of mv_X6_of ml_X6_280 h50 rfl (by decide) ⟨rfl, rfl⟩ ⟨Nat.le_of_ble_eq_true rfl, Nat.le_of_ble_eq_true rfl⟩ rfl (Nat.le_of_ble_eq_true rfl) ⟨Nat.le_of_ble_eq_true rfl, Nat.le_of_ble_eq_true rfl⟩ dX6_best_76 rfl (st' := [.int r52, .int x10]) rfl ?_
      refine j_icmp_gt X (tgt := 131) dX6_best_79 (by decide) (fun c56 => ?_) (fun c56 => ?_)
      · have hf57 := br_y hf55 c56; clear hf55
        obtain ⟨v59, ev59⟩ : ∃ y : Int32, y = x9 + (1 : Int32) := ⟨_, rfl⟩
        replace hf57 := lt_of hf57 v59 ev59
        refine j_iinc X (v := v59) (lv' := [(9, .int v59), (0, .ref (q x0)), (1, .int x1), (2, .int x2), (3, .long x3), (5, .long x5), (7, .int x7), (8, .int x8), (10, .int x10)]) dX6_best_131 7 rfl (by rw [ev59]; rfl) (by decide) rfl ?_
        refine j_goto X (tgt := 54) dX6_best_134 (by decide) ?_
        refine j_lvsub [1, 2, 3, 4, 5, 6, 7, 0] (lv' := [(0, .ref (q x0)), (1, .int x1), (2, .int x2), (3, .long x3), (5, .long x5), (7, .int x7), (8, .int x8), (9, .int v59)]) rfl ?_
        exact hK54 x0 x1 x2 x3 x5 x7 x8 v59 σ53 hf57
      · have hf58 := br_n hf55 c56; clear hf55
        refine j_aload_n X dX6_best_82 0 rfl rfl ?_
        refine j_iload_n X dX6_best_83 1 rfl rfl ?_
        refine j_iload X dX6_best_84 7 rfl ?_
        refine j_iload X dX6_best_86 8 rfl ?_
        obtain ⟨h61, hf62⟩ := chk_of hf58; clear hf58
        obtain ⟨r63, σ64, h65, hf66⟩ := bc_of hf62; clear hf62
        refine j_callV0 X [.int x1, .int x9, .int x10] [] (c_X6_splits l D cs q x0 x1 x9 x10 σ53 _ _ h65) mk_X6_splits mv_X6_splits ml_X6_283 h61 rfl (by decide) ⟨rfl, rfl⟩ ⟨Nat.le_of_ble_eq_true rfl, Nat.le_of_ble_eq_true rfl⟩ rfl (Nat.le_of_ble_eq_true rfl) ⟨Nat.le_of_ble_eq_true rfl, Nat.le_of_ble_eq_true rfl⟩ dX6_best_88 rfl (st' := []) rfl ?_
        refine j_aload_n X dX6_best_91 0 rfl rfl ?_
        obtain ⟨h67, hf68⟩ := chk_of hf66; clear hf66
        refine j_getl X fd_X6_277 h67 dX6_best_92 (fun v69 ev69 => ?_)
        replace hf68 := lt_of hf68 v69 ev69
        refine j_aload_n X dX6_best_95 0 rfl rfl ?_
        refine j_getl X fd_X6_274 h67 dX6_best_96 (fun v71 ev71 => ?_)
        replace hf68 := lt_of hf68 v71 ev71
        refine j_lsub X dX6_best_99 ?_
        refine j_lload X dX6_best_100 4 rfl ?_
        refine j_lcmp X dX6_best_102 ?_
        refine j_if_ge X (tgt := 125) dX6_best_103 (by decide) (fun c73 => ?_) (fun c73 => ?_)
        · have hf74 := br_y hf68 c73; clear hf68
          obtain ⟨v76, ev76⟩ : ∃ y : Int32, y = x10 + (1 : Int32) := ⟨_, rfl⟩
          replace hf74 := lt_of hf74 v76 ev76
          refine j_iinc X (v := v76) (lv' := [(10, .int v76), (0, .ref (q x0)), (1, .int x1), (2, .int x2), (3, .long x3), (5, .long x5), (7, .int x7), (8, .int x8), (9, .int x9)]) dX6_best_125 8 rfl (by rw [ev76]; rfl) (by decide) rfl ?_
          refine j_goto X (tgt := 70) dX6_best_128 (by decide) ?_
          refine j_lvsub [1, 2, 3, 4, 5, 6, 7, 8, 0] (lv' := [(0, .ref (q x0)), (1, .int x1), (2, .int x2), (3, .long x3), (5, .long x5), (7, .int x7), (8, .int x8), (9, .int x9), (10, .int v76)]) rfl ?_
          exact ih x0 x1 x2 x3 x5 x7 x8 x9 v76 σ64 hf74
        · have hf75 := br_n hf68 c73; clear hf68
          refine j_aload_n X dX6_best_106 0 rfl rfl ?_
          refine j_getl X fd_X6_277 h67 dX6_best_107 (fun v78 ev78 => ?_)
          replace hf75 := lt_of hf75 v78 ev78
          refine j_aload_n X dX6_best_110 0 rfl rfl ?_
          refine j_getl X fd_X6_274 h67 dX6_best_111 (fun v80 ev80 => ?_)
          replace hf75 := lt_of hf75 v80 ev80
          refine j_lsub X dX6_best_114 ?_
          refine j_nml (fun v82 ev82 => ?_)
          replace hf75 := lt_of hf75 v82 ev82
          refine j_lstore X (lv' := [(5, .long v82), (0, .ref (q x0)), (1, .int x1), (2, .int x2), (3, .long x3), (7, .int x7), (8, .int x8), (9, .int x9), (10, .int x10)]) dX6_best_115 (by decide) rfl ?_
          refine j_iload X dX6_best_117 7 rfl ?_
          refine j_istore X (lv' := [(7, .int x9), (5, .long v82), (0, .ref (q x0)), (1, .int x1), (2, .int x2), (3, .long x3), (8, .int x8), (9, .int x9), (10, .int x10)]) dX6_best_119 (by decide) rfl ?_
          refine j_iload X dX6_best_121 8 rfl ?_
          refine j_istore X (lv' := [(8, .int x10), (7, .int x9), (5, .long v82), (0, .ref (q x0)), (1, .int x1), (2, .int x2), (3, .long x3), (9, .int x9), (10, .int x10)]) dX6_best_123 (by decide) rfl ?_
          obtain ⟨v84, ev84⟩ : ∃ y : Int32, y = x10 + (1 : Int32) := ⟨_, rfl⟩
          replace hf75 := lt_of hf75 v84 ev84
          refine j_iinc X (v := v84) (lv' := [(10, .int v84), (8, .int x10), (7, .int x9), (5, .long v82), (0, .ref (q x0)), (1, .int x1), (2, .int x2), (3, .long x3), (9, .int x9)]) dX6_best_125 8 rfl (by rw [ev84]; rfl) (by decide) rfl ?_
          refine j_goto X (tgt := 70) dX6_best_128 (by decide) ?_
          refine j_lvsub [4, 5, 6, 7, 3, 2, 1, 8, 0] (lv' := [(0, .ref (q x0)), (1, .int x1), (2, .int x2), (3, .long x3), (5, .long v82), (7, .int x9), (8, .int x10), (9, .int x9), (10, .int v84)]) rfl ?_
          exact ih x0 x1 x2 x3 v82 x9 x10 x9 v84 σ64 hf75
  have L54 : ∀ (nk : Nat) (x0 : Nat) (x1 : Int32) (x2 : Int32) (x3 : Int64) (x5 : Int64) (x7 : Int32) (x8 : Int32) (x9 : Int32) (τ : HS), lp_X6_best_54  nk x0 x1 x2 x3 x5 x7 x8 x9 τ = some (r0, σ0) → J p l e rm_X6_best s m args below meth c 11 D cs A s.heap 0 0 (MQ below (hQ D cs (fun z => z = q) (fun _ => some (.long r0)) σ0 A) args s 0 0 A) q τ [(0, .ref (q x0)), (1, .int x1), (2, .int x2), (3, .long x3), (5, .long x5), (7, .int x7), (8, .int x8), (9, .int x9)] 54 [] := by
    intro nk
    induction nk with
    | zero => intro x0 x1 x2 x3 x5 x7 x8 x9 τ hf0; have hf1 : (none : Option (Int64 × HS)) = some (r0, σ0) := hf0; cases hf1
    | succ nk ih =>
      intro x0 x1 x2 x3 x5 x7 x8 x9 τ hf0
      replace hf0 : lp_X6_best_54_b  (lp_X6_best_54  nk) x0 x1 x2 x3 x5 x7 x8 x9 τ = some (r0, σ0) := hf0
      unfold lp_X6_best_54_b at hf0
      refine j_iload X dX6_best_54 7 rfl ?_
      refine j_bipush X (v := 6) dX6_best_56 (by decide) ?_
      refine j_icmp_ge X (tgt := 137) dX6_best_58 (by decide) (fun c32 => ?_) (fun c32 => ?_)
      · have hf33 := br_y hf0 c32; clear hf0
        refine j_iload X dX6_best_137 5 rfl ?_
        refine j_iconst X (v := -1) dX6_best_139 (by decide) ?_
        refine j_icmp_ne X (tgt := 147) dX6_best_140 (by decide) (fun c35 => ?_) (fun c35 => ?_)
        · have hf36 := br_n hf33 c35; clear hf33
          refine j_iload_n X dX6_best_147 2 rfl rfl ?_
          refine j_if_ne X (tgt := 157) dX6_best_148 (by decide) (fun c38 => ?_) (fun c38 => ?_)
          · have hf39 := br_n hf36 c38; clear hf36
            refine j_iload_n X dX6_best_157 2 rfl rfl ?_
            refine j_iconst X (v := 1) dX6_best_158 (by decide) ?_
            refine j_icmp_ne X (tgt := 168) dX6_best_159 (by decide) (fun c41 => ?_) (fun c41 => ?_)
            · have hf42 := br_n hf39 c41; clear hf39
              refine j_lload_n X dX6_best_168 3 rfl rfl ?_
              refine j_lload X dX6_best_169 4 rfl ?_
              refine j_lsub X dX6_best_171 ?_
              obtain ⟨er, es⟩ := rt_of hf42
              subst er
              exact j_retl X hr hlk (Nat.le_of_ble_eq_true rfl) (Nat.le_of_ble_eq_true rfl) rfl es.symm rfl dX6_best_172
            · have hf43 := br_y hf39 c41; clear hf39
              refine j_iload X dX6_best_162 6 rfl ?_
              refine j_i2l X dX6_best_164 ?_
              refine j_goto X (tgt := 172) dX6_best_165 (by decide) ?_
              obtain ⟨er, es⟩ := rt_of hf43
              subst er
              exact j_retl X hr hlk (Nat.le_of_ble_eq_true rfl) (Nat.le_of_ble_eq_true rfl) rfl es.symm rfl dX6_best_172
          · have hf40 := br_y hf36 c38; clear hf36
            refine j_iload X dX6_best_151 5 rfl ?_
            refine j_i2l X dX6_best_153 ?_
            refine j_goto X (tgt := 172) dX6_best_154 (by decide) ?_
            obtain ⟨er, es⟩ := rt_of hf40
            subst er
            exact j_retl X hr hlk (Nat.le_of_ble_eq_true rfl) (Nat.le_of_ble_eq_true rfl) rfl es.symm rfl dX6_best_172
        · have hf37 := br_y hf33 c35; clear hf33
          refine j_ldc2 X k_X6_286 dX6_best_143 ?_
          obtain ⟨er, es⟩ := rt_of hf37
          subst er
          exact j_retl X hr hlk (Nat.le_of_ble_eq_true rfl) (Nat.le_of_ble_eq_true rfl) rfl es.symm rfl dX6_best_146
      · have hf34 := br_n hf0 c32; clear hf0
        refine j_aload_n X dX6_best_61 0 rfl rfl ?_
        refine j_iload X dX6_best_62 7 rfl ?_
        refine j_iconst X (v := 3) dX6_best_64 (by decide) ?_
        obtain ⟨h44, hf45⟩ := chk_of hf34; clear hf34
        obtain ⟨r46, σ47, h48, hf49⟩ := bc_of hf45; clear hf45
        refine j_callV0 X [.int x9, .int (3 : Int32)] [] (c_X6_of l D cs q x0 x9 (3 : Int32) τ _ _ h48) mk_X6_of mv_X6_of ml_X6_280 h44 rfl (by decide) ⟨rfl, rfl⟩ ⟨Nat.le_of_ble_eq_true rfl, Nat.le_of_ble_eq_true rfl⟩ rfl (Nat.le_of_ble_eq_true rfl) ⟨Nat.le_of_ble_eq_true rfl, Nat.le_of_ble_eq_true rfl⟩ dX6_best_65 rfl (st' := [.int r46]) rfl ?_
        refine j_istore X (lv' := [(10, .int r46), (0, .ref (q x0)), (1, .int x1), (2, .int x2), (3, .long x3), (5, .long x5), (7, .int x7), (8, .int x8), (9, .int x9)]) dX6_best_68 (by decide) rfl ?_
        refine j_lvsub [1, 2, 3, 4, 5, 6, 7, 8, 0] (lv' := [(0, .ref (q x0)), (1, .int x1), (2, .int x2), (3, .long x3), (5, .long x5), (7, .int x7), (8, .int x8), (9, .int x9), (10, .int r46)]) rfl ?_
        exact L70 _ (ih) 1000 x0 x1 x2 x3 x5 x7 x8 x9 r46 σ47 hf49
  refine j_aload_n X dX6_best_0 0 rfl rfl ?_
  refine j_iload_n X dX6_best_1 1 rfl rfl ?_
  obtain ⟨h1, hf2⟩ := chk_of hf0; clear hf0
  obtain ⟨r3, σ4, h5, hf6⟩ := bc_of hf2; clear hf2
  refine j_callV0 X [.int a1] [] (c_X6_isFormula l D cs q a0 a1 σ _ _ h5) mk_X6_isFormula mv_X6_isFormula ml_X6_180 h1 rfl (by decide) ⟨rfl, rfl⟩ ⟨Nat.le_of_ble_eq_true rfl, Nat.le_of_ble_eq_true rfl⟩ rfl (Nat.le_of_ble_eq_true rfl) ⟨Nat.le_of_ble_eq_true rfl, Nat.le_of_ble_eq_true rfl⟩ dX6_best_2 rfl (st' := [.int r3]) rfl ?_
  refine j_if_eq X (tgt := 20) dX6_best_5 (by decide) (fun c7 => ?_) (fun c7 => ?_)
  · have hf8 := br_y hf6 c7; clear hf6
    refine j_ldc2 X k_X6_198 dX6_best_20 ?_
    obtain ⟨er, es⟩ := rt_of hf8
    subst er
    exact j_retl X hr hlk (Nat.le_of_ble_eq_true rfl) (Nat.le_of_ble_eq_true rfl) rfl es.symm rfl dX6_best_23
  · have hf9 := br_n hf6 c7; clear hf6
    refine j_iload_n X dX6_best_8 2 rfl rfl ?_
    refine j_i2l X dX6_best_9 ?_
    refine j_lconst X (v := 0) dX6_best_10 (by decide) ?_
    refine j_ldc2 X k_X6_105 dX6_best_11 ?_
    obtain ⟨r10, σ11, h12, hf13⟩ := bc_of hf9; clear hf9
    refine j_callS0 X [.long (a2).toInt64, .long (0 : Int64), .long (2 : Int64)] [] (c_X6_isIn l D cs q (a2).toInt64 (0 : Int64) (2 : Int64) σ4 _ _ h12) mk_X6_isIn ms_X6_isIn ml_X6_97 ⟨rfl, rfl⟩ ⟨Nat.le_of_ble_eq_true rfl, Nat.le_of_ble_eq_true rfl⟩ rfl (Nat.le_of_ble_eq_true rfl) ⟨Nat.le_of_ble_eq_true rfl, Nat.le_of_ble_eq_true rfl⟩ dX6_best_14 rfl (st' := [.int r10]) rfl ?_
    refine j_if_ne X (tgt := 24) dX6_best_17 (by decide) (fun c14 => ?_) (fun c14 => ?_)
    · have hf15 := br_n hf13 c14; clear hf13
      refine j_aload_n X dX6_best_24 0 rfl rfl ?_
      refine j_iload_n X dX6_best_25 1 rfl rfl ?_
      obtain ⟨h17, hf18⟩ := chk_of hf15; clear hf15
      obtain ⟨r19, σ20, h21, hf22⟩ := bc_of hf18; clear hf18
      refine j_callV0 X [.int a1] [] (c_X6_widthNow l D cs q a0 a1 σ11 _ _ h21) mk_X6_widthNow mv_X6_widthNow ml_X6_261 h17 rfl (by decide) ⟨rfl, rfl⟩ ⟨Nat.le_of_ble_eq_true rfl, Nat.le_of_ble_eq_true rfl⟩ rfl (Nat.le_of_ble_eq_true rfl) ⟨Nat.le_of_ble_eq_true rfl, Nat.le_of_ble_eq_true rfl⟩ dX6_best_26 rfl (st' := [.long r19]) rfl ?_
      refine j_lstore_n X (lv' := [(3, .long r19), (0, .ref (q a0)), (1, .int a1), (2, .int a2)]) dX6_best_29 rfl (by decide) rfl ?_
      refine j_lload_n X dX6_best_30 0 rfl rfl ?_
      refine j_ldc2 X k_X6_239 dX6_best_31 ?_
      refine j_lcmp X dX6_best_34 ?_
      refine j_if_ne X (tgt := 42) dX6_best_35 (by decide) (fun c23 => ?_) (fun c23 => ?_)
      · have hf24 := br_n hf22 c23; clear hf22
        refine j_lload_n X dX6_best_42 0 rfl rfl ?_
        refine j_lstore X (lv' := [(5, .long r19), (3, .long r19), (0, .ref (q a0)), (1, .int a1), (2, .int a2)]) dX6_best_43 (by decide) rfl ?_
        refine j_iconst X (v := -1) dX6_best_45 (by decide) ?_
        refine j_nmi (fun v26 ev26 => ?_)
        replace hf24 := lt_of hf24 v26 ev26
        refine j_istore X (lv' := [(7, .int v26), (5, .long r19), (3, .long r19), (0, .ref (q a0)), (1, .int a1), (2, .int a2)]) dX6_best_46 (by decide) rfl ?_
        refine j_iconst X (v := 0) dX6_best_48 (by decide) ?_
        refine j_nmi (fun v28 ev28 => ?_)
        replace hf24 := lt_of hf24 v28 ev28
        refine j_istore X (lv' := [(8, .int v28), (7, .int v26), (5, .long r19), (3, .long r19), (0, .ref (q a0)), (1, .int a1), (2, .int a2)]) dX6_best_49 (by decide) rfl ?_
        refine j_iconst X (v := 0) dX6_best_51 (by decide) ?_
        refine j_nmi (fun v30 ev30 => ?_)
        replace hf24 := lt_of hf24 v30 ev30
        refine j_istore X (lv' := [(9, .int v30), (8, .int v28), (7, .int v26), (5, .long r19), (3, .long r19), (0, .ref (q a0)), (1, .int a1), (2, .int a2)]) dX6_best_52 (by decide) rfl ?_
        refine j_lvsub [5, 6, 7, 4, 3, 2, 1, 0] (lv' := [(0, .ref (q a0)), (1, .int a1), (2, .int a2), (3, .long r19), (5, .long r19), (7, .int v26), (8, .int v28), (9, .int v30)]) rfl ?_
        exact L54  1000 a0 a1 a2 r19 r19 v26 v28 v30 σ20 hf24
      · have hf25 := br_y hf22 c23; clear hf22
        refine j_ldc2 X k_X6_239 dX6_best_38 ?_
        obtain ⟨er, es⟩ := rt_of hf25
        subst er
        exact j_retl X hr hlk (Nat.le_of_ble_eq_true rfl) (Nat.le_of_ble_eq_true rfl) rfl es.symm rfl dX6_best_41
    · have hf16 := br_y hf13 c14; clear hf13
      refine j_ldc2 X k_X6_198 dX6_best_20 ?_
      obtain ⟨er, es⟩ := rt_of hf16
      subst er
      exact j_retl X hr hlk (Nat.le_of_ble_eq_true rfl) (Nat.le_of_ble_eq_true rfl) rfl es.symm rfl dX6_best_23
abbrev rm_X6_spansNow : Room := { frames := 4, cells := 0, slots := 0, locals := 256 }
set_option maxHeartbeats 4000000 in
set_option maxRecDepth 100000 in
theorem c_X6_spansNow (l : Launch) (D : va_G) (cs : Nat → ClassId) (q : Nat → Nat) (a0 : Nat) (a1 : Int32) (σ σ0 : HS) (r0 : Int32) (hf0 : f_X6_spansNow a0 a1 σ = some (r0, σ0)) : MT l yX6_spansNow (Cond.code yX6_spansNow cX6_spansNow 2 (some .boolean) :: lw_g) rm_X6_spansNow D cs q σ σ0 [.ref (q a0), .int a1] (fun z => z = q) (fun _ => some (.int r0)) 0 0 := by
  unfold f_X6_spansNow at hf0
  refine MT_of (cc := cX6_spansNow) (lv0 := [(0, .ref (q a0)), (1, .int a1)]) (by decide) (Nat.le_of_ble_eq_true rfl) rfl (fun p e s m args below meth c A X hr hlk hin => ?_)
  refine j_aload_n X dX6_spansNow_0 0 rfl rfl ?_
  obtain ⟨h1, hf2⟩ := chk_of hf0; clear hf0
  obtain ⟨r3, σ4, h5, hf6⟩ := bc_of hf2; clear hf2
  refine j_callV0 X [] [] (c_X6_laysBox l D cs q a0 σ _ _ h5) mk_X6_laysBox mv_X6_laysBox ml_X6_233 h1 rfl (by decide) ⟨rfl, rfl⟩ ⟨Nat.le_of_ble_eq_true rfl, Nat.le_of_ble_eq_true rfl⟩ rfl (Nat.le_of_ble_eq_true rfl) ⟨Nat.le_of_ble_eq_true rfl, Nat.le_of_ble_eq_true rfl⟩ dX6_spansNow_1 rfl (st' := []) rfl ?_
  refine j_aload_n X dX6_spansNow_4 0 rfl rfl ?_
  refine j_iload_n X dX6_spansNow_5 1 rfl rfl ?_
  obtain ⟨h7, hf8⟩ := chk_of hf6; clear hf6
  obtain ⟨r9, σ10, h11, hf12⟩ := bc_of hf8; clear hf8
  refine j_callV0 X [.int a1] [] (c_X6_spans l D cs q a0 a1 σ4 _ _ h11) mk_X6_spans mv_X6_spans ml_X6_236 h7 rfl (by decide) ⟨rfl, rfl⟩ ⟨Nat.le_of_ble_eq_true rfl, Nat.le_of_ble_eq_true rfl⟩ rfl (Nat.le_of_ble_eq_true rfl) ⟨Nat.le_of_ble_eq_true rfl, Nat.le_of_ble_eq_true rfl⟩ dX6_spansNow_6 rfl (st' := [.int r9]) rfl ?_
  obtain ⟨h13, hf14⟩ := chk_of hf12; clear hf12
  obtain ⟨er, es⟩ := rt_of hf14
  subst er
  exact j_retz X hr hlk (Nat.le_of_ble_eq_true rfl) (Nat.le_of_ble_eq_true rfl) rfl es.symm rfl h13 dX6_spansNow_9
abbrev rm_X6_changes : Room := { frames := 2, cells := 0, slots := 0, locals := 128 }
set_option maxHeartbeats 4000000 in
set_option maxRecDepth 100000 in
theorem c_X6_changes (l : Launch) (D : va_G) (cs : Nat → ClassId) (q : Nat → Nat) (a0 : Nat) (a1 : Int32) (a2 : Int32) (a3 : Int32) (a4 : Int32) (σ σ0 : HS) (r0 : Unit) (hf0 : f_X6_changes a0 a1 a2 a3 a4 σ = some (r0, σ0)) : MT l yX6_changes (Cond.code yX6_changes cX6_changes 9 none :: lw_g) rm_X6_changes D cs q σ σ0 [.ref (q a0), .int a1, .int a2, .int a3, .int a4] (fun z => z = q) (fun _ => none) 0 0 := by
  unfold f_X6_changes at hf0
  refine MT_of (cc := cX6_changes) (lv0 := [(0, .ref (q a0)), (1, .int a1), (2, .int a2), (3, .int a3), (4, .int a4)]) (by decide) (Nat.le_of_ble_eq_true rfl) rfl (fun p e s m args below meth c A X hr hlk hin => ?_)
  refine j_iload_n X dX6_changes_0 1 rfl rfl ?_
  by_cases c1 : a1 = (2 : Int32)
  · have hf2 := br_y hf0 c1; clear hf0
    refine j_tabIn X (v := 2) (tgt := 28) dX6_changes_1 c1 (by decide) (by decide) rfl (by decide) ?_
    refine j_aload_n X dX6_changes_28 0 rfl rfl ?_
    obtain ⟨h4, hf5⟩ := chk_of hf2; clear hf2
    obtain ⟨i6, h7, hf8⟩ := bd_of hf5; clear hf5
    refine j_getr X fd_X6_71 h4 h7 dX6_changes_29 ?_
    refine j_iload_n X dX6_changes_32 2 rfl rfl ?_
    refine j_aload_n X dX6_changes_33 0 rfl rfl ?_
    refine j_lconst X (v := 0) dX6_changes_34 (by decide) ?_
    refine j_aload_n X dX6_changes_35 0 rfl rfl ?_
    obtain ⟨i9, h10, hf11⟩ := bd_of hf8; clear hf8
    refine j_getr X fd_X6_74 h4 h10 dX6_changes_36 ?_
    refine j_iload_n X dX6_changes_39 3 rfl rfl ?_
    obtain ⟨h12, hf13⟩ := chk_of hf11; clear hf11
    refine j_lald X h12 dX6_changes_40 (fun v14 ev14 => ?_)
    replace hf13 := lt_of hf13 v14 ev14
    obtain ⟨r16, σ17, h18, hf19⟩ := bc_of hf13; clear hf13
    refine j_callV0 X [.long (0 : Int64), .long v14] [.int a2, .ref (q i6)] (c_X6_less l D cs q a0 (0 : Int64) v14 σ _ _ h18) mk_X6_less mv_X6_less ml_X6_220 h4 rfl (by decide) ⟨rfl, rfl⟩ ⟨Nat.le_of_ble_eq_true rfl, Nat.le_of_ble_eq_true rfl⟩ rfl (Nat.le_of_ble_eq_true rfl) ⟨Nat.le_of_ble_eq_true rfl, Nat.le_of_ble_eq_true rfl⟩ dX6_changes_41 rfl (st' := [.long r16, .int a2, .ref (q i6)]) rfl ?_
    obtain ⟨h20, hf21⟩ := chk_of hf19; clear hf19
    refine j_last X h20 dX6_changes_44 (fun σ22 eσ22 => ?_)
    replace hf21 := lt_of hf21 σ22 eσ22
    refine j_aload_n X dX6_changes_45 0 rfl rfl ?_
    obtain ⟨h24, hf25⟩ := chk_of hf21; clear hf21
    obtain ⟨i26, h27, hf28⟩ := bd_of hf25; clear hf25
    refine j_getr X fd_X6_74 h24 h27 dX6_changes_46 ?_
    refine j_iload_n X dX6_changes_49 2 rfl rfl ?_
    refine j_aload_n X dX6_changes_50 0 rfl rfl ?_
    refine j_lconst X (v := 0) dX6_changes_51 (by decide) ?_
    refine j_aload_n X dX6_changes_52 0 rfl rfl ?_
    obtain ⟨i29, h30, hf31⟩ := bd_of hf28; clear hf28
    refine j_getr X fd_X6_71 h24 h30 dX6_changes_53 ?_
    refine j_iload_n X dX6_changes_56 3 rfl rfl ?_
    obtain ⟨h32, hf33⟩ := chk_of hf31; clear hf31
    refine j_lald X h32 dX6_changes_57 (fun v34 ev34 => ?_)
    replace hf33 := lt_of hf33 v34 ev34
    obtain ⟨r36, σ37, h38, hf39⟩ := bc_of hf33; clear hf33
    refine j_callV0 X [.long (0 : Int64), .long v34] [.int a2, .ref (q i26)] (c_X6_less l D cs q a0 (0 : Int64) v34 σ22 _ _ h38) mk_X6_less mv_X6_less ml_X6_220 h24 rfl (by decide) ⟨rfl, rfl⟩ ⟨Nat.le_of_ble_eq_true rfl, Nat.le_of_ble_eq_true rfl⟩ rfl (Nat.le_of_ble_eq_true rfl) ⟨Nat.le_of_ble_eq_true rfl, Nat.le_of_ble_eq_true rfl⟩ dX6_changes_58 rfl (st' := [.long r36, .int a2, .ref (q i26)]) rfl ?_
    obtain ⟨h40, hf41⟩ := chk_of hf39; clear hf39
    refine j_last X h40 dX6_changes_61 (fun σ42 eσ42 => ?_)
    replace hf41 := lt_of hf41 σ42 eσ42
    obtain ⟨er, es⟩ := rt_of hf41
    exact j_retv X hr hlk (Nat.le_of_ble_eq_true rfl) (Nat.le_of_ble_eq_true rfl) rfl es.symm rfl dX6_changes_62
  · have hf3 := br_n hf0 c1; clear hf0
    by_cases c44 : a1 = (3 : Int32)
    · have hf45 := br_y hf3 c44; clear hf3
      refine j_tabIn X (v := 3) (tgt := 63) dX6_changes_1 c44 (by decide) (by decide) rfl (by decide) ?_
      refine j_aload_n X dX6_changes_63 0 rfl rfl ?_
      obtain ⟨h47, hf48⟩ := chk_of hf45; clear hf45
      obtain ⟨i49, h50, hf51⟩ := bd_of hf48; clear hf48
      refine j_getr X fd_X6_71 h47 h50 dX6_changes_64 ?_
      refine j_iload_n X dX6_changes_67 2 rfl rfl ?_
      refine j_aload_n X dX6_changes_68 0 rfl rfl ?_
      refine j_aload_n X dX6_changes_69 0 rfl rfl ?_
      refine j_getr X fd_X6_71 h47 h50 dX6_changes_70 ?_
      refine j_iload_n X dX6_changes_73 3 rfl rfl ?_
      obtain ⟨h55, hf56⟩ := chk_of hf51; clear hf51
      refine j_lald X h55 dX6_changes_74 (fun v57 ev57 => ?_)
      replace hf56 := lt_of hf56 v57 ev57
      refine j_aload_n X dX6_changes_75 0 rfl rfl ?_
      refine j_getr X fd_X6_71 h47 h50 dX6_changes_76 ?_
      refine j_iload X dX6_changes_79 4 rfl ?_
      obtain ⟨h62, hf63⟩ := chk_of hf56; clear hf56
      refine j_lald X h62 dX6_changes_81 (fun v64 ev64 => ?_)
      replace hf63 := lt_of hf63 v64 ev64
      obtain ⟨r66, σ67, h68, hf69⟩ := bc_of hf63; clear hf63
      refine j_callV0 X [.long v57, .long v64] [.int a2, .ref (q i49)] (c_X6_sum l D cs q a0 v57 v64 σ _ _ h68) mk_X6_sum mv_X6_sum ml_X6_223 h47 rfl (by decide) ⟨rfl, rfl⟩ ⟨Nat.le_of_ble_eq_true rfl, Nat.le_of_ble_eq_true rfl⟩ rfl (Nat.le_of_ble_eq_true rfl) ⟨Nat.le_of_ble_eq_true rfl, Nat.le_of_ble_eq_true rfl⟩ dX6_changes_82 rfl (st' := [.long r66, .int a2, .ref (q i49)]) rfl ?_
      obtain ⟨h70, hf71⟩ := chk_of hf69; clear hf69
      refine j_last X h70 dX6_changes_85 (fun σ72 eσ72 => ?_)
      replace hf71 := lt_of hf71 σ72 eσ72
      refine j_aload_n X dX6_changes_86 0 rfl rfl ?_
      obtain ⟨h74, hf75⟩ := chk_of hf71; clear hf71
      obtain ⟨i76, h77, hf78⟩ := bd_of hf75; clear hf75
      refine j_getr X fd_X6_74 h74 h77 dX6_changes_87 ?_
      refine j_iload_n X dX6_changes_90 2 rfl rfl ?_
      refine j_aload_n X dX6_changes_91 0 rfl rfl ?_
      refine j_aload_n X dX6_changes_92 0 rfl rfl ?_
      refine j_getr X fd_X6_74 h74 h77 dX6_changes_93 ?_
      refine j_iload_n X dX6_changes_96 3 rfl rfl ?_
      obtain ⟨h82, hf83⟩ := chk_of hf78; clear hf78
      refine j_lald X h82 dX6_changes_97 (fun v84 ev84 => ?_)
      replace hf83 := lt_of hf83 v84 ev84
      refine j_aload_n X dX6_changes_98 0 rfl rfl ?_
      refine j_getr X fd_X6_74 h74 h77 dX6_changes_99 ?_
      refine j_iload X dX6_changes_102 4 rfl ?_
      obtain ⟨h89, hf90⟩ := chk_of hf83; clear hf83
      refine j_lald X h89 dX6_changes_104 (fun v91 ev91 => ?_)
      replace hf90 := lt_of hf90 v91 ev91
      obtain ⟨r93, σ94, h95, hf96⟩ := bc_of hf90; clear hf90
      refine j_callV0 X [.long v84, .long v91] [.int a2, .ref (q i76)] (c_X6_sum l D cs q a0 v84 v91 σ72 _ _ h95) mk_X6_sum mv_X6_sum ml_X6_223 h74 rfl (by decide) ⟨rfl, rfl⟩ ⟨Nat.le_of_ble_eq_true rfl, Nat.le_of_ble_eq_true rfl⟩ rfl (Nat.le_of_ble_eq_true rfl) ⟨Nat.le_of_ble_eq_true rfl, Nat.le_of_ble_eq_true rfl⟩ dX6_changes_105 rfl (st' := [.long r93, .int a2, .ref (q i76)]) rfl ?_
      obtain ⟨h97, hf98⟩ := chk_of hf96; clear hf96
      refine j_last X h97 dX6_changes_108 (fun σ99 eσ99 => ?_)
      replace hf98 := lt_of hf98 σ99 eσ99
      obtain ⟨er, es⟩ := rt_of hf98
      exact j_retv X hr hlk (Nat.le_of_ble_eq_true rfl) (Nat.le_of_ble_eq_true rfl) rfl es.symm rfl dX6_changes_109
    · have hf46 := br_n hf3 c44; clear hf3
      by_cases c101 : a1 = (4 : Int32)
      · have hf102 := br_y hf46 c101; clear hf46
        refine j_tabIn X (v := 4) (tgt := 110) dX6_changes_1 c101 (by decide) (by decide) rfl (by decide) ?_
        refine j_aload_n X dX6_changes_110 0 rfl rfl ?_
        obtain ⟨h104, hf105⟩ := chk_of hf102; clear hf102
        obtain ⟨i106, h107, hf108⟩ := bd_of hf105; clear hf105
        refine j_getr X fd_X6_71 h104 h107 dX6_changes_111 ?_
        refine j_iload_n X dX6_changes_114 2 rfl rfl ?_
        refine j_aload_n X dX6_changes_115 0 rfl rfl ?_
        refine j_aload_n X dX6_changes_116 0 rfl rfl ?_
        refine j_getr X fd_X6_71 h104 h107 dX6_changes_117 ?_
        refine j_iload_n X dX6_changes_120 3 rfl rfl ?_
        obtain ⟨h112, hf113⟩ := chk_of hf108; clear hf108
        refine j_lald X h112 dX6_changes_121 (fun v114 ev114 => ?_)
        replace hf113 := lt_of hf113 v114 ev114
        refine j_aload_n X dX6_changes_122 0 rfl rfl ?_
        obtain ⟨i116, h117, hf118⟩ := bd_of hf113; clear hf113
        refine j_getr X fd_X6_74 h104 h117 dX6_changes_123 ?_
        refine j_iload X dX6_changes_126 4 rfl ?_
        obtain ⟨h119, hf120⟩ := chk_of hf118; clear hf118
        refine j_lald X h119 dX6_changes_128 (fun v121 ev121 => ?_)
        replace hf120 := lt_of hf120 v121 ev121
        obtain ⟨r123, σ124, h125, hf126⟩ := bc_of hf120; clear hf120
        refine j_callV0 X [.long v114, .long v121] [.int a2, .ref (q i106)] (c_X6_less l D cs q a0 v114 v121 σ _ _ h125) mk_X6_less mv_X6_less ml_X6_220 h104 rfl (by decide) ⟨rfl, rfl⟩ ⟨Nat.le_of_ble_eq_true rfl, Nat.le_of_ble_eq_true rfl⟩ rfl (Nat.le_of_ble_eq_true rfl) ⟨Nat.le_of_ble_eq_true rfl, Nat.le_of_ble_eq_true rfl⟩ dX6_changes_129 rfl (st' := [.long r123, .int a2, .ref (q i106)]) rfl ?_
        obtain ⟨h127, hf128⟩ := chk_of hf126; clear hf126
        refine j_last X h127 dX6_changes_132 (fun σ129 eσ129 => ?_)
        replace hf128 := lt_of hf128 σ129 eσ129
        refine j_aload_n X dX6_changes_133 0 rfl rfl ?_
        obtain ⟨h131, hf132⟩ := chk_of hf128; clear hf128
        obtain ⟨i133, h134, hf135⟩ := bd_of hf132; clear hf132
        refine j_getr X fd_X6_74 h131 h134 dX6_changes_134 ?_
        refine j_iload_n X dX6_changes_137 2 rfl rfl ?_
        refine j_aload_n X dX6_changes_138 0 rfl rfl ?_
        refine j_aload_n X dX6_changes_139 0 rfl rfl ?_
        refine j_getr X fd_X6_74 h131 h134 dX6_changes_140 ?_
        refine j_iload_n X dX6_changes_143 3 rfl rfl ?_
        obtain ⟨h139, hf140⟩ := chk_of hf135; clear hf135
        refine j_lald X h139 dX6_changes_144 (fun v141 ev141 => ?_)
        replace hf140 := lt_of hf140 v141 ev141
        refine j_aload_n X dX6_changes_145 0 rfl rfl ?_
        obtain ⟨i143, h144, hf145⟩ := bd_of hf140; clear hf140
        refine j_getr X fd_X6_71 h131 h144 dX6_changes_146 ?_
        refine j_iload X dX6_changes_149 4 rfl ?_
        obtain ⟨h146, hf147⟩ := chk_of hf145; clear hf145
        refine j_lald X h146 dX6_changes_151 (fun v148 ev148 => ?_)
        replace hf147 := lt_of hf147 v148 ev148
        obtain ⟨r150, σ151, h152, hf153⟩ := bc_of hf147; clear hf147
        refine j_callV0 X [.long v141, .long v148] [.int a2, .ref (q i133)] (c_X6_less l D cs q a0 v141 v148 σ129 _ _ h152) mk_X6_less mv_X6_less ml_X6_220 h131 rfl (by decide) ⟨rfl, rfl⟩ ⟨Nat.le_of_ble_eq_true rfl, Nat.le_of_ble_eq_true rfl⟩ rfl (Nat.le_of_ble_eq_true rfl) ⟨Nat.le_of_ble_eq_true rfl, Nat.le_of_ble_eq_true rfl⟩ dX6_changes_152 rfl (st' := [.long r150, .int a2, .ref (q i133)]) rfl ?_
        obtain ⟨h154, hf155⟩ := chk_of hf153; clear hf153
        refine j_last X h154 dX6_changes_155 (fun σ156 eσ156 => ?_)
        replace hf155 := lt_of hf155 σ156 eσ156
        obtain ⟨er, es⟩ := rt_of hf155
        exact j_retv X hr hlk (Nat.le_of_ble_eq_true rfl) (Nat.le_of_ble_eq_true rfl) rfl es.symm rfl dX6_changes_156
      · have hf103 := br_n hf46 c101; clear hf46
        refine j_tabOut X (tgt := 157) dX6_changes_1 (by have z2 := lv_neT c1 (show ((2 : Int32)).toInt = 2 from rfl); have z3 := lv_neT c44 (show ((3 : Int32)).toInt = 3 from rfl); have z4 := lv_neT c101 (show ((4 : Int32)).toInt = 4 from rfl); omega) (by decide) ?_
        refine j_aload_n X dX6_changes_157 0 rfl rfl ?_
        refine j_aload_n X dX6_changes_158 0 rfl rfl ?_
        obtain ⟨h158, hf159⟩ := chk_of hf103; clear hf103
        obtain ⟨i160, h161, hf162⟩ := bd_of hf159; clear hf159
        refine j_getr X fd_X6_71 h158 h161 dX6_changes_159 ?_
        refine j_iload_n X dX6_changes_162 3 rfl rfl ?_
        obtain ⟨h163, hf164⟩ := chk_of hf162; clear hf162
        refine j_lald X h163 dX6_changes_163 (fun v165 ev165 => ?_)
        replace hf164 := lt_of hf164 v165 ev165
        refine j_aload_n X dX6_changes_164 0 rfl rfl ?_
        obtain ⟨i167, h168, hf169⟩ := bd_of hf164; clear hf164
        refine j_getr X fd_X6_74 h158 h168 dX6_changes_165 ?_
        refine j_iload_n X dX6_changes_168 3 rfl rfl ?_
        obtain ⟨h170, hf171⟩ := chk_of hf169; clear hf169
        refine j_lald X h170 dX6_changes_169 (fun v172 ev172 => ?_)
        replace hf171 := lt_of hf171 v172 ev172
        refine j_aload_n X dX6_changes_170 0 rfl rfl ?_
        obtain ⟨i174, h175, hf176⟩ := bd_of hf171; clear hf171
        refine j_getr X fd_X6_57 h158 h175 dX6_changes_171 ?_
        refine j_iload X dX6_changes_174 4 rfl ?_
        obtain ⟨h177, hf178⟩ := chk_of hf176; clear hf176
        refine j_lald X h177 dX6_changes_176 (fun v179 ev179 => ?_)
        replace hf178 := lt_of hf178 v179 ev179
        refine j_aload_n X dX6_changes_177 0 rfl rfl ?_
        obtain ⟨i181, h182, hf183⟩ := bd_of hf178; clear hf178
        refine j_getr X fd_X6_61 h158 h182 dX6_changes_178 ?_
        refine j_iload X dX6_changes_181 4 rfl ?_
        obtain ⟨h184, hf185⟩ := chk_of hf183; clear hf183
        refine j_lald X h184 dX6_changes_183 (fun v186 ev186 => ?_)
        replace hf185 := lt_of hf185 v186 ev186
        obtain ⟨r188, σ189, h190, hf191⟩ := bc_of hf185; clear hf185
        refine j_callV0 X [.long v165, .long v172, .long v179, .long v186] [] (c_X6_products_ l D cs q a0 v165 v172 v179 v186 σ _ _ h190) mk_X6_products_ mv_X6_products_ ml_X6_226 h158 rfl (by decide) ⟨rfl, rfl⟩ ⟨Nat.le_of_ble_eq_true rfl, Nat.le_of_ble_eq_true rfl⟩ rfl (Nat.le_of_ble_eq_true rfl) ⟨Nat.le_of_ble_eq_true rfl, Nat.le_of_ble_eq_true rfl⟩ dX6_changes_184 rfl (st' := []) rfl ?_
        refine j_aload_n X dX6_changes_187 0 rfl rfl ?_
        obtain ⟨h192, hf193⟩ := chk_of hf191; clear hf191
        refine j_getl X fd_X6_211 h192 dX6_changes_188 (fun v194 ev194 => ?_)
        replace hf193 := lt_of hf193 v194 ev194
        refine j_lstore X (lv' := [(5, .long v194), (0, .ref (q a0)), (1, .int a1), (2, .int a2), (3, .int a3), (4, .int a4)]) dX6_changes_191 (by decide) rfl ?_
        refine j_aload_n X dX6_changes_193 1 rfl rfl ?_
        refine j_getl X fd_X6_217 h192 dX6_changes_194 (fun v196 ev196 => ?_)
        replace hf193 := lt_of hf193 v196 ev196
        refine j_lstore X (lv' := [(7, .long v196), (5, .long v194), (0, .ref (q a0)), (1, .int a1), (2, .int a2), (3, .int a3), (4, .int a4)]) dX6_changes_197 (by decide) rfl ?_
        refine j_aload_n X dX6_changes_199 2 rfl rfl ?_
        refine j_aload_n X dX6_changes_200 2 rfl rfl ?_
        obtain ⟨i198, h199, hf200⟩ := bd_of hf193; clear hf193
        refine j_getr X fd_X6_57 h192 h199 dX6_changes_201 ?_
        refine j_iload_n X dX6_changes_204 5 rfl rfl ?_
        obtain ⟨h201, hf202⟩ := chk_of hf200; clear hf200
        refine j_lald X h201 dX6_changes_205 (fun v203 ev203 => ?_)
        replace hf202 := lt_of hf202 v203 ev203
        refine j_aload_n X dX6_changes_206 2 rfl rfl ?_
        obtain ⟨i205, h206, hf207⟩ := bd_of hf202; clear hf202
        refine j_getr X fd_X6_61 h192 h206 dX6_changes_207 ?_
        refine j_iload_n X dX6_changes_210 5 rfl rfl ?_
        obtain ⟨h208, hf209⟩ := chk_of hf207; clear hf207
        refine j_lald X h208 dX6_changes_211 (fun v210 ev210 => ?_)
        replace hf209 := lt_of hf209 v210 ev210
        refine j_aload_n X dX6_changes_212 2 rfl rfl ?_
        obtain ⟨i212, h213, hf214⟩ := bd_of hf209; clear hf209
        refine j_getr X fd_X6_71 h192 h213 dX6_changes_213 ?_
        refine j_iload X dX6_changes_216 6 rfl ?_
        obtain ⟨h215, hf216⟩ := chk_of hf214; clear hf214
        refine j_lald X h215 dX6_changes_218 (fun v217 ev217 => ?_)
        replace hf216 := lt_of hf216 v217 ev217
        refine j_aload_n X dX6_changes_219 2 rfl rfl ?_
        obtain ⟨i219, h220, hf221⟩ := bd_of hf216; clear hf216
        refine j_getr X fd_X6_74 h192 h220 dX6_changes_220 ?_
        refine j_iload X dX6_changes_223 6 rfl ?_
        obtain ⟨h222, hf223⟩ := chk_of hf221; clear hf221
        refine j_lald X h222 dX6_changes_225 (fun v224 ev224 => ?_)
        replace hf223 := lt_of hf223 v224 ev224
        obtain ⟨r226, σ227, h228, hf229⟩ := bc_of hf223; clear hf223
        refine j_callV0 X [.long v203, .long v210, .long v217, .long v224] [] (c_X6_products_ l D cs q a0 v203 v210 v217 v224 σ189 _ _ h228) mk_X6_products_ mv_X6_products_ ml_X6_226 h192 rfl (by decide) ⟨rfl, rfl⟩ ⟨Nat.le_of_ble_eq_true rfl, Nat.le_of_ble_eq_true rfl⟩ rfl (Nat.le_of_ble_eq_true rfl) ⟨Nat.le_of_ble_eq_true rfl, Nat.le_of_ble_eq_true rfl⟩ dX6_changes_226 rfl (st' := []) rfl ?_
        refine j_aload_n X dX6_changes_229 2 rfl rfl ?_
        obtain ⟨h230, hf231⟩ := chk_of hf229; clear hf229
        obtain ⟨i232, h233, hf234⟩ := bd_of hf231; clear hf231
        refine j_getr X fd_X6_71 h230 h233 dX6_changes_230 ?_
        refine j_iload_n X dX6_changes_233 4 rfl rfl ?_
        refine j_aload_n X dX6_changes_234 2 rfl rfl ?_
        refine j_lload X dX6_changes_235 1 rfl ?_
        refine j_aload_n X dX6_changes_237 2 rfl rfl ?_
        refine j_getl X fd_X6_211 h230 dX6_changes_238 (fun v235 ev235 => ?_)
        replace hf234 := lt_of hf234 v235 ev235
        obtain ⟨r237, σ238, h239, hf240⟩ := bc_of hf234; clear hf234
        refine j_callV0 X [.long v194, .long v235] [.int a2, .ref (q i232)] (c_X6_sum l D cs q a0 v194 v235 σ227 _ _ h239) mk_X6_sum mv_X6_sum ml_X6_223 h230 rfl (by decide) ⟨rfl, rfl⟩ ⟨Nat.le_of_ble_eq_true rfl, Nat.le_of_ble_eq_true rfl⟩ rfl (Nat.le_of_ble_eq_true rfl) ⟨Nat.le_of_ble_eq_true rfl, Nat.le_of_ble_eq_true rfl⟩ dX6_changes_241 rfl (st' := [.long r237, .int a2, .ref (q i232)]) rfl ?_
        obtain ⟨h241, hf242⟩ := chk_of hf240; clear hf240
        refine j_last X h241 dX6_changes_244 (fun σ243 eσ243 => ?_)
        replace hf242 := lt_of hf242 σ243 eσ243
        refine j_aload_n X dX6_changes_245 2 rfl rfl ?_
        obtain ⟨h245, hf246⟩ := chk_of hf242; clear hf242
        obtain ⟨i247, h248, hf249⟩ := bd_of hf246; clear hf246
        refine j_getr X fd_X6_74 h245 h248 dX6_changes_246 ?_
        refine j_iload_n X dX6_changes_249 4 rfl rfl ?_
        refine j_aload_n X dX6_changes_250 2 rfl rfl ?_
        refine j_lload X dX6_changes_251 0 rfl ?_
        refine j_aload_n X dX6_changes_253 2 rfl rfl ?_
        refine j_getl X fd_X6_217 h245 dX6_changes_254 (fun v250 ev250 => ?_)
        replace hf249 := lt_of hf249 v250 ev250
        obtain ⟨r252, σ253, h254, hf255⟩ := bc_of hf249; clear hf249
        refine j_callV0 X [.long v196, .long v250] [.int a2, .ref (q i247)] (c_X6_sum l D cs q a0 v196 v250 σ243 _ _ h254) mk_X6_sum mv_X6_sum ml_X6_223 h245 rfl (by decide) ⟨rfl, rfl⟩ ⟨Nat.le_of_ble_eq_true rfl, Nat.le_of_ble_eq_true rfl⟩ rfl (Nat.le_of_ble_eq_true rfl) ⟨Nat.le_of_ble_eq_true rfl, Nat.le_of_ble_eq_true rfl⟩ dX6_changes_257 rfl (st' := [.long r252, .int a2, .ref (q i247)]) rfl ?_
        obtain ⟨h256, hf257⟩ := chk_of hf255; clear hf255
        refine j_last X h256 dX6_changes_260 (fun σ258 eσ258 => ?_)
        replace hf257 := lt_of hf257 σ258 eσ258
        obtain ⟨er, es⟩ := rt_of hf257
        exact j_retv X hr hlk (Nat.le_of_ble_eq_true rfl) (Nat.le_of_ble_eq_true rfl) rfl es.symm rfl dX6_changes_261
abbrev rm_X6_changeOf : Room := { frames := 5, cells := 0, slots := 0, locals := 320 }
set_option maxHeartbeats 4000000 in
set_option maxRecDepth 100000 in
theorem c_X6_changeOf (l : Launch) (D : va_G) (cs : Nat → ClassId) (q : Nat → Nat) (a0 : Nat) (a1 : Int32) (a2 : Int32) (σ σ0 : HS) (r0 : Int32) (hf0 : f_X6_changeOf a0 a1 a2 σ = some (r0, σ0)) : MT l yX6_changeOf (Cond.code yX6_changeOf cX6_changeOf 9 (some .int) :: lw_g) rm_X6_changeOf D cs q σ σ0 [.ref (q a0), .int a1, .int a2] (fun z => z = q) (fun _ => some (.int r0)) 0 0 := by
  unfold f_X6_changeOf at hf0
  refine MT_of (cc := cX6_changeOf) (lv0 := [(0, .ref (q a0)), (1, .int a1), (2, .int a2)]) (by decide) (Nat.le_of_ble_eq_true rfl) rfl (fun p e s m args below meth c A X hr hlk hin => ?_)
  have L12 : ∀ (nk : Nat) (x0 : Nat) (x1 : Int32) (x2 : Int32) (x3 : Int32) (x4 : Int32) (x5 : Int32) (τ : HS), lp_X6_changeOf_12  nk x0 x1 x2 x3 x4 x5 τ = some (r0, σ0) → J p l e rm_X6_changeOf s m args below meth c 9 D cs A s.heap 0 0 (MQ below (hQ D cs (fun z => z = q) (fun _ => some (.int r0)) σ0 A) args s 0 0 A) q τ [(0, .ref (q x0)), (1, .int x1), (2, .int x2), (3, .int x3), (4, .int x4), (5, .int x5)] 12 [] := by
    intro nk
    induction nk with
    | zero => intro x0 x1 x2 x3 x4 x5 τ hf0; have hf1 : (none : Option (Int32 × HS)) = some (r0, σ0) := hf0; cases hf1
    | succ nk ih =>
      intro x0 x1 x2 x3 x4 x5 τ hf0
      replace hf0 : lp_X6_changeOf_12_b  (lp_X6_changeOf_12  nk) x0 x1 x2 x3 x4 x5 τ = some (r0, σ0) := hf0
      unfold lp_X6_changeOf_12_b at hf0
      refine j_iload X dX6_changeOf_12 5 rfl ?_
      refine j_aload_n X dX6_changeOf_14 0 rfl rfl ?_
      obtain ⟨h11, hf12⟩ := chk_of hf0; clear hf0
      obtain ⟨i13, h14, hf15⟩ := bd_of hf12; clear hf12
      refine j_getr X fd_X6_30 h11 h14 dX6_changeOf_15 ?_
      refine j_iload_n X dX6_changeOf_18 1 rfl rfl ?_
      obtain ⟨h16, hf17⟩ := chk_of hf15; clear hf15
      refine j_iald X h16 dX6_changeOf_19 (fun v18 ev18 => ?_)
      replace hf17 := lt_of hf17 v18 ev18
      refine j_icmp_ge X (tgt := 138) dX6_changeOf_20 (by decide) (fun c20 => ?_) (fun c20 => ?_)
      · have hf21 := br_y hf17 c20; clear hf17
        refine j_aload_n X dX6_changeOf_138 0 rfl rfl ?_
        obtain ⟨i23, h24, hf25⟩ := bd_of hf21; clear hf21
        refine j_getr X fd_X6_71 h11 h24 dX6_changeOf_139 ?_
        refine j_aload_n X dX6_changeOf_142 0 rfl rfl ?_
        refine j_iload_n X dX6_changeOf_143 1 rfl rfl ?_
        obtain ⟨r26, σ27, h28, hf29⟩ := bc_of hf25; clear hf25
        refine j_callV0 X [.int x1] [.ref (q i23)] (c_X6_rootOf l D cs q x0 x1 τ _ _ h28) mk_X6_rootOf mv_X6_rootOf ml_X6_190 h11 rfl (by decide) ⟨rfl, rfl⟩ ⟨Nat.le_of_ble_eq_true rfl, Nat.le_of_ble_eq_true rfl⟩ rfl (Nat.le_of_ble_eq_true rfl) ⟨Nat.le_of_ble_eq_true rfl, Nat.le_of_ble_eq_true rfl⟩ dX6_changeOf_144 rfl (st' := [.int r26, .ref (q i23)]) rfl ?_
        obtain ⟨h30, hf31⟩ := chk_of hf29; clear hf29
        refine j_lald X h30 dX6_changeOf_147 (fun v32 ev32 => ?_)
        replace hf31 := lt_of hf31 v32 ev32
        refine j_lstore X (lv' := [(5, .long v32), (0, .ref (q x0)), (1, .int x1), (2, .int x2), (3, .int x3), (4, .int x4)]) dX6_changeOf_148 (by decide) rfl ?_
        refine j_aload_n X dX6_changeOf_150 1 rfl rfl ?_
        obtain ⟨h34, hf35⟩ := chk_of hf31; clear hf31
        obtain ⟨i36, h37, hf38⟩ := bd_of hf35; clear hf35
        refine j_getr X fd_X6_74 h34 h37 dX6_changeOf_151 ?_
        refine j_aload_n X dX6_changeOf_154 1 rfl rfl ?_
        refine j_iload_n X dX6_changeOf_155 2 rfl rfl ?_
        obtain ⟨r39, σ40, h41, hf42⟩ := bc_of hf38; clear hf38
        refine j_callV0 X [.int x1] [.ref (q i36)] (c_X6_rootOf l D cs q x0 x1 σ27 _ _ h41) mk_X6_rootOf mv_X6_rootOf ml_X6_190 h34 rfl (by decide) ⟨rfl, rfl⟩ ⟨Nat.le_of_ble_eq_true rfl, Nat.le_of_ble_eq_true rfl⟩ rfl (Nat.le_of_ble_eq_true rfl) ⟨Nat.le_of_ble_eq_true rfl, Nat.le_of_ble_eq_true rfl⟩ dX6_changeOf_156 rfl (st' := [.int r39, .ref (q i36)]) rfl ?_
        obtain ⟨h43, hf44⟩ := chk_of hf42; clear hf42
        refine j_lald X h43 dX6_changeOf_159 (fun v45 ev45 => ?_)
        replace hf44 := lt_of hf44 v45 ev45
        refine j_lstore X (lv' := [(7, .long v45), (5, .long v32), (0, .ref (q x0)), (1, .int x1), (2, .int x2), (3, .int x3), (4, .int x4)]) dX6_changeOf_160 (by decide) rfl ?_
        refine j_iload X dX6_changeOf_162 6 rfl ?_
        refine j_if_eq X (tgt := 169) dX6_changeOf_164 (by decide) (fun c47 => ?_) (fun c47 => ?_)
        · have hf48 := br_y hf44 c47; clear hf44
          refine j_lload X dX6_changeOf_169 1 rfl ?_
          refine j_lconst X (v := 0) dX6_changeOf_171 (by decide) ?_
          refine j_lcmp X dX6_changeOf_172 ?_
          refine j_if_ne X (tgt := 187) dX6_changeOf_173 (by decide) (fun c50 => ?_) (fun c50 => ?_)
          · have hf51 := br_n hf48 c50; clear hf48
            refine j_lload X dX6_changeOf_187 1 rfl ?_
            refine j_lconst X (v := 0) dX6_changeOf_189 (by decide) ?_
            refine j_lcmp X dX6_changeOf_190 ?_
            refine j_if_lt X (tgt := 198) dX6_changeOf_191 (by decide) (fun c53 => ?_) (fun c53 => ?_)
            · have hf54 := br_y hf51 c53; clear hf51
              refine j_lload X dX6_changeOf_198 0 rfl ?_
              refine j_lconst X (v := 0) dX6_changeOf_200 (by decide) ?_
              refine j_lcmp X dX6_changeOf_201 ?_
              refine j_if_gt X (tgt := 209) dX6_changeOf_202 (by decide) (fun c56 => ?_) (fun c56 => ?_)
              · have hf57 := br_y hf54 c56; clear hf54
                refine j_iconst X (v := 3) dX6_changeOf_209 (by decide) ?_
                obtain ⟨er, es⟩ := rt_of hf57
                subst er
                exact j_reti X hr hlk (Nat.le_of_ble_eq_true rfl) (Nat.le_of_ble_eq_true rfl) rfl es.symm rfl dX6_changeOf_210
              · have hf58 := br_n hf54 c56; clear hf54
                refine j_iconst X (v := 2) dX6_changeOf_205 (by decide) ?_
                refine j_goto X (tgt := 210) dX6_changeOf_206 (by decide) ?_
                obtain ⟨er, es⟩ := rt_of hf58
                subst er
                exact j_reti X hr hlk (Nat.le_of_ble_eq_true rfl) (Nat.le_of_ble_eq_true rfl) rfl es.symm rfl dX6_changeOf_210
            · have hf55 := br_n hf51 c53; clear hf51
              refine j_iconst X (v := 1) dX6_changeOf_194 (by decide) ?_
              refine j_goto X (tgt := 210) dX6_changeOf_195 (by decide) ?_
              obtain ⟨er, es⟩ := rt_of hf55
              subst er
              exact j_reti X hr hlk (Nat.le_of_ble_eq_true rfl) (Nat.le_of_ble_eq_true rfl) rfl es.symm rfl dX6_changeOf_210
          · have hf52 := br_y hf48 c50; clear hf48
            refine j_lload X dX6_changeOf_176 0 rfl ?_
            refine j_lconst X (v := 0) dX6_changeOf_178 (by decide) ?_
            refine j_lcmp X dX6_changeOf_179 ?_
            refine j_if_ne X (tgt := 187) dX6_changeOf_180 (by decide) (fun c59 => ?_) (fun c59 => ?_)
            · have hf60 := br_n hf52 c59; clear hf52
              refine j_lload X dX6_changeOf_187 1 rfl ?_
              refine j_lconst X (v := 0) dX6_changeOf_189 (by decide) ?_
              refine j_lcmp X dX6_changeOf_190 ?_
              refine j_if_lt X (tgt := 198) dX6_changeOf_191 (by decide) (fun c62 => ?_) (fun c62 => ?_)
              · have hf63 := br_y hf60 c62; clear hf60
                refine j_lload X dX6_changeOf_198 0 rfl ?_
                refine j_lconst X (v := 0) dX6_changeOf_200 (by decide) ?_
                refine j_lcmp X dX6_changeOf_201 ?_
                refine j_if_gt X (tgt := 209) dX6_changeOf_202 (by decide) (fun c65 => ?_) (fun c65 => ?_)
                · have hf66 := br_y hf63 c65; clear hf63
                  refine j_iconst X (v := 3) dX6_changeOf_209 (by decide) ?_
                  obtain ⟨er, es⟩ := rt_of hf66
                  subst er
                  exact j_reti X hr hlk (Nat.le_of_ble_eq_true rfl) (Nat.le_of_ble_eq_true rfl) rfl es.symm rfl dX6_changeOf_210
                · have hf67 := br_n hf63 c65; clear hf63
                  refine j_iconst X (v := 2) dX6_changeOf_205 (by decide) ?_
                  refine j_goto X (tgt := 210) dX6_changeOf_206 (by decide) ?_
                  obtain ⟨er, es⟩ := rt_of hf67
                  subst er
                  exact j_reti X hr hlk (Nat.le_of_ble_eq_true rfl) (Nat.le_of_ble_eq_true rfl) rfl es.symm rfl dX6_changeOf_210
              · have hf64 := br_n hf60 c62; clear hf60
                refine j_iconst X (v := 1) dX6_changeOf_194 (by decide) ?_
                refine j_goto X (tgt := 210) dX6_changeOf_195 (by decide) ?_
                obtain ⟨er, es⟩ := rt_of hf64
                subst er
                exact j_reti X hr hlk (Nat.le_of_ble_eq_true rfl) (Nat.le_of_ble_eq_true rfl) rfl es.symm rfl dX6_changeOf_210
            · have hf61 := br_y hf52 c59; clear hf52
              refine j_iconst X (v := 0) dX6_changeOf_183 (by decide) ?_
              refine j_goto X (tgt := 210) dX6_changeOf_184 (by decide) ?_
              obtain ⟨er, es⟩ := rt_of hf61
              subst er
              exact j_reti X hr hlk (Nat.le_of_ble_eq_true rfl) (Nat.le_of_ble_eq_true rfl) rfl es.symm rfl dX6_changeOf_210
        · have hf49 := br_n hf44 c47; clear hf44
          refine j_iconst X (v := 3) dX6_changeOf_167 (by decide) ?_
          obtain ⟨er, es⟩ := rt_of hf49
          subst er
          exact j_reti X hr hlk (Nat.le_of_ble_eq_true rfl) (Nat.le_of_ble_eq_true rfl) rfl es.symm rfl dX6_changeOf_168
      · have hf22 := br_n hf17 c20; clear hf17
        refine j_iload_n X dX6_changeOf_23 1 rfl rfl ?_
        refine j_iload X dX6_changeOf_24 5 rfl ?_
        obtain ⟨r68, σ69, h70, hf71⟩ := bc_of hf22; clear hf22
        refine j_callS0 X [.int x1, .int x5] [] (c_X6_at l D cs q x1 x5 τ _ _ h70) mk_X6_at ms_X6_at ml_X6_134 ⟨rfl, rfl⟩ ⟨Nat.le_of_ble_eq_true rfl, Nat.le_of_ble_eq_true rfl⟩ rfl (Nat.le_of_ble_eq_true rfl) ⟨Nat.le_of_ble_eq_true rfl, Nat.le_of_ble_eq_true rfl⟩ dX6_changeOf_26 rfl (st' := [.int r68]) rfl ?_
        refine j_istore X (lv' := [(6, .int r68), (0, .ref (q x0)), (1, .int x1), (2, .int x2), (3, .int x3), (4, .int x4), (5, .int x5)]) dX6_changeOf_29 (by decide) rfl ?_
        refine j_aload_n X dX6_changeOf_31 1 rfl rfl ?_
        refine j_iconst X (v := 0) dX6_changeOf_32 (by decide) ?_
        obtain ⟨h72, hf73⟩ := chk_of hf71; clear hf71
        refine j_putz X fp_X6_193 h72 (Or.inl rfl) dX6_changeOf_33 (fun σ74 eσ74 => ?_)
        replace hf73 := lt_of hf73 σ74 eσ74
        have h76 : isO σ74 6 x0 := by rw [eσ74]; exact h72
        refine j_aload_n X dX6_changeOf_36 1 rfl rfl ?_
        obtain ⟨i77, h78, hf79⟩ := bd_of hf73; clear hf73
        refine j_getr X fd_X6_18 h76 h78 dX6_changeOf_37 ?_
        refine j_iload X dX6_changeOf_40 0 rfl ?_
        obtain ⟨h80, hf81⟩ := chk_of hf79; clear hf79
        refine j_iald X h80 dX6_changeOf_42 (fun v82 ev82 => ?_)
        replace hf81 := lt_of hf81 v82 ev82
        refine j_iconst X (v := 1) dX6_changeOf_43 (by decide) ?_
        refine j_icmp_gt X (tgt := 96) dX6_changeOf_44 (by decide) (fun c84 => ?_) (fun c84 => ?_)
        · have hf85 := br_y hf81 c84; clear hf81
          refine j_aload_n X dX6_changeOf_96 1 rfl rfl ?_
          refine j_aload_n X dX6_changeOf_97 1 rfl rfl ?_
          refine j_getr X fd_X6_18 h76 h78 dX6_changeOf_98 ?_
          refine j_iload X dX6_changeOf_101 0 rfl ?_
          obtain ⟨h90, hf91⟩ := chk_of hf85; clear hf85
          refine j_iald X h90 dX6_changeOf_103 (fun v92 ev92 => ?_)
          replace hf91 := lt_of hf91 v92 ev92
          refine j_iload X dX6_changeOf_104 6 rfl ?_
          refine j_aload_n X dX6_changeOf_106 1 rfl rfl ?_
          obtain ⟨i94, h95, hf96⟩ := bd_of hf91; clear hf91
          refine j_getr X fd_X6_21 h76 h95 dX6_changeOf_107 ?_
          refine j_iload X dX6_changeOf_110 0 rfl ?_
          obtain ⟨h97, hf98⟩ := chk_of hf96; clear hf96
          refine j_iald X h97 dX6_changeOf_112 (fun v99 ev99 => ?_)
          replace hf98 := lt_of hf98 v99 ev99
          refine j_aload_n X dX6_changeOf_113 1 rfl rfl ?_
          obtain ⟨i101, h102, hf103⟩ := bd_of hf98; clear hf98
          refine j_getr X fd_X6_24 h76 h102 dX6_changeOf_114 ?_
          refine j_iload X dX6_changeOf_117 0 rfl ?_
          obtain ⟨h104, hf105⟩ := chk_of hf103; clear hf103
          refine j_iald X h104 dX6_changeOf_119 (fun v106 ev106 => ?_)
          replace hf105 := lt_of hf105 v106 ev106
          obtain ⟨r108, σ109, h110, hf111⟩ := bc_of hf105; clear hf105
          refine j_callV0 X [.int v92, .int x5, .int v99, .int v106] [] (c_X6_changes l D cs q x0 v92 x5 v99 v106 σ74 _ _ h110) mk_X6_changes mv_X6_changes ml_X6_268 h76 rfl (by decide) ⟨rfl, rfl⟩ ⟨Nat.le_of_ble_eq_true rfl, Nat.le_of_ble_eq_true rfl⟩ rfl (Nat.le_of_ble_eq_true rfl) ⟨Nat.le_of_ble_eq_true rfl, Nat.le_of_ble_eq_true rfl⟩ dX6_changeOf_120 rfl (st' := []) rfl ?_
          refine j_iload X dX6_changeOf_123 5 rfl ?_
          refine j_aload_n X dX6_changeOf_125 1 rfl rfl ?_
          obtain ⟨h112, hf113⟩ := chk_of hf111; clear hf111
          refine j_geti X fd_X6_193 h112 dX6_changeOf_126 (fun v114 ev114 => ?_)
          replace hf113 := lt_of hf113 v114 ev114
          refine j_ior X dX6_changeOf_129 ?_
          refine j_nmi (fun v116 ev116 => ?_)
          replace hf113 := lt_of hf113 v116 ev116
          refine j_istore X (lv' := [(4, .int v116), (6, .int r68), (0, .ref (q x0)), (1, .int x1), (2, .int x2), (3, .int x3), (5, .int x5)]) dX6_changeOf_130 (by decide) rfl ?_
          obtain ⟨v118, ev118⟩ : ∃ y : Int32, y = x5 + (1 : Int32) := ⟨_, rfl⟩
          replace hf113 := lt_of hf113 v118 ev118
          refine j_iinc X (v := v118) (lv' := [(5, .int v118), (4, .int v116), (6, .int r68), (0, .ref (q x0)), (1, .int x1), (2, .int x2), (3, .int x3)]) dX6_changeOf_132 6 rfl (by rw [ev118]; rfl) (by decide) rfl ?_
          refine j_goto X (tgt := 12) dX6_changeOf_135 (by decide) ?_
          refine j_lvsub [3, 4, 5, 6, 1, 0] (lv' := [(0, .ref (q x0)), (1, .int x1), (2, .int x2), (3, .int x3), (4, .int v116), (5, .int v118)]) rfl ?_
          exact ih x0 x1 x2 x3 v116 v118 σ109 hf113
        · have hf86 := br_n hf81 c84; clear hf81
          refine j_aload_n X dX6_changeOf_47 1 rfl rfl ?_
          refine j_getr X fd_X6_18 h76 h78 dX6_changeOf_48 ?_
          refine j_iload X dX6_changeOf_51 0 rfl ?_
          obtain ⟨h123, hf124⟩ := chk_of hf86; clear hf86
          refine j_iald X h123 dX6_changeOf_53 (fun v125 ev125 => ?_)
          replace hf124 := lt_of hf124 v125 ev125
          refine j_if_ne X (tgt := 72) dX6_changeOf_54 (by decide) (fun c127 => ?_) (fun c127 => ?_)
          · have hf128 := br_n hf124 c127; clear hf124
            refine j_lconst X (v := 0) dX6_changeOf_72 (by decide) ?_
            refine j_nml (fun v130 ev130 => ?_)
            replace hf128 := lt_of hf128 v130 ev130
            refine j_lstore X (lv' := [(7, .long v130), (6, .int r68), (0, .ref (q x0)), (1, .int x1), (2, .int x2), (3, .int x3), (4, .int x4), (5, .int x5)]) dX6_changeOf_73 (by decide) rfl ?_
            refine j_aload_n X dX6_changeOf_75 2 rfl rfl ?_
            obtain ⟨i132, h133, hf134⟩ := bd_of hf128; clear hf128
            refine j_getr X fd_X6_71 h76 h133 dX6_changeOf_76 ?_
            refine j_iload X dX6_changeOf_79 7 rfl ?_
            refine j_lload X dX6_changeOf_81 0 rfl ?_
            obtain ⟨h135, hf136⟩ := chk_of hf134; clear hf134
            refine j_last X h135 dX6_changeOf_83 (fun σ137 eσ137 => ?_)
            replace hf136 := lt_of hf136 σ137 eσ137
            have h139 : isO σ137 6 x0 := by rw [eσ137]; exact h76
            refine j_aload_n X dX6_changeOf_84 2 rfl rfl ?_
            obtain ⟨i140, h141, hf142⟩ := bd_of hf136; clear hf136
            refine j_getr X fd_X6_74 h139 h141 dX6_changeOf_85 ?_
            refine j_iload X dX6_changeOf_88 7 rfl ?_
            refine j_lload X dX6_changeOf_90 0 rfl ?_
            obtain ⟨h143, hf144⟩ := chk_of hf142; clear hf142
            refine j_last X h143 dX6_changeOf_92 (fun σ145 eσ145 => ?_)
            replace hf144 := lt_of hf144 σ145 eσ145
            have h147 : isO σ145 6 x0 := by rw [eσ145]; exact h139
            refine j_goto X (tgt := 123) dX6_changeOf_93 (by decide) ?_
            refine j_iload X dX6_changeOf_123 6 rfl ?_
            refine j_aload_n X dX6_changeOf_125 2 rfl rfl ?_
            refine j_geti X fd_X6_193 h147 dX6_changeOf_126 (fun v148 ev148 => ?_)
            replace hf144 := lt_of hf144 v148 ev148
            refine j_ior X dX6_changeOf_129 ?_
            refine j_nmi (fun v150 ev150 => ?_)
            replace hf144 := lt_of hf144 v150 ev150
            refine j_istore X (lv' := [(4, .int v150), (7, .long v130), (6, .int r68), (0, .ref (q x0)), (1, .int x1), (2, .int x2), (3, .int x3), (5, .int x5)]) dX6_changeOf_130 (by decide) rfl ?_
            obtain ⟨v152, ev152⟩ : ∃ y : Int32, y = x5 + (1 : Int32) := ⟨_, rfl⟩
            replace hf144 := lt_of hf144 v152 ev152
            refine j_iinc X (v := v152) (lv' := [(5, .int v152), (4, .int v150), (7, .long v130), (6, .int r68), (0, .ref (q x0)), (1, .int x1), (2, .int x2), (3, .int x3)]) dX6_changeOf_132 7 rfl (by rw [ev152]; rfl) (by decide) rfl ?_
            refine j_goto X (tgt := 12) dX6_changeOf_135 (by decide) ?_
            refine j_lvsub [4, 5, 6, 7, 1, 0] (lv' := [(0, .ref (q x0)), (1, .int x1), (2, .int x2), (3, .int x3), (4, .int v150), (5, .int v152)]) rfl ?_
            exact ih x0 x1 x2 x3 v150 v152 σ145 hf144
          · have hf129 := br_y hf124 c127; clear hf124
            refine j_aload_n X dX6_changeOf_57 1 rfl rfl ?_
            obtain ⟨i154, h155, hf156⟩ := bd_of hf129; clear hf129
            refine j_getr X fd_X6_21 h76 h155 dX6_changeOf_58 ?_
            refine j_iload X dX6_changeOf_61 0 rfl ?_
            obtain ⟨h157, hf158⟩ := chk_of hf156; clear hf156
            refine j_iald X h157 dX6_changeOf_63 (fun v159 ev159 => ?_)
            replace hf158 := lt_of hf158 v159 ev159
            refine j_iload_n X dX6_changeOf_64 3 rfl rfl ?_
            refine j_icmp_ne X (tgt := 72) dX6_changeOf_65 (by decide) (fun c161 => ?_) (fun c161 => ?_)
            · have hf162 := br_n hf158 c161; clear hf158
              refine j_lconst X (v := 0) dX6_changeOf_72 (by decide) ?_
              refine j_nml (fun v164 ev164 => ?_)
              replace hf162 := lt_of hf162 v164 ev164
              refine j_lstore X (lv' := [(7, .long v164), (6, .int r68), (0, .ref (q x0)), (1, .int x1), (2, .int x2), (3, .int x3), (4, .int x4), (5, .int x5)]) dX6_changeOf_73 (by decide) rfl ?_
              refine j_aload_n X dX6_changeOf_75 2 rfl rfl ?_
              obtain ⟨i166, h167, hf168⟩ := bd_of hf162; clear hf162
              refine j_getr X fd_X6_71 h76 h167 dX6_changeOf_76 ?_
              refine j_iload X dX6_changeOf_79 7 rfl ?_
              refine j_lload X dX6_changeOf_81 0 rfl ?_
              obtain ⟨h169, hf170⟩ := chk_of hf168; clear hf168
              refine j_last X h169 dX6_changeOf_83 (fun σ171 eσ171 => ?_)
              replace hf170 := lt_of hf170 σ171 eσ171
              have h173 : isO σ171 6 x0 := by rw [eσ171]; exact h76
              refine j_aload_n X dX6_changeOf_84 2 rfl rfl ?_
              obtain ⟨i174, h175, hf176⟩ := bd_of hf170; clear hf170
              refine j_getr X fd_X6_74 h173 h175 dX6_changeOf_85 ?_
              refine j_iload X dX6_changeOf_88 7 rfl ?_
              refine j_lload X dX6_changeOf_90 0 rfl ?_
              obtain ⟨h177, hf178⟩ := chk_of hf176; clear hf176
              refine j_last X h177 dX6_changeOf_92 (fun σ179 eσ179 => ?_)
              replace hf178 := lt_of hf178 σ179 eσ179
              have h181 : isO σ179 6 x0 := by rw [eσ179]; exact h173
              refine j_goto X (tgt := 123) dX6_changeOf_93 (by decide) ?_
              refine j_iload X dX6_changeOf_123 6 rfl ?_
              refine j_aload_n X dX6_changeOf_125 2 rfl rfl ?_
              refine j_geti X fd_X6_193 h181 dX6_changeOf_126 (fun v182 ev182 => ?_)
              replace hf178 := lt_of hf178 v182 ev182
              refine j_ior X dX6_changeOf_129 ?_
              refine j_nmi (fun v184 ev184 => ?_)
              replace hf178 := lt_of hf178 v184 ev184
              refine j_istore X (lv' := [(4, .int v184), (7, .long v164), (6, .int r68), (0, .ref (q x0)), (1, .int x1), (2, .int x2), (3, .int x3), (5, .int x5)]) dX6_changeOf_130 (by decide) rfl ?_
              obtain ⟨v186, ev186⟩ : ∃ y : Int32, y = x5 + (1 : Int32) := ⟨_, rfl⟩
              replace hf178 := lt_of hf178 v186 ev186
              refine j_iinc X (v := v186) (lv' := [(5, .int v186), (4, .int v184), (7, .long v164), (6, .int r68), (0, .ref (q x0)), (1, .int x1), (2, .int x2), (3, .int x3)]) dX6_changeOf_132 7 rfl (by rw [ev186]; rfl) (by decide) rfl ?_
              refine j_goto X (tgt := 12) dX6_changeOf_135 (by decide) ?_
              refine j_lvsub [4, 5, 6, 7, 1, 0] (lv' := [(0, .ref (q x0)), (1, .int x1), (2, .int x2), (3, .int x3), (4, .int v184), (5, .int v186)]) rfl ?_
              exact ih x0 x1 x2 x3 v184 v186 σ179 hf178
            · have hf163 := br_y hf158 c161; clear hf158
              refine j_lconst X (v := 1) dX6_changeOf_68 (by decide) ?_
              refine j_goto X (tgt := 73) dX6_changeOf_69 (by decide) ?_
              refine j_nml (fun v188 ev188 => ?_)
              replace hf163 := lt_of hf163 v188 ev188
              refine j_lstore X (lv' := [(7, .long v188), (6, .int r68), (0, .ref (q x0)), (1, .int x1), (2, .int x2), (3, .int x3), (4, .int x4), (5, .int x5)]) dX6_changeOf_73 (by decide) rfl ?_
              refine j_aload_n X dX6_changeOf_75 2 rfl rfl ?_
              obtain ⟨i190, h191, hf192⟩ := bd_of hf163; clear hf163
              refine j_getr X fd_X6_71 h76 h191 dX6_changeOf_76 ?_
              refine j_iload X dX6_changeOf_79 7 rfl ?_
              refine j_lload X dX6_changeOf_81 0 rfl ?_
              obtain ⟨h193, hf194⟩ := chk_of hf192; clear hf192
              refine j_last X h193 dX6_changeOf_83 (fun σ195 eσ195 => ?_)
              replace hf194 := lt_of hf194 σ195 eσ195
              have h197 : isO σ195 6 x0 := by rw [eσ195]; exact h76
              refine j_aload_n X dX6_changeOf_84 2 rfl rfl ?_
              obtain ⟨i198, h199, hf200⟩ := bd_of hf194; clear hf194
              refine j_getr X fd_X6_74 h197 h199 dX6_changeOf_85 ?_
              refine j_iload X dX6_changeOf_88 7 rfl ?_
              refine j_lload X dX6_changeOf_90 0 rfl ?_
              obtain ⟨h201, hf202⟩ := chk_of hf200; clear hf200
              refine j_last X h201 dX6_changeOf_92 (fun σ203 eσ203 => ?_)
              replace hf202 := lt_of hf202 σ203 eσ203
              have h205 : isO σ203 6 x0 := by rw [eσ203]; exact h197
              refine j_goto X (tgt := 123) dX6_changeOf_93 (by decide) ?_
              refine j_iload X dX6_changeOf_123 6 rfl ?_
              refine j_aload_n X dX6_changeOf_125 2 rfl rfl ?_
              refine j_geti X fd_X6_193 h205 dX6_changeOf_126 (fun v206 ev206 => ?_)
              replace hf202 := lt_of hf202 v206 ev206
              refine j_ior X dX6_changeOf_129 ?_
              refine j_nmi (fun v208 ev208 => ?_)
              replace hf202 := lt_of hf202 v208 ev208
              refine j_istore X (lv' := [(4, .int v208), (7, .long v188), (6, .int r68), (0, .ref (q x0)), (1, .int x1), (2, .int x2), (3, .int x3), (5, .int x5)]) dX6_changeOf_130 (by decide) rfl ?_
              obtain ⟨v210, ev210⟩ : ∃ y : Int32, y = x5 + (1 : Int32) := ⟨_, rfl⟩
              replace hf202 := lt_of hf202 v210 ev210
              refine j_iinc X (v := v210) (lv' := [(5, .int v210), (4, .int v208), (7, .long v188), (6, .int r68), (0, .ref (q x0)), (1, .int x1), (2, .int x2), (3, .int x3)]) dX6_changeOf_132 7 rfl (by rw [ev210]; rfl) (by decide) rfl ?_
              refine j_goto X (tgt := 12) dX6_changeOf_135 (by decide) ?_
              refine j_lvsub [4, 5, 6, 7, 1, 0] (lv' := [(0, .ref (q x0)), (1, .int x1), (2, .int x2), (3, .int x3), (4, .int v208), (5, .int v210)]) rfl ?_
              exact ih x0 x1 x2 x3 v208 v210 σ203 hf202
  refine j_aload_n X dX6_changeOf_0 0 rfl rfl ?_
  refine j_iload_n X dX6_changeOf_1 1 rfl rfl ?_
  obtain ⟨h1, hf2⟩ := chk_of hf0; clear hf0
  obtain ⟨r3, σ4, h5, hf6⟩ := bc_of hf2; clear hf2
  refine j_callV0 X [.int a1] [] (c_X6_spansNow l D cs q a0 a1 σ _ _ h5) mk_X6_spansNow mv_X6_spansNow ml_X6_254 h1 rfl (by decide) ⟨rfl, rfl⟩ ⟨Nat.le_of_ble_eq_true rfl, Nat.le_of_ble_eq_true rfl⟩ rfl (Nat.le_of_ble_eq_true rfl) ⟨Nat.le_of_ble_eq_true rfl, Nat.le_of_ble_eq_true rfl⟩ dX6_changeOf_2 rfl (st' := [.int r3]) rfl ?_
  refine j_istore_n X (lv' := [(3, .int r3), (0, .ref (q a0)), (1, .int a1), (2, .int a2)]) dX6_changeOf_5 rfl (by decide) rfl ?_
  refine j_iconst X (v := 0) dX6_changeOf_6 (by decide) ?_
  refine j_nmi (fun v7 ev7 => ?_)
  replace hf6 := lt_of hf6 v7 ev7
  refine j_istore X (lv' := [(4, .int v7), (3, .int r3), (0, .ref (q a0)), (1, .int a1), (2, .int a2)]) dX6_changeOf_7 (by decide) rfl ?_
  refine j_iconst X (v := 0) dX6_changeOf_9 (by decide) ?_
  refine j_nmi (fun v9 ev9 => ?_)
  replace hf6 := lt_of hf6 v9 ev9
  refine j_istore X (lv' := [(5, .int v9), (4, .int v7), (3, .int r3), (0, .ref (q a0)), (1, .int a1), (2, .int a2)]) dX6_changeOf_10 (by decide) rfl ?_
  refine j_lvsub [3, 4, 5, 2, 1, 0] (lv' := [(0, .ref (q a0)), (1, .int a1), (2, .int a2), (3, .int r3), (4, .int v7), (5, .int v9)]) rfl ?_
  exact L12  1000 a0 a1 a2 r3 v7 v9 σ4 hf6
abbrev rm_X6_comes : Room := { frames := 1, cells := 0, slots := 0, locals := 64 }
set_option maxHeartbeats 4000000 in
set_option maxRecDepth 100000 in
theorem c_X6_comes (l : Launch) (D : va_G) (cs : Nat → ClassId) (q : Nat → Nat) (a0 : Nat) (a1 : Int32) (a2 : Int32) (a3 : Int32) (a4 : Int32) (σ σ0 : HS) (r0 : Int32) (hf0 : f_X6_comes a0 a1 a2 a3 a4 σ = some (r0, σ0)) : MT l yX6_comes (Cond.code yX6_comes cX6_comes 6 (some .int) :: lw_g) rm_X6_comes D cs q σ σ0 [.ref (q a0), .int a1, .int a2, .int a3, .int a4] (fun z => z = q) (fun _ => some (.int r0)) 0 0 := by
  unfold f_X6_comes at hf0
  refine MT_of (cc := cX6_comes) (lv0 := [(0, .ref (q a0)), (1, .int a1), (2, .int a2), (3, .int a3), (4, .int a4)]) (by decide) (Nat.le_of_ble_eq_true rfl) rfl (fun p e s m args below meth c A X hr hlk hin => ?_)
  refine j_aload_n X dX6_comes_0 0 rfl rfl ?_
  obtain ⟨h1, hf2⟩ := chk_of hf0; clear hf0
  obtain ⟨i3, h4, hf5⟩ := bd_of hf2; clear hf2
  refine j_getr X fd_X6_30 h1 h4 dX6_comes_1 ?_
  refine j_aload_n X dX6_comes_4 0 rfl rfl ?_
  refine j_geti X fd_X6_122 h1 dX6_comes_5 (fun v6 ev6 => ?_)
  replace hf5 := lt_of hf5 v6 ev6
  obtain ⟨h8, hf9⟩ := chk_of hf5; clear hf5
  refine j_iald X h8 dX6_comes_8 (fun v10 ev10 => ?_)
  replace hf9 := lt_of hf9 v10 ev10
  refine j_istore X (lv' := [(5, .int v10), (0, .ref (q a0)), (1, .int a1), (2, .int a2), (3, .int a3), (4, .int a4)]) dX6_comes_9 (by decide) rfl ?_
  refine j_aload_n X dX6_comes_11 1 rfl rfl ?_
  obtain ⟨i12, h13, hf14⟩ := bd_of hf9; clear hf9
  refine j_getr X fd_X6_18 h1 h13 dX6_comes_12 ?_
  refine j_aload_n X dX6_comes_15 1 rfl rfl ?_
  refine j_geti X fd_X6_122 h1 dX6_comes_16 (fun v15 ev15 => ?_)
  replace hf14 := lt_of hf14 v15 ev15
  refine j_iload X dX6_comes_19 0 rfl ?_
  obtain ⟨r17, σ18, h19, hf20⟩ := bc_of hf14; clear hf14
  refine j_callS0 X [.int v15, .int v10] [.ref (q i12)] (c_X6_at l D cs q v15 v10 σ _ _ h19) mk_X6_at ms_X6_at ml_X6_134 ⟨rfl, rfl⟩ ⟨Nat.le_of_ble_eq_true rfl, Nat.le_of_ble_eq_true rfl⟩ rfl (Nat.le_of_ble_eq_true rfl) ⟨Nat.le_of_ble_eq_true rfl, Nat.le_of_ble_eq_true rfl⟩ dX6_comes_21 rfl (st' := [.int r17, .ref (q i12)]) rfl ?_
  refine j_iload_n X dX6_comes_24 2 rfl rfl ?_
  obtain ⟨h21, hf22⟩ := chk_of hf20; clear hf20
  refine j_iast X h21 dX6_comes_25 (fun σ23 eσ23 => ?_)
  replace hf22 := lt_of hf22 σ23 eσ23
  refine j_aload_n X dX6_comes_26 1 rfl rfl ?_
  obtain ⟨h25, hf26⟩ := chk_of hf22; clear hf22
  obtain ⟨i27, h28, hf29⟩ := bd_of hf26; clear hf26
  refine j_getr X fd_X6_21 h25 h28 dX6_comes_27 ?_
  refine j_aload_n X dX6_comes_30 1 rfl rfl ?_
  refine j_geti X fd_X6_122 h25 dX6_comes_31 (fun v30 ev30 => ?_)
  replace hf29 := lt_of hf29 v30 ev30
  refine j_iload X dX6_comes_34 0 rfl ?_
  obtain ⟨r32, σ33, h34, hf35⟩ := bc_of hf29; clear hf29
  refine j_callS0 X [.int v30, .int v10] [.ref (q i27)] (c_X6_at l D cs q v30 v10 σ23 _ _ h34) mk_X6_at ms_X6_at ml_X6_134 ⟨rfl, rfl⟩ ⟨Nat.le_of_ble_eq_true rfl, Nat.le_of_ble_eq_true rfl⟩ rfl (Nat.le_of_ble_eq_true rfl) ⟨Nat.le_of_ble_eq_true rfl, Nat.le_of_ble_eq_true rfl⟩ dX6_comes_36 rfl (st' := [.int r32, .ref (q i27)]) rfl ?_
  refine j_iload_n X dX6_comes_39 3 rfl rfl ?_
  obtain ⟨h36, hf37⟩ := chk_of hf35; clear hf35
  refine j_iast X h36 dX6_comes_40 (fun σ38 eσ38 => ?_)
  replace hf37 := lt_of hf37 σ38 eσ38
  refine j_aload_n X dX6_comes_41 1 rfl rfl ?_
  obtain ⟨h40, hf41⟩ := chk_of hf37; clear hf37
  obtain ⟨i42, h43, hf44⟩ := bd_of hf41; clear hf41
  refine j_getr X fd_X6_24 h40 h43 dX6_comes_42 ?_
  refine j_aload_n X dX6_comes_45 1 rfl rfl ?_
  refine j_geti X fd_X6_122 h40 dX6_comes_46 (fun v45 ev45 => ?_)
  replace hf44 := lt_of hf44 v45 ev45
  refine j_iload X dX6_comes_49 0 rfl ?_
  obtain ⟨r47, σ48, h49, hf50⟩ := bc_of hf44; clear hf44
  refine j_callS0 X [.int v45, .int v10] [.ref (q i42)] (c_X6_at l D cs q v45 v10 σ38 _ _ h49) mk_X6_at ms_X6_at ml_X6_134 ⟨rfl, rfl⟩ ⟨Nat.le_of_ble_eq_true rfl, Nat.le_of_ble_eq_true rfl⟩ rfl (Nat.le_of_ble_eq_true rfl) ⟨Nat.le_of_ble_eq_true rfl, Nat.le_of_ble_eq_true rfl⟩ dX6_comes_51 rfl (st' := [.int r47, .ref (q i42)]) rfl ?_
  refine j_iload_n X dX6_comes_54 4 rfl rfl ?_
  obtain ⟨h51, hf52⟩ := chk_of hf50; clear hf50
  refine j_iast X h51 dX6_comes_55 (fun σ53 eσ53 => ?_)
  replace hf52 := lt_of hf52 σ53 eσ53
  refine j_aload_n X dX6_comes_56 1 rfl rfl ?_
  obtain ⟨h55, hf56⟩ := chk_of hf52; clear hf52
  obtain ⟨i57, h58, hf59⟩ := bd_of hf56; clear hf56
  refine j_getr X fd_X6_27 h55 h58 dX6_comes_57 ?_
  refine j_aload_n X dX6_comes_60 1 rfl rfl ?_
  refine j_geti X fd_X6_122 h55 dX6_comes_61 (fun v60 ev60 => ?_)
  replace hf59 := lt_of hf59 v60 ev60
  refine j_iload X dX6_comes_64 0 rfl ?_
  obtain ⟨r62, σ63, h64, hf65⟩ := bc_of hf59; clear hf59
  refine j_callS0 X [.int v60, .int v10] [.ref (q i57)] (c_X6_at l D cs q v60 v10 σ53 _ _ h64) mk_X6_at ms_X6_at ml_X6_134 ⟨rfl, rfl⟩ ⟨Nat.le_of_ble_eq_true rfl, Nat.le_of_ble_eq_true rfl⟩ rfl (Nat.le_of_ble_eq_true rfl) ⟨Nat.le_of_ble_eq_true rfl, Nat.le_of_ble_eq_true rfl⟩ dX6_comes_66 rfl (st' := [.int r62, .ref (q i57)]) rfl ?_
  refine j_iload X dX6_comes_69 5 rfl ?_
  obtain ⟨h66, hf67⟩ := chk_of hf65; clear hf65
  refine j_iast X h66 dX6_comes_71 (fun σ68 eσ68 => ?_)
  replace hf67 := lt_of hf67 σ68 eσ68
  refine j_aload_n X dX6_comes_72 1 rfl rfl ?_
  obtain ⟨h70, hf71⟩ := chk_of hf67; clear hf67
  obtain ⟨i72, h73, hf74⟩ := bd_of hf71; clear hf71
  refine j_getr X fd_X6_30 h70 h73 dX6_comes_73 ?_
  refine j_aload_n X dX6_comes_76 1 rfl rfl ?_
  refine j_geti X fd_X6_122 h70 dX6_comes_77 (fun v75 ev75 => ?_)
  replace hf74 := lt_of hf74 v75 ev75
  refine j_dup2 X dX6_comes_80 rfl rfl ?_
  obtain ⟨h77, hf78⟩ := chk_of hf74; clear hf74
  refine j_iald X h77 dX6_comes_81 (fun v79 ev79 => ?_)
  replace hf78 := lt_of hf78 v79 ev79
  refine j_iconst X (v := 1) dX6_comes_82 (by decide) ?_
  refine j_iadd X dX6_comes_83 ?_
  obtain ⟨h81, hf82⟩ := chk_of hf78; clear hf78
  refine j_iast X h81 dX6_comes_84 (fun σ83 eσ83 => ?_)
  replace hf82 := lt_of hf82 σ83 eσ83
  have h85 : isO σ83 6 a0 := by rw [eσ83]; exact h70
  refine j_iload X dX6_comes_85 0 rfl ?_
  obtain ⟨er, es⟩ := rt_of hf82
  subst er
  exact j_reti X hr hlk (Nat.le_of_ble_eq_true rfl) (Nat.le_of_ble_eq_true rfl) rfl es.symm rfl dX6_comes_87
abbrev rm_X6_copies : Room := { frames := 1, cells := 0, slots := 0, locals := 64 }
set_option maxHeartbeats 4000000 in
set_option maxRecDepth 100000 in
theorem c_X6_copies (l : Launch) (D : va_G) (cs : Nat → ClassId) (q : Nat → Nat) (a0 : Nat) (a1 : Nat) (a2 : Int32) (σ σ0 : HS) (r0 : Unit) (hf0 : f_X6_copies a0 a1 a2 σ = some (r0, σ0)) : MT l yX6_copies (Cond.code yX6_copies cX6_copies 3 none :: lw_g) rm_X6_copies D cs q σ σ0 [.ref (q a0), .ref (q a1), .int a2] (fun z => z = q) (fun _ => none) 0 0 := by
  unfold f_X6_copies at hf0
  refine MT_of (cc := cX6_copies) (lv0 := [(0, .ref (q a0)), (1, .ref (q a1)), (2, .int a2)]) (by decide) (Nat.le_of_ble_eq_true rfl) rfl (fun p e s m args below meth c A X hr hlk hin => ?_)
  refine j_aload_n X dX6_copies_0 0 rfl rfl ?_
  refine j_iconst X (v := 0) dX6_copies_1 (by decide) ?_
  refine j_aload_n X dX6_copies_2 1 rfl rfl ?_
  refine j_iconst X (v := 0) dX6_copies_3 (by decide) ?_
  refine j_iload_n X dX6_copies_4 2 rfl rfl ?_
  obtain ⟨h1, hf2⟩ := chk_of hf0; clear hf0
  refine j_copy X h1 ml_X6_300 (Nat.le_of_ble_eq_true rfl) (Nat.le_of_ble_eq_true rfl) dX6_copies_5 (fun σ3 eσ3 => ?_)
  replace hf2 := lt_of hf2 σ3 eσ3
  obtain ⟨er, es⟩ := rt_of hf2
  exact j_retv X hr hlk (Nat.le_of_ble_eq_true rfl) (Nat.le_of_ble_eq_true rfl) rfl es.symm rfl dX6_copies_8
abbrev rm_X6_laysPoint : Room := { frames := 1, cells := 0, slots := 0, locals := 64 }
set_option maxHeartbeats 4000000 in
set_option maxRecDepth 100000 in
theorem c_X6_laysPoint (l : Launch) (D : va_G) (cs : Nat → ClassId) (q : Nat → Nat) (a0 : Nat) (a1 : Int32) (a2 : Int32) (σ σ0 : HS) (r0 : Unit) (hf0 : f_X6_laysPoint a0 a1 a2 σ = some (r0, σ0)) : MT l yX6_laysPoint (Cond.code yX6_laysPoint cX6_laysPoint 3 none :: lw_g) rm_X6_laysPoint D cs q σ σ0 [.ref (q a0), .int a1, .int a2] (fun z => z = q) (fun _ => none) 0 0 := by
  unfold f_X6_laysPoint at hf0
  refine MT_of (cc := cX6_laysPoint) (lv0 := [(0, .ref (q a0)), (1, .int a1), (2, .int a2)]) (by decide) (Nat.le_of_ble_eq_true rfl) rfl (fun p e s m args below meth c A X hr hlk hin => ?_)
  refine j_aload_n X dX6_laysPoint_0 0 rfl rfl ?_
  refine j_iload_n X dX6_laysPoint_1 1 rfl rfl ?_
  refine j_iload_n X dX6_laysPoint_2 2 rfl rfl ?_
  refine j_iload_n X dX6_laysPoint_3 2 rfl rfl ?_
  obtain ⟨h1, hf2⟩ := chk_of hf0; clear hf0
  obtain ⟨r3, σ4, h5, hf6⟩ := bc_of hf2; clear hf2
  refine j_callV0 X [.int a1, .int a2, .int a2] [] (c_X6_lays l D cs q a0 a1 a2 a2 σ _ _ h5) mk_X6_lays mv_X6_lays ml_X6_200 h1 rfl (by decide) ⟨rfl, rfl⟩ ⟨Nat.le_of_ble_eq_true rfl, Nat.le_of_ble_eq_true rfl⟩ rfl (Nat.le_of_ble_eq_true rfl) ⟨Nat.le_of_ble_eq_true rfl, Nat.le_of_ble_eq_true rfl⟩ dX6_laysPoint_4 rfl (st' := []) rfl ?_
  obtain ⟨er, es⟩ := rt_of hf6
  exact j_retv X hr hlk (Nat.le_of_ble_eq_true rfl) (Nat.le_of_ble_eq_true rfl) rfl es.symm rfl dX6_laysPoint_7
abbrev rm_X6_corner : Room := { frames := 5, cells := 0, slots := 0, locals := 320 }
set_option maxHeartbeats 4000000 in
set_option maxRecDepth 100000 in
theorem c_X6_corner (l : Launch) (D : va_G) (cs : Nat → ClassId) (q : Nat → Nat) (a0 : Nat) (a1 : Int32) (a2 : Int32) (σ σ0 : HS) (r0 : Int64) (hf0 : f_X6_corner a0 a1 a2 σ = some (r0, σ0)) : MT l yX6_corner (Cond.code yX6_corner cX6_corner 9 (some .long) :: lw_g) rm_X6_corner D cs q σ σ0 [.ref (q a0), .int a1, .int a2] (fun z => z = q) (fun _ => some (.long r0)) 0 0 := by
  unfold f_X6_corner at hf0
  refine MT_of (cc := cX6_corner) (lv0 := [(0, .ref (q a0)), (1, .int a1), (2, .int a2)]) (by decide) (Nat.le_of_ble_eq_true rfl) rfl (fun p e s m args below meth c A X hr hlk hin => ?_)
  have L49 : ∀ (K39 : Nat → Int32 → Int32 → Int64 → Int32 → HS → Option (Int64 × HS)) (hK39 : ∀ (x0 : Nat) (x1 : Int32) (x2 : Int32) (x3 : Int64) (x5 : Int32) (τ : HS), K39 x0 x1 x2 x3 x5 τ = some (r0, σ0) → J p l e rm_X6_corner s m args below meth c 9 D cs A s.heap 0 0 (MQ below (hQ D cs (fun z => z = q) (fun _ => some (.long r0)) σ0 A) args s 0 0 A) q τ [(0, .ref (q x0)), (1, .int x1), (2, .int x2), (3, .long x3), (5, .int x5)] 39 []), ∀ (nk : Nat) (x0 : Nat) (x1 : Int32) (x2 : Int32) (x3 : Int64) (x5 : Int32) (x6 : Int32) (τ : HS), lp_X6_corner_49 K39 nk x0 x1 x2 x3 x5 x6 τ = some (r0, σ0) → J p l e rm_X6_corner s m args below meth c 9 D cs A s.heap 0 0 (MQ below (hQ D cs (fun z => z = q) (fun _ => some (.long r0)) σ0 A) args s 0 0 A) q τ [(0, .ref (q x0)), (1, .int x1), (2, .int x2), (3, .long x3), (5, .int x5), (6, .int x6)] 49 [] := by
    intro K39 hK39
    intro nk
    induction nk with
    | zero => intro x0 x1 x2 x3 x5 x6 τ hf0; have hf1 : (none : Option (Int64 × HS)) = some (r0, σ0) := hf0; cases hf1
    | succ nk ih =>
      intro x0 x1 x2 x3 x5 x6 τ hf0
      replace hf0 : lp_X6_corner_49_b K39 (lp_X6_corner_49 K39 nk) x0 x1 x2 x3 x5 x6 τ = some (r0, σ0) := hf0
      unfold lp_X6_corner_49_b at hf0
      refine j_iload X dX6_corner_49 5 rfl ?_
      refine j_bipush X (v := 6) dX6_corner_51 (by decide) ?_
      refine j_icmp_ge X (tgt := 107) dX6_corner_53 (by decide) (fun c35 => ?_) (fun c35 => ?_)
      · have hf36 := br_y hf0 c35; clear hf0
        refine j_aload_n X dX6_corner_107 0 rfl rfl ?_
        refine j_iload_n X dX6_corner_108 1 rfl rfl ?_
        obtain ⟨h38, hf39⟩ := chk_of hf36; clear hf36
        obtain ⟨r40, σ41, h42, hf43⟩ := bc_of hf39; clear hf39
        refine j_callV0 X [.int x1] [] (c_X6_spans l D cs q x0 x1 τ _ _ h42) mk_X6_spans mv_X6_spans ml_X6_236 h38 rfl (by decide) ⟨rfl, rfl⟩ ⟨Nat.le_of_ble_eq_true rfl, Nat.le_of_ble_eq_true rfl⟩ rfl (Nat.le_of_ble_eq_true rfl) ⟨Nat.le_of_ble_eq_true rfl, Nat.le_of_ble_eq_true rfl⟩ dX6_corner_109 rfl (st' := [.int r40]) rfl ?_
        refine j_istore X (lv' := [(6, .int r40), (0, .ref (q x0)), (1, .int x1), (2, .int x2), (3, .long x3), (5, .int x5)]) dX6_corner_112 (by decide) rfl ?_
        refine j_aload_n X dX6_corner_114 1 rfl rfl ?_
        refine j_iload_n X dX6_corner_115 2 rfl rfl ?_
        obtain ⟨h44, hf45⟩ := chk_of hf43; clear hf43
        obtain ⟨r46, σ47, h48, hf49⟩ := bc_of hf45; clear hf45
        refine j_callV0 X [.int x1] [] (c_X6_lowOf l D cs q x0 x1 σ41 _ _ h48) mk_X6_lowOf mv_X6_lowOf ml_X6_245 h44 rfl (by decide) ⟨rfl, rfl⟩ ⟨Nat.le_of_ble_eq_true rfl, Nat.le_of_ble_eq_true rfl⟩ rfl (Nat.le_of_ble_eq_true rfl) ⟨Nat.le_of_ble_eq_true rfl, Nat.le_of_ble_eq_true rfl⟩ dX6_corner_116 rfl (st' := [.long r46]) rfl ?_
        refine j_lstore X (lv' := [(7, .long r46), (6, .int r40), (0, .ref (q x0)), (1, .int x1), (2, .int x2), (3, .long x3), (5, .int x5)]) dX6_corner_119 (by decide) rfl ?_
        refine j_iload X dX6_corner_121 6 rfl ?_
        refine j_if_ne X (tgt := 131) dX6_corner_123 (by decide) (fun c50 => ?_) (fun c50 => ?_)
        · have hf51 := br_n hf49 c50; clear hf49
          refine j_iload_n X dX6_corner_131 4 rfl rfl ?_
          refine j_if_ne X (tgt := 144) dX6_corner_132 (by decide) (fun c53 => ?_) (fun c53 => ?_)
          · have hf54 := br_n hf51 c53; clear hf51
            refine j_lload_n X dX6_corner_144 5 rfl rfl ?_
            refine j_lload X dX6_corner_145 0 rfl ?_
            refine j_mmax_long X ml_X6_215 (Nat.le_of_ble_eq_true rfl) (Nat.le_of_ble_eq_true rfl) (Nat.le_of_ble_eq_true rfl) (Nat.le_of_ble_eq_true rfl) dX6_corner_147 (fun v56 ev56 => ?_)
            replace hf54 := lt_of hf54 v56 ev56
            refine j_lstore_n X (lv' := [(3, .long v56), (7, .long r46), (6, .int r40), (0, .ref (q x0)), (1, .int x1), (2, .int x2), (5, .int x5)]) dX6_corner_150 rfl (by decide) rfl ?_
            obtain ⟨v58, ev58⟩ : ∃ y : Int32, y = x5 + (1 : Int32) := ⟨_, rfl⟩
            replace hf54 := lt_of hf54 v58 ev58
            refine j_iinc X (v := v58) (lv' := [(5, .int v58), (3, .long v56), (7, .long r46), (6, .int r40), (0, .ref (q x0)), (1, .int x1), (2, .int x2)]) dX6_corner_151 6 rfl (by rw [ev58]; rfl) (by decide) rfl ?_
            refine j_goto X (tgt := 39) dX6_corner_154 (by decide) ?_
            refine j_lvsub [4, 5, 6, 1, 0] (lv' := [(0, .ref (q x0)), (1, .int x1), (2, .int x2), (3, .long v56), (5, .int v58)]) rfl ?_
            exact hK39 x0 x1 x2 v56 v58 σ47 hf54
          · have hf55 := br_y hf51 c53; clear hf51
            refine j_lload_n X dX6_corner_135 5 rfl rfl ?_
            refine j_lload X dX6_corner_136 0 rfl ?_
            refine j_mmin_long X ml_X6_208 (Nat.le_of_ble_eq_true rfl) (Nat.le_of_ble_eq_true rfl) (Nat.le_of_ble_eq_true rfl) (Nat.le_of_ble_eq_true rfl) dX6_corner_138 (fun v60 ev60 => ?_)
            replace hf55 := lt_of hf55 v60 ev60
            refine j_goto X (tgt := 150) dX6_corner_141 (by decide) ?_
            refine j_lstore_n X (lv' := [(3, .long v60), (7, .long r46), (6, .int r40), (0, .ref (q x0)), (1, .int x1), (2, .int x2), (5, .int x5)]) dX6_corner_150 rfl (by decide) rfl ?_
            obtain ⟨v62, ev62⟩ : ∃ y : Int32, y = x5 + (1 : Int32) := ⟨_, rfl⟩
            replace hf55 := lt_of hf55 v62 ev62
            refine j_iinc X (v := v62) (lv' := [(5, .int v62), (3, .long v60), (7, .long r46), (6, .int r40), (0, .ref (q x0)), (1, .int x1), (2, .int x2)]) dX6_corner_151 6 rfl (by rw [ev62]; rfl) (by decide) rfl ?_
            refine j_goto X (tgt := 39) dX6_corner_154 (by decide) ?_
            refine j_lvsub [4, 5, 6, 1, 0] (lv' := [(0, .ref (q x0)), (1, .int x1), (2, .int x2), (3, .long v60), (5, .int v62)]) rfl ?_
            exact hK39 x0 x1 x2 v60 v62 σ47 hf55
        · have hf52 := br_y hf49 c50; clear hf49
          refine j_lload X dX6_corner_126 0 rfl ?_
          refine j_goto X (tgt := 150) dX6_corner_128 (by decide) ?_
          refine j_lstore_n X (lv' := [(3, .long r46), (7, .long r46), (6, .int r40), (0, .ref (q x0)), (1, .int x1), (2, .int x2), (5, .int x5)]) dX6_corner_150 rfl (by decide) rfl ?_
          obtain ⟨v64, ev64⟩ : ∃ y : Int32, y = x5 + (1 : Int32) := ⟨_, rfl⟩
          replace hf52 := lt_of hf52 v64 ev64
          refine j_iinc X (v := v64) (lv' := [(5, .int v64), (3, .long r46), (7, .long r46), (6, .int r40), (0, .ref (q x0)), (1, .int x1), (2, .int x2)]) dX6_corner_151 6 rfl (by rw [ev64]; rfl) (by decide) rfl ?_
          refine j_goto X (tgt := 39) dX6_corner_154 (by decide) ?_
          refine j_lvsub [4, 5, 6, 1, 0] (lv' := [(0, .ref (q x0)), (1, .int x1), (2, .int x2), (3, .long r46), (5, .int v64)]) rfl ?_
          exact hK39 x0 x1 x2 r46 v64 σ47 hf52
      · have hf37 := br_n hf0 c35; clear hf0
        refine j_aload_n X dX6_corner_56 0 rfl rfl ?_
        refine j_iload X dX6_corner_57 5 rfl ?_
        refine j_iload X dX6_corner_59 4 rfl ?_
        refine j_iload X dX6_corner_61 5 rfl ?_
        refine j_ishr X dX6_corner_63 ?_
        refine j_iconst X (v := 1) dX6_corner_64 (by decide) ?_
        refine j_iand X dX6_corner_65 ?_
        refine j_if_ne X (tgt := 85) dX6_corner_66 (by decide) (fun c66 => ?_) (fun c66 => ?_)
        · have hf67 := br_n hf37 c66; clear hf37
          refine j_aload_n X dX6_corner_85 0 rfl rfl ?_
          refine j_iload X dX6_corner_86 5 rfl ?_
          obtain ⟨h69, hf70⟩ := chk_of hf67; clear hf67
          obtain ⟨r71, σ72, h73, hf74⟩ := bc_of hf70; clear hf70
          refine j_callV0 X [.int x6] [.int x6, .ref (q x0)] (c_X6_valueOf l D cs q x0 x6 τ _ _ h73) mk_X6_valueOf mv_X6_valueOf ml_X6_115 h69 rfl (by decide) ⟨rfl, rfl⟩ ⟨Nat.le_of_ble_eq_true rfl, Nat.le_of_ble_eq_true rfl⟩ rfl (Nat.le_of_ble_eq_true rfl) ⟨Nat.le_of_ble_eq_true rfl, Nat.le_of_ble_eq_true rfl⟩ dX6_corner_88 rfl (st' := [.int r71, .int x6, .ref (q x0)]) rfl ?_
          refine j_aload_n X dX6_corner_91 0 rfl rfl ?_
          refine j_iload X dX6_corner_92 5 rfl ?_
          obtain ⟨h75, hf76⟩ := chk_of hf74; clear hf74
          obtain ⟨r77, σ78, h79, hf80⟩ := bc_of hf76; clear hf76
          refine j_callV0 X [.int x6] [.int r71, .int x6, .ref (q x0)] (c_X6_spanOf l D cs q x0 x6 σ72 _ _ h79) mk_X6_spanOf mv_X6_spanOf ml_X6_119 h75 rfl (by decide) ⟨rfl, rfl⟩ ⟨Nat.le_of_ble_eq_true rfl, Nat.le_of_ble_eq_true rfl⟩ rfl (Nat.le_of_ble_eq_true rfl) ⟨Nat.le_of_ble_eq_true rfl, Nat.le_of_ble_eq_true rfl⟩ dX6_corner_94 rfl (st' := [.int r77, .int r71, .int x6, .ref (q x0)]) rfl ?_
          refine j_iadd X dX6_corner_97 ?_
          obtain ⟨h81, hf82⟩ := chk_of hf80; clear hf80
          obtain ⟨r83, σ84, h85, hf86⟩ := bc_of hf82; clear hf82
          refine j_callV0 X [.int x6, .int (r71 + r77)] [] (c_X6_laysPoint l D cs q x0 x6 (r71 + r77) σ78 _ _ h85) mk_X6_laysPoint mv_X6_laysPoint ml_X6_264 h81 rfl (by decide) ⟨rfl, rfl⟩ ⟨Nat.le_of_ble_eq_true rfl, Nat.le_of_ble_eq_true rfl⟩ rfl (Nat.le_of_ble_eq_true rfl) ⟨Nat.le_of_ble_eq_true rfl, Nat.le_of_ble_eq_true rfl⟩ dX6_corner_98 rfl (st' := []) rfl ?_
          obtain ⟨v87, ev87⟩ : ∃ y : Int32, y = x6 + (1 : Int32) := ⟨_, rfl⟩
          replace hf86 := lt_of hf86 v87 ev87
          refine j_iinc X (v := v87) (lv' := [(6, .int v87), (0, .ref (q x0)), (1, .int x1), (2, .int x2), (3, .long x3), (5, .int x5)]) dX6_corner_101 5 rfl (by rw [ev87]; rfl) (by decide) rfl ?_
          refine j_goto X (tgt := 49) dX6_corner_104 (by decide) ?_
          refine j_lvsub [1, 2, 3, 4, 5, 0] (lv' := [(0, .ref (q x0)), (1, .int x1), (2, .int x2), (3, .long x3), (5, .int x5), (6, .int v87)]) rfl ?_
          exact ih x0 x1 x2 x3 x5 v87 σ84 hf86
        · have hf68 := br_y hf37 c66; clear hf37
          refine j_aload_n X dX6_corner_69 0 rfl rfl ?_
          refine j_iload X dX6_corner_70 5 rfl ?_
          obtain ⟨h89, hf90⟩ := chk_of hf68; clear hf68
          obtain ⟨r91, σ92, h93, hf94⟩ := bc_of hf90; clear hf90
          refine j_callV0 X [.int x6] [.int x6, .ref (q x0)] (c_X6_valueOf l D cs q x0 x6 τ _ _ h93) mk_X6_valueOf mv_X6_valueOf ml_X6_115 h89 rfl (by decide) ⟨rfl, rfl⟩ ⟨Nat.le_of_ble_eq_true rfl, Nat.le_of_ble_eq_true rfl⟩ rfl (Nat.le_of_ble_eq_true rfl) ⟨Nat.le_of_ble_eq_true rfl, Nat.le_of_ble_eq_true rfl⟩ dX6_corner_72 rfl (st' := [.int r91, .int x6, .ref (q x0)]) rfl ?_
          refine j_aload_n X dX6_corner_75 0 rfl rfl ?_
          refine j_iload X dX6_corner_76 5 rfl ?_
          obtain ⟨h95, hf96⟩ := chk_of hf94; clear hf94
          obtain ⟨r97, σ98, h99, hf100⟩ := bc_of hf96; clear hf96
          refine j_callV0 X [.int x6] [.int r91, .int x6, .ref (q x0)] (c_X6_spanOf l D cs q x0 x6 σ92 _ _ h99) mk_X6_spanOf mv_X6_spanOf ml_X6_119 h95 rfl (by decide) ⟨rfl, rfl⟩ ⟨Nat.le_of_ble_eq_true rfl, Nat.le_of_ble_eq_true rfl⟩ rfl (Nat.le_of_ble_eq_true rfl) ⟨Nat.le_of_ble_eq_true rfl, Nat.le_of_ble_eq_true rfl⟩ dX6_corner_78 rfl (st' := [.int r97, .int r91, .int x6, .ref (q x0)]) rfl ?_
          refine j_isub X dX6_corner_81 ?_
          refine j_goto X (tgt := 98) dX6_corner_82 (by decide) ?_
          obtain ⟨h101, hf102⟩ := chk_of hf100; clear hf100
          obtain ⟨r103, σ104, h105, hf106⟩ := bc_of hf102; clear hf102
          refine j_callV0 X [.int x6, .int (r91 - r97)] [] (c_X6_laysPoint l D cs q x0 x6 (r91 - r97) σ98 _ _ h105) mk_X6_laysPoint mv_X6_laysPoint ml_X6_264 h101 rfl (by decide) ⟨rfl, rfl⟩ ⟨Nat.le_of_ble_eq_true rfl, Nat.le_of_ble_eq_true rfl⟩ rfl (Nat.le_of_ble_eq_true rfl) ⟨Nat.le_of_ble_eq_true rfl, Nat.le_of_ble_eq_true rfl⟩ dX6_corner_98 rfl (st' := []) rfl ?_
          obtain ⟨v107, ev107⟩ : ∃ y : Int32, y = x6 + (1 : Int32) := ⟨_, rfl⟩
          replace hf106 := lt_of hf106 v107 ev107
          refine j_iinc X (v := v107) (lv' := [(6, .int v107), (0, .ref (q x0)), (1, .int x1), (2, .int x2), (3, .long x3), (5, .int x5)]) dX6_corner_101 5 rfl (by rw [ev107]; rfl) (by decide) rfl ?_
          refine j_goto X (tgt := 49) dX6_corner_104 (by decide) ?_
          refine j_lvsub [1, 2, 3, 4, 5, 0] (lv' := [(0, .ref (q x0)), (1, .int x1), (2, .int x2), (3, .long x3), (5, .int x5), (6, .int v107)]) rfl ?_
          exact ih x0 x1 x2 x3 x5 v107 σ104 hf106
  have L39 : ∀ (nk : Nat) (x0 : Nat) (x1 : Int32) (x2 : Int32) (x3 : Int64) (x5 : Int32) (τ : HS), lp_X6_corner_39  nk x0 x1 x2 x3 x5 τ = some (r0, σ0) → J p l e rm_X6_corner s m args below meth c 9 D cs A s.heap 0 0 (MQ below (hQ D cs (fun z => z = q) (fun _ => some (.long r0)) σ0 A) args s 0 0 A) q τ [(0, .ref (q x0)), (1, .int x1), (2, .int x2), (3, .long x3), (5, .int x5)] 39 [] := by
    intro nk
    induction nk with
    | zero => intro x0 x1 x2 x3 x5 τ hf0; have hf1 : (none : Option (Int64 × HS)) = some (r0, σ0) := hf0; cases hf1
    | succ nk ih =>
      intro x0 x1 x2 x3 x5 τ hf0
      replace hf0 : lp_X6_corner_39_b  (lp_X6_corner_39  nk) x0 x1 x2 x3 x5 τ = some (r0, σ0) := hf0
      unfold lp_X6_corner_39_b at hf0
      refine j_iload X dX6_corner_39 4 rfl ?_
      refine j_bipush X (v := 64) dX6_corner_41 (by decide) ?_
      refine j_icmp_ge X (tgt := 157) dX6_corner_43 (by decide) (fun c30 => ?_) (fun c30 => ?_)
      · have hf31 := br_y hf0 c30; clear hf0
        refine j_lload_n X dX6_corner_157 3 rfl rfl ?_
        obtain ⟨er, es⟩ := rt_of hf31
        subst er
        exact j_retl X hr hlk (Nat.le_of_ble_eq_true rfl) (Nat.le_of_ble_eq_true rfl) rfl es.symm rfl dX6_corner_158
      · have hf32 := br_n hf0 c30; clear hf0
        refine j_iconst X (v := 0) dX6_corner_46 (by decide) ?_
        refine j_nmi (fun v33 ev33 => ?_)
        replace hf32 := lt_of hf32 v33 ev33
        refine j_istore X (lv' := [(6, .int v33), (0, .ref (q x0)), (1, .int x1), (2, .int x2), (3, .long x3), (5, .int x5)]) dX6_corner_47 (by decide) rfl ?_
        refine j_lvsub [1, 2, 3, 4, 5, 0] (lv' := [(0, .ref (q x0)), (1, .int x1), (2, .int x2), (3, .long x3), (5, .int x5), (6, .int v33)]) rfl ?_
        exact L49 _ (ih) 1000 x0 x1 x2 x3 x5 v33 τ hf32
  refine j_aload_n X dX6_corner_0 0 rfl rfl ?_
  refine j_iload_n X dX6_corner_1 1 rfl rfl ?_
  obtain ⟨h1, hf2⟩ := chk_of hf0; clear hf0
  obtain ⟨r3, σ4, h5, hf6⟩ := bc_of hf2; clear hf2
  refine j_callV0 X [.int a1] [] (c_X6_isFormula l D cs q a0 a1 σ _ _ h5) mk_X6_isFormula mv_X6_isFormula ml_X6_180 h1 rfl (by decide) ⟨rfl, rfl⟩ ⟨Nat.le_of_ble_eq_true rfl, Nat.le_of_ble_eq_true rfl⟩ rfl (Nat.le_of_ble_eq_true rfl) ⟨Nat.le_of_ble_eq_true rfl, Nat.le_of_ble_eq_true rfl⟩ dX6_corner_2 rfl (st' := [.int r3]) rfl ?_
  refine j_if_eq X (tgt := 18) dX6_corner_5 (by decide) (fun c7 => ?_) (fun c7 => ?_)
  · have hf8 := br_y hf6 c7; clear hf6
    refine j_ldc2 X k_X6_198 dX6_corner_18 ?_
    obtain ⟨er, es⟩ := rt_of hf8
    subst er
    exact j_retl X hr hlk (Nat.le_of_ble_eq_true rfl) (Nat.le_of_ble_eq_true rfl) rfl es.symm rfl dX6_corner_21
  · have hf9 := br_n hf6 c7; clear hf6
    refine j_iload_n X dX6_corner_8 2 rfl rfl ?_
    refine j_i2l X dX6_corner_9 ?_
    refine j_lconst X (v := 0) dX6_corner_10 (by decide) ?_
    refine j_lconst X (v := 1) dX6_corner_11 (by decide) ?_
    obtain ⟨r10, σ11, h12, hf13⟩ := bc_of hf9; clear hf9
    refine j_callS0 X [.long (a2).toInt64, .long (0 : Int64), .long (1 : Int64)] [] (c_X6_isIn l D cs q (a2).toInt64 (0 : Int64) (1 : Int64) σ4 _ _ h12) mk_X6_isIn ms_X6_isIn ml_X6_97 ⟨rfl, rfl⟩ ⟨Nat.le_of_ble_eq_true rfl, Nat.le_of_ble_eq_true rfl⟩ rfl (Nat.le_of_ble_eq_true rfl) ⟨Nat.le_of_ble_eq_true rfl, Nat.le_of_ble_eq_true rfl⟩ dX6_corner_12 rfl (st' := [.int r10]) rfl ?_
    refine j_if_ne X (tgt := 22) dX6_corner_15 (by decide) (fun c14 => ?_) (fun c14 => ?_)
    · have hf15 := br_n hf13 c14; clear hf13
      refine j_aload_n X dX6_corner_22 0 rfl rfl ?_
      refine j_iload_n X dX6_corner_23 1 rfl rfl ?_
      obtain ⟨h17, hf18⟩ := chk_of hf15; clear hf15
      obtain ⟨r19, σ20, h21, hf22⟩ := bc_of hf18; clear hf18
      refine j_callV0 X [.int a1] [] (c_X6_spansNow l D cs q a0 a1 σ11 _ _ h21) mk_X6_spansNow mv_X6_spansNow ml_X6_254 h17 rfl (by decide) ⟨rfl, rfl⟩ ⟨Nat.le_of_ble_eq_true rfl, Nat.le_of_ble_eq_true rfl⟩ rfl (Nat.le_of_ble_eq_true rfl) ⟨Nat.le_of_ble_eq_true rfl, Nat.le_of_ble_eq_true rfl⟩ dX6_corner_24 rfl (st' := [.int r19]) rfl ?_
      refine j_if_ne X (tgt := 34) dX6_corner_27 (by decide) (fun c23 => ?_) (fun c23 => ?_)
      · have hf24 := br_n hf22 c23; clear hf22
        refine j_lconst X (v := 0) dX6_corner_34 (by decide) ?_
        refine j_nml (fun v26 ev26 => ?_)
        replace hf24 := lt_of hf24 v26 ev26
        refine j_lstore_n X (lv' := [(3, .long v26), (0, .ref (q a0)), (1, .int a1), (2, .int a2)]) dX6_corner_35 rfl (by decide) rfl ?_
        refine j_iconst X (v := 0) dX6_corner_36 (by decide) ?_
        refine j_nmi (fun v28 ev28 => ?_)
        replace hf24 := lt_of hf24 v28 ev28
        refine j_istore X (lv' := [(5, .int v28), (3, .long v26), (0, .ref (q a0)), (1, .int a1), (2, .int a2)]) dX6_corner_37 (by decide) rfl ?_
        refine j_lvsub [2, 3, 4, 1, 0] (lv' := [(0, .ref (q a0)), (1, .int a1), (2, .int a2), (3, .long v26), (5, .int v28)]) rfl ?_
        exact L39  1000 a0 a1 a2 v26 v28 σ20 hf24
      · have hf25 := br_y hf22 c23; clear hf22
        refine j_ldc2 X k_X6_239 dX6_corner_30 ?_
        obtain ⟨er, es⟩ := rt_of hf25
        subst er
        exact j_retl X hr hlk (Nat.le_of_ble_eq_true rfl) (Nat.le_of_ble_eq_true rfl) rfl es.symm rfl dX6_corner_33
    · have hf16 := br_y hf13 c14; clear hf13
      refine j_ldc2 X k_X6_198 dX6_corner_18 ?_
      obtain ⟨er, es⟩ := rt_of hf16
      subst er
      exact j_retl X hr hlk (Nat.le_of_ble_eq_true rfl) (Nat.le_of_ble_eq_true rfl) rfl es.symm rfl dX6_corner_21
