abbrev rm_X6_feed : Room := { frames := 1, cells := 0, slots := 0, locals := 64 }
set_option maxHeartbeats 4000000 in
set_option maxRecDepth 100000 in
theorem c_X6_feed (l : Launch) (D : va_G) (cs : Nat → ClassId) (q : Nat → Nat) (a0 : Nat) (a1 : Int32) (σ σ0 : HS) (r0 : Int32) (hf0 : f_X6_feed a0 a1 σ = some (r0, σ0)) : MT l yX6_feed (Cond.code yX6_feed cX6_feed 2 (some .int) :: lw_g) rm_X6_feed D cs q σ σ0 [.ref (q a0), .int a1] (fun z => z = q) (fun _ => some (.int r0)) 0 0 := by
  unfold f_X6_feed at hf0
  refine MT_of (cc := cX6_feed) (lv0 := [(0, .ref (q a0)), (1, .int a1)]) (by decide) (Nat.le_of_ble_eq_true rfl) rfl (fun p e s m args below meth c A X hr hlk hin => ?_)
  refine j_iload_n X dX6_feed_0 1 rfl rfl ?_
  refine j_i2l X dX6_feed_1 ?_
  refine j_lconst X (v := 1) dX6_feed_2 (by decide) ?_
  refine j_ldc2 X k_X6_126 dX6_feed_3 ?_
  obtain ⟨r1, σ2, h3, hf4⟩ := bc_of hf0; clear hf0
  refine j_callS0 X [.long (a1).toInt64, .long (1 : Int64), .long (127 : Int64)] [] (c_X6_isIn l D cs q (a1).toInt64 (1 : Int64) (127 : Int64) σ _ _ h3) mk_X6_isIn ms_X6_isIn ml_X6_97 ⟨rfl, rfl⟩ ⟨Nat.le_of_ble_eq_true rfl, Nat.le_of_ble_eq_true rfl⟩ rfl (Nat.le_of_ble_eq_true rfl) ⟨Nat.le_of_ble_eq_true rfl, Nat.le_of_ble_eq_true rfl⟩ dX6_feed_6 rfl (st' := [.int r1]) rfl ?_
  refine j_if_ne X (tgt := 15) dX6_feed_9 (by decide) (fun c5 => ?_) (fun c5 => ?_)
  · have hf6 := br_n hf4 c5; clear hf4
    refine j_aload_n X dX6_feed_15 0 rfl rfl ?_
    obtain ⟨h8, hf9⟩ := chk_of hf6; clear hf6
    refine j_geti X fd_X6_128 h8 dX6_feed_16 (fun v10 ev10 => ?_)
    replace hf9 := lt_of hf9 v10 ev10
    refine j_bipush X (v := 60) dX6_feed_19 (by decide) ?_
    refine j_icmp_ne X (tgt := 27) dX6_feed_21 (by decide) (fun c12 => ?_) (fun c12 => ?_)
    · have hf13 := br_n hf9 c12; clear hf9
      refine j_aload_n X dX6_feed_27 0 rfl rfl ?_
      obtain ⟨i15, h16, hf17⟩ := bd_of hf13; clear hf13
      refine j_getr X fd_X6_48 h8 h16 dX6_feed_28 ?_
      refine j_aload_n X dX6_feed_31 0 rfl rfl ?_
      refine j_geti X fd_X6_128 h8 dX6_feed_32 (fun v18 ev18 => ?_)
      replace hf17 := lt_of hf17 v18 ev18
      refine j_iload_n X dX6_feed_35 1 rfl rfl ?_
      obtain ⟨h20, hf21⟩ := chk_of hf17; clear hf17
      refine j_iast X h20 dX6_feed_36 (fun σ22 eσ22 => ?_)
      replace hf21 := lt_of hf21 σ22 eσ22
      have h24 : isO σ22 6 a0 := by rw [eσ22]; exact h8
      refine j_aload_n X dX6_feed_37 0 rfl rfl ?_
      refine j_dup X dX6_feed_38 rfl ?_
      refine j_geti X fd_X6_128 h24 dX6_feed_39 (fun v25 ev25 => ?_)
      replace hf21 := lt_of hf21 v25 ev25
      refine j_iconst X (v := 1) dX6_feed_42 (by decide) ?_
      refine j_iadd X dX6_feed_43 ?_
      refine j_puti X fp_X6_128 h24 dX6_feed_44 (fun σ27 eσ27 => ?_)
      replace hf21 := lt_of hf21 σ27 eσ27
      have h29 : isO σ27 6 a0 := by rw [eσ27]; exact h24
      refine j_aload_n X dX6_feed_47 0 rfl rfl ?_
      refine j_geti X fd_X6_128 h29 dX6_feed_48 (fun v30 ev30 => ?_)
      replace hf21 := lt_of hf21 v30 ev30
      obtain ⟨er, es⟩ := rt_of hf21
      subst er
      exact j_reti X hr hlk (Nat.le_of_ble_eq_true rfl) (Nat.le_of_ble_eq_true rfl) rfl es.symm rfl dX6_feed_51
    · have hf14 := br_y hf9 c12; clear hf9
      refine j_bipush X (v := -4) dX6_feed_24 (by decide) ?_
      obtain ⟨er, es⟩ := rt_of hf14
      subst er
      exact j_reti X hr hlk (Nat.le_of_ble_eq_true rfl) (Nat.le_of_ble_eq_true rfl) rfl es.symm rfl dX6_feed_26
  · have hf7 := br_y hf4 c5; clear hf4
    refine j_bipush X (v := -2) dX6_feed_12 (by decide) ?_
    obtain ⟨er, es⟩ := rt_of hf7
    subst er
    exact j_reti X hr hlk (Nat.le_of_ble_eq_true rfl) (Nat.le_of_ble_eq_true rfl) rfl es.symm rfl dX6_feed_14
abbrev rm_X6_fits : Room := { frames := 4, cells := 0, slots := 0, locals := 256 }
set_option maxHeartbeats 4000000 in
set_option maxRecDepth 100000 in
theorem c_X6_fits (l : Launch) (D : va_G) (cs : Nat → ClassId) (q : Nat → Nat) (a0 : Nat) (a1 : Int32) (a2 : Int32) (a3 : Int64) (a5 : Int32) (σ σ0 : HS) (r0 : Int32) (hf0 : f_X6_fits a0 a1 a2 a3 a5 σ = some (r0, σ0)) : MT l yX6_fits (Cond.code yX6_fits cX6_fits 9 (some .int) :: lw_g) rm_X6_fits D cs q σ σ0 [.ref (q a0), .int a1, .int a2, .long a3, .int a5] (fun z => z = q) (fun _ => some (.int r0)) 0 0 := by
  unfold f_X6_fits at hf0
  refine MT_of (cc := cX6_fits) (lv0 := [(0, .ref (q a0)), (1, .int a1), (2, .int a2), (3, .long a3), (5, .int a5)]) (by decide) (Nat.le_of_ble_eq_true rfl) rfl (fun p e s m args below meth c A X hr hlk hin => ?_)
  have L40 : ∀ (nk : Nat) (x0 : Nat) (x1 : Int32) (x2 : Int32) (x3 : Int64) (x5 : Int32) (x6 : Int32) (x7 : Int32) (x8 : Int32) (τ : HS), lp_X6_fits_40  nk x0 x1 x2 x3 x5 x6 x7 x8 τ = some (r0, σ0) → J p l e rm_X6_fits s m args below meth c 9 D cs A s.heap 0 0 (MQ below (hQ D cs (fun z => z = q) (fun _ => some (.int r0)) σ0 A) args s 0 0 A) q τ [(0, .ref (q x0)), (1, .int x1), (2, .int x2), (3, .long x3), (5, .int x5), (6, .int x6), (7, .int x7), (8, .int x8)] 40 [] := by
    intro nk
    induction nk with
    | zero => intro x0 x1 x2 x3 x5 x6 x7 x8 τ hf0; have hf1 : (none : Option (Int32 × HS)) = some (r0, σ0) := hf0; cases hf1
    | succ nk ih =>
      intro x0 x1 x2 x3 x5 x6 x7 x8 τ hf0
      replace hf0 : lp_X6_fits_40_b  (lp_X6_fits_40  nk) x0 x1 x2 x3 x5 x6 x7 x8 τ = some (r0, σ0) := hf0
      unfold lp_X6_fits_40_b at hf0
      refine j_iload X dX6_fits_40 7 rfl ?_
      refine j_bipush X (v := -99) dX6_fits_42 (by decide) ?_
      refine j_icmp_lt X (tgt := 110) dX6_fits_44 (by decide) (fun c30 => ?_) (fun c30 => ?_)
      · have hf31 := br_y hf0 c30; clear hf0
        refine j_iload X dX6_fits_110 4 rfl ?_
        refine j_if_ne X (tgt := 120) dX6_fits_112 (by decide) (fun c33 => ?_) (fun c33 => ?_)
        · have hf34 := br_n hf31 c33; clear hf31
          refine j_iload X dX6_fits_120 6 rfl ?_
          obtain ⟨er, es⟩ := rt_of hf34
          subst er
          exact j_reti X hr hlk (Nat.le_of_ble_eq_true rfl) (Nat.le_of_ble_eq_true rfl) rfl es.symm rfl dX6_fits_122
        · have hf35 := br_y hf31 c33; clear hf31
          refine j_iload X dX6_fits_115 5 rfl ?_
          refine j_goto X (tgt := 122) dX6_fits_117 (by decide) ?_
          obtain ⟨er, es⟩ := rt_of hf35
          subst er
          exact j_reti X hr hlk (Nat.le_of_ble_eq_true rfl) (Nat.le_of_ble_eq_true rfl) rfl es.symm rfl dX6_fits_122
      · have hf32 := br_n hf0 c30; clear hf0
        refine j_aload_n X dX6_fits_47 0 rfl rfl ?_
        obtain ⟨h36, hf37⟩ := chk_of hf32; clear hf32
        obtain ⟨r38, σ39, h40, hf41⟩ := bc_of hf37; clear hf37
        refine j_callV0 X [] [] (c_X6_laysBox l D cs q x0 τ _ _ h40) mk_X6_laysBox mv_X6_laysBox ml_X6_233 h36 rfl (by decide) ⟨rfl, rfl⟩ ⟨Nat.le_of_ble_eq_true rfl, Nat.le_of_ble_eq_true rfl⟩ rfl (Nat.le_of_ble_eq_true rfl) ⟨Nat.le_of_ble_eq_true rfl, Nat.le_of_ble_eq_true rfl⟩ dX6_fits_48 rfl (st' := []) rfl ?_
        refine j_aload_n X dX6_fits_51 0 rfl rfl ?_
        refine j_iload_n X dX6_fits_52 2 rfl rfl ?_
        refine j_iload X dX6_fits_53 7 rfl ?_
        refine j_aload_n X dX6_fits_55 0 rfl rfl ?_
        refine j_iload_n X dX6_fits_56 2 rfl rfl ?_
        obtain ⟨h42, hf43⟩ := chk_of hf41; clear hf41
        obtain ⟨r44, σ45, h46, hf47⟩ := bc_of hf43; clear hf43
        refine j_callV0 X [.int x2] [.int x8, .int x2, .ref (q x0)] (c_X6_spanOf l D cs q x0 x2 σ39 _ _ h46) mk_X6_spanOf mv_X6_spanOf ml_X6_119 h42 rfl (by decide) ⟨rfl, rfl⟩ ⟨Nat.le_of_ble_eq_true rfl, Nat.le_of_ble_eq_true rfl⟩ rfl (Nat.le_of_ble_eq_true rfl) ⟨Nat.le_of_ble_eq_true rfl, Nat.le_of_ble_eq_true rfl⟩ dX6_fits_57 rfl (st' := [.int r44, .int x8, .int x2, .ref (q x0)]) rfl ?_
        refine j_isub X dX6_fits_60 ?_
        refine j_iload X dX6_fits_61 7 rfl ?_
        refine j_aload_n X dX6_fits_63 0 rfl rfl ?_
        refine j_iload_n X dX6_fits_64 2 rfl rfl ?_
        obtain ⟨h48, hf49⟩ := chk_of hf47; clear hf47
        obtain ⟨r50, σ51, h52, hf53⟩ := bc_of hf49; clear hf49
        refine j_callV0 X [.int x2] [.int x8, .int (x8 - r44), .int x2, .ref (q x0)] (c_X6_spanOf l D cs q x0 x2 σ45 _ _ h52) mk_X6_spanOf mv_X6_spanOf ml_X6_119 h48 rfl (by decide) ⟨rfl, rfl⟩ ⟨Nat.le_of_ble_eq_true rfl, Nat.le_of_ble_eq_true rfl⟩ rfl (Nat.le_of_ble_eq_true rfl) ⟨Nat.le_of_ble_eq_true rfl, Nat.le_of_ble_eq_true rfl⟩ dX6_fits_65 rfl (st' := [.int r50, .int x8, .int (x8 - r44), .int x2, .ref (q x0)]) rfl ?_
        refine j_iadd X dX6_fits_68 ?_
        obtain ⟨h54, hf55⟩ := chk_of hf53; clear hf53
        obtain ⟨r56, σ57, h58, hf59⟩ := bc_of hf55; clear hf55
        refine j_callV0 X [.int x2, .int (x8 - r44), .int (x8 + r50)] [] (c_X6_lays l D cs q x0 x2 (x8 - r44) (x8 + r50) σ51 _ _ h58) mk_X6_lays mv_X6_lays ml_X6_200 h54 rfl (by decide) ⟨rfl, rfl⟩ ⟨Nat.le_of_ble_eq_true rfl, Nat.le_of_ble_eq_true rfl⟩ rfl (Nat.le_of_ble_eq_true rfl) ⟨Nat.le_of_ble_eq_true rfl, Nat.le_of_ble_eq_true rfl⟩ dX6_fits_69 rfl (st' := []) rfl ?_
        refine j_aload_n X dX6_fits_72 0 rfl rfl ?_
        refine j_iload_n X dX6_fits_73 1 rfl rfl ?_
        obtain ⟨h60, hf61⟩ := chk_of hf59; clear hf59
        obtain ⟨r62, σ63, h64, hf65⟩ := bc_of hf61; clear hf61
        refine j_callV0 X [.int x1] [] (c_X6_spans l D cs q x0 x1 σ57 _ _ h64) mk_X6_spans mv_X6_spans ml_X6_236 h60 rfl (by decide) ⟨rfl, rfl⟩ ⟨Nat.le_of_ble_eq_true rfl, Nat.le_of_ble_eq_true rfl⟩ rfl (Nat.le_of_ble_eq_true rfl) ⟨Nat.le_of_ble_eq_true rfl, Nat.le_of_ble_eq_true rfl⟩ dX6_fits_74 rfl (st' := [.int r62]) rfl ?_
        refine j_if_eq X (tgt := 104) dX6_fits_77 (by decide) (fun c66 => ?_) (fun c66 => ?_)
        · have hf67 := br_y hf65 c66; clear hf65
          obtain ⟨v69, ev69⟩ : ∃ y : Int32, y = x8 + (-1 : Int32) := ⟨_, rfl⟩
          replace hf67 := lt_of hf67 v69 ev69
          refine j_iinc X (v := v69) (lv' := [(8, .int v69), (0, .ref (q x0)), (1, .int x1), (2, .int x2), (3, .long x3), (5, .int x5), (6, .int x6), (7, .int x7)]) dX6_fits_104 7 rfl (by rw [ev69]; rfl) (by decide) rfl ?_
          refine j_goto X (tgt := 40) dX6_fits_107 (by decide) ?_
          refine j_lvsub [1, 2, 3, 4, 5, 6, 7, 0] (lv' := [(0, .ref (q x0)), (1, .int x1), (2, .int x2), (3, .long x3), (5, .int x5), (6, .int x6), (7, .int x7), (8, .int v69)]) rfl ?_
          exact ih x0 x1 x2 x3 x5 x6 x7 v69 σ63 hf67
        · have hf68 := br_n hf65 c66; clear hf65
          refine j_lload_n X dX6_fits_80 3 rfl rfl ?_
          refine j_aload_n X dX6_fits_81 0 rfl rfl ?_
          refine j_iload_n X dX6_fits_82 1 rfl rfl ?_
          obtain ⟨h71, hf72⟩ := chk_of hf68; clear hf68
          obtain ⟨r73, σ74, h75, hf76⟩ := bc_of hf72; clear hf72
          refine j_callV0 X [.int x1] [.long x3] (c_X6_lowOf l D cs q x0 x1 σ63 _ _ h75) mk_X6_lowOf mv_X6_lowOf ml_X6_245 h71 rfl (by decide) ⟨rfl, rfl⟩ ⟨Nat.le_of_ble_eq_true rfl, Nat.le_of_ble_eq_true rfl⟩ rfl (Nat.le_of_ble_eq_true rfl) ⟨Nat.le_of_ble_eq_true rfl, Nat.le_of_ble_eq_true rfl⟩ dX6_fits_83 rfl (st' := [.long r73, .long x3]) rfl ?_
          refine j_aload_n X dX6_fits_86 0 rfl rfl ?_
          refine j_iload_n X dX6_fits_87 1 rfl rfl ?_
          obtain ⟨h77, hf78⟩ := chk_of hf76; clear hf76
          obtain ⟨r79, σ80, h81, hf82⟩ := bc_of hf78; clear hf78
          refine j_callV0 X [.int x1] [.long r73, .long x3] (c_X6_highOf l D cs q x0 x1 σ74 _ _ h81) mk_X6_highOf mv_X6_highOf ml_X6_241 h77 rfl (by decide) ⟨rfl, rfl⟩ ⟨Nat.le_of_ble_eq_true rfl, Nat.le_of_ble_eq_true rfl⟩ rfl (Nat.le_of_ble_eq_true rfl) ⟨Nat.le_of_ble_eq_true rfl, Nat.le_of_ble_eq_true rfl⟩ dX6_fits_88 rfl (st' := [.long r79, .long r73, .long x3]) rfl ?_
          obtain ⟨r83, σ84, h85, hf86⟩ := bc_of hf82; clear hf82
          refine j_callS0 X [.long x3, .long r73, .long r79] [] (c_X6_isIn l D cs q x3 r73 r79 σ80 _ _ h85) mk_X6_isIn ms_X6_isIn ml_X6_97 ⟨rfl, rfl⟩ ⟨Nat.le_of_ble_eq_true rfl, Nat.le_of_ble_eq_true rfl⟩ rfl (Nat.le_of_ble_eq_true rfl) ⟨Nat.le_of_ble_eq_true rfl, Nat.le_of_ble_eq_true rfl⟩ dX6_fits_91 rfl (st' := [.int r83]) rfl ?_
          refine j_if_eq X (tgt := 104) dX6_fits_94 (by decide) (fun c87 => ?_) (fun c87 => ?_)
          · have hf88 := br_y hf86 c87; clear hf86
            obtain ⟨v90, ev90⟩ : ∃ y : Int32, y = x8 + (-1 : Int32) := ⟨_, rfl⟩
            replace hf88 := lt_of hf88 v90 ev90
            refine j_iinc X (v := v90) (lv' := [(8, .int v90), (0, .ref (q x0)), (1, .int x1), (2, .int x2), (3, .long x3), (5, .int x5), (6, .int x6), (7, .int x7)]) dX6_fits_104 7 rfl (by rw [ev90]; rfl) (by decide) rfl ?_
            refine j_goto X (tgt := 40) dX6_fits_107 (by decide) ?_
            refine j_lvsub [1, 2, 3, 4, 5, 6, 7, 0] (lv' := [(0, .ref (q x0)), (1, .int x1), (2, .int x2), (3, .long x3), (5, .int x5), (6, .int x6), (7, .int x7), (8, .int v90)]) rfl ?_
            exact ih x0 x1 x2 x3 x5 x6 x7 v90 σ84 hf88
          · have hf89 := br_n hf86 c87; clear hf86
            obtain ⟨v92, ev92⟩ : ∃ y : Int32, y = x6 + (1 : Int32) := ⟨_, rfl⟩
            replace hf89 := lt_of hf89 v92 ev92
            refine j_iinc X (v := v92) (lv' := [(6, .int v92), (0, .ref (q x0)), (1, .int x1), (2, .int x2), (3, .long x3), (5, .int x5), (7, .int x7), (8, .int x8)]) dX6_fits_97 5 rfl (by rw [ev92]; rfl) (by decide) rfl ?_
            refine j_iload X dX6_fits_100 7 rfl ?_
            refine j_istore X (lv' := [(7, .int x8), (6, .int v92), (0, .ref (q x0)), (1, .int x1), (2, .int x2), (3, .long x3), (5, .int x5), (8, .int x8)]) dX6_fits_102 (by decide) rfl ?_
            obtain ⟨v94, ev94⟩ : ∃ y : Int32, y = x8 + (-1 : Int32) := ⟨_, rfl⟩
            replace hf89 := lt_of hf89 v94 ev94
            refine j_iinc X (v := v94) (lv' := [(8, .int v94), (7, .int x8), (6, .int v92), (0, .ref (q x0)), (1, .int x1), (2, .int x2), (3, .long x3), (5, .int x5)]) dX6_fits_104 7 rfl (by rw [ev94]; rfl) (by decide) rfl ?_
            refine j_goto X (tgt := 40) dX6_fits_107 (by decide) ?_
            refine j_lvsub [3, 4, 5, 6, 7, 2, 1, 0] (lv' := [(0, .ref (q x0)), (1, .int x1), (2, .int x2), (3, .long x3), (5, .int x5), (6, .int v92), (7, .int x8), (8, .int v94)]) rfl ?_
            exact ih x0 x1 x2 x3 x5 v92 x8 v94 σ84 hf89
  refine j_aload_n X dX6_fits_0 0 rfl rfl ?_
  refine j_iload_n X dX6_fits_1 1 rfl rfl ?_
  obtain ⟨h1, hf2⟩ := chk_of hf0; clear hf0
  obtain ⟨r3, σ4, h5, hf6⟩ := bc_of hf2; clear hf2
  refine j_callV0 X [.int a1] [] (c_X6_isFormula l D cs q a0 a1 σ _ _ h5) mk_X6_isFormula mv_X6_isFormula ml_X6_180 h1 rfl (by decide) ⟨rfl, rfl⟩ ⟨Nat.le_of_ble_eq_true rfl, Nat.le_of_ble_eq_true rfl⟩ rfl (Nat.le_of_ble_eq_true rfl) ⟨Nat.le_of_ble_eq_true rfl, Nat.le_of_ble_eq_true rfl⟩ dX6_fits_2 rfl (st' := [.int r3]) rfl ?_
  refine j_if_eq X (tgt := 26) dX6_fits_5 (by decide) (fun c7 => ?_) (fun c7 => ?_)
  · have hf8 := br_y hf6 c7; clear hf6
    refine j_iconst X (v := -1) dX6_fits_26 (by decide) ?_
    obtain ⟨er, es⟩ := rt_of hf8
    subst er
    exact j_reti X hr hlk (Nat.le_of_ble_eq_true rfl) (Nat.le_of_ble_eq_true rfl) rfl es.symm rfl dX6_fits_27
  · have hf9 := br_n hf6 c7; clear hf6
    refine j_iload_n X dX6_fits_8 2 rfl rfl ?_
    obtain ⟨r10, σ11, h12, hf13⟩ := bc_of hf9; clear hf9
    refine j_callS0 X [.int a2] [] (c_X6_isSource l D cs q a2 σ4 _ _ h12) mk_X6_isSource ms_X6_isSource ml_X6_101 ⟨rfl, rfl⟩ ⟨Nat.le_of_ble_eq_true rfl, Nat.le_of_ble_eq_true rfl⟩ rfl (Nat.le_of_ble_eq_true rfl) ⟨Nat.le_of_ble_eq_true rfl, Nat.le_of_ble_eq_true rfl⟩ dX6_fits_9 rfl (st' := [.int r10]) rfl ?_
    refine j_if_eq X (tgt := 26) dX6_fits_12 (by decide) (fun c14 => ?_) (fun c14 => ?_)
    · have hf15 := br_y hf13 c14; clear hf13
      refine j_iconst X (v := -1) dX6_fits_26 (by decide) ?_
      obtain ⟨er, es⟩ := rt_of hf15
      subst er
      exact j_reti X hr hlk (Nat.le_of_ble_eq_true rfl) (Nat.le_of_ble_eq_true rfl) rfl es.symm rfl dX6_fits_27
    · have hf16 := br_n hf13 c14; clear hf13
      refine j_iload X dX6_fits_15 4 rfl ?_
      refine j_i2l X dX6_fits_17 ?_
      refine j_lconst X (v := 0) dX6_fits_18 (by decide) ?_
      refine j_lconst X (v := 1) dX6_fits_19 (by decide) ?_
      obtain ⟨r17, σ18, h19, hf20⟩ := bc_of hf16; clear hf16
      refine j_callS0 X [.long (a5).toInt64, .long (0 : Int64), .long (1 : Int64)] [] (c_X6_isIn l D cs q (a5).toInt64 (0 : Int64) (1 : Int64) σ11 _ _ h19) mk_X6_isIn ms_X6_isIn ml_X6_97 ⟨rfl, rfl⟩ ⟨Nat.le_of_ble_eq_true rfl, Nat.le_of_ble_eq_true rfl⟩ rfl (Nat.le_of_ble_eq_true rfl) ⟨Nat.le_of_ble_eq_true rfl, Nat.le_of_ble_eq_true rfl⟩ dX6_fits_20 rfl (st' := [.int r17]) rfl ?_
      refine j_if_ne X (tgt := 28) dX6_fits_23 (by decide) (fun c21 => ?_) (fun c21 => ?_)
      · have hf22 := br_n hf20 c21; clear hf20
        refine j_iconst X (v := 0) dX6_fits_28 (by decide) ?_
        refine j_nmi (fun v24 ev24 => ?_)
        replace hf22 := lt_of hf22 v24 ev24
        refine j_istore X (lv' := [(6, .int v24), (0, .ref (q a0)), (1, .int a1), (2, .int a2), (3, .long a3), (5, .int a5)]) dX6_fits_29 (by decide) rfl ?_
        refine j_sipush X (v := -1000) dX6_fits_31 (by decide) ?_
        refine j_nmi (fun v26 ev26 => ?_)
        replace hf22 := lt_of hf22 v26 ev26
        refine j_istore X (lv' := [(7, .int v26), (6, .int v24), (0, .ref (q a0)), (1, .int a1), (2, .int a2), (3, .long a3), (5, .int a5)]) dX6_fits_34 (by decide) rfl ?_
        refine j_bipush X (v := 99) dX6_fits_36 (by decide) ?_
        refine j_nmi (fun v28 ev28 => ?_)
        replace hf22 := lt_of hf22 v28 ev28
        refine j_istore X (lv' := [(8, .int v28), (7, .int v26), (6, .int v24), (0, .ref (q a0)), (1, .int a1), (2, .int a2), (3, .long a3), (5, .int a5)]) dX6_fits_38 (by decide) rfl ?_
        refine j_lvsub [3, 4, 5, 6, 7, 2, 1, 0] (lv' := [(0, .ref (q a0)), (1, .int a1), (2, .int a2), (3, .long a3), (5, .int a5), (6, .int v24), (7, .int v26), (8, .int v28)]) rfl ?_
        exact L40  1000 a0 a1 a2 a3 a5 v24 v26 v28 σ18 hf22
      · have hf23 := br_y hf20 c21; clear hf20
        refine j_iconst X (v := -1) dX6_fits_26 (by decide) ?_
        obtain ⟨er, es⟩ := rt_of hf23
        subst er
        exact j_reti X hr hlk (Nat.le_of_ble_eq_true rfl) (Nat.le_of_ble_eq_true rfl) rfl es.symm rfl dX6_fits_27
abbrev rm_X6_formula : Room := { frames := 63, cells := 0, slots := 0, locals := 4032 }
set_option maxHeartbeats 4000000 in
set_option maxRecDepth 100000 in
theorem c_X6_formula (l : Launch) (D : va_G) (cs : Nat → ClassId) (q : Nat → Nat) (a0 : Nat) (σ σ0 : HS) (r0 : Int32) (hf0 : f_X6_formula a0 σ = some (r0, σ0)) : MT l yX6_formula (Cond.code yX6_formula cX6_formula 3 (some .int) :: lw_g) rm_X6_formula D cs q σ σ0 [.ref (q a0)] (fun z => z = q) (fun _ => some (.int r0)) 0 0 := by
  unfold f_X6_formula at hf0
  refine MT_of (cc := cX6_formula) (lv0 := [(0, .ref (q a0))]) (by decide) (Nat.le_of_ble_eq_true rfl) rfl (fun p e s m args below meth c A X hr hlk hin => ?_)
  refine j_aload_n X dX6_formula_0 0 rfl rfl ?_
  refine j_iconst X (v := 0) dX6_formula_1 (by decide) ?_
  obtain ⟨h1, hf2⟩ := chk_of hf0; clear hf0
  refine j_puti X fp_X6_131 h1 dX6_formula_2 (fun σ3 eσ3 => ?_)
  replace hf2 := lt_of hf2 σ3 eσ3
  have h5 : isO σ3 6 a0 := by rw [eσ3]; exact h1
  refine j_aload_n X dX6_formula_5 0 rfl rfl ?_
  refine j_iconst X (v := 0) dX6_formula_6 (by decide) ?_
  refine j_puti X fp_X6_146 h5 dX6_formula_7 (fun σ6 eσ6 => ?_)
  replace hf2 := lt_of hf2 σ6 eσ6
  have h8 : isO σ6 6 a0 := by rw [eσ6]; exact h5
  refine j_aload_n X dX6_formula_10 0 rfl rfl ?_
  refine j_iconst X (v := 1) dX6_formula_11 (by decide) ?_
  refine j_putz X fp_X6_138 h8 (Or.inr rfl) dX6_formula_12 (fun σ9 eσ9 => ?_)
  replace hf2 := lt_of hf2 σ9 eσ9
  have h11 : isO σ9 6 a0 := by rw [eσ9]; exact h8
  refine j_aload_n X dX6_formula_15 0 rfl rfl ?_
  obtain ⟨i12, h13, hf14⟩ := bd_of hf2; clear hf2
  refine j_getr X fd_X6_30 h11 h13 dX6_formula_16 ?_
  refine j_aload_n X dX6_formula_19 0 rfl rfl ?_
  refine j_geti X fd_X6_122 h11 dX6_formula_20 (fun v15 ev15 => ?_)
  replace hf14 := lt_of hf14 v15 ev15
  refine j_iconst X (v := 0) dX6_formula_23 (by decide) ?_
  obtain ⟨h17, hf18⟩ := chk_of hf14; clear hf14
  refine j_iast X h17 dX6_formula_24 (fun σ19 eσ19 => ?_)
  replace hf18 := lt_of hf18 σ19 eσ19
  have h21 : isO σ19 6 a0 := by rw [eσ19]; exact h11
  refine j_aload_n X dX6_formula_25 0 rfl rfl ?_
  obtain ⟨r22, σ23, h24, hf25⟩ := bc_of hf18; clear hf18
  refine j_callV0 X [] [] (c_X6_sums l D cs q a0 σ19 _ _ h24) mk_X6_sums mv_X6_sums ml_X6_155 h21 rfl (by decide) ⟨rfl, rfl⟩ ⟨Nat.le_of_ble_eq_true rfl, Nat.le_of_ble_eq_true rfl⟩ rfl (Nat.le_of_ble_eq_true rfl) ⟨Nat.le_of_ble_eq_true rfl, Nat.le_of_ble_eq_true rfl⟩ dX6_formula_26 rfl (st' := [.int r22]) rfl ?_
  refine j_istore_n X (lv' := [(1, .int r22), (0, .ref (q a0))]) dX6_formula_29 rfl (by decide) rfl ?_
  refine j_aload_n X dX6_formula_30 1 rfl rfl ?_
  obtain ⟨h26, hf27⟩ := chk_of hf25; clear hf25
  refine j_geti X fd_X6_138 h26 dX6_formula_31 (fun v28 ev28 => ?_)
  replace hf27 := lt_of hf27 v28 ev28
  refine j_if_eq X (tgt := 52) dX6_formula_34 (by decide) (fun c30 => ?_) (fun c30 => ?_)
  · have hf31 := br_y hf27 c30; clear hf27
    refine j_iconst X (v := 0) dX6_formula_52 (by decide) ?_
    refine j_nmi (fun v33 ev33 => ?_)
    replace hf31 := lt_of hf31 v33 ev33
    refine j_istore_n X (lv' := [(2, .int v33), (1, .int r22), (0, .ref (q a0))]) dX6_formula_53 rfl (by decide) rfl ?_
    refine j_aload_n X dX6_formula_54 2 rfl rfl ?_
    refine j_iconst X (v := 0) dX6_formula_55 (by decide) ?_
    refine j_puti X fp_X6_128 h26 dX6_formula_56 (fun σ35 eσ35 => ?_)
    replace hf31 := lt_of hf31 σ35 eσ35
    have h37 : isO σ35 6 a0 := by rw [eσ35]; exact h26
    refine j_iload_n X dX6_formula_59 0 rfl rfl ?_
    refine j_if_ne X (tgt := 71) dX6_formula_60 (by decide) (fun c38 => ?_) (fun c38 => ?_)
    · have hf39 := br_n hf31 c38; clear hf31
      refine j_aload_n X dX6_formula_71 2 rfl rfl ?_
      refine j_geti X fd_X6_122 h37 dX6_formula_72 (fun v41 ev41 => ?_)
      replace hf39 := lt_of hf39 v41 ev41
      refine j_bipush X (v := 6) dX6_formula_75 (by decide) ?_
      refine j_icmp_ne X (tgt := 83) dX6_formula_77 (by decide) (fun c43 => ?_) (fun c43 => ?_)
      · have hf44 := br_n hf39 c43; clear hf39
        refine j_aload_n X dX6_formula_83 2 rfl rfl ?_
        refine j_dup X dX6_formula_84 rfl ?_
        refine j_geti X fd_X6_122 h37 dX6_formula_85 (fun v46 ev46 => ?_)
        replace hf44 := lt_of hf44 v46 ev46
        refine j_iconst X (v := 1) dX6_formula_88 (by decide) ?_
        refine j_iadd X dX6_formula_89 ?_
        refine j_puti X fp_X6_122 h37 dX6_formula_90 (fun σ48 eσ48 => ?_)
        replace hf44 := lt_of hf44 σ48 eσ48
        have h50 : isO σ48 6 a0 := by rw [eσ48]; exact h37
        refine j_aload_n X dX6_formula_93 2 rfl rfl ?_
        refine j_geti X fd_X6_122 h50 dX6_formula_94 (fun v51 ev51 => ?_)
        replace hf44 := lt_of hf44 v51 ev51
        refine j_iconst X (v := 1) dX6_formula_97 (by decide) ?_
        refine j_isub X dX6_formula_98 ?_
        obtain ⟨er, es⟩ := rt_of hf44
        subst er
        exact j_reti X hr hlk (Nat.le_of_ble_eq_true rfl) (Nat.le_of_ble_eq_true rfl) rfl es.symm rfl dX6_formula_99
      · have hf45 := br_y hf39 c43; clear hf39
        refine j_bipush X (v := -4) dX6_formula_80 (by decide) ?_
        obtain ⟨er, es⟩ := rt_of hf45
        subst er
        exact j_reti X hr hlk (Nat.le_of_ble_eq_true rfl) (Nat.le_of_ble_eq_true rfl) rfl es.symm rfl dX6_formula_82
    · have hf40 := br_y hf31 c38; clear hf31
      refine j_bipush X (v := -100) dX6_formula_63 (by decide) ?_
      refine j_aload_n X dX6_formula_65 2 rfl rfl ?_
      refine j_geti X fd_X6_131 h37 dX6_formula_66 (fun v53 ev53 => ?_)
      replace hf40 := lt_of hf40 v53 ev53
      refine j_isub X dX6_formula_69 ?_
      obtain ⟨er, es⟩ := rt_of hf40
      subst er
      exact j_reti X hr hlk (Nat.le_of_ble_eq_true rfl) (Nat.le_of_ble_eq_true rfl) rfl es.symm rfl dX6_formula_70
  · have hf32 := br_n hf27 c30; clear hf27
    refine j_aload_n X dX6_formula_37 1 rfl rfl ?_
    refine j_geti X fd_X6_131 h26 dX6_formula_38 (fun v55 ev55 => ?_)
    replace hf32 := lt_of hf32 v55 ev55
    refine j_aload_n X dX6_formula_41 1 rfl rfl ?_
    refine j_geti X fd_X6_128 h26 dX6_formula_42 (fun v57 ev57 => ?_)
    replace hf32 := lt_of hf32 v57 ev57
    refine j_icmp_ne X (tgt := 52) dX6_formula_45 (by decide) (fun c59 => ?_) (fun c59 => ?_)
    · have hf60 := br_n hf32 c59; clear hf32
      refine j_iconst X (v := 0) dX6_formula_52 (by decide) ?_
      refine j_nmi (fun v62 ev62 => ?_)
      replace hf60 := lt_of hf60 v62 ev62
      refine j_istore_n X (lv' := [(2, .int v62), (1, .int r22), (0, .ref (q a0))]) dX6_formula_53 rfl (by decide) rfl ?_
      refine j_aload_n X dX6_formula_54 2 rfl rfl ?_
      refine j_iconst X (v := 0) dX6_formula_55 (by decide) ?_
      refine j_puti X fp_X6_128 h26 dX6_formula_56 (fun σ64 eσ64 => ?_)
      replace hf60 := lt_of hf60 σ64 eσ64
      have h66 : isO σ64 6 a0 := by rw [eσ64]; exact h26
      refine j_iload_n X dX6_formula_59 0 rfl rfl ?_
      refine j_if_ne X (tgt := 71) dX6_formula_60 (by decide) (fun c67 => ?_) (fun c67 => ?_)
      · have hf68 := br_n hf60 c67; clear hf60
        refine j_aload_n X dX6_formula_71 2 rfl rfl ?_
        refine j_geti X fd_X6_122 h66 dX6_formula_72 (fun v70 ev70 => ?_)
        replace hf68 := lt_of hf68 v70 ev70
        refine j_bipush X (v := 6) dX6_formula_75 (by decide) ?_
        refine j_icmp_ne X (tgt := 83) dX6_formula_77 (by decide) (fun c72 => ?_) (fun c72 => ?_)
        · have hf73 := br_n hf68 c72; clear hf68
          refine j_aload_n X dX6_formula_83 2 rfl rfl ?_
          refine j_dup X dX6_formula_84 rfl ?_
          refine j_geti X fd_X6_122 h66 dX6_formula_85 (fun v75 ev75 => ?_)
          replace hf73 := lt_of hf73 v75 ev75
          refine j_iconst X (v := 1) dX6_formula_88 (by decide) ?_
          refine j_iadd X dX6_formula_89 ?_
          refine j_puti X fp_X6_122 h66 dX6_formula_90 (fun σ77 eσ77 => ?_)
          replace hf73 := lt_of hf73 σ77 eσ77
          have h79 : isO σ77 6 a0 := by rw [eσ77]; exact h66
          refine j_aload_n X dX6_formula_93 2 rfl rfl ?_
          refine j_geti X fd_X6_122 h79 dX6_formula_94 (fun v80 ev80 => ?_)
          replace hf73 := lt_of hf73 v80 ev80
          refine j_iconst X (v := 1) dX6_formula_97 (by decide) ?_
          refine j_isub X dX6_formula_98 ?_
          obtain ⟨er, es⟩ := rt_of hf73
          subst er
          exact j_reti X hr hlk (Nat.le_of_ble_eq_true rfl) (Nat.le_of_ble_eq_true rfl) rfl es.symm rfl dX6_formula_99
        · have hf74 := br_y hf68 c72; clear hf68
          refine j_bipush X (v := -4) dX6_formula_80 (by decide) ?_
          obtain ⟨er, es⟩ := rt_of hf74
          subst er
          exact j_reti X hr hlk (Nat.le_of_ble_eq_true rfl) (Nat.le_of_ble_eq_true rfl) rfl es.symm rfl dX6_formula_82
      · have hf69 := br_y hf60 c67; clear hf60
        refine j_bipush X (v := -100) dX6_formula_63 (by decide) ?_
        refine j_aload_n X dX6_formula_65 2 rfl rfl ?_
        refine j_geti X fd_X6_131 h66 dX6_formula_66 (fun v82 ev82 => ?_)
        replace hf69 := lt_of hf69 v82 ev82
        refine j_isub X dX6_formula_69 ?_
        obtain ⟨er, es⟩ := rt_of hf69
        subst er
        exact j_reti X hr hlk (Nat.le_of_ble_eq_true rfl) (Nat.le_of_ble_eq_true rfl) rfl es.symm rfl dX6_formula_70
    · have hf61 := br_y hf32 c59; clear hf32
      refine j_iconst X (v := 1) dX6_formula_48 (by decide) ?_
      refine j_goto X (tgt := 53) dX6_formula_49 (by decide) ?_
      refine j_nmi (fun v84 ev84 => ?_)
      replace hf61 := lt_of hf61 v84 ev84
      refine j_istore_n X (lv' := [(2, .int v84), (1, .int r22), (0, .ref (q a0))]) dX6_formula_53 rfl (by decide) rfl ?_
      refine j_aload_n X dX6_formula_54 2 rfl rfl ?_
      refine j_iconst X (v := 0) dX6_formula_55 (by decide) ?_
      refine j_puti X fp_X6_128 h26 dX6_formula_56 (fun σ86 eσ86 => ?_)
      replace hf61 := lt_of hf61 σ86 eσ86
      have h88 : isO σ86 6 a0 := by rw [eσ86]; exact h26
      refine j_iload_n X dX6_formula_59 0 rfl rfl ?_
      refine j_if_ne X (tgt := 71) dX6_formula_60 (by decide) (fun c89 => ?_) (fun c89 => ?_)
      · have hf90 := br_n hf61 c89; clear hf61
        refine j_aload_n X dX6_formula_71 2 rfl rfl ?_
        refine j_geti X fd_X6_122 h88 dX6_formula_72 (fun v92 ev92 => ?_)
        replace hf90 := lt_of hf90 v92 ev92
        refine j_bipush X (v := 6) dX6_formula_75 (by decide) ?_
        refine j_icmp_ne X (tgt := 83) dX6_formula_77 (by decide) (fun c94 => ?_) (fun c94 => ?_)
        · have hf95 := br_n hf90 c94; clear hf90
          refine j_aload_n X dX6_formula_83 2 rfl rfl ?_
          refine j_dup X dX6_formula_84 rfl ?_
          refine j_geti X fd_X6_122 h88 dX6_formula_85 (fun v97 ev97 => ?_)
          replace hf95 := lt_of hf95 v97 ev97
          refine j_iconst X (v := 1) dX6_formula_88 (by decide) ?_
          refine j_iadd X dX6_formula_89 ?_
          refine j_puti X fp_X6_122 h88 dX6_formula_90 (fun σ99 eσ99 => ?_)
          replace hf95 := lt_of hf95 σ99 eσ99
          have h101 : isO σ99 6 a0 := by rw [eσ99]; exact h88
          refine j_aload_n X dX6_formula_93 2 rfl rfl ?_
          refine j_geti X fd_X6_122 h101 dX6_formula_94 (fun v102 ev102 => ?_)
          replace hf95 := lt_of hf95 v102 ev102
          refine j_iconst X (v := 1) dX6_formula_97 (by decide) ?_
          refine j_isub X dX6_formula_98 ?_
          obtain ⟨er, es⟩ := rt_of hf95
          subst er
          exact j_reti X hr hlk (Nat.le_of_ble_eq_true rfl) (Nat.le_of_ble_eq_true rfl) rfl es.symm rfl dX6_formula_99
        · have hf96 := br_y hf90 c94; clear hf90
          refine j_bipush X (v := -4) dX6_formula_80 (by decide) ?_
          obtain ⟨er, es⟩ := rt_of hf96
          subst er
          exact j_reti X hr hlk (Nat.le_of_ble_eq_true rfl) (Nat.le_of_ble_eq_true rfl) rfl es.symm rfl dX6_formula_82
      · have hf91 := br_y hf61 c89; clear hf61
        refine j_bipush X (v := -100) dX6_formula_63 (by decide) ?_
        refine j_aload_n X dX6_formula_65 2 rfl rfl ?_
        refine j_geti X fd_X6_131 h88 dX6_formula_66 (fun v104 ev104 => ?_)
        replace hf91 := lt_of hf91 v104 ev104
        refine j_isub X dX6_formula_69 ?_
        obtain ⟨er, es⟩ := rt_of hf91
        subst er
        exact j_reti X hr hlk (Nat.le_of_ble_eq_true rfl) (Nat.le_of_ble_eq_true rfl) rfl es.symm rfl dX6_formula_70
abbrev rm_X6_isList : Room := { frames := 1, cells := 0, slots := 0, locals := 64 }
set_option maxHeartbeats 4000000 in
set_option maxRecDepth 100000 in
theorem c_X6_isList (l : Launch) (D : va_G) (cs : Nat → ClassId) (q : Nat → Nat) (a0 : Int32) (σ σ0 : HS) (r0 : Int32) (hf0 : f_X6_isList a0 σ = some (r0, σ0)) : MT l yX6_isList (Cond.code yX6_isList cX6_isList 1 (some .boolean) :: lw_g) rm_X6_isList D cs q σ σ0 [.int a0] (fun z => z = q) (fun _ => some (.int r0)) 0 0 := by
  unfold f_X6_isList at hf0
  refine MT_of (cc := cX6_isList) (lv0 := [(0, .int a0)]) (by decide) (Nat.le_of_ble_eq_true rfl) rfl (fun p e s m args below meth c A X hr hlk hin => ?_)
  refine j_iload_n X dX6_isList_0 0 rfl rfl ?_
  refine j_i2l X dX6_isList_1 ?_
  refine j_lconst X (v := 0) dX6_isList_2 (by decide) ?_
  refine j_ldc2 X k_X6_306 dX6_isList_3 ?_
  obtain ⟨r1, σ2, h3, hf4⟩ := bc_of hf0; clear hf0
  refine j_callS0 X [.long (a0).toInt64, .long (0 : Int64), .long (3 : Int64)] [] (c_X6_isIn l D cs q (a0).toInt64 (0 : Int64) (3 : Int64) σ _ _ h3) mk_X6_isIn ms_X6_isIn ml_X6_97 ⟨rfl, rfl⟩ ⟨Nat.le_of_ble_eq_true rfl, Nat.le_of_ble_eq_true rfl⟩ rfl (Nat.le_of_ble_eq_true rfl) ⟨Nat.le_of_ble_eq_true rfl, Nat.le_of_ble_eq_true rfl⟩ dX6_isList_6 rfl (st' := [.int r1]) rfl ?_
  obtain ⟨h5, hf6⟩ := chk_of hf4; clear hf4
  obtain ⟨er, es⟩ := rt_of hf6
  subst er
  exact j_retz X hr hlk (Nat.le_of_ble_eq_true rfl) (Nat.le_of_ble_eq_true rfl) rfl es.symm rfl h5 dX6_isList_9
abbrev rm_X6_get : Room := { frames := 2, cells := 0, slots := 0, locals := 128 }
set_option maxHeartbeats 4000000 in
set_option maxRecDepth 100000 in
theorem c_X6_get (l : Launch) (D : va_G) (cs : Nat → ClassId) (q : Nat → Nat) (a0 : Nat) (a1 : Int32) (a2 : Int32) (σ σ0 : HS) (r0 : Int64) (hf0 : f_X6_get a0 a1 a2 σ = some (r0, σ0)) : MT l yX6_get (Cond.code yX6_get cX6_get 3 (some .long) :: lw_g) rm_X6_get D cs q σ σ0 [.ref (q a0), .int a1, .int a2] (fun z => z = q) (fun _ => some (.long r0)) 0 0 := by
  unfold f_X6_get at hf0
  refine MT_of (cc := cX6_get) (lv0 := [(0, .ref (q a0)), (1, .int a1), (2, .int a2)]) (by decide) (Nat.le_of_ble_eq_true rfl) rfl (fun p e s m args below meth c A X hr hlk hin => ?_)
  refine j_iload_n X dX6_get_0 1 rfl rfl ?_
  obtain ⟨r1, σ2, h3, hf4⟩ := bc_of hf0; clear hf0
  refine j_callS0 X [.int a1] [] (c_X6_isList l D cs q a1 σ _ _ h3) mk_X6_isList ms_X6_isList ml_X6_308 ⟨rfl, rfl⟩ ⟨Nat.le_of_ble_eq_true rfl, Nat.le_of_ble_eq_true rfl⟩ rfl (Nat.le_of_ble_eq_true rfl) ⟨Nat.le_of_ble_eq_true rfl, Nat.le_of_ble_eq_true rfl⟩ dX6_get_1 rfl (st' := [.int r1]) rfl ?_
  refine j_if_eq X (tgt := 39) dX6_get_4 (by decide) (fun c5 => ?_) (fun c5 => ?_)
  · have hf6 := br_y hf4 c5; clear hf4
    refine j_ldc2 X k_X6_198 dX6_get_39 ?_
    obtain ⟨er, es⟩ := rt_of hf6
    subst er
    exact j_retl X hr hlk (Nat.le_of_ble_eq_true rfl) (Nat.le_of_ble_eq_true rfl) rfl es.symm rfl dX6_get_42
  · have hf7 := br_n hf4 c5; clear hf4
    refine j_iload_n X dX6_get_7 2 rfl rfl ?_
    refine j_i2l X dX6_get_8 ?_
    refine j_lconst X (v := 0) dX6_get_9 (by decide) ?_
    refine j_aload_n X dX6_get_10 0 rfl rfl ?_
    obtain ⟨h8, hf9⟩ := chk_of hf7; clear hf7
    obtain ⟨i10, h11, hf12⟩ := bd_of hf9; clear hf9
    refine j_getr X fd_X6_89 h8 h11 dX6_get_11 ?_
    refine j_iload_n X dX6_get_14 1 rfl rfl ?_
    obtain ⟨h13, hf14⟩ := chk_of hf12; clear hf12
    refine j_iald X h13 dX6_get_15 (fun v15 ev15 => ?_)
    replace hf14 := lt_of hf14 v15 ev15
    refine j_iconst X (v := 1) dX6_get_16 (by decide) ?_
    refine j_isub X dX6_get_17 ?_
    refine j_i2l X dX6_get_18 ?_
    obtain ⟨r17, σ18, h19, hf20⟩ := bc_of hf14; clear hf14
    refine j_callS0 X [.long (a2).toInt64, .long (0 : Int64), .long ((v15 - (1 : Int32))).toInt64] [] (c_X6_isIn l D cs q (a2).toInt64 (0 : Int64) ((v15 - (1 : Int32))).toInt64 σ2 _ _ h19) mk_X6_isIn ms_X6_isIn ml_X6_97 ⟨rfl, rfl⟩ ⟨Nat.le_of_ble_eq_true rfl, Nat.le_of_ble_eq_true rfl⟩ rfl (Nat.le_of_ble_eq_true rfl) ⟨Nat.le_of_ble_eq_true rfl, Nat.le_of_ble_eq_true rfl⟩ dX6_get_19 rfl (st' := [.int r17]) rfl ?_
    refine j_if_eq X (tgt := 39) dX6_get_22 (by decide) (fun c21 => ?_) (fun c21 => ?_)
    · have hf22 := br_y hf20 c21; clear hf20
      refine j_ldc2 X k_X6_198 dX6_get_39 ?_
      obtain ⟨er, es⟩ := rt_of hf22
      subst er
      exact j_retl X hr hlk (Nat.le_of_ble_eq_true rfl) (Nat.le_of_ble_eq_true rfl) rfl es.symm rfl dX6_get_42
    · have hf23 := br_n hf20 c21; clear hf20
      refine j_aload_n X dX6_get_25 0 rfl rfl ?_
      obtain ⟨h24, hf25⟩ := chk_of hf23; clear hf23
      obtain ⟨i26, h27, hf28⟩ := bd_of hf25; clear hf25
      refine j_getr X fd_X6_92 h24 h27 dX6_get_26 ?_
      refine j_bipush X (v := 8) dX6_get_29 (by decide) ?_
      refine j_iload_n X dX6_get_31 1 rfl rfl ?_
      refine j_imul X dX6_get_32 ?_
      refine j_iload_n X dX6_get_33 2 rfl rfl ?_
      refine j_iadd X dX6_get_34 ?_
      obtain ⟨h29, hf30⟩ := chk_of hf28; clear hf28
      refine j_lald X h29 dX6_get_35 (fun v31 ev31 => ?_)
      replace hf30 := lt_of hf30 v31 ev31
      refine j_goto X (tgt := 42) dX6_get_36 (by decide) ?_
      obtain ⟨er, es⟩ := rt_of hf30
      subst er
      exact j_retl X hr hlk (Nat.le_of_ble_eq_true rfl) (Nat.le_of_ble_eq_true rfl) rfl es.symm rfl dX6_get_42
abbrev rm_X6_goesWay : Room := { frames := 1, cells := 0, slots := 0, locals := 64 }
set_option maxHeartbeats 4000000 in
set_option maxRecDepth 100000 in
theorem c_X6_goesWay (l : Launch) (D : va_G) (cs : Nat → ClassId) (q : Nat → Nat) (a0 : Nat) (a1 : Int32) (σ σ0 : HS) (r0 : Unit) (hf0 : f_X6_goesWay a0 a1 σ = some (r0, σ0)) : MT l yX6_goesWay (Cond.code yX6_goesWay cX6_goesWay 6 none :: lw_g) rm_X6_goesWay D cs q σ σ0 [.ref (q a0), .int a1] (fun z => z = q) (fun _ => none) 0 0 := by
  unfold f_X6_goesWay at hf0
  refine MT_of (cc := cX6_goesWay) (lv0 := [(0, .ref (q a0)), (1, .int a1)]) (by decide) (Nat.le_of_ble_eq_true rfl) rfl (fun p e s m args below meth c A X hr hlk hin => ?_)
  have L23 : ∀ (K8 : Nat → Int32 → Int32 → Int32 → HS → Option (Unit × HS)) (hK8 : ∀ (x0 : Nat) (x1 : Int32) (x2 : Int32) (x3 : Int32) (τ : HS), K8 x0 x1 x2 x3 τ = some (r0, σ0) → J p l e rm_X6_goesWay s m args below meth c 6 D cs A s.heap 0 0 (MQ below (hQ D cs (fun z => z = q) (fun _ => none) σ0 A) args s 0 0 A) q τ [(0, .ref (q x0)), (1, .int x1), (2, .int x2), (3, .int x3)] 8 []), ∀ (nk : Nat) (x0 : Nat) (x1 : Int32) (x2 : Int32) (x3 : Int32) (x4 : Int32) (x5 : Int32) (τ : HS), lp_X6_goesWay_23 K8 nk x0 x1 x2 x3 x4 x5 τ = some (r0, σ0) → J p l e rm_X6_goesWay s m args below meth c 6 D cs A s.heap 0 0 (MQ below (hQ D cs (fun z => z = q) (fun _ => none) σ0 A) args s 0 0 A) q τ [(0, .ref (q x0)), (1, .int x1), (2, .int x2), (3, .int x3), (4, .int x4), (5, .int x5)] 23 [] := by
    intro K8 hK8
    intro nk
    induction nk with
    | zero => intro x0 x1 x2 x3 x4 x5 τ hf0; have hf1 : (none : Option (Unit × HS)) = some (r0, σ0) := hf0; cases hf1
    | succ nk ih =>
      intro x0 x1 x2 x3 x4 x5 τ hf0
      replace hf0 : lp_X6_goesWay_23_b K8 (lp_X6_goesWay_23 K8 nk) x0 x1 x2 x3 x4 x5 τ = some (r0, σ0) := hf0
      unfold lp_X6_goesWay_23_b at hf0
      refine j_iload X dX6_goesWay_23 5 rfl ?_
      refine j_if_le X (tgt := 50) dX6_goesWay_25 (by decide) (fun c21 => ?_) (fun c21 => ?_)
      · have hf22 := br_y hf0 c21; clear hf0
        refine j_aload_n X dX6_goesWay_50 0 rfl rfl ?_
        obtain ⟨h24, hf25⟩ := chk_of hf22; clear hf22
        obtain ⟨i26, h27, hf28⟩ := bd_of hf25; clear hf25
        refine j_getr X fd_X6_68 h24 h27 dX6_goesWay_51 ?_
        refine j_iconst X (v := 0) dX6_goesWay_54 (by decide) ?_
        refine j_aload_n X dX6_goesWay_55 0 rfl rfl ?_
        obtain ⟨i29, h30, hf31⟩ := bd_of hf28; clear hf28
        refine j_getr X fd_X6_27 h24 h30 dX6_goesWay_56 ?_
        refine j_iload X dX6_goesWay_59 4 rfl ?_
        obtain ⟨h32, hf33⟩ := chk_of hf31; clear hf31
        refine j_iald X h32 dX6_goesWay_61 (fun v34 ev34 => ?_)
        replace hf33 := lt_of hf33 v34 ev34
        obtain ⟨h36, hf37⟩ := chk_of hf33; clear hf33
        refine j_iast X h36 dX6_goesWay_62 (fun σ38 eσ38 => ?_)
        replace hf37 := lt_of hf37 σ38 eσ38
        have h40 : isO σ38 6 x0 := by rw [eσ38]; exact h24
        obtain ⟨v41, ev41⟩ : ∃ y : Int32, y = x2 + (1 : Int32) := ⟨_, rfl⟩
        replace hf37 := lt_of hf37 v41 ev41
        refine j_iinc X (v := v41) (lv' := [(2, .int v41), (0, .ref (q x0)), (1, .int x1), (3, .int x3), (4, .int x4), (5, .int x5)]) dX6_goesWay_63 2 rfl (by rw [ev41]; rfl) (by decide) rfl ?_
        refine j_aload_n X dX6_goesWay_66 1 rfl rfl ?_
        obtain ⟨i43, h44, hf45⟩ := bd_of hf37; clear hf37
        refine j_getr X fd_X6_64 h40 h44 dX6_goesWay_67 ?_
        refine j_aload_n X dX6_goesWay_70 1 rfl rfl ?_
        obtain ⟨i46, h47, hf48⟩ := bd_of hf45; clear hf45
        refine j_getr X fd_X6_21 h40 h47 dX6_goesWay_71 ?_
        refine j_iload X dX6_goesWay_74 4 rfl ?_
        obtain ⟨h49, hf50⟩ := chk_of hf48; clear hf48
        refine j_iald X h49 dX6_goesWay_76 (fun v51 ev51 => ?_)
        replace hf50 := lt_of hf50 v51 ev51
        obtain ⟨h53, hf54⟩ := chk_of hf50; clear hf50
        refine j_zald X h53 dX6_goesWay_77 (fun v55 ev55 => ?_)
        replace hf54 := lt_of hf54 v55 ev55
        refine j_if_eq X (tgt := 102) dX6_goesWay_78 (by decide) (fun c57 => ?_) (fun c57 => ?_)
        · have hf58 := br_y hf54 c57; clear hf54
          refine j_aload_n X dX6_goesWay_102 1 rfl rfl ?_
          obtain ⟨i60, h61, hf62⟩ := bd_of hf58; clear hf58
          refine j_getr X fd_X6_18 h40 h61 dX6_goesWay_103 ?_
          refine j_iload X dX6_goesWay_106 4 rfl ?_
          obtain ⟨h63, hf64⟩ := chk_of hf62; clear hf62
          refine j_iald X h63 dX6_goesWay_108 (fun v65 ev65 => ?_)
          replace hf64 := lt_of hf64 v65 ev65
          refine j_iconst X (v := 2) dX6_goesWay_109 (by decide) ?_
          refine j_icmp_le X (tgt := 138) dX6_goesWay_110 (by decide) (fun c67 => ?_) (fun c67 => ?_)
          · have hf68 := br_y hf64 c67; clear hf64
            refine j_iconst X (v := -1) dX6_goesWay_138 (by decide) ?_
            refine j_nmi (fun v70 ev70 => ?_)
            replace hf68 := lt_of hf68 v70 ev70
            refine j_istore_n X (lv' := [(3, .int v70), (2, .int v41), (0, .ref (q x0)), (1, .int x1), (4, .int x4), (5, .int x5)]) dX6_goesWay_139 rfl (by decide) rfl ?_
            refine j_goto X (tgt := 8) dX6_goesWay_140 (by decide) ?_
            refine j_lvsub [2, 3, 1, 0] (lv' := [(0, .ref (q x0)), (1, .int x1), (2, .int v41), (3, .int v70)]) rfl ?_
            exact hK8 x0 x1 v41 v70 σ38 hf68
          · have hf69 := br_n hf64 c67; clear hf64
            refine j_aload_n X dX6_goesWay_113 1 rfl rfl ?_
            refine j_getr X fd_X6_64 h40 h44 dX6_goesWay_114 ?_
            refine j_aload_n X dX6_goesWay_117 1 rfl rfl ?_
            obtain ⟨i75, h76, hf77⟩ := bd_of hf69; clear hf69
            refine j_getr X fd_X6_24 h40 h76 dX6_goesWay_118 ?_
            refine j_iload X dX6_goesWay_121 4 rfl ?_
            obtain ⟨h78, hf79⟩ := chk_of hf77; clear hf77
            refine j_iald X h78 dX6_goesWay_123 (fun v80 ev80 => ?_)
            replace hf79 := lt_of hf79 v80 ev80
            obtain ⟨h82, hf83⟩ := chk_of hf79; clear hf79
            refine j_zald X h82 dX6_goesWay_124 (fun v84 ev84 => ?_)
            replace hf83 := lt_of hf83 v84 ev84
            refine j_if_eq X (tgt := 138) dX6_goesWay_125 (by decide) (fun c86 => ?_) (fun c86 => ?_)
            · have hf87 := br_y hf83 c86; clear hf83
              refine j_iconst X (v := -1) dX6_goesWay_138 (by decide) ?_
              refine j_nmi (fun v89 ev89 => ?_)
              replace hf87 := lt_of hf87 v89 ev89
              refine j_istore_n X (lv' := [(3, .int v89), (2, .int v41), (0, .ref (q x0)), (1, .int x1), (4, .int x4), (5, .int x5)]) dX6_goesWay_139 rfl (by decide) rfl ?_
              refine j_goto X (tgt := 8) dX6_goesWay_140 (by decide) ?_
              refine j_lvsub [2, 3, 1, 0] (lv' := [(0, .ref (q x0)), (1, .int x1), (2, .int v41), (3, .int v89)]) rfl ?_
              exact hK8 x0 x1 v41 v89 σ38 hf87
            · have hf88 := br_n hf83 c86; clear hf83
              refine j_aload_n X dX6_goesWay_128 1 rfl rfl ?_
              refine j_getr X fd_X6_24 h40 h76 dX6_goesWay_129 ?_
              refine j_iload X dX6_goesWay_132 4 rfl ?_
              obtain ⟨h94, hf95⟩ := chk_of hf88; clear hf88
              refine j_iald X h94 dX6_goesWay_134 (fun v96 ev96 => ?_)
              replace hf95 := lt_of hf95 v96 ev96
              refine j_goto X (tgt := 139) dX6_goesWay_135 (by decide) ?_
              refine j_istore_n X (lv' := [(3, .int v96), (2, .int v41), (0, .ref (q x0)), (1, .int x1), (4, .int x4), (5, .int x5)]) dX6_goesWay_139 rfl (by decide) rfl ?_
              refine j_goto X (tgt := 8) dX6_goesWay_140 (by decide) ?_
              refine j_lvsub [2, 3, 1, 0] (lv' := [(0, .ref (q x0)), (1, .int x1), (2, .int v41), (3, .int v96)]) rfl ?_
              exact hK8 x0 x1 v41 v96 σ38 hf95
        · have hf59 := br_n hf54 c57; clear hf54
          refine j_aload_n X dX6_goesWay_81 1 rfl rfl ?_
          obtain ⟨i98, h99, hf100⟩ := bd_of hf59; clear hf59
          refine j_getr X fd_X6_18 h40 h99 dX6_goesWay_82 ?_
          refine j_iload X dX6_goesWay_85 4 rfl ?_
          obtain ⟨h101, hf102⟩ := chk_of hf100; clear hf100
          refine j_iald X h101 dX6_goesWay_87 (fun v103 ev103 => ?_)
          replace hf102 := lt_of hf102 v103 ev103
          refine j_iconst X (v := 1) dX6_goesWay_88 (by decide) ?_
          refine j_icmp_le X (tgt := 102) dX6_goesWay_89 (by decide) (fun c105 => ?_) (fun c105 => ?_)
          · have hf106 := br_y hf102 c105; clear hf102
            refine j_aload_n X dX6_goesWay_102 1 rfl rfl ?_
            refine j_getr X fd_X6_18 h40 h99 dX6_goesWay_103 ?_
            refine j_iload X dX6_goesWay_106 4 rfl ?_
            obtain ⟨h111, hf112⟩ := chk_of hf106; clear hf106
            refine j_iald X h111 dX6_goesWay_108 (fun v113 ev113 => ?_)
            replace hf112 := lt_of hf112 v113 ev113
            refine j_iconst X (v := 2) dX6_goesWay_109 (by decide) ?_
            refine j_icmp_le X (tgt := 138) dX6_goesWay_110 (by decide) (fun c115 => ?_) (fun c115 => ?_)
            · have hf116 := br_y hf112 c115; clear hf112
              refine j_iconst X (v := -1) dX6_goesWay_138 (by decide) ?_
              refine j_nmi (fun v118 ev118 => ?_)
              replace hf116 := lt_of hf116 v118 ev118
              refine j_istore_n X (lv' := [(3, .int v118), (2, .int v41), (0, .ref (q x0)), (1, .int x1), (4, .int x4), (5, .int x5)]) dX6_goesWay_139 rfl (by decide) rfl ?_
              refine j_goto X (tgt := 8) dX6_goesWay_140 (by decide) ?_
              refine j_lvsub [2, 3, 1, 0] (lv' := [(0, .ref (q x0)), (1, .int x1), (2, .int v41), (3, .int v118)]) rfl ?_
              exact hK8 x0 x1 v41 v118 σ38 hf116
            · have hf117 := br_n hf112 c115; clear hf112
              refine j_aload_n X dX6_goesWay_113 1 rfl rfl ?_
              refine j_getr X fd_X6_64 h40 h44 dX6_goesWay_114 ?_
              refine j_aload_n X dX6_goesWay_117 1 rfl rfl ?_
              obtain ⟨i123, h124, hf125⟩ := bd_of hf117; clear hf117
              refine j_getr X fd_X6_24 h40 h124 dX6_goesWay_118 ?_
              refine j_iload X dX6_goesWay_121 4 rfl ?_
              obtain ⟨h126, hf127⟩ := chk_of hf125; clear hf125
              refine j_iald X h126 dX6_goesWay_123 (fun v128 ev128 => ?_)
              replace hf127 := lt_of hf127 v128 ev128
              obtain ⟨h130, hf131⟩ := chk_of hf127; clear hf127
              refine j_zald X h130 dX6_goesWay_124 (fun v132 ev132 => ?_)
              replace hf131 := lt_of hf131 v132 ev132
              refine j_if_eq X (tgt := 138) dX6_goesWay_125 (by decide) (fun c134 => ?_) (fun c134 => ?_)
              · have hf135 := br_y hf131 c134; clear hf131
                refine j_iconst X (v := -1) dX6_goesWay_138 (by decide) ?_
                refine j_nmi (fun v137 ev137 => ?_)
                replace hf135 := lt_of hf135 v137 ev137
                refine j_istore_n X (lv' := [(3, .int v137), (2, .int v41), (0, .ref (q x0)), (1, .int x1), (4, .int x4), (5, .int x5)]) dX6_goesWay_139 rfl (by decide) rfl ?_
                refine j_goto X (tgt := 8) dX6_goesWay_140 (by decide) ?_
                refine j_lvsub [2, 3, 1, 0] (lv' := [(0, .ref (q x0)), (1, .int x1), (2, .int v41), (3, .int v137)]) rfl ?_
                exact hK8 x0 x1 v41 v137 σ38 hf135
              · have hf136 := br_n hf131 c134; clear hf131
                refine j_aload_n X dX6_goesWay_128 1 rfl rfl ?_
                refine j_getr X fd_X6_24 h40 h124 dX6_goesWay_129 ?_
                refine j_iload X dX6_goesWay_132 4 rfl ?_
                obtain ⟨h142, hf143⟩ := chk_of hf136; clear hf136
                refine j_iald X h142 dX6_goesWay_134 (fun v144 ev144 => ?_)
                replace hf143 := lt_of hf143 v144 ev144
                refine j_goto X (tgt := 139) dX6_goesWay_135 (by decide) ?_
                refine j_istore_n X (lv' := [(3, .int v144), (2, .int v41), (0, .ref (q x0)), (1, .int x1), (4, .int x4), (5, .int x5)]) dX6_goesWay_139 rfl (by decide) rfl ?_
                refine j_goto X (tgt := 8) dX6_goesWay_140 (by decide) ?_
                refine j_lvsub [2, 3, 1, 0] (lv' := [(0, .ref (q x0)), (1, .int x1), (2, .int v41), (3, .int v144)]) rfl ?_
                exact hK8 x0 x1 v41 v144 σ38 hf143
          · have hf107 := br_n hf102 c105; clear hf102
            refine j_aload_n X dX6_goesWay_92 1 rfl rfl ?_
            refine j_getr X fd_X6_21 h40 h47 dX6_goesWay_93 ?_
            refine j_iload X dX6_goesWay_96 4 rfl ?_
            obtain ⟨h149, hf150⟩ := chk_of hf107; clear hf107
            refine j_iald X h149 dX6_goesWay_98 (fun v151 ev151 => ?_)
            replace hf150 := lt_of hf150 v151 ev151
            refine j_goto X (tgt := 139) dX6_goesWay_99 (by decide) ?_
            refine j_istore_n X (lv' := [(3, .int v151), (2, .int v41), (0, .ref (q x0)), (1, .int x1), (4, .int x4), (5, .int x5)]) dX6_goesWay_139 rfl (by decide) rfl ?_
            refine j_goto X (tgt := 8) dX6_goesWay_140 (by decide) ?_
            refine j_lvsub [2, 3, 1, 0] (lv' := [(0, .ref (q x0)), (1, .int x1), (2, .int v41), (3, .int v151)]) rfl ?_
            exact hK8 x0 x1 v41 v151 σ38 hf150
      · have hf23 := br_n hf0 c21; clear hf0
        refine j_aload_n X dX6_goesWay_28 0 rfl rfl ?_
        obtain ⟨h153, hf154⟩ := chk_of hf23; clear hf23
        obtain ⟨i155, h156, hf157⟩ := bd_of hf154; clear hf154
        refine j_getr X fd_X6_68 h153 h156 dX6_goesWay_29 ?_
        refine j_iload X dX6_goesWay_32 5 rfl ?_
        refine j_aload_n X dX6_goesWay_34 0 rfl rfl ?_
        refine j_getr X fd_X6_68 h153 h156 dX6_goesWay_35 ?_
        refine j_iload X dX6_goesWay_38 5 rfl ?_
        refine j_iconst X (v := 1) dX6_goesWay_40 (by decide) ?_
        refine j_isub X dX6_goesWay_41 ?_
        obtain ⟨h161, hf162⟩ := chk_of hf157; clear hf157
        refine j_iald X h161 dX6_goesWay_42 (fun v163 ev163 => ?_)
        replace hf162 := lt_of hf162 v163 ev163
        obtain ⟨h165, hf166⟩ := chk_of hf162; clear hf162
        refine j_iast X h165 dX6_goesWay_43 (fun σ167 eσ167 => ?_)
        replace hf166 := lt_of hf166 σ167 eσ167
        have h169 : isO σ167 6 x0 := by rw [eσ167]; exact h153
        obtain ⟨v170, ev170⟩ : ∃ y : Int32, y = x5 + (-1 : Int32) := ⟨_, rfl⟩
        replace hf166 := lt_of hf166 v170 ev170
        refine j_iinc X (v := v170) (lv' := [(5, .int v170), (0, .ref (q x0)), (1, .int x1), (2, .int x2), (3, .int x3), (4, .int x4)]) dX6_goesWay_44 5 rfl (by rw [ev170]; rfl) (by decide) rfl ?_
        refine j_goto X (tgt := 23) dX6_goesWay_47 (by decide) ?_
        refine j_lvsub [1, 2, 3, 4, 5, 0] (lv' := [(0, .ref (q x0)), (1, .int x1), (2, .int x2), (3, .int x3), (4, .int x4), (5, .int v170)]) rfl ?_
        exact ih x0 x1 x2 x3 x4 v170 σ167 hf166
  have L8 : ∀ (nk : Nat) (x0 : Nat) (x1 : Int32) (x2 : Int32) (x3 : Int32) (τ : HS), lp_X6_goesWay_8  nk x0 x1 x2 x3 τ = some (r0, σ0) → J p l e rm_X6_goesWay s m args below meth c 6 D cs A s.heap 0 0 (MQ below (hQ D cs (fun z => z = q) (fun _ => none) σ0 A) args s 0 0 A) q τ [(0, .ref (q x0)), (1, .int x1), (2, .int x2), (3, .int x3)] 8 [] := by
    intro nk
    induction nk with
    | zero => intro x0 x1 x2 x3 τ hf0; have hf1 : (none : Option (Unit × HS)) = some (r0, σ0) := hf0; cases hf1
    | succ nk ih =>
      intro x0 x1 x2 x3 τ hf0
      replace hf0 : lp_X6_goesWay_8_b  (lp_X6_goesWay_8  nk) x0 x1 x2 x3 τ = some (r0, σ0) := hf0
      unfold lp_X6_goesWay_8_b at hf0
      refine j_iload_n X dX6_goesWay_8 3 rfl rfl ?_
      refine j_iconst X (v := -1) dX6_goesWay_9 (by decide) ?_
      refine j_icmp_eq X (tgt := 143) dX6_goesWay_10 (by decide) (fun c9 => ?_) (fun c9 => ?_)
      · have hf10 := br_y hf0 c9; clear hf0
        refine j_aload_n X dX6_goesWay_143 0 rfl rfl ?_
        refine j_iload_n X dX6_goesWay_144 2 rfl rfl ?_
        obtain ⟨h12, hf13⟩ := chk_of hf10; clear hf10
        refine j_puti X fp_X6_251 h12 dX6_goesWay_145 (fun σ14 eσ14 => ?_)
        replace hf13 := lt_of hf13 σ14 eσ14
        have h16 : isO σ14 6 x0 := by rw [eσ14]; exact h12
        obtain ⟨er, es⟩ := rt_of hf13
        exact j_retv X hr hlk (Nat.le_of_ble_eq_true rfl) (Nat.le_of_ble_eq_true rfl) rfl es.symm rfl dX6_goesWay_148
      · have hf11 := br_n hf0 c9; clear hf0
        refine j_iload_n X dX6_goesWay_13 1 rfl rfl ?_
        refine j_iload_n X dX6_goesWay_14 3 rfl rfl ?_
        obtain ⟨r17, σ18, h19, hf20⟩ := bc_of hf11; clear hf11
        refine j_callS0 X [.int x1, .int x3] [] (c_X6_at l D cs q x1 x3 τ _ _ h19) mk_X6_at ms_X6_at ml_X6_134 ⟨rfl, rfl⟩ ⟨Nat.le_of_ble_eq_true rfl, Nat.le_of_ble_eq_true rfl⟩ rfl (Nat.le_of_ble_eq_true rfl) ⟨Nat.le_of_ble_eq_true rfl, Nat.le_of_ble_eq_true rfl⟩ dX6_goesWay_15 rfl (st' := [.int r17]) rfl ?_
        refine j_istore X (lv' := [(4, .int r17), (0, .ref (q x0)), (1, .int x1), (2, .int x2), (3, .int x3)]) dX6_goesWay_18 (by decide) rfl ?_
        refine j_iload_n X dX6_goesWay_20 3 rfl rfl ?_
        refine j_istore X (lv' := [(5, .int x2), (4, .int r17), (0, .ref (q x0)), (1, .int x1), (2, .int x2), (3, .int x3)]) dX6_goesWay_21 (by decide) rfl ?_
        refine j_lvsub [2, 3, 4, 5, 1, 0] (lv' := [(0, .ref (q x0)), (1, .int x1), (2, .int x2), (3, .int x3), (4, .int r17), (5, .int x2)]) rfl ?_
        exact L23 _ (ih) 1000 x0 x1 x2 x3 r17 x2 σ18 hf20
  refine j_iconst X (v := 0) dX6_goesWay_0 (by decide) ?_
  refine j_nmi (fun v1 ev1 => ?_)
  replace hf0 := lt_of hf0 v1 ev1
  refine j_istore_n X (lv' := [(2, .int v1), (0, .ref (q a0)), (1, .int a1)]) dX6_goesWay_1 rfl (by decide) rfl ?_
  refine j_aload_n X dX6_goesWay_2 1 rfl rfl ?_
  refine j_iload_n X dX6_goesWay_3 2 rfl rfl ?_
  obtain ⟨h3, hf4⟩ := chk_of hf0; clear hf0
  obtain ⟨r5, σ6, h7, hf8⟩ := bc_of hf4; clear hf4
  refine j_callV0 X [.int a1] [] (c_X6_rootOf l D cs q a0 a1 σ _ _ h7) mk_X6_rootOf mv_X6_rootOf ml_X6_190 h3 rfl (by decide) ⟨rfl, rfl⟩ ⟨Nat.le_of_ble_eq_true rfl, Nat.le_of_ble_eq_true rfl⟩ rfl (Nat.le_of_ble_eq_true rfl) ⟨Nat.le_of_ble_eq_true rfl, Nat.le_of_ble_eq_true rfl⟩ dX6_goesWay_4 rfl (st' := [.int r5]) rfl ?_
  refine j_istore_n X (lv' := [(3, .int r5), (2, .int v1), (0, .ref (q a0)), (1, .int a1)]) dX6_goesWay_7 rfl (by decide) rfl ?_
  refine j_lvsub [2, 3, 1, 0] (lv' := [(0, .ref (q a0)), (1, .int a1), (2, .int v1), (3, .int r5)]) rfl ?_
  exact L8  1000 a0 a1 v1 r5 σ6 hf8
abbrev rm_X6_image : Room := { frames := 2, cells := 0, slots := 0, locals := 128 }
set_option maxHeartbeats 4000000 in
set_option maxRecDepth 100000 in
theorem c_X6_image (l : Launch) (D : va_G) (cs : Nat → ClassId) (q : Nat → Nat) (a0 : Nat) (σ σ0 : HS) (r0 : Int32) (hf0 : f_X6_image a0 σ = some (r0, σ0)) : MT l yX6_image (Cond.code yX6_image cX6_image 1 (some .int) :: lw_g) rm_X6_image D cs q σ σ0 [.ref (q a0)] (fun z => z = q) (fun _ => some (.int r0)) 0 0 := by
  unfold f_X6_image at hf0
  refine MT_of (cc := cX6_image) (lv0 := [(0, .ref (q a0))]) (by decide) (Nat.le_of_ble_eq_true rfl) rfl (fun p e s m args below meth c A X hr hlk hin => ?_)
  refine j_aload_n X dX6_image_0 0 rfl rfl ?_
  obtain ⟨h1, hf2⟩ := chk_of hf0; clear hf0
  obtain ⟨i3, h4, hf5⟩ := bd_of hf2; clear hf2
  refine j_getr X fd_X6_11 h1 h4 dX6_image_1 ?_
  refine j_aload_n X dX6_image_4 0 rfl rfl ?_
  obtain ⟨i6, h7, hf8⟩ := bd_of hf5; clear hf5
  refine j_getr X fd_X6_15 h1 h7 dX6_image_5 ?_
  refine j_bipush X (v := 18) dX6_image_8 (by decide) ?_
  obtain ⟨r9, σ10, h11, hf12⟩ := bc_of hf8; clear hf8
  refine j_callS0 X [.ref (q i3), .ref (q i6), .int (18 : Int32)] [] (c_X6_copies l D cs q i3 i6 (18 : Int32) σ _ _ h11) mk_X6_copies ms_X6_copies ml_X6_311 ⟨rfl, rfl⟩ ⟨Nat.le_of_ble_eq_true rfl, Nat.le_of_ble_eq_true rfl⟩ rfl (Nat.le_of_ble_eq_true rfl) ⟨Nat.le_of_ble_eq_true rfl, Nat.le_of_ble_eq_true rfl⟩ dX6_image_10 rfl (st' := []) rfl ?_
  refine j_aload_n X dX6_image_13 0 rfl rfl ?_
  obtain ⟨h13, hf14⟩ := chk_of hf12; clear hf12
  obtain ⟨i15, h16, hf17⟩ := bd_of hf14; clear hf14
  refine j_getr X fd_X6_18 h13 h16 dX6_image_14 ?_
  refine j_aload_n X dX6_image_17 0 rfl rfl ?_
  obtain ⟨i18, h19, hf20⟩ := bd_of hf17; clear hf17
  refine j_getr X fd_X6_33 h13 h19 dX6_image_18 ?_
  refine j_sipush X (v := 360) dX6_image_21 (by decide) ?_
  obtain ⟨r21, σ22, h23, hf24⟩ := bc_of hf20; clear hf20
  refine j_callS0 X [.ref (q i15), .ref (q i18), .int (360 : Int32)] [] (c_X6_copies l D cs q i15 i18 (360 : Int32) σ10 _ _ h23) mk_X6_copies ms_X6_copies ml_X6_311 ⟨rfl, rfl⟩ ⟨Nat.le_of_ble_eq_true rfl, Nat.le_of_ble_eq_true rfl⟩ rfl (Nat.le_of_ble_eq_true rfl) ⟨Nat.le_of_ble_eq_true rfl, Nat.le_of_ble_eq_true rfl⟩ dX6_image_24 rfl (st' := []) rfl ?_
  refine j_aload_n X dX6_image_27 0 rfl rfl ?_
  obtain ⟨h25, hf26⟩ := chk_of hf24; clear hf24
  obtain ⟨i27, h28, hf29⟩ := bd_of hf26; clear hf26
  refine j_getr X fd_X6_21 h25 h28 dX6_image_28 ?_
  refine j_aload_n X dX6_image_31 0 rfl rfl ?_
  obtain ⟨i30, h31, hf32⟩ := bd_of hf29; clear hf29
  refine j_getr X fd_X6_36 h25 h31 dX6_image_32 ?_
  refine j_sipush X (v := 360) dX6_image_35 (by decide) ?_
  obtain ⟨r33, σ34, h35, hf36⟩ := bc_of hf32; clear hf32
  refine j_callS0 X [.ref (q i27), .ref (q i30), .int (360 : Int32)] [] (c_X6_copies l D cs q i27 i30 (360 : Int32) σ22 _ _ h35) mk_X6_copies ms_X6_copies ml_X6_311 ⟨rfl, rfl⟩ ⟨Nat.le_of_ble_eq_true rfl, Nat.le_of_ble_eq_true rfl⟩ rfl (Nat.le_of_ble_eq_true rfl) ⟨Nat.le_of_ble_eq_true rfl, Nat.le_of_ble_eq_true rfl⟩ dX6_image_38 rfl (st' := []) rfl ?_
  refine j_aload_n X dX6_image_41 0 rfl rfl ?_
  obtain ⟨h37, hf38⟩ := chk_of hf36; clear hf36
  obtain ⟨i39, h40, hf41⟩ := bd_of hf38; clear hf38
  refine j_getr X fd_X6_24 h37 h40 dX6_image_42 ?_
  refine j_aload_n X dX6_image_45 0 rfl rfl ?_
  obtain ⟨i42, h43, hf44⟩ := bd_of hf41; clear hf41
  refine j_getr X fd_X6_39 h37 h43 dX6_image_46 ?_
  refine j_sipush X (v := 360) dX6_image_49 (by decide) ?_
  obtain ⟨r45, σ46, h47, hf48⟩ := bc_of hf44; clear hf44
  refine j_callS0 X [.ref (q i39), .ref (q i42), .int (360 : Int32)] [] (c_X6_copies l D cs q i39 i42 (360 : Int32) σ34 _ _ h47) mk_X6_copies ms_X6_copies ml_X6_311 ⟨rfl, rfl⟩ ⟨Nat.le_of_ble_eq_true rfl, Nat.le_of_ble_eq_true rfl⟩ rfl (Nat.le_of_ble_eq_true rfl) ⟨Nat.le_of_ble_eq_true rfl, Nat.le_of_ble_eq_true rfl⟩ dX6_image_52 rfl (st' := []) rfl ?_
  refine j_aload_n X dX6_image_55 0 rfl rfl ?_
  obtain ⟨h49, hf50⟩ := chk_of hf48; clear hf48
  obtain ⟨i51, h52, hf53⟩ := bd_of hf50; clear hf50
  refine j_getr X fd_X6_27 h49 h52 dX6_image_56 ?_
  refine j_aload_n X dX6_image_59 0 rfl rfl ?_
  obtain ⟨i54, h55, hf56⟩ := bd_of hf53; clear hf53
  refine j_getr X fd_X6_42 h49 h55 dX6_image_60 ?_
  refine j_sipush X (v := 360) dX6_image_63 (by decide) ?_
  obtain ⟨r57, σ58, h59, hf60⟩ := bc_of hf56; clear hf56
  refine j_callS0 X [.ref (q i51), .ref (q i54), .int (360 : Int32)] [] (c_X6_copies l D cs q i51 i54 (360 : Int32) σ46 _ _ h59) mk_X6_copies ms_X6_copies ml_X6_311 ⟨rfl, rfl⟩ ⟨Nat.le_of_ble_eq_true rfl, Nat.le_of_ble_eq_true rfl⟩ rfl (Nat.le_of_ble_eq_true rfl) ⟨Nat.le_of_ble_eq_true rfl, Nat.le_of_ble_eq_true rfl⟩ dX6_image_66 rfl (st' := []) rfl ?_
  refine j_aload_n X dX6_image_69 0 rfl rfl ?_
  obtain ⟨h61, hf62⟩ := chk_of hf60; clear hf60
  obtain ⟨i63, h64, hf65⟩ := bd_of hf62; clear hf62
  refine j_getr X fd_X6_30 h61 h64 dX6_image_70 ?_
  refine j_aload_n X dX6_image_73 0 rfl rfl ?_
  obtain ⟨i66, h67, hf68⟩ := bd_of hf65; clear hf65
  refine j_getr X fd_X6_45 h61 h67 dX6_image_74 ?_
  refine j_bipush X (v := 6) dX6_image_77 (by decide) ?_
  obtain ⟨r69, σ70, h71, hf72⟩ := bc_of hf68; clear hf68
  refine j_callS0 X [.ref (q i63), .ref (q i66), .int (6 : Int32)] [] (c_X6_copies l D cs q i63 i66 (6 : Int32) σ58 _ _ h71) mk_X6_copies ms_X6_copies ml_X6_311 ⟨rfl, rfl⟩ ⟨Nat.le_of_ble_eq_true rfl, Nat.le_of_ble_eq_true rfl⟩ rfl (Nat.le_of_ble_eq_true rfl) ⟨Nat.le_of_ble_eq_true rfl, Nat.le_of_ble_eq_true rfl⟩ dX6_image_79 rfl (st' := []) rfl ?_
  refine j_aload_n X dX6_image_82 0 rfl rfl ?_
  obtain ⟨h73, hf74⟩ := chk_of hf72; clear hf72
  obtain ⟨i75, h76, hf77⟩ := bd_of hf74; clear hf74
  refine j_getr X fd_X6_80 h73 h76 dX6_image_83 ?_
  refine j_aload_n X dX6_image_86 0 rfl rfl ?_
  obtain ⟨i78, h79, hf80⟩ := bd_of hf77; clear hf77
  refine j_getr X fd_X6_83 h73 h79 dX6_image_87 ?_
  refine j_bipush X (v := 24) dX6_image_90 (by decide) ?_
  obtain ⟨r81, σ82, h83, hf84⟩ := bc_of hf80; clear hf80
  refine j_callS0 X [.ref (q i75), .ref (q i78), .int (24 : Int32)] [] (c_X6_copies l D cs q i75 i78 (24 : Int32) σ70 _ _ h83) mk_X6_copies ms_X6_copies ml_X6_311 ⟨rfl, rfl⟩ ⟨Nat.le_of_ble_eq_true rfl, Nat.le_of_ble_eq_true rfl⟩ rfl (Nat.le_of_ble_eq_true rfl) ⟨Nat.le_of_ble_eq_true rfl, Nat.le_of_ble_eq_true rfl⟩ dX6_image_92 rfl (st' := []) rfl ?_
  refine j_aload_n X dX6_image_95 0 rfl rfl ?_
  refine j_aload_n X dX6_image_96 0 rfl rfl ?_
  obtain ⟨h85, hf86⟩ := chk_of hf84; clear hf84
  refine j_geti X fd_X6_122 h85 dX6_image_97 (fun v87 ev87 => ?_)
  replace hf86 := lt_of hf86 v87 ev87
  refine j_puti X fp_X6_315 h85 dX6_image_100 (fun σ89 eσ89 => ?_)
  replace hf86 := lt_of hf86 σ89 eσ89
  have h91 : isO σ89 6 a0 := by rw [eσ89]; exact h85
  refine j_aload_n X dX6_image_103 0 rfl rfl ?_
  refine j_aload_n X dX6_image_104 0 rfl rfl ?_
  refine j_geti X fd_X6_297 h91 dX6_image_105 (fun v92 ev92 => ?_)
  replace hf86 := lt_of hf86 v92 ev92
  refine j_puti X fp_X6_318 h91 dX6_image_108 (fun σ94 eσ94 => ?_)
  replace hf86 := lt_of hf86 σ94 eσ94
  have h96 : isO σ94 6 a0 := by rw [eσ94]; exact h91
  refine j_aload_n X dX6_image_111 0 rfl rfl ?_
  refine j_iconst X (v := 1) dX6_image_112 (by decide) ?_
  refine j_putz X fp_X6_321 h96 (Or.inr rfl) dX6_image_113 (fun σ97 eσ97 => ?_)
  replace hf86 := lt_of hf86 σ97 eσ97
  have h99 : isO σ97 6 a0 := by rw [eσ97]; exact h96
  refine j_aload_n X dX6_image_116 0 rfl rfl ?_
  refine j_geti X fd_X6_122 h99 dX6_image_117 (fun v100 ev100 => ?_)
  replace hf86 := lt_of hf86 v100 ev100
  obtain ⟨er, es⟩ := rt_of hf86
  subst er
  exact j_reti X hr hlk (Nat.le_of_ble_eq_true rfl) (Nat.le_of_ble_eq_true rfl) rfl es.symm rfl dX6_image_120
abbrev rm_X6_judge : Room := { frames := 6, cells := 0, slots := 0, locals := 384 }
set_option maxHeartbeats 4000000 in
set_option maxRecDepth 100000 in
theorem c_X6_judge (l : Launch) (D : va_G) (cs : Nat → ClassId) (q : Nat → Nat) (a0 : Nat) (a1 : Int32) (σ σ0 : HS) (r0 : Int32) (hf0 : f_X6_judge a0 a1 σ = some (r0, σ0)) : MT l yX6_judge (Cond.code yX6_judge cX6_judge 5 (some .int) :: lw_g) rm_X6_judge D cs q σ σ0 [.ref (q a0), .int a1] (fun z => z = q) (fun _ => some (.int r0)) 0 0 := by
  unfold f_X6_judge at hf0
  refine MT_of (cc := cX6_judge) (lv0 := [(0, .ref (q a0)), (1, .int a1)]) (by decide) (Nat.le_of_ble_eq_true rfl) rfl (fun p e s m args below meth c A X hr hlk hin => ?_)
  have L24 : ∀ (nk : Nat) (x0 : Nat) (x1 : Int32) (x2 : Int32) (τ : HS), lp_X6_judge_24  nk x0 x1 x2 τ = some (r0, σ0) → J p l e rm_X6_judge s m args below meth c 5 D cs A s.heap 0 0 (MQ below (hQ D cs (fun z => z = q) (fun _ => some (.int r0)) σ0 A) args s 0 0 A) q τ [(0, .ref (q x0)), (1, .int x1), (2, .int x2)] 24 [] := by
    intro nk
    induction nk with
    | zero => intro x0 x1 x2 τ hf0; have hf1 : (none : Option (Int32 × HS)) = some (r0, σ0) := hf0; cases hf1
    | succ nk ih =>
      intro x0 x1 x2 τ hf0
      replace hf0 : lp_X6_judge_24_b  (lp_X6_judge_24  nk) x0 x1 x2 τ = some (r0, σ0) := hf0
      unfold lp_X6_judge_24_b at hf0
      refine j_iload_n X dX6_judge_24 2 rfl rfl ?_
      refine j_aload_n X dX6_judge_25 0 rfl rfl ?_
      obtain ⟨h22, hf23⟩ := chk_of hf0; clear hf0
      obtain ⟨i24, h25, hf26⟩ := bd_of hf23; clear hf23
      refine j_getr X fd_X6_89 h22 h25 dX6_judge_26 ?_
      refine j_iload_n X dX6_judge_29 1 rfl rfl ?_
      obtain ⟨h27, hf28⟩ := chk_of hf26; clear hf26
      refine j_iald X h27 dX6_judge_30 (fun v29 ev29 => ?_)
      replace hf28 := lt_of hf28 v29 ev29
      refine j_icmp_ge X (tgt := 82) dX6_judge_31 (by decide) (fun c31 => ?_) (fun c31 => ?_)
      · have hf32 := br_y hf28 c31; clear hf28
        refine j_bipush X (v := -5) dX6_judge_82 (by decide) ?_
        obtain ⟨er, es⟩ := rt_of hf32
        subst er
        exact j_reti X hr hlk (Nat.le_of_ble_eq_true rfl) (Nat.le_of_ble_eq_true rfl) rfl es.symm rfl dX6_judge_84
      · have hf33 := br_n hf28 c31; clear hf28
        refine j_iload_n X dX6_judge_34 2 rfl rfl ?_
        refine j_aload_n X dX6_judge_35 0 rfl rfl ?_
        refine j_geti X fd_X6_122 h22 dX6_judge_36 (fun v34 ev34 => ?_)
        replace hf33 := lt_of hf33 v34 ev34
        refine j_icmp_lt X (tgt := 44) dX6_judge_39 (by decide) (fun c36 => ?_) (fun c36 => ?_)
        · have hf37 := br_y hf33 c36; clear hf33
          refine j_aload_n X dX6_judge_44 0 rfl rfl ?_
          refine j_iload_n X dX6_judge_45 2 rfl rfl ?_
          obtain ⟨r39, σ40, h41, hf42⟩ := bc_of hf37; clear hf37
          refine j_callV0 X [.int x2] [] (c_X6_widthNow l D cs q x0 x2 τ _ _ h41) mk_X6_widthNow mv_X6_widthNow ml_X6_261 h22 rfl (by decide) ⟨rfl, rfl⟩ ⟨Nat.le_of_ble_eq_true rfl, Nat.le_of_ble_eq_true rfl⟩ rfl (Nat.le_of_ble_eq_true rfl) ⟨Nat.le_of_ble_eq_true rfl, Nat.le_of_ble_eq_true rfl⟩ dX6_judge_46 rfl (st' := [.long r39]) rfl ?_
          refine j_lstore_n X (lv' := [(3, .long r39), (0, .ref (q x0)), (1, .int x1), (2, .int x2)]) dX6_judge_49 rfl (by decide) rfl ?_
          refine j_lload_n X dX6_judge_50 0 rfl rfl ?_
          refine j_ldc2 X k_X6_239 dX6_judge_51 ?_
          refine j_lcmp X dX6_judge_54 ?_
          refine j_if_eq X (tgt := 74) dX6_judge_55 (by decide) (fun c43 => ?_) (fun c43 => ?_)
          · have hf44 := br_y hf42 c43; clear hf42
            refine j_iload_n X dX6_judge_74 3 rfl rfl ?_
            obtain ⟨er, es⟩ := rt_of hf44
            subst er
            exact j_reti X hr hlk (Nat.le_of_ble_eq_true rfl) (Nat.le_of_ble_eq_true rfl) rfl es.symm rfl dX6_judge_75
          · have hf45 := br_n hf42 c43; clear hf42
            refine j_lload_n X dX6_judge_58 0 rfl rfl ?_
            refine j_aload_n X dX6_judge_59 1 rfl rfl ?_
            obtain ⟨h46, hf47⟩ := chk_of hf45; clear hf45
            obtain ⟨i48, h49, hf50⟩ := bd_of hf47; clear hf47
            refine j_getr X fd_X6_92 h46 h49 dX6_judge_60 ?_
            refine j_bipush X (v := 8) dX6_judge_63 (by decide) ?_
            refine j_iload_n X dX6_judge_65 2 rfl rfl ?_
            refine j_imul X dX6_judge_66 ?_
            refine j_iload_n X dX6_judge_67 3 rfl rfl ?_
            refine j_iadd X dX6_judge_68 ?_
            obtain ⟨h51, hf52⟩ := chk_of hf50; clear hf50
            refine j_lald X h51 dX6_judge_69 (fun v53 ev53 => ?_)
            replace hf52 := lt_of hf52 v53 ev53
            refine j_lcmp X dX6_judge_70 ?_
            refine j_if_eq X (tgt := 76) dX6_judge_71 (by decide) (fun c55 => ?_) (fun c55 => ?_)
            · have hf56 := br_y hf52 c55; clear hf52
              obtain ⟨v58, ev58⟩ : ∃ y : Int32, y = x2 + (1 : Int32) := ⟨_, rfl⟩
              replace hf56 := lt_of hf56 v58 ev58
              refine j_iinc X (v := v58) (lv' := [(2, .int v58), (3, .long r39), (0, .ref (q x0)), (1, .int x1)]) dX6_judge_76 3 rfl (by rw [ev58]; rfl) (by decide) rfl ?_
              refine j_goto X (tgt := 24) dX6_judge_79 (by decide) ?_
              refine j_lvsub [2, 3, 0] (lv' := [(0, .ref (q x0)), (1, .int x1), (2, .int v58)]) rfl ?_
              exact ih x0 x1 v58 σ40 hf56
            · have hf57 := br_n hf52 c55; clear hf52
              refine j_iload_n X dX6_judge_74 3 rfl rfl ?_
              obtain ⟨er, es⟩ := rt_of hf57
              subst er
              exact j_reti X hr hlk (Nat.le_of_ble_eq_true rfl) (Nat.le_of_ble_eq_true rfl) rfl es.symm rfl dX6_judge_75
        · have hf38 := br_n hf33 c36; clear hf33
          refine j_iload_n X dX6_judge_42 2 rfl rfl ?_
          obtain ⟨er, es⟩ := rt_of hf38
          subst er
          exact j_reti X hr hlk (Nat.le_of_ble_eq_true rfl) (Nat.le_of_ble_eq_true rfl) rfl es.symm rfl dX6_judge_43
  refine j_iload_n X dX6_judge_0 1 rfl rfl ?_
  obtain ⟨r1, σ2, h3, hf4⟩ := bc_of hf0; clear hf0
  refine j_callS0 X [.int a1] [] (c_X6_isList l D cs q a1 σ _ _ h3) mk_X6_isList ms_X6_isList ml_X6_308 ⟨rfl, rfl⟩ ⟨Nat.le_of_ble_eq_true rfl, Nat.le_of_ble_eq_true rfl⟩ rfl (Nat.le_of_ble_eq_true rfl) ⟨Nat.le_of_ble_eq_true rfl, Nat.le_of_ble_eq_true rfl⟩ dX6_judge_1 rfl (st' := [.int r1]) rfl ?_
  refine j_if_ne X (tgt := 9) dX6_judge_4 (by decide) (fun c5 => ?_) (fun c5 => ?_)
  · have hf6 := br_n hf4 c5; clear hf4
    refine j_aload_n X dX6_judge_9 0 rfl rfl ?_
    obtain ⟨h8, hf9⟩ := chk_of hf6; clear hf6
    obtain ⟨i10, h11, hf12⟩ := bd_of hf9; clear hf9
    refine j_getr X fd_X6_89 h8 h11 dX6_judge_10 ?_
    refine j_iload_n X dX6_judge_13 1 rfl rfl ?_
    obtain ⟨h13, hf14⟩ := chk_of hf12; clear hf12
    refine j_iald X h13 dX6_judge_14 (fun v15 ev15 => ?_)
    replace hf14 := lt_of hf14 v15 ev15
    refine j_iconst X (v := -1) dX6_judge_15 (by decide) ?_
    refine j_icmp_ne X (tgt := 22) dX6_judge_16 (by decide) (fun c17 => ?_) (fun c17 => ?_)
    · have hf18 := br_n hf14 c17; clear hf14
      refine j_iconst X (v := 0) dX6_judge_22 (by decide) ?_
      refine j_nmi (fun v20 ev20 => ?_)
      replace hf18 := lt_of hf18 v20 ev20
      refine j_istore_n X (lv' := [(2, .int v20), (0, .ref (q a0)), (1, .int a1)]) dX6_judge_23 rfl (by decide) rfl ?_
      refine j_lvsub [1, 2, 0] (lv' := [(0, .ref (q a0)), (1, .int a1), (2, .int v20)]) rfl ?_
      exact L24  1000 a0 a1 v20 σ2 hf18
    · have hf19 := br_y hf14 c17; clear hf14
      refine j_bipush X (v := -11) dX6_judge_19 (by decide) ?_
      obtain ⟨er, es⟩ := rt_of hf19
      subst er
      exact j_reti X hr hlk (Nat.le_of_ble_eq_true rfl) (Nat.le_of_ble_eq_true rfl) rfl es.symm rfl dX6_judge_21
  · have hf7 := br_y hf4 c5; clear hf4
    refine j_iconst X (v := -1) dX6_judge_7 (by decide) ?_
    obtain ⟨er, es⟩ := rt_of hf7
    subst er
    exact j_reti X hr hlk (Nat.le_of_ble_eq_true rfl) (Nat.le_of_ble_eq_true rfl) rfl es.symm rfl dX6_judge_8
abbrev rm_X6_lettersOf : Room := { frames := 1, cells := 0, slots := 0, locals := 64 }
set_option maxHeartbeats 4000000 in
set_option maxRecDepth 100000 in
theorem c_X6_lettersOf (l : Launch) (D : va_G) (cs : Nat → ClassId) (q : Nat → Nat) (a0 : Nat) (a1 : Int32) (σ σ0 : HS) (r0 : Int32) (hf0 : f_X6_lettersOf a0 a1 σ = some (r0, σ0)) : MT l yX6_lettersOf (Cond.code yX6_lettersOf cX6_lettersOf 4 (some .int) :: lw_g) rm_X6_lettersOf D cs q σ σ0 [.ref (q a0), .int a1] (fun z => z = q) (fun _ => some (.int r0)) 0 0 := by
  unfold f_X6_lettersOf at hf0
  refine MT_of (cc := cX6_lettersOf) (lv0 := [(0, .ref (q a0)), (1, .int a1)]) (by decide) (Nat.le_of_ble_eq_true rfl) rfl (fun p e s m args below meth c A X hr hlk hin => ?_)
  have L4 : ∀ (nk : Nat) (x0 : Nat) (x1 : Int32) (x2 : Int32) (x3 : Int32) (τ : HS), lp_X6_lettersOf_4  nk x0 x1 x2 x3 τ = some (r0, σ0) → J p l e rm_X6_lettersOf s m args below meth c 4 D cs A s.heap 0 0 (MQ below (hQ D cs (fun z => z = q) (fun _ => some (.int r0)) σ0 A) args s 0 0 A) q τ [(0, .ref (q x0)), (1, .int x1), (2, .int x2), (3, .int x3)] 4 [] := by
    intro nk
    induction nk with
    | zero => intro x0 x1 x2 x3 τ hf0; have hf1 : (none : Option (Int32 × HS)) = some (r0, σ0) := hf0; cases hf1
    | succ nk ih =>
      intro x0 x1 x2 x3 τ hf0
      replace hf0 : lp_X6_lettersOf_4_b  (lp_X6_lettersOf_4  nk) x0 x1 x2 x3 τ = some (r0, σ0) := hf0
      unfold lp_X6_lettersOf_4_b at hf0
      refine j_iload_n X dX6_lettersOf_4 3 rfl rfl ?_
      refine j_aload_n X dX6_lettersOf_5 0 rfl rfl ?_
      obtain ⟨h5, hf6⟩ := chk_of hf0; clear hf0
      obtain ⟨i7, h8, hf9⟩ := bd_of hf6; clear hf6
      refine j_getr X fd_X6_30 h5 h8 dX6_lettersOf_6 ?_
      refine j_iload_n X dX6_lettersOf_9 1 rfl rfl ?_
      obtain ⟨h10, hf11⟩ := chk_of hf9; clear hf9
      refine j_iald X h10 dX6_lettersOf_10 (fun v12 ev12 => ?_)
      replace hf11 := lt_of hf11 v12 ev12
      refine j_icmp_ge X (tgt := 52) dX6_lettersOf_11 (by decide) (fun c14 => ?_) (fun c14 => ?_)
      · have hf15 := br_y hf11 c14; clear hf11
        refine j_iload_n X dX6_lettersOf_52 2 rfl rfl ?_
        obtain ⟨er, es⟩ := rt_of hf15
        subst er
        exact j_reti X hr hlk (Nat.le_of_ble_eq_true rfl) (Nat.le_of_ble_eq_true rfl) rfl es.symm rfl dX6_lettersOf_53
      · have hf16 := br_n hf11 c14; clear hf11
        refine j_iload_n X dX6_lettersOf_14 2 rfl rfl ?_
        refine j_aload_n X dX6_lettersOf_15 0 rfl rfl ?_
        obtain ⟨i17, h18, hf19⟩ := bd_of hf16; clear hf16
        refine j_getr X fd_X6_18 h5 h18 dX6_lettersOf_16 ?_
        refine j_iload_n X dX6_lettersOf_19 1 rfl rfl ?_
        refine j_iload_n X dX6_lettersOf_20 3 rfl rfl ?_
        obtain ⟨r20, σ21, h22, hf23⟩ := bc_of hf19; clear hf19
        refine j_callS0 X [.int x1, .int x3] [.ref (q i17), .int x2] (c_X6_at l D cs q x1 x3 τ _ _ h22) mk_X6_at ms_X6_at ml_X6_134 ⟨rfl, rfl⟩ ⟨Nat.le_of_ble_eq_true rfl, Nat.le_of_ble_eq_true rfl⟩ rfl (Nat.le_of_ble_eq_true rfl) ⟨Nat.le_of_ble_eq_true rfl, Nat.le_of_ble_eq_true rfl⟩ dX6_lettersOf_21 rfl (st' := [.int r20, .ref (q i17), .int x2]) rfl ?_
        obtain ⟨h24, hf25⟩ := chk_of hf23; clear hf23
        refine j_iald X h24 dX6_lettersOf_24 (fun v26 ev26 => ?_)
        replace hf25 := lt_of hf25 v26 ev26
        refine j_if_ne X (tgt := 43) dX6_lettersOf_25 (by decide) (fun c28 => ?_) (fun c28 => ?_)
        · have hf29 := br_n hf25 c28; clear hf25
          refine j_iconst X (v := 0) dX6_lettersOf_43 (by decide) ?_
          refine j_ior X dX6_lettersOf_44 ?_
          refine j_nmi (fun v31 ev31 => ?_)
          replace hf29 := lt_of hf29 v31 ev31
          refine j_istore_n X (lv' := [(2, .int v31), (0, .ref (q x0)), (1, .int x1), (3, .int x3)]) dX6_lettersOf_45 rfl (by decide) rfl ?_
          obtain ⟨v33, ev33⟩ : ∃ y : Int32, y = x3 + (1 : Int32) := ⟨_, rfl⟩
          replace hf29 := lt_of hf29 v33 ev33
          refine j_iinc X (v := v33) (lv' := [(3, .int v33), (2, .int v31), (0, .ref (q x0)), (1, .int x1)]) dX6_lettersOf_46 3 rfl (by rw [ev33]; rfl) (by decide) rfl ?_
          refine j_goto X (tgt := 4) dX6_lettersOf_49 (by decide) ?_
          refine j_lvsub [2, 3, 1, 0] (lv' := [(0, .ref (q x0)), (1, .int x1), (2, .int v31), (3, .int v33)]) rfl ?_
          exact ih x0 x1 v31 v33 σ21 hf29
        · have hf30 := br_y hf25 c28; clear hf25
          refine j_iconst X (v := 1) dX6_lettersOf_28 (by decide) ?_
          refine j_aload_n X dX6_lettersOf_29 0 rfl rfl ?_
          obtain ⟨h35, hf36⟩ := chk_of hf30; clear hf30
          obtain ⟨i37, h38, hf39⟩ := bd_of hf36; clear hf36
          refine j_getr X fd_X6_21 h35 h38 dX6_lettersOf_30 ?_
          refine j_iload_n X dX6_lettersOf_33 1 rfl rfl ?_
          refine j_iload_n X dX6_lettersOf_34 3 rfl rfl ?_
          obtain ⟨r40, σ41, h42, hf43⟩ := bc_of hf39; clear hf39
          refine j_callS0 X [.int x1, .int x3] [.ref (q i37), .int (1 : Int32), .int x2] (c_X6_at l D cs q x1 x3 σ21 _ _ h42) mk_X6_at ms_X6_at ml_X6_134 ⟨rfl, rfl⟩ ⟨Nat.le_of_ble_eq_true rfl, Nat.le_of_ble_eq_true rfl⟩ rfl (Nat.le_of_ble_eq_true rfl) ⟨Nat.le_of_ble_eq_true rfl, Nat.le_of_ble_eq_true rfl⟩ dX6_lettersOf_35 rfl (st' := [.int r40, .ref (q i37), .int (1 : Int32), .int x2]) rfl ?_
          obtain ⟨h44, hf45⟩ := chk_of hf43; clear hf43
          refine j_iald X h44 dX6_lettersOf_38 (fun v46 ev46 => ?_)
          replace hf45 := lt_of hf45 v46 ev46
          refine j_ishl X dX6_lettersOf_39 ?_
          refine j_goto X (tgt := 44) dX6_lettersOf_40 (by decide) ?_
          refine j_ior X dX6_lettersOf_44 ?_
          refine j_nmi (fun v48 ev48 => ?_)
          replace hf45 := lt_of hf45 v48 ev48
          refine j_istore_n X (lv' := [(2, .int v48), (0, .ref (q x0)), (1, .int x1), (3, .int x3)]) dX6_lettersOf_45 rfl (by decide) rfl ?_
          obtain ⟨v50, ev50⟩ : ∃ y : Int32, y = x3 + (1 : Int32) := ⟨_, rfl⟩
          replace hf45 := lt_of hf45 v50 ev50
          refine j_iinc X (v := v50) (lv' := [(3, .int v50), (2, .int v48), (0, .ref (q x0)), (1, .int x1)]) dX6_lettersOf_46 3 rfl (by rw [ev50]; rfl) (by decide) rfl ?_
          refine j_goto X (tgt := 4) dX6_lettersOf_49 (by decide) ?_
          refine j_lvsub [2, 3, 1, 0] (lv' := [(0, .ref (q x0)), (1, .int x1), (2, .int v48), (3, .int v50)]) rfl ?_
          exact ih x0 x1 v48 v50 σ41 hf45
  refine j_iconst X (v := 0) dX6_lettersOf_0 (by decide) ?_
  refine j_nmi (fun v1 ev1 => ?_)
  replace hf0 := lt_of hf0 v1 ev1
  refine j_istore_n X (lv' := [(2, .int v1), (0, .ref (q a0)), (1, .int a1)]) dX6_lettersOf_1 rfl (by decide) rfl ?_
  refine j_iconst X (v := 0) dX6_lettersOf_2 (by decide) ?_
  refine j_nmi (fun v3 ev3 => ?_)
  replace hf0 := lt_of hf0 v3 ev3
  refine j_istore_n X (lv' := [(3, .int v3), (2, .int v1), (0, .ref (q a0)), (1, .int a1)]) dX6_lettersOf_3 rfl (by decide) rfl ?_
  refine j_lvsub [2, 3, 1, 0] (lv' := [(0, .ref (q a0)), (1, .int a1), (2, .int v1), (3, .int v3)]) rfl ?_
  exact L4  1000 a0 a1 v1 v3 σ hf0
abbrev rm_X6_likeOf : Room := { frames := 66, cells := 0, slots := 0, locals := 4224 }
set_option maxHeartbeats 4000000 in
set_option maxRecDepth 100000 in
theorem c_X6_likeOf (l : Launch) (D : va_G) (cs : Nat → ClassId) (q : Nat → Nat) (a0 : Nat) (a1 : Int32) (a2 : Int32) (σ σ0 : HS) (r0 : Int32) (hf0 : f_X6_likeOf a0 a1 a2 σ = some (r0, σ0)) : MT l yX6_likeOf (Cond.code yX6_likeOf cX6_likeOf 10 (some .int) :: lw_g) rm_X6_likeOf D cs q σ σ0 [.ref (q a0), .int a1, .int a2] (fun z => z = q) (fun _ => some (.int r0)) 0 0 := by
  unfold f_X6_likeOf at hf0
  refine MT_of (cc := cX6_likeOf) (lv0 := [(0, .ref (q a0)), (1, .int a1), (2, .int a2)]) (by decide) (Nat.le_of_ble_eq_true rfl) rfl (fun p e s m args below meth c A X hr hlk hin => ?_)
  have L28 : ∀ (K8 : Nat → Int32 → Int32 → Int32 → Int32 → Int32 → HS → Option (Int32 × HS)) (hK8 : ∀ (x0 : Nat) (x1 : Int32) (x2 : Int32) (x3 : Int32) (x4 : Int32) (x5 : Int32) (τ : HS), K8 x0 x1 x2 x3 x4 x5 τ = some (r0, σ0) → J p l e rm_X6_likeOf s m args below meth c 10 D cs A s.heap 0 0 (MQ below (hQ D cs (fun z => z = q) (fun _ => some (.int r0)) σ0 A) args s 0 0 A) q τ [(0, .ref (q x0)), (1, .int x1), (2, .int x2), (3, .int x3), (4, .int x4), (5, .int x5)] 8 []), ∀ (nk : Nat) (x0 : Nat) (x1 : Int32) (x2 : Int32) (x3 : Int32) (x4 : Int32) (x5 : Int32) (x6 : Int32) (x7 : Int32) (x8 : Int32) (τ : HS), lp_X6_likeOf_28 K8 nk x0 x1 x2 x3 x4 x5 x6 x7 x8 τ = some (r0, σ0) → J p l e rm_X6_likeOf s m args below meth c 10 D cs A s.heap 0 0 (MQ below (hQ D cs (fun z => z = q) (fun _ => some (.int r0)) σ0 A) args s 0 0 A) q τ [(0, .ref (q x0)), (1, .int x1), (2, .int x2), (3, .int x3), (4, .int x4), (5, .int x5), (6, .int x6), (7, .int x7), (8, .int x8)] 28 [] := by
    intro K8 hK8
    intro nk
    induction nk with
    | zero => intro x0 x1 x2 x3 x4 x5 x6 x7 x8 τ hf0; have hf1 : (none : Option (Int32 × HS)) = some (r0, σ0) := hf0; cases hf1
    | succ nk ih =>
      intro x0 x1 x2 x3 x4 x5 x6 x7 x8 τ hf0
      replace hf0 : lp_X6_likeOf_28_b K8 (lp_X6_likeOf_28 K8 nk) x0 x1 x2 x3 x4 x5 x6 x7 x8 τ = some (r0, σ0) := hf0
      unfold lp_X6_likeOf_28_b at hf0
      refine j_iload X dX6_likeOf_28 8 rfl ?_
      refine j_aload_n X dX6_likeOf_30 0 rfl rfl ?_
      obtain ⟨h28, hf29⟩ := chk_of hf0; clear hf0
      obtain ⟨i30, h31, hf32⟩ := bd_of hf29; clear hf29
      refine j_getr X fd_X6_30 h28 h31 dX6_likeOf_31 ?_
      refine j_iload_n X dX6_likeOf_34 1 rfl rfl ?_
      obtain ⟨h33, hf34⟩ := chk_of hf32; clear hf32
      refine j_iald X h33 dX6_likeOf_35 (fun v35 ev35 => ?_)
      replace hf34 := lt_of hf34 v35 ev35
      refine j_icmp_ge X (tgt := 96) dX6_likeOf_36 (by decide) (fun c37 => ?_) (fun c37 => ?_)
      · have hf38 := br_y hf34 c37; clear hf34
        refine j_iload_n X dX6_likeOf_96 3 rfl rfl ?_
        refine j_iload X dX6_likeOf_97 7 rfl ?_
        refine j_if_eq X (tgt := 106) dX6_likeOf_99 (by decide) (fun c40 => ?_) (fun c40 => ?_)
        · have hf41 := br_y hf38 c40; clear hf38
          refine j_iconst X (v := 0) dX6_likeOf_106 (by decide) ?_
          refine j_iadd X dX6_likeOf_107 ?_
          refine j_nmi (fun v43 ev43 => ?_)
          replace hf41 := lt_of hf41 v43 ev43
          refine j_istore_n X (lv' := [(3, .int v43), (0, .ref (q x0)), (1, .int x1), (2, .int x2), (4, .int x4), (5, .int x5), (6, .int x6), (7, .int x7), (8, .int x8)]) dX6_likeOf_108 rfl (by decide) rfl ?_
          refine j_iload X dX6_likeOf_109 4 rfl ?_
          refine j_iload X dX6_likeOf_111 6 rfl ?_
          refine j_mmax X ml_X6_175 (Nat.le_of_ble_eq_true rfl) (Nat.le_of_ble_eq_true rfl) (Nat.le_of_ble_eq_true rfl) (Nat.le_of_ble_eq_true rfl) dX6_likeOf_113 (fun v45 ev45 => ?_)
          replace hf41 := lt_of hf41 v45 ev45
          refine j_istore X (lv' := [(4, .int v45), (3, .int v43), (0, .ref (q x0)), (1, .int x1), (2, .int x2), (5, .int x5), (6, .int x6), (7, .int x7), (8, .int x8)]) dX6_likeOf_116 (by decide) rfl ?_
          obtain ⟨v47, ev47⟩ : ∃ y : Int32, y = x5 + (1 : Int32) := ⟨_, rfl⟩
          replace hf41 := lt_of hf41 v47 ev47
          refine j_iinc X (v := v47) (lv' := [(5, .int v47), (4, .int v45), (3, .int v43), (0, .ref (q x0)), (1, .int x1), (2, .int x2), (6, .int x6), (7, .int x7), (8, .int x8)]) dX6_likeOf_118 5 rfl (by rw [ev47]; rfl) (by decide) rfl ?_
          refine j_goto X (tgt := 8) dX6_likeOf_121 (by decide) ?_
          refine j_lvsub [3, 4, 5, 2, 1, 0] (lv' := [(0, .ref (q x0)), (1, .int x1), (2, .int x2), (3, .int v43), (4, .int v45), (5, .int v47)]) rfl ?_
          exact hK8 x0 x1 x2 v43 v45 v47 τ hf41
        · have hf42 := br_n hf38 c40; clear hf38
          refine j_iconst X (v := 1) dX6_likeOf_102 (by decide) ?_
          refine j_goto X (tgt := 107) dX6_likeOf_103 (by decide) ?_
          refine j_iadd X dX6_likeOf_107 ?_
          refine j_nmi (fun v49 ev49 => ?_)
          replace hf42 := lt_of hf42 v49 ev49
          refine j_istore_n X (lv' := [(3, .int v49), (0, .ref (q x0)), (1, .int x1), (2, .int x2), (4, .int x4), (5, .int x5), (6, .int x6), (7, .int x7), (8, .int x8)]) dX6_likeOf_108 rfl (by decide) rfl ?_
          refine j_iload X dX6_likeOf_109 4 rfl ?_
          refine j_iload X dX6_likeOf_111 6 rfl ?_
          refine j_mmax X ml_X6_175 (Nat.le_of_ble_eq_true rfl) (Nat.le_of_ble_eq_true rfl) (Nat.le_of_ble_eq_true rfl) (Nat.le_of_ble_eq_true rfl) dX6_likeOf_113 (fun v51 ev51 => ?_)
          replace hf42 := lt_of hf42 v51 ev51
          refine j_istore X (lv' := [(4, .int v51), (3, .int v49), (0, .ref (q x0)), (1, .int x1), (2, .int x2), (5, .int x5), (6, .int x6), (7, .int x7), (8, .int x8)]) dX6_likeOf_116 (by decide) rfl ?_
          obtain ⟨v53, ev53⟩ : ∃ y : Int32, y = x5 + (1 : Int32) := ⟨_, rfl⟩
          replace hf42 := lt_of hf42 v53 ev53
          refine j_iinc X (v := v53) (lv' := [(5, .int v53), (4, .int v51), (3, .int v49), (0, .ref (q x0)), (1, .int x1), (2, .int x2), (6, .int x6), (7, .int x7), (8, .int x8)]) dX6_likeOf_118 5 rfl (by rw [ev53]; rfl) (by decide) rfl ?_
          refine j_goto X (tgt := 8) dX6_likeOf_121 (by decide) ?_
          refine j_lvsub [3, 4, 5, 2, 1, 0] (lv' := [(0, .ref (q x0)), (1, .int x1), (2, .int x2), (3, .int v49), (4, .int v51), (5, .int v53)]) rfl ?_
          exact hK8 x0 x1 x2 v49 v51 v53 τ hf42
      · have hf39 := br_n hf34 c37; clear hf34
        refine j_aload_n X dX6_likeOf_39 0 rfl rfl ?_
        refine j_iload_n X dX6_likeOf_40 1 rfl rfl ?_
        refine j_iload X dX6_likeOf_41 5 rfl ?_
        refine j_iload_n X dX6_likeOf_43 1 rfl rfl ?_
        refine j_iload X dX6_likeOf_44 8 rfl ?_
        obtain ⟨r55, σ56, h57, hf58⟩ := bc_of hf39; clear hf39
        refine j_callV0 X [.int x1, .int x5, .int x1, .int x8] [] (c_X6_areAlike l D cs q x0 x1 x5 x1 x8 τ _ _ h57) mk_X6_areAlike mv_X6_areAlike ml_X6_168 h28 rfl (by decide) ⟨rfl, rfl⟩ ⟨Nat.le_of_ble_eq_true rfl, Nat.le_of_ble_eq_true rfl⟩ rfl (Nat.le_of_ble_eq_true rfl) ⟨Nat.le_of_ble_eq_true rfl, Nat.le_of_ble_eq_true rfl⟩ dX6_likeOf_46 rfl (st' := [.int r55]) rfl ?_
        refine j_istore X (lv' := [(9, .int r55), (0, .ref (q x0)), (1, .int x1), (2, .int x2), (3, .int x3), (4, .int x4), (5, .int x5), (6, .int x6), (7, .int x7), (8, .int x8)]) dX6_likeOf_49 (by decide) rfl ?_
        refine j_iload X dX6_likeOf_51 7 rfl ?_
        refine j_iload X dX6_likeOf_53 0 rfl ?_
        refine j_if_eq X (tgt := 62) dX6_likeOf_55 (by decide) (fun c59 => ?_) (fun c59 => ?_)
        · have hf60 := br_y hf58 c59; clear hf58
          refine j_iconst X (v := 0) dX6_likeOf_62 (by decide) ?_
          refine j_iadd X dX6_likeOf_63 ?_
          refine j_nmi (fun v62 ev62 => ?_)
          replace hf60 := lt_of hf60 v62 ev62
          refine j_istore X (lv' := [(6, .int v62), (9, .int r55), (0, .ref (q x0)), (1, .int x1), (2, .int x2), (3, .int x3), (4, .int x4), (5, .int x5), (7, .int x7), (8, .int x8)]) dX6_likeOf_64 (by decide) rfl ?_
          refine j_iload X dX6_likeOf_66 8 rfl ?_
          refine j_if_eq X (tgt := 87) dX6_likeOf_68 (by decide) (fun c64 => ?_) (fun c64 => ?_)
          · have hf65 := br_y hf60 c64; clear hf60
            refine j_iconst X (v := 0) dX6_likeOf_87 (by decide) ?_
            refine j_nmi (fun v67 ev67 => ?_)
            replace hf65 := lt_of hf65 v67 ev67
            refine j_istore X (lv' := [(7, .int v67), (6, .int v62), (9, .int r55), (0, .ref (q x0)), (1, .int x1), (2, .int x2), (3, .int x3), (4, .int x4), (5, .int x5), (8, .int x8)]) dX6_likeOf_88 (by decide) rfl ?_
            obtain ⟨v69, ev69⟩ : ∃ y : Int32, y = x8 + (1 : Int32) := ⟨_, rfl⟩
            replace hf65 := lt_of hf65 v69 ev69
            refine j_iinc X (v := v69) (lv' := [(8, .int v69), (7, .int v67), (6, .int v62), (9, .int r55), (0, .ref (q x0)), (1, .int x1), (2, .int x2), (3, .int x3), (4, .int x4), (5, .int x5)]) dX6_likeOf_90 9 rfl (by rw [ev69]; rfl) (by decide) rfl ?_
            refine j_goto X (tgt := 28) dX6_likeOf_93 (by decide) ?_
            refine j_lvsub [4, 5, 6, 7, 8, 9, 2, 1, 0] (lv' := [(0, .ref (q x0)), (1, .int x1), (2, .int x2), (3, .int x3), (4, .int x4), (5, .int x5), (6, .int v62), (7, .int v67), (8, .int v69)]) rfl ?_
            exact ih x0 x1 x2 x3 x4 x5 v62 v67 v69 σ56 hf65
          · have hf66 := br_n hf60 c64; clear hf60
            refine j_iload X dX6_likeOf_71 1 rfl ?_
            refine j_if_eq X (tgt := 83) dX6_likeOf_73 (by decide) (fun c71 => ?_) (fun c71 => ?_)
            · have hf72 := br_y hf66 c71; clear hf66
              refine j_iconst X (v := 1) dX6_likeOf_83 (by decide) ?_
              refine j_goto X (tgt := 88) dX6_likeOf_84 (by decide) ?_
              refine j_nmi (fun v74 ev74 => ?_)
              replace hf72 := lt_of hf72 v74 ev74
              refine j_istore X (lv' := [(7, .int v74), (6, .int v62), (9, .int r55), (0, .ref (q x0)), (1, .int x1), (2, .int x2), (3, .int x3), (4, .int x4), (5, .int x5), (8, .int x8)]) dX6_likeOf_88 (by decide) rfl ?_
              obtain ⟨v76, ev76⟩ : ∃ y : Int32, y = x8 + (1 : Int32) := ⟨_, rfl⟩
              replace hf72 := lt_of hf72 v76 ev76
              refine j_iinc X (v := v76) (lv' := [(8, .int v76), (7, .int v74), (6, .int v62), (9, .int r55), (0, .ref (q x0)), (1, .int x1), (2, .int x2), (3, .int x3), (4, .int x4), (5, .int x5)]) dX6_likeOf_90 9 rfl (by rw [ev76]; rfl) (by decide) rfl ?_
              refine j_goto X (tgt := 28) dX6_likeOf_93 (by decide) ?_
              refine j_lvsub [4, 5, 6, 7, 8, 9, 2, 1, 0] (lv' := [(0, .ref (q x0)), (1, .int x1), (2, .int x2), (3, .int x3), (4, .int x4), (5, .int x5), (6, .int v62), (7, .int v74), (8, .int v76)]) rfl ?_
              exact ih x0 x1 x2 x3 x4 x5 v62 v74 v76 σ56 hf72
            · have hf73 := br_n hf66 c71; clear hf66
              refine j_iload X dX6_likeOf_76 9 rfl ?_
              refine j_iload X dX6_likeOf_78 7 rfl ?_
              refine j_icmp_lt X (tgt := 87) dX6_likeOf_80 (by decide) (fun c78 => ?_) (fun c78 => ?_)
              · have hf79 := br_y hf73 c78; clear hf73
                refine j_iconst X (v := 0) dX6_likeOf_87 (by decide) ?_
                refine j_nmi (fun v81 ev81 => ?_)
                replace hf79 := lt_of hf79 v81 ev81
                refine j_istore X (lv' := [(7, .int v81), (6, .int v62), (9, .int r55), (0, .ref (q x0)), (1, .int x1), (2, .int x2), (3, .int x3), (4, .int x4), (5, .int x5), (8, .int x8)]) dX6_likeOf_88 (by decide) rfl ?_
                obtain ⟨v83, ev83⟩ : ∃ y : Int32, y = x8 + (1 : Int32) := ⟨_, rfl⟩
                replace hf79 := lt_of hf79 v83 ev83
                refine j_iinc X (v := v83) (lv' := [(8, .int v83), (7, .int v81), (6, .int v62), (9, .int r55), (0, .ref (q x0)), (1, .int x1), (2, .int x2), (3, .int x3), (4, .int x4), (5, .int x5)]) dX6_likeOf_90 9 rfl (by rw [ev83]; rfl) (by decide) rfl ?_
                refine j_goto X (tgt := 28) dX6_likeOf_93 (by decide) ?_
                refine j_lvsub [4, 5, 6, 7, 8, 9, 2, 1, 0] (lv' := [(0, .ref (q x0)), (1, .int x1), (2, .int x2), (3, .int x3), (4, .int x4), (5, .int x5), (6, .int v62), (7, .int v81), (8, .int v83)]) rfl ?_
                exact ih x0 x1 x2 x3 x4 x5 v62 v81 v83 σ56 hf79
              · have hf80 := br_n hf73 c78; clear hf73
                refine j_iconst X (v := 1) dX6_likeOf_83 (by decide) ?_
                refine j_goto X (tgt := 88) dX6_likeOf_84 (by decide) ?_
                refine j_nmi (fun v85 ev85 => ?_)
                replace hf80 := lt_of hf80 v85 ev85
                refine j_istore X (lv' := [(7, .int v85), (6, .int v62), (9, .int r55), (0, .ref (q x0)), (1, .int x1), (2, .int x2), (3, .int x3), (4, .int x4), (5, .int x5), (8, .int x8)]) dX6_likeOf_88 (by decide) rfl ?_
                obtain ⟨v87, ev87⟩ : ∃ y : Int32, y = x8 + (1 : Int32) := ⟨_, rfl⟩
                replace hf80 := lt_of hf80 v87 ev87
                refine j_iinc X (v := v87) (lv' := [(8, .int v87), (7, .int v85), (6, .int v62), (9, .int r55), (0, .ref (q x0)), (1, .int x1), (2, .int x2), (3, .int x3), (4, .int x4), (5, .int x5)]) dX6_likeOf_90 9 rfl (by rw [ev87]; rfl) (by decide) rfl ?_
                refine j_goto X (tgt := 28) dX6_likeOf_93 (by decide) ?_
                refine j_lvsub [4, 5, 6, 7, 8, 9, 2, 1, 0] (lv' := [(0, .ref (q x0)), (1, .int x1), (2, .int x2), (3, .int x3), (4, .int x4), (5, .int x5), (6, .int v62), (7, .int v85), (8, .int v87)]) rfl ?_
                exact ih x0 x1 x2 x3 x4 x5 v62 v85 v87 σ56 hf80
        · have hf61 := br_n hf58 c59; clear hf58
          refine j_iconst X (v := 1) dX6_likeOf_58 (by decide) ?_
          refine j_goto X (tgt := 63) dX6_likeOf_59 (by decide) ?_
          refine j_iadd X dX6_likeOf_63 ?_
          refine j_nmi (fun v89 ev89 => ?_)
          replace hf61 := lt_of hf61 v89 ev89
          refine j_istore X (lv' := [(6, .int v89), (9, .int r55), (0, .ref (q x0)), (1, .int x1), (2, .int x2), (3, .int x3), (4, .int x4), (5, .int x5), (7, .int x7), (8, .int x8)]) dX6_likeOf_64 (by decide) rfl ?_
          refine j_iload X dX6_likeOf_66 8 rfl ?_
          refine j_if_eq X (tgt := 87) dX6_likeOf_68 (by decide) (fun c91 => ?_) (fun c91 => ?_)
          · have hf92 := br_y hf61 c91; clear hf61
            refine j_iconst X (v := 0) dX6_likeOf_87 (by decide) ?_
            refine j_nmi (fun v94 ev94 => ?_)
            replace hf92 := lt_of hf92 v94 ev94
            refine j_istore X (lv' := [(7, .int v94), (6, .int v89), (9, .int r55), (0, .ref (q x0)), (1, .int x1), (2, .int x2), (3, .int x3), (4, .int x4), (5, .int x5), (8, .int x8)]) dX6_likeOf_88 (by decide) rfl ?_
            obtain ⟨v96, ev96⟩ : ∃ y : Int32, y = x8 + (1 : Int32) := ⟨_, rfl⟩
            replace hf92 := lt_of hf92 v96 ev96
            refine j_iinc X (v := v96) (lv' := [(8, .int v96), (7, .int v94), (6, .int v89), (9, .int r55), (0, .ref (q x0)), (1, .int x1), (2, .int x2), (3, .int x3), (4, .int x4), (5, .int x5)]) dX6_likeOf_90 9 rfl (by rw [ev96]; rfl) (by decide) rfl ?_
            refine j_goto X (tgt := 28) dX6_likeOf_93 (by decide) ?_
            refine j_lvsub [4, 5, 6, 7, 8, 9, 2, 1, 0] (lv' := [(0, .ref (q x0)), (1, .int x1), (2, .int x2), (3, .int x3), (4, .int x4), (5, .int x5), (6, .int v89), (7, .int v94), (8, .int v96)]) rfl ?_
            exact ih x0 x1 x2 x3 x4 x5 v89 v94 v96 σ56 hf92
          · have hf93 := br_n hf61 c91; clear hf61
            refine j_iload X dX6_likeOf_71 1 rfl ?_
            refine j_if_eq X (tgt := 83) dX6_likeOf_73 (by decide) (fun c98 => ?_) (fun c98 => ?_)
            · have hf99 := br_y hf93 c98; clear hf93
              refine j_iconst X (v := 1) dX6_likeOf_83 (by decide) ?_
              refine j_goto X (tgt := 88) dX6_likeOf_84 (by decide) ?_
              refine j_nmi (fun v101 ev101 => ?_)
              replace hf99 := lt_of hf99 v101 ev101
              refine j_istore X (lv' := [(7, .int v101), (6, .int v89), (9, .int r55), (0, .ref (q x0)), (1, .int x1), (2, .int x2), (3, .int x3), (4, .int x4), (5, .int x5), (8, .int x8)]) dX6_likeOf_88 (by decide) rfl ?_
              obtain ⟨v103, ev103⟩ : ∃ y : Int32, y = x8 + (1 : Int32) := ⟨_, rfl⟩
              replace hf99 := lt_of hf99 v103 ev103
              refine j_iinc X (v := v103) (lv' := [(8, .int v103), (7, .int v101), (6, .int v89), (9, .int r55), (0, .ref (q x0)), (1, .int x1), (2, .int x2), (3, .int x3), (4, .int x4), (5, .int x5)]) dX6_likeOf_90 9 rfl (by rw [ev103]; rfl) (by decide) rfl ?_
              refine j_goto X (tgt := 28) dX6_likeOf_93 (by decide) ?_
              refine j_lvsub [4, 5, 6, 7, 8, 9, 2, 1, 0] (lv' := [(0, .ref (q x0)), (1, .int x1), (2, .int x2), (3, .int x3), (4, .int x4), (5, .int x5), (6, .int v89), (7, .int v101), (8, .int v103)]) rfl ?_
              exact ih x0 x1 x2 x3 x4 x5 v89 v101 v103 σ56 hf99
            · have hf100 := br_n hf93 c98; clear hf93
              refine j_iload X dX6_likeOf_76 9 rfl ?_
              refine j_iload X dX6_likeOf_78 7 rfl ?_
              refine j_icmp_lt X (tgt := 87) dX6_likeOf_80 (by decide) (fun c105 => ?_) (fun c105 => ?_)
              · have hf106 := br_y hf100 c105; clear hf100
                refine j_iconst X (v := 0) dX6_likeOf_87 (by decide) ?_
                refine j_nmi (fun v108 ev108 => ?_)
                replace hf106 := lt_of hf106 v108 ev108
                refine j_istore X (lv' := [(7, .int v108), (6, .int v89), (9, .int r55), (0, .ref (q x0)), (1, .int x1), (2, .int x2), (3, .int x3), (4, .int x4), (5, .int x5), (8, .int x8)]) dX6_likeOf_88 (by decide) rfl ?_
                obtain ⟨v110, ev110⟩ : ∃ y : Int32, y = x8 + (1 : Int32) := ⟨_, rfl⟩
                replace hf106 := lt_of hf106 v110 ev110
                refine j_iinc X (v := v110) (lv' := [(8, .int v110), (7, .int v108), (6, .int v89), (9, .int r55), (0, .ref (q x0)), (1, .int x1), (2, .int x2), (3, .int x3), (4, .int x4), (5, .int x5)]) dX6_likeOf_90 9 rfl (by rw [ev110]; rfl) (by decide) rfl ?_
                refine j_goto X (tgt := 28) dX6_likeOf_93 (by decide) ?_
                refine j_lvsub [4, 5, 6, 7, 8, 9, 2, 1, 0] (lv' := [(0, .ref (q x0)), (1, .int x1), (2, .int x2), (3, .int x3), (4, .int x4), (5, .int x5), (6, .int v89), (7, .int v108), (8, .int v110)]) rfl ?_
                exact ih x0 x1 x2 x3 x4 x5 v89 v108 v110 σ56 hf106
              · have hf107 := br_n hf100 c105; clear hf100
                refine j_iconst X (v := 1) dX6_likeOf_83 (by decide) ?_
                refine j_goto X (tgt := 88) dX6_likeOf_84 (by decide) ?_
                refine j_nmi (fun v112 ev112 => ?_)
                replace hf107 := lt_of hf107 v112 ev112
                refine j_istore X (lv' := [(7, .int v112), (6, .int v89), (9, .int r55), (0, .ref (q x0)), (1, .int x1), (2, .int x2), (3, .int x3), (4, .int x4), (5, .int x5), (8, .int x8)]) dX6_likeOf_88 (by decide) rfl ?_
                obtain ⟨v114, ev114⟩ : ∃ y : Int32, y = x8 + (1 : Int32) := ⟨_, rfl⟩
                replace hf107 := lt_of hf107 v114 ev114
                refine j_iinc X (v := v114) (lv' := [(8, .int v114), (7, .int v112), (6, .int v89), (9, .int r55), (0, .ref (q x0)), (1, .int x1), (2, .int x2), (3, .int x3), (4, .int x4), (5, .int x5)]) dX6_likeOf_90 9 rfl (by rw [ev114]; rfl) (by decide) rfl ?_
                refine j_goto X (tgt := 28) dX6_likeOf_93 (by decide) ?_
                refine j_lvsub [4, 5, 6, 7, 8, 9, 2, 1, 0] (lv' := [(0, .ref (q x0)), (1, .int x1), (2, .int x2), (3, .int x3), (4, .int x4), (5, .int x5), (6, .int v89), (7, .int v112), (8, .int v114)]) rfl ?_
                exact ih x0 x1 x2 x3 x4 x5 v89 v112 v114 σ56 hf107
  have L8 : ∀ (nk : Nat) (x0 : Nat) (x1 : Int32) (x2 : Int32) (x3 : Int32) (x4 : Int32) (x5 : Int32) (τ : HS), lp_X6_likeOf_8  nk x0 x1 x2 x3 x4 x5 τ = some (r0, σ0) → J p l e rm_X6_likeOf s m args below meth c 10 D cs A s.heap 0 0 (MQ below (hQ D cs (fun z => z = q) (fun _ => some (.int r0)) σ0 A) args s 0 0 A) q τ [(0, .ref (q x0)), (1, .int x1), (2, .int x2), (3, .int x3), (4, .int x4), (5, .int x5)] 8 [] := by
    intro nk
    induction nk with
    | zero => intro x0 x1 x2 x3 x4 x5 τ hf0; have hf1 : (none : Option (Int32 × HS)) = some (r0, σ0) := hf0; cases hf1
    | succ nk ih =>
      intro x0 x1 x2 x3 x4 x5 τ hf0
      replace hf0 : lp_X6_likeOf_8_b  (lp_X6_likeOf_8  nk) x0 x1 x2 x3 x4 x5 τ = some (r0, σ0) := hf0
      unfold lp_X6_likeOf_8_b at hf0
      refine j_iload X dX6_likeOf_8 5 rfl ?_
      refine j_aload_n X dX6_likeOf_10 0 rfl rfl ?_
      obtain ⟨h7, hf8⟩ := chk_of hf0; clear hf0
      obtain ⟨i9, h10, hf11⟩ := bd_of hf8; clear hf8
      refine j_getr X fd_X6_30 h7 h10 dX6_likeOf_11 ?_
      refine j_iload_n X dX6_likeOf_14 1 rfl rfl ?_
      obtain ⟨h12, hf13⟩ := chk_of hf11; clear hf11
      refine j_iald X h12 dX6_likeOf_15 (fun v14 ev14 => ?_)
      replace hf13 := lt_of hf13 v14 ev14
      refine j_icmp_ge X (tgt := 124) dX6_likeOf_16 (by decide) (fun c16 => ?_) (fun c16 => ?_)
      · have hf17 := br_y hf13 c16; clear hf13
        refine j_iload_n X dX6_likeOf_124 2 rfl rfl ?_
        refine j_if_eq X (tgt := 133) dX6_likeOf_125 (by decide) (fun c19 => ?_) (fun c19 => ?_)
        · have hf20 := br_y hf17 c19; clear hf17
          refine j_iload_n X dX6_likeOf_133 3 rfl rfl ?_
          obtain ⟨er, es⟩ := rt_of hf20
          subst er
          exact j_reti X hr hlk (Nat.le_of_ble_eq_true rfl) (Nat.le_of_ble_eq_true rfl) rfl es.symm rfl dX6_likeOf_134
        · have hf21 := br_n hf17 c19; clear hf17
          refine j_iload X dX6_likeOf_128 4 rfl ?_
          refine j_goto X (tgt := 134) dX6_likeOf_130 (by decide) ?_
          obtain ⟨er, es⟩ := rt_of hf21
          subst er
          exact j_reti X hr hlk (Nat.le_of_ble_eq_true rfl) (Nat.le_of_ble_eq_true rfl) rfl es.symm rfl dX6_likeOf_134
      · have hf18 := br_n hf13 c16; clear hf13
        refine j_iconst X (v := 0) dX6_likeOf_19 (by decide) ?_
        refine j_nmi (fun v22 ev22 => ?_)
        replace hf18 := lt_of hf18 v22 ev22
        refine j_istore X (lv' := [(6, .int v22), (0, .ref (q x0)), (1, .int x1), (2, .int x2), (3, .int x3), (4, .int x4), (5, .int x5)]) dX6_likeOf_20 (by decide) rfl ?_
        refine j_iconst X (v := 1) dX6_likeOf_22 (by decide) ?_
        refine j_nmi (fun v24 ev24 => ?_)
        replace hf18 := lt_of hf18 v24 ev24
        refine j_istore X (lv' := [(7, .int v24), (6, .int v22), (0, .ref (q x0)), (1, .int x1), (2, .int x2), (3, .int x3), (4, .int x4), (5, .int x5)]) dX6_likeOf_23 (by decide) rfl ?_
        refine j_iconst X (v := 0) dX6_likeOf_25 (by decide) ?_
        refine j_nmi (fun v26 ev26 => ?_)
        replace hf18 := lt_of hf18 v26 ev26
        refine j_istore X (lv' := [(8, .int v26), (7, .int v24), (6, .int v22), (0, .ref (q x0)), (1, .int x1), (2, .int x2), (3, .int x3), (4, .int x4), (5, .int x5)]) dX6_likeOf_26 (by decide) rfl ?_
        refine j_lvsub [3, 4, 5, 6, 7, 8, 2, 1, 0] (lv' := [(0, .ref (q x0)), (1, .int x1), (2, .int x2), (3, .int x3), (4, .int x4), (5, .int x5), (6, .int v22), (7, .int v24), (8, .int v26)]) rfl ?_
        exact L28 _ (ih) 1000 x0 x1 x2 x3 x4 x5 v22 v24 v26 τ hf18
  refine j_iconst X (v := 0) dX6_likeOf_0 (by decide) ?_
  refine j_nmi (fun v1 ev1 => ?_)
  replace hf0 := lt_of hf0 v1 ev1
  refine j_istore_n X (lv' := [(3, .int v1), (0, .ref (q a0)), (1, .int a1), (2, .int a2)]) dX6_likeOf_1 rfl (by decide) rfl ?_
  refine j_iconst X (v := 0) dX6_likeOf_2 (by decide) ?_
  refine j_nmi (fun v3 ev3 => ?_)
  replace hf0 := lt_of hf0 v3 ev3
  refine j_istore X (lv' := [(4, .int v3), (3, .int v1), (0, .ref (q a0)), (1, .int a1), (2, .int a2)]) dX6_likeOf_3 (by decide) rfl ?_
  refine j_iconst X (v := 0) dX6_likeOf_5 (by decide) ?_
  refine j_nmi (fun v5 ev5 => ?_)
  replace hf0 := lt_of hf0 v5 ev5
  refine j_istore X (lv' := [(5, .int v5), (4, .int v3), (3, .int v1), (0, .ref (q a0)), (1, .int a1), (2, .int a2)]) dX6_likeOf_6 (by decide) rfl ?_
  refine j_lvsub [3, 4, 5, 2, 1, 0] (lv' := [(0, .ref (q a0)), (1, .int a1), (2, .int a2), (3, .int v1), (4, .int v3), (5, .int v5)]) rfl ?_
  exact L8  1000 a0 a1 a2 v1 v3 v5 σ hf0
abbrev rm_X6_list : Room := { frames := 2, cells := 0, slots := 0, locals := 128 }
set_option maxHeartbeats 4000000 in
set_option maxRecDepth 100000 in
theorem c_X6_list (l : Launch) (D : va_G) (cs : Nat → ClassId) (q : Nat → Nat) (a0 : Nat) (a1 : Int32) (a2 : Int32) (σ σ0 : HS) (r0 : Int32) (hf0 : f_X6_list a0 a1 a2 σ = some (r0, σ0)) : MT l yX6_list (Cond.code yX6_list cX6_list 4 (some .int) :: lw_g) rm_X6_list D cs q σ σ0 [.ref (q a0), .int a1, .int a2] (fun z => z = q) (fun _ => some (.int r0)) 0 0 := by
  unfold f_X6_list at hf0
  refine MT_of (cc := cX6_list) (lv0 := [(0, .ref (q a0)), (1, .int a1), (2, .int a2)]) (by decide) (Nat.le_of_ble_eq_true rfl) rfl (fun p e s m args below meth c A X hr hlk hin => ?_)
  have L34 : ∀ (nk : Nat) (x0 : Nat) (x1 : Int32) (x2 : Int32) (x3 : Int32) (τ : HS), lp_X6_list_34  nk x0 x1 x2 x3 τ = some (r0, σ0) → J p l e rm_X6_list s m args below meth c 4 D cs A s.heap 0 0 (MQ below (hQ D cs (fun z => z = q) (fun _ => some (.int r0)) σ0 A) args s 0 0 A) q τ [(0, .ref (q x0)), (1, .int x1), (2, .int x2), (3, .int x3)] 34 [] := by
    intro nk
    induction nk with
    | zero => intro x0 x1 x2 x3 τ hf0; have hf1 : (none : Option (Int32 × HS)) = some (r0, σ0) := hf0; cases hf1
    | succ nk ih =>
      intro x0 x1 x2 x3 τ hf0
      replace hf0 : lp_X6_list_34_b  (lp_X6_list_34  nk) x0 x1 x2 x3 τ = some (r0, σ0) := hf0
      unfold lp_X6_list_34_b at hf0
      refine j_iload_n X dX6_list_34 3 rfl rfl ?_
      refine j_bipush X (v := 8) dX6_list_35 (by decide) ?_
      refine j_icmp_ge X (tgt := 58) dX6_list_37 (by decide) (fun c26 => ?_) (fun c26 => ?_)
      · have hf27 := br_y hf0 c26; clear hf0
        refine j_iconst X (v := 1) dX6_list_58 (by decide) ?_
        obtain ⟨er, es⟩ := rt_of hf27
        subst er
        exact j_reti X hr hlk (Nat.le_of_ble_eq_true rfl) (Nat.le_of_ble_eq_true rfl) rfl es.symm rfl dX6_list_59
      · have hf28 := br_n hf0 c26; clear hf0
        refine j_aload_n X dX6_list_40 0 rfl rfl ?_
        obtain ⟨h29, hf30⟩ := chk_of hf28; clear hf28
        obtain ⟨i31, h32, hf33⟩ := bd_of hf30; clear hf30
        refine j_getr X fd_X6_92 h29 h32 dX6_list_41 ?_
        refine j_bipush X (v := 8) dX6_list_44 (by decide) ?_
        refine j_iload_n X dX6_list_46 1 rfl rfl ?_
        refine j_imul X dX6_list_47 ?_
        refine j_iload_n X dX6_list_48 3 rfl rfl ?_
        refine j_iadd X dX6_list_49 ?_
        refine j_lconst X (v := 0) dX6_list_50 (by decide) ?_
        obtain ⟨h34, hf35⟩ := chk_of hf33; clear hf33
        refine j_last X h34 dX6_list_51 (fun σ36 eσ36 => ?_)
        replace hf35 := lt_of hf35 σ36 eσ36
        have h38 : isO σ36 6 x0 := by rw [eσ36]; exact h29
        obtain ⟨v39, ev39⟩ : ∃ y : Int32, y = x3 + (1 : Int32) := ⟨_, rfl⟩
        replace hf35 := lt_of hf35 v39 ev39
        refine j_iinc X (v := v39) (lv' := [(3, .int v39), (0, .ref (q x0)), (1, .int x1), (2, .int x2)]) dX6_list_52 3 rfl (by rw [ev39]; rfl) (by decide) rfl ?_
        refine j_goto X (tgt := 34) dX6_list_55 (by decide) ?_
        refine j_lvsub [1, 2, 3, 0] (lv' := [(0, .ref (q x0)), (1, .int x1), (2, .int x2), (3, .int v39)]) rfl ?_
        exact ih x0 x1 x2 v39 σ36 hf35
  refine j_iload_n X dX6_list_0 1 rfl rfl ?_
  obtain ⟨r1, σ2, h3, hf4⟩ := bc_of hf0; clear hf0
  refine j_callS0 X [.int a1] [] (c_X6_isList l D cs q a1 σ _ _ h3) mk_X6_isList ms_X6_isList ml_X6_308 ⟨rfl, rfl⟩ ⟨Nat.le_of_ble_eq_true rfl, Nat.le_of_ble_eq_true rfl⟩ rfl (Nat.le_of_ble_eq_true rfl) ⟨Nat.le_of_ble_eq_true rfl, Nat.le_of_ble_eq_true rfl⟩ dX6_list_1 rfl (st' := [.int r1]) rfl ?_
  refine j_if_ne X (tgt := 9) dX6_list_4 (by decide) (fun c5 => ?_) (fun c5 => ?_)
  · have hf6 := br_n hf4 c5; clear hf4
    refine j_iload_n X dX6_list_9 2 rfl rfl ?_
    refine j_bipush X (v := 8) dX6_list_10 (by decide) ?_
    refine j_icmp_le X (tgt := 18) dX6_list_12 (by decide) (fun c8 => ?_) (fun c8 => ?_)
    · have hf9 := br_y hf6 c8; clear hf6
      refine j_iload_n X dX6_list_18 2 rfl rfl ?_
      refine j_if_ge X (tgt := 25) dX6_list_19 (by decide) (fun c11 => ?_) (fun c11 => ?_)
      · have hf12 := br_y hf9 c11; clear hf9
        refine j_aload_n X dX6_list_25 0 rfl rfl ?_
        obtain ⟨h14, hf15⟩ := chk_of hf12; clear hf12
        obtain ⟨i16, h17, hf18⟩ := bd_of hf15; clear hf15
        refine j_getr X fd_X6_89 h14 h17 dX6_list_26 ?_
        refine j_iload_n X dX6_list_29 1 rfl rfl ?_
        refine j_iload_n X dX6_list_30 2 rfl rfl ?_
        obtain ⟨h19, hf20⟩ := chk_of hf18; clear hf18
        refine j_iast X h19 dX6_list_31 (fun σ21 eσ21 => ?_)
        replace hf20 := lt_of hf20 σ21 eσ21
        have h23 : isO σ21 6 a0 := by rw [eσ21]; exact h14
        refine j_iconst X (v := 0) dX6_list_32 (by decide) ?_
        refine j_nmi (fun v24 ev24 => ?_)
        replace hf20 := lt_of hf20 v24 ev24
        refine j_istore_n X (lv' := [(3, .int v24), (0, .ref (q a0)), (1, .int a1), (2, .int a2)]) dX6_list_33 rfl (by decide) rfl ?_
        refine j_lvsub [1, 2, 3, 0] (lv' := [(0, .ref (q a0)), (1, .int a1), (2, .int a2), (3, .int v24)]) rfl ?_
        exact L34  1000 a0 a1 a2 v24 σ21 hf20
      · have hf13 := br_n hf9 c11; clear hf9
        refine j_bipush X (v := -14) dX6_list_22 (by decide) ?_
        obtain ⟨er, es⟩ := rt_of hf13
        subst er
        exact j_reti X hr hlk (Nat.le_of_ble_eq_true rfl) (Nat.le_of_ble_eq_true rfl) rfl es.symm rfl dX6_list_24
    · have hf10 := br_n hf6 c8; clear hf6
      refine j_bipush X (v := -2) dX6_list_15 (by decide) ?_
      obtain ⟨er, es⟩ := rt_of hf10
      subst er
      exact j_reti X hr hlk (Nat.le_of_ble_eq_true rfl) (Nat.le_of_ble_eq_true rfl) rfl es.symm rfl dX6_list_17
  · have hf7 := br_y hf4 c5; clear hf4
    refine j_iconst X (v := -1) dX6_list_7 (by decide) ?_
    obtain ⟨er, es⟩ := rt_of hf7
    subst er
    exact j_reti X hr hlk (Nat.le_of_ble_eq_true rfl) (Nat.le_of_ble_eq_true rfl) rfl es.symm rfl dX6_list_8
abbrev rm_X6_lowest : Room := { frames := 0, cells := 0, slots := 0, locals := 0 }
set_option maxHeartbeats 4000000 in
set_option maxRecDepth 100000 in
theorem c_X6_lowest (l : Launch) (D : va_G) (cs : Nat → ClassId) (q : Nat → Nat) (a0 : Int64) (a2 : Int64) (a4 : Int32) (σ σ0 : HS) (r0 : Int64) (hf0 : f_X6_lowest a0 a2 a4 σ = some (r0, σ0)) : MT l yX6_lowest (Cond.code yX6_lowest cX6_lowest 11 (some .long) :: lw_g) rm_X6_lowest D cs q σ σ0 [.long a0, .long a2, .int a4] (fun z => z = q) (fun _ => some (.long r0)) 0 0 := by
  unfold f_X6_lowest at hf0
  refine MT_of (cc := cX6_lowest) (lv0 := [(0, .long a0), (2, .long a2), (4, .int a4)]) (by decide) (Nat.le_of_ble_eq_true rfl) rfl (fun p e s m args below meth c A X hr hlk hin => ?_)
  have L6 : ∀ (nk : Nat) (x0 : Int64) (x2 : Int64) (x4 : Int32) (x5 : Int64) (x7 : Int64) (τ : HS), lp_X6_lowest_6  nk x0 x2 x4 x5 x7 τ = some (r0, σ0) → J p l e rm_X6_lowest s m args below meth c 11 D cs A s.heap 0 0 (MQ below (hQ D cs (fun z => z = q) (fun _ => some (.long r0)) σ0 A) args s 0 0 A) q τ [(0, .long x0), (2, .long x2), (4, .int x4), (5, .long x5), (7, .long x7)] 6 [] := by
    intro nk
    induction nk with
    | zero => intro x0 x2 x4 x5 x7 τ hf0; have hf1 : (none : Option (Int64 × HS)) = some (r0, σ0) := hf0; cases hf1
    | succ nk ih =>
      intro x0 x2 x4 x5 x7 τ hf0
      replace hf0 : lp_X6_lowest_6_b  (lp_X6_lowest_6  nk) x0 x2 x4 x5 x7 τ = some (r0, σ0) := hf0
      unfold lp_X6_lowest_6_b at hf0
      refine j_lload X dX6_lowest_6 4 rfl ?_
      refine j_lconst X (v := 0) dX6_lowest_8 (by decide) ?_
      refine j_lcmp X dX6_lowest_9 ?_
      refine j_if_eq X (tgt := 31) dX6_lowest_10 (by decide) (fun c1 => ?_) (fun c1 => ?_)
      · have hf2 := br_y hf0 c1; clear hf0
        refine j_iload X dX6_lowest_31 2 rfl ?_
        refine j_if_ne X (tgt := 40) dX6_lowest_33 (by decide) (fun c4 => ?_) (fun c4 => ?_)
        · have hf5 := br_n hf2 c4; clear hf2
          refine j_lload_n X dX6_lowest_40 1 rfl rfl ?_
          refine j_lload X dX6_lowest_41 3 rfl ?_
          obtain ⟨h7, hf8⟩ := chk_of hf5; clear hf5
          refine j_ldiv X dX6_lowest_43 h7 ?_
          obtain ⟨er, es⟩ := rt_of hf8
          subst er
          exact j_retl X hr hlk (Nat.le_of_ble_eq_true rfl) (Nat.le_of_ble_eq_true rfl) rfl es.symm rfl dX6_lowest_44
        · have hf6 := br_y hf2 c4; clear hf2
          refine j_lload_n X dX6_lowest_36 0 rfl rfl ?_
          refine j_goto X (tgt := 41) dX6_lowest_37 (by decide) ?_
          refine j_lload X dX6_lowest_41 3 rfl ?_
          obtain ⟨h9, hf10⟩ := chk_of hf6; clear hf6
          refine j_ldiv X dX6_lowest_43 h9 ?_
          obtain ⟨er, es⟩ := rt_of hf10
          subst er
          exact j_retl X hr hlk (Nat.le_of_ble_eq_true rfl) (Nat.le_of_ble_eq_true rfl) rfl es.symm rfl dX6_lowest_44
      · have hf3 := br_n hf0 c1; clear hf0
        refine j_lload X dX6_lowest_13 3 rfl ?_
        refine j_lload X dX6_lowest_15 4 rfl ?_
        obtain ⟨h11, hf12⟩ := chk_of hf3; clear hf3
        refine j_lrem X dX6_lowest_17 h11 ?_
        refine j_nml (fun v13 ev13 => ?_)
        replace hf12 := lt_of hf12 v13 ev13
        refine j_lstore X (lv' := [(9, .long v13), (0, .long x0), (2, .long x2), (4, .int x4), (5, .long x5), (7, .long x7)]) dX6_lowest_18 (by decide) rfl ?_
        refine j_lload X dX6_lowest_20 5 rfl ?_
        refine j_lstore X (lv' := [(5, .long x7), (9, .long v13), (0, .long x0), (2, .long x2), (4, .int x4), (7, .long x7)]) dX6_lowest_22 (by decide) rfl ?_
        refine j_lload X dX6_lowest_24 1 rfl ?_
        refine j_lstore X (lv' := [(7, .long v13), (5, .long x7), (9, .long v13), (0, .long x0), (2, .long x2), (4, .int x4)]) dX6_lowest_26 (by decide) rfl ?_
        refine j_goto X (tgt := 6) dX6_lowest_28 (by decide) ?_
        refine j_lvsub [3, 4, 5, 1, 0] (lv' := [(0, .long x0), (2, .long x2), (4, .int x4), (5, .long x7), (7, .long v13)]) rfl ?_
        exact ih x0 x2 x4 x7 v13 τ hf12
  refine j_lload_n X dX6_lowest_0 0 rfl rfl ?_
  refine j_lstore X (lv' := [(5, .long a0), (0, .long a0), (2, .long a2), (4, .int a4)]) dX6_lowest_1 (by decide) rfl ?_
  refine j_lload_n X dX6_lowest_3 2 rfl rfl ?_
  refine j_lstore X (lv' := [(7, .long a2), (5, .long a0), (0, .long a0), (2, .long a2), (4, .int a4)]) dX6_lowest_4 (by decide) rfl ?_
  refine j_lvsub [2, 3, 4, 1, 0] (lv' := [(0, .long a0), (2, .long a2), (4, .int a4), (5, .long a0), (7, .long a2)]) rfl ?_
  exact L6  1000 a0 a2 a4 a0 a2 σ hf0
