abbrev rm_X0_unlikeIn : Room := { frames := 0, cells := 0, slots := 0, locals := 0 }
set_option maxHeartbeats 4000000 in
set_option maxRecDepth 100000 in
theorem c_X0_unlikeIn (l : Launch) (D : va_G) (cs : Nat → ClassId) (q : Nat → Nat) (a0 : Nat) (σ σ0 : HS) (r0 : Int32) (hf0 : f_X0_unlikeIn a0 σ = some (r0, σ0)) : MT l yX0_unlikeIn (Cond.code yX0_unlikeIn cX0_unlikeIn 3 (some .int) :: lw_g) rm_X0_unlikeIn D cs q σ σ0 [.ref (q a0)] (fun z => z = q) (fun _ => some (.int r0)) 0 0 := by
  unfold f_X0_unlikeIn at hf0
  refine MT_of (cc := cX0_unlikeIn) (lv0 := [(0, .ref (q a0))]) (by decide) (Nat.le_of_ble_eq_true rfl) rfl (fun p e s m args below meth c A X hr hlk hin => ?_)
  have L4 : ∀ (nk : Nat) (x0 : Nat) (x1 : Int32) (x2 : Int32) (τ : HS), lp_X0_unlikeIn_4  nk x0 x1 x2 τ = some (r0, σ0) → J p l e rm_X0_unlikeIn s m args below meth c 3 D cs A s.heap 0 0 (MQ below (hQ D cs (fun z => z = q) (fun _ => some (.int r0)) σ0 A) args s 0 0 A) q τ [(0, .ref (q x0)), (1, .int x1), (2, .int x2)] 4 [] := by
    intro nk
    induction nk with
    | zero => intro x0 x1 x2 τ hf0; have hf1 : (none : Option (Int32 × HS)) = some (r0, σ0) := hf0; cases hf1
    | succ nk ih =>
      intro x0 x1 x2 τ hf0
      replace hf0 : lp_X0_unlikeIn_4_b  (lp_X0_unlikeIn_4  nk) x0 x1 x2 τ = some (r0, σ0) := hf0
      unfold lp_X0_unlikeIn_4_b at hf0
      refine j_iload_n X dX0_unlikeIn_4 2 rfl rfl ?_
      refine j_aload_n X dX0_unlikeIn_5 0 rfl rfl ?_
      obtain ⟨h5, hf6⟩ := chk_of hf0; clear hf0
      refine j_alen X (Or.inl rfl) h5 dX0_unlikeIn_6 (fun v7 ev7 => ?_)
      replace hf6 := lt_of hf6 v7 ev7
      refine j_icmp_ge X (tgt := 31) dX0_unlikeIn_7 (by decide) (fun c9 => ?_) (fun c9 => ?_)
      · have hf10 := br_y hf6 c9; clear hf6
        refine j_iload_n X dX0_unlikeIn_31 1 rfl rfl ?_
        obtain ⟨er, es⟩ := rt_of hf10
        subst er
        exact j_reti X hr hlk (Nat.le_of_ble_eq_true rfl) (Nat.le_of_ble_eq_true rfl) rfl es.symm rfl dX0_unlikeIn_32
      · have hf11 := br_n hf6 c9; clear hf6
        refine j_iload_n X dX0_unlikeIn_10 1 rfl rfl ?_
        refine j_aload_n X dX0_unlikeIn_11 0 rfl rfl ?_
        refine j_iload_n X dX0_unlikeIn_12 2 rfl rfl ?_
        obtain ⟨h12, hf13⟩ := chk_of hf11; clear hf11
        refine j_iald X h12 dX0_unlikeIn_13 (fun v14 ev14 => ?_)
        replace hf13 := lt_of hf13 v14 ev14
        refine j_iload_n X dX0_unlikeIn_14 2 rfl rfl ?_
        refine j_icmp_ne X (tgt := 22) dX0_unlikeIn_15 (by decide) (fun c16 => ?_) (fun c16 => ?_)
        · have hf17 := br_n hf13 c16; clear hf13
          refine j_iconst X (v := 0) dX0_unlikeIn_22 (by decide) ?_
          refine j_iadd X dX0_unlikeIn_23 ?_
          refine j_nmi (fun v19 ev19 => ?_)
          replace hf17 := lt_of hf17 v19 ev19
          refine j_istore_n X (lv' := [(1, .int v19), (0, .ref (q x0)), (2, .int x2)]) dX0_unlikeIn_24 rfl (by decide) rfl ?_
          obtain ⟨v21, ev21⟩ : ∃ y : Int32, y = x2 + (1 : Int32) := ⟨_, rfl⟩
          replace hf17 := lt_of hf17 v21 ev21
          refine j_iinc X (v := v21) (lv' := [(2, .int v21), (1, .int v19), (0, .ref (q x0))]) dX0_unlikeIn_25 2 rfl (by rw [ev21]; rfl) (by decide) rfl ?_
          refine j_goto X (tgt := 4) dX0_unlikeIn_28 (by decide) ?_
          refine j_lvsub [2, 1, 0] (lv' := [(0, .ref (q x0)), (1, .int v19), (2, .int v21)]) rfl ?_
          exact ih x0 v19 v21 τ hf17
        · have hf18 := br_y hf13 c16; clear hf13
          refine j_iconst X (v := 1) dX0_unlikeIn_18 (by decide) ?_
          refine j_goto X (tgt := 23) dX0_unlikeIn_19 (by decide) ?_
          refine j_iadd X dX0_unlikeIn_23 ?_
          refine j_nmi (fun v23 ev23 => ?_)
          replace hf18 := lt_of hf18 v23 ev23
          refine j_istore_n X (lv' := [(1, .int v23), (0, .ref (q x0)), (2, .int x2)]) dX0_unlikeIn_24 rfl (by decide) rfl ?_
          obtain ⟨v25, ev25⟩ : ∃ y : Int32, y = x2 + (1 : Int32) := ⟨_, rfl⟩
          replace hf18 := lt_of hf18 v25 ev25
          refine j_iinc X (v := v25) (lv' := [(2, .int v25), (1, .int v23), (0, .ref (q x0))]) dX0_unlikeIn_25 2 rfl (by rw [ev25]; rfl) (by decide) rfl ?_
          refine j_goto X (tgt := 4) dX0_unlikeIn_28 (by decide) ?_
          refine j_lvsub [2, 1, 0] (lv' := [(0, .ref (q x0)), (1, .int v23), (2, .int v25)]) rfl ?_
          exact ih x0 v23 v25 τ hf18
  refine j_iconst X (v := 0) dX0_unlikeIn_0 (by decide) ?_
  refine j_nmi (fun v1 ev1 => ?_)
  replace hf0 := lt_of hf0 v1 ev1
  refine j_istore_n X (lv' := [(1, .int v1), (0, .ref (q a0))]) dX0_unlikeIn_1 rfl (by decide) rfl ?_
  refine j_iconst X (v := 0) dX0_unlikeIn_2 (by decide) ?_
  refine j_nmi (fun v3 ev3 => ?_)
  replace hf0 := lt_of hf0 v3 ev3
  refine j_istore_n X (lv' := [(2, .int v3), (1, .int v1), (0, .ref (q a0))]) dX0_unlikeIn_3 rfl (by decide) rfl ?_
  refine j_lvsub [2, 1, 0] (lv' := [(0, .ref (q a0)), (1, .int v1), (2, .int v3)]) rfl ?_
  exact L4  1000 a0 v1 v3 σ hf0
abbrev rm_X5_formulaOf : Room := { frames := 0, cells := 0, slots := 0, locals := 0 }
set_option maxHeartbeats 4000000 in
set_option maxRecDepth 100000 in
theorem c_X5_formulaOf (l : Launch) (D : va_G) (cs : Nat → ClassId) (q : Nat → Nat) (a0 : Nat) (a1 : Int32) (σ σ0 : HS) (r0 : (Option Nat)) (hf0 : f_X5_formulaOf a0 a1 σ = some (r0, σ0)) : MT l yX5_formulaOf (Cond.code yX5_formulaOf cX5_formulaOf 2 (some (.object "SpanKeeper$Formula")) :: lw_g) rm_X5_formulaOf D cs q σ σ0 [.ref (q a0), .int a1] (fun z => z = q) (fun z => some (va_rf (Option.map z r0))) 0 0 := by
  unfold f_X5_formulaOf at hf0
  refine MT_of (cc := cX5_formulaOf) (lv0 := [(0, .ref (q a0)), (1, .int a1)]) (by decide) (Nat.le_of_ble_eq_true rfl) rfl (fun p e s m args below meth c A X hr hlk hin => ?_)
  refine j_iload_n X dX5_formulaOf_0 1 rfl rfl ?_
  refine j_if_lt X (tgt := 15) dX5_formulaOf_1 (by decide) (fun c1 => ?_) (fun c1 => ?_)
  · have hf2 := br_y hf0 c1; clear hf0
    refine j_null X dX5_formulaOf_15 ?_
    refine j_goto X (tgt := 28) dX5_formulaOf_16 (by decide) ?_
    obtain ⟨er, es⟩ := rt_of hf2
    subst er
    exact j_reta (o := Option.map q none) X hr rfl hlk (Nat.le_of_ble_eq_true rfl) (Nat.le_of_ble_eq_true rfl) rfl es.symm rfl dX5_formulaOf_28
  · have hf3 := br_n hf0 c1; clear hf0
    refine j_iload_n X dX5_formulaOf_4 1 rfl rfl ?_
    refine j_aload_n X dX5_formulaOf_5 0 rfl rfl ?_
    obtain ⟨h4, hf5⟩ := chk_of hf3; clear hf3
    obtain ⟨i6, h7, hf8⟩ := bd_of hf5; clear hf5
    refine j_getr X fd_X5_14 h4 h7 dX5_formulaOf_6 ?_
    obtain ⟨h9, hf10⟩ := chk_of hf8; clear hf8
    refine j_geti X fd_X5_93 h9 dX5_formulaOf_9 (fun v11 ev11 => ?_)
    replace hf10 := lt_of hf10 v11 ev11
    refine j_icmp_lt X (tgt := 19) dX5_formulaOf_12 (by decide) (fun c13 => ?_) (fun c13 => ?_)
    · have hf14 := br_y hf10 c13; clear hf10
      refine j_aload_n X dX5_formulaOf_19 0 rfl rfl ?_
      refine j_getr X fd_X5_14 h4 h7 dX5_formulaOf_20 ?_
      obtain ⟨i19, h20, hf21⟩ := bd_of hf14; clear hf14
      refine j_getr X fd_X5_96 h9 h20 dX5_formulaOf_23 ?_
      refine j_iload_n X dX5_formulaOf_26 1 rfl rfl ?_
      obtain ⟨h22, hf23⟩ := chk_of hf21; clear hf21
      refine j_aald X h22 dX5_formulaOf_27 (fun o24 eo24 => ?_)
      replace hf23 := lt_of hf23 o24 eo24
      obtain ⟨er, es⟩ := rt_of hf23
      subst er
      exact j_reta (o := Option.map q _) X hr rfl hlk (Nat.le_of_ble_eq_true rfl) (Nat.le_of_ble_eq_true rfl) rfl es.symm rfl dX5_formulaOf_28
    · have hf15 := br_n hf10 c13; clear hf10
      refine j_null X dX5_formulaOf_15 ?_
      refine j_goto X (tgt := 28) dX5_formulaOf_16 (by decide) ?_
      obtain ⟨er, es⟩ := rt_of hf15
      subst er
      exact j_reta (o := Option.map q none) X hr rfl hlk (Nat.le_of_ble_eq_true rfl) (Nat.le_of_ble_eq_true rfl) rfl es.symm rfl dX5_formulaOf_28
abbrev rm_X5_carryAsItIs : Room := { frames := 4, cells := 0, slots := 0, locals := 256 }
set_option maxHeartbeats 4000000 in
set_option maxRecDepth 100000 in
theorem c_X5_carryAsItIs (l : Launch) (D : va_G) (cs : Nat → ClassId) (q : Nat → Nat) (a0 : Nat) (a1 : Nat) (σ σ0 : HS) (r0 : Unit) (hf0 : f_X5_carryAsItIs a0 a1 σ = some (r0, σ0)) : MT l yX5_carryAsItIs (Cond.code yX5_carryAsItIs cX5_carryAsItIs 2 none :: lw_g) rm_X5_carryAsItIs D cs q σ σ0 [.ref (q a0), .ref (q a1)] (fun z => z = q) (fun _ => none) 0 0 := by
  unfold f_X5_carryAsItIs at hf0
  refine MT_of (cc := cX5_carryAsItIs) (lv0 := [(0, .ref (q a0)), (1, .ref (q a1))]) (by decide) (Nat.le_of_ble_eq_true rfl) rfl (fun p e s m args below meth c A X hr hlk hin => ?_)
  refine j_aload_n X dX5_carryAsItIs_0 0 rfl rfl ?_
  obtain ⟨h1, hf2⟩ := chk_of hf0; clear hf0
  obtain ⟨i3, h4, hf5⟩ := bd_of hf2; clear hf2
  refine j_getr X fd_X5_35 h1 h4 dX5_carryAsItIs_1 ?_
  refine j_aload_n X dX5_carryAsItIs_4 0 rfl rfl ?_
  obtain ⟨i6, h7, hf8⟩ := bd_of hf5; clear hf5
  refine j_getr X fd_X5_14 h1 h7 dX5_carryAsItIs_5 ?_
  obtain ⟨h9, hf10⟩ := chk_of hf8; clear hf8
  obtain ⟨r11, σ12, h13, hf14⟩ := bc_of hf10; clear hf10
  refine j_callV0 X [.ref (q i6)] [] (c_X4_standAs l D cs q i3 i6 σ _ _ h13) mk_X4_standAs mv_X4_standAs ml_X5_199 h9 rfl (by decide) ⟨rfl, rfl⟩ ⟨Nat.le_of_ble_eq_true rfl, Nat.le_of_ble_eq_true rfl⟩ rfl (Nat.le_of_ble_eq_true rfl) ⟨Nat.le_of_ble_eq_true rfl, Nat.le_of_ble_eq_true rfl⟩ dX5_carryAsItIs_8 rfl (st' := []) rfl ?_
  refine j_aload_n X dX5_carryAsItIs_11 0 rfl rfl ?_
  obtain ⟨h15, hf16⟩ := chk_of hf14; clear hf14
  obtain ⟨i17, h18, hf19⟩ := bd_of hf16; clear hf16
  refine j_getr X fd_X5_35 h15 h18 dX5_carryAsItIs_12 ?_
  refine j_aload_n X dX5_carryAsItIs_15 1 rfl rfl ?_
  obtain ⟨h20, hf21⟩ := chk_of hf19; clear hf19
  obtain ⟨r22, σ23, h24, hf25⟩ := bc_of hf21; clear hf21
  refine j_callV0 X [.ref (q a1)] [] (c_X4_carry l D cs q i17 a1 σ12 _ _ h24) mk_X4_carry mv_X4_carry ml_X5_173 h20 rfl (by decide) ⟨rfl, rfl⟩ ⟨Nat.le_of_ble_eq_true rfl, Nat.le_of_ble_eq_true rfl⟩ rfl (Nat.le_of_ble_eq_true rfl) ⟨Nat.le_of_ble_eq_true rfl, Nat.le_of_ble_eq_true rfl⟩ dX5_carryAsItIs_16 rfl (st' := []) rfl ?_
  obtain ⟨er, es⟩ := rt_of hf25
  exact j_retv X hr hlk (Nat.le_of_ble_eq_true rfl) (Nat.le_of_ble_eq_true rfl) rfl es.symm rfl dX5_carryAsItIs_19
abbrev rm_X5_widthWithHalf : Room := { frames := 4, cells := 0, slots := 0, locals := 256 }
set_option maxHeartbeats 4000000 in
set_option maxRecDepth 100000 in
theorem c_X5_widthWithHalf (l : Launch) (D : va_G) (cs : Nat → ClassId) (q : Nat → Nat) (a0 : Nat) (a1 : Nat) (a2 : Int32) (σ σ0 : HS) (r0 : Int64) (hf0 : f_X5_widthWithHalf a0 a1 a2 σ = some (r0, σ0)) : MT l yX5_widthWithHalf (Cond.code yX5_widthWithHalf cX5_widthWithHalf 6 (some .long) :: lw_g) rm_X5_widthWithHalf D cs q σ σ0 [.ref (q a0), .ref (q a1), .int a2] (fun z => z = q) (fun _ => some (.long r0)) 0 0 := by
  unfold f_X5_widthWithHalf at hf0
  refine MT_of (cc := cX5_widthWithHalf) (lv0 := [(0, .ref (q a0)), (1, .ref (q a1)), (2, .int a2)]) (by decide) (Nat.le_of_ble_eq_true rfl) rfl (fun p e s m args below meth c A X hr hlk hin => ?_)
  have L2 : ∀ (nk : Nat) (x0 : Nat) (x1 : Nat) (x2 : Int32) (x3 : Int32) (τ : HS), lp_X5_widthWithHalf_2  nk x0 x1 x2 x3 τ = some (r0, σ0) → J p l e rm_X5_widthWithHalf s m args below meth c 6 D cs A s.heap 0 0 (MQ below (hQ D cs (fun z => z = q) (fun _ => some (.long r0)) σ0 A) args s 0 0 A) q τ [(0, .ref (q x0)), (1, .ref (q x1)), (2, .int x2), (3, .int x3)] 2 [] := by
    intro nk
    induction nk with
    | zero => intro x0 x1 x2 x3 τ hf0; have hf1 : (none : Option (Int64 × HS)) = some (r0, σ0) := hf0; cases hf1
    | succ nk ih =>
      intro x0 x1 x2 x3 τ hf0
      replace hf0 : lp_X5_widthWithHalf_2_b  (lp_X5_widthWithHalf_2  nk) x0 x1 x2 x3 τ = some (r0, σ0) := hf0
      unfold lp_X5_widthWithHalf_2_b at hf0
      refine j_iload_n X dX5_widthWithHalf_2 3 rfl rfl ?_
      refine j_bipush X (v := 6) dX5_widthWithHalf_3 (by decide) ?_
      refine j_icmp_ge X (tgt := 92) dX5_widthWithHalf_5 (by decide) (fun c3 => ?_) (fun c3 => ?_)
      · have hf4 := br_y hf0 c3; clear hf0
        refine j_aload_n X dX5_widthWithHalf_92 0 rfl rfl ?_
        obtain ⟨h6, hf7⟩ := chk_of hf4; clear hf4
        obtain ⟨i8, h9, hf10⟩ := bd_of hf7; clear hf7
        refine j_getr X fd_X5_35 h6 h9 dX5_widthWithHalf_93 ?_
        refine j_aload_n X dX5_widthWithHalf_96 1 rfl rfl ?_
        obtain ⟨h11, hf12⟩ := chk_of hf10; clear hf10
        obtain ⟨r13, σ14, h15, hf16⟩ := bc_of hf12; clear hf12
        refine j_callV0 X [.ref (q x1)] [] (c_X4_carry l D cs q i8 x1 τ _ _ h15) mk_X4_carry mv_X4_carry ml_X5_173 h11 rfl (by decide) ⟨rfl, rfl⟩ ⟨Nat.le_of_ble_eq_true rfl, Nat.le_of_ble_eq_true rfl⟩ rfl (Nat.le_of_ble_eq_true rfl) ⟨Nat.le_of_ble_eq_true rfl, Nat.le_of_ble_eq_true rfl⟩ dX5_widthWithHalf_97 rfl (st' := []) rfl ?_
        refine j_aload_n X dX5_widthWithHalf_100 0 rfl rfl ?_
        obtain ⟨h17, hf18⟩ := chk_of hf16; clear hf16
        obtain ⟨i19, h20, hf21⟩ := bd_of hf18; clear hf18
        refine j_getr X fd_X5_35 h17 h20 dX5_widthWithHalf_101 ?_
        obtain ⟨h22, hf23⟩ := chk_of hf21; clear hf21
        refine j_getl X fd_X5_184 h22 dX5_widthWithHalf_104 (fun v24 ev24 => ?_)
        replace hf23 := lt_of hf23 v24 ev24
        refine j_aload_n X dX5_widthWithHalf_107 0 rfl rfl ?_
        refine j_getr X fd_X5_35 h17 h20 dX5_widthWithHalf_108 ?_
        refine j_getl X fd_X5_188 h22 dX5_widthWithHalf_111 (fun v29 ev29 => ?_)
        replace hf23 := lt_of hf23 v29 ev29
        refine j_lsub X dX5_widthWithHalf_114 ?_
        obtain ⟨er, es⟩ := rt_of hf23
        subst er
        exact j_retl X hr hlk (Nat.le_of_ble_eq_true rfl) (Nat.le_of_ble_eq_true rfl) rfl es.symm rfl dX5_widthWithHalf_115
      · have hf5 := br_n hf0 c3; clear hf0
        refine j_iload_n X dX5_widthWithHalf_8 2 rfl rfl ?_
        refine j_iload_n X dX5_widthWithHalf_9 3 rfl rfl ?_
        refine j_ishr X dX5_widthWithHalf_10 ?_
        refine j_iconst X (v := 1) dX5_widthWithHalf_11 (by decide) ?_
        refine j_iand X dX5_widthWithHalf_12 ?_
        refine j_iconst X (v := 1) dX5_widthWithHalf_13 (by decide) ?_
        refine j_icmp_ne X (tgt := 21) dX5_widthWithHalf_14 (by decide) (fun c31 => ?_) (fun c31 => ?_)
        · have hf32 := br_n hf5 c31; clear hf5
          refine j_iconst X (v := 0) dX5_widthWithHalf_21 (by decide) ?_
          refine j_nmi (fun v34 ev34 => ?_)
          replace hf32 := lt_of hf32 v34 ev34
          refine j_istore X (lv' := [(4, .int v34), (0, .ref (q x0)), (1, .ref (q x1)), (2, .int x2), (3, .int x3)]) dX5_widthWithHalf_22 (by decide) rfl ?_
          refine j_iload X dX5_widthWithHalf_24 0 rfl ?_
          refine j_if_eq X (tgt := 43) dX5_widthWithHalf_26 (by decide) (fun c36 => ?_) (fun c36 => ?_)
          · have hf37 := br_y hf32 c36; clear hf32
            refine j_aload_n X dX5_widthWithHalf_43 1 rfl rfl ?_
            obtain ⟨h39, hf40⟩ := chk_of hf37; clear hf37
            obtain ⟨i41, h42, hf43⟩ := bd_of hf40; clear hf40
            refine j_getr X fd_X5_14 h39 h42 dX5_widthWithHalf_44 ?_
            obtain ⟨h44, hf45⟩ := chk_of hf43; clear hf43
            obtain ⟨i46, h47, hf48⟩ := bd_of hf45; clear hf45
            refine j_getr X fd_X5_196 h44 h47 dX5_widthWithHalf_47 ?_
            refine j_iload_n X dX5_widthWithHalf_50 4 rfl rfl ?_
            obtain ⟨h49, hf50⟩ := chk_of hf48; clear hf48
            refine j_iald X h49 dX5_widthWithHalf_51 (fun v51 ev51 => ?_)
            replace hf50 := lt_of hf50 v51 ev51
            refine j_istore X (lv' := [(5, .int v51), (4, .int v34), (0, .ref (q x0)), (1, .ref (q x1)), (2, .int x2), (3, .int x3)]) dX5_widthWithHalf_52 (by decide) rfl ?_
            refine j_aload_n X dX5_widthWithHalf_54 2 rfl rfl ?_
            obtain ⟨i53, h54, hf55⟩ := bd_of hf50; clear hf50
            refine j_getr X fd_X5_35 h39 h54 dX5_widthWithHalf_55 ?_
            refine j_iload_n X dX5_widthWithHalf_58 5 rfl rfl ?_
            refine j_aload_n X dX5_widthWithHalf_59 2 rfl rfl ?_
            refine j_getr X fd_X5_14 h39 h42 dX5_widthWithHalf_60 ?_
            obtain ⟨i59, h60, hf61⟩ := bd_of hf55; clear hf55
            refine j_getr X fd_X5_145 h44 h60 dX5_widthWithHalf_63 ?_
            refine j_iload_n X dX5_widthWithHalf_66 5 rfl rfl ?_
            obtain ⟨h62, hf63⟩ := chk_of hf61; clear hf61
            refine j_iald X h62 dX5_widthWithHalf_67 (fun v64 ev64 => ?_)
            replace hf63 := lt_of hf63 v64 ev64
            refine j_iload X dX5_widthWithHalf_68 0 rfl ?_
            refine j_isub X dX5_widthWithHalf_70 ?_
            refine j_aload_n X dX5_widthWithHalf_71 2 rfl rfl ?_
            refine j_getr X fd_X5_14 h39 h42 dX5_widthWithHalf_72 ?_
            refine j_getr X fd_X5_145 h44 h60 dX5_widthWithHalf_75 ?_
            refine j_iload_n X dX5_widthWithHalf_78 5 rfl rfl ?_
            obtain ⟨h72, hf73⟩ := chk_of hf63; clear hf63
            refine j_iald X h72 dX5_widthWithHalf_79 (fun v74 ev74 => ?_)
            replace hf73 := lt_of hf73 v74 ev74
            refine j_iload X dX5_widthWithHalf_80 0 rfl ?_
            refine j_iadd X dX5_widthWithHalf_82 ?_
            obtain ⟨h76, hf77⟩ := chk_of hf73; clear hf73
            obtain ⟨r78, σ79, h80, hf81⟩ := bc_of hf77; clear hf77
            refine j_callV0 X [.int x3, .int (v64 - v51), .int (v74 + v51)] [] (c_X4_stand l D cs q i53 x3 (v64 - v51) (v74 + v51) τ _ _ h80) mk_X4_stand mv_X4_stand ml_X5_169 h76 rfl (by decide) ⟨rfl, rfl⟩ ⟨Nat.le_of_ble_eq_true rfl, Nat.le_of_ble_eq_true rfl⟩ rfl (Nat.le_of_ble_eq_true rfl) ⟨Nat.le_of_ble_eq_true rfl, Nat.le_of_ble_eq_true rfl⟩ dX5_widthWithHalf_83 rfl (st' := []) rfl ?_
            obtain ⟨v82, ev82⟩ : ∃ y : Int32, y = x3 + (1 : Int32) := ⟨_, rfl⟩
            replace hf81 := lt_of hf81 v82 ev82
            refine j_iinc X (v := v82) (lv' := [(3, .int v82), (5, .int v51), (4, .int v34), (0, .ref (q x0)), (1, .ref (q x1)), (2, .int x2)]) dX5_widthWithHalf_86 5 rfl (by rw [ev82]; rfl) (by decide) rfl ?_
            refine j_goto X (tgt := 2) dX5_widthWithHalf_89 (by decide) ?_
            refine j_lvsub [3, 4, 5, 0] (lv' := [(0, .ref (q x0)), (1, .ref (q x1)), (2, .int x2), (3, .int v82)]) rfl ?_
            exact ih x0 x1 x2 v82 σ79 hf81
          · have hf38 := br_n hf32 c36; clear hf32
            refine j_aload_n X dX5_widthWithHalf_29 1 rfl rfl ?_
            obtain ⟨h84, hf85⟩ := chk_of hf38; clear hf38
            obtain ⟨i86, h87, hf88⟩ := bd_of hf85; clear hf85
            refine j_getr X fd_X5_14 h84 h87 dX5_widthWithHalf_30 ?_
            obtain ⟨h89, hf90⟩ := chk_of hf88; clear hf88
            obtain ⟨i91, h92, hf93⟩ := bd_of hf90; clear hf90
            refine j_getr X fd_X5_196 h89 h92 dX5_widthWithHalf_33 ?_
            refine j_iload_n X dX5_widthWithHalf_36 4 rfl rfl ?_
            obtain ⟨h94, hf95⟩ := chk_of hf93; clear hf93
            refine j_iald X h94 dX5_widthWithHalf_37 (fun v96 ev96 => ?_)
            replace hf95 := lt_of hf95 v96 ev96
            refine j_iconst X (v := 2) dX5_widthWithHalf_38 (by decide) ?_
            refine j_idiv X dX5_widthWithHalf_39 (by decide) ?_
            refine j_goto X (tgt := 52) dX5_widthWithHalf_40 (by decide) ?_
            refine j_nmi (fun v98 ev98 => ?_)
            replace hf95 := lt_of hf95 v98 ev98
            refine j_istore X (lv' := [(5, .int v98), (4, .int v34), (0, .ref (q x0)), (1, .ref (q x1)), (2, .int x2), (3, .int x3)]) dX5_widthWithHalf_52 (by decide) rfl ?_
            refine j_aload_n X dX5_widthWithHalf_54 2 rfl rfl ?_
            obtain ⟨i100, h101, hf102⟩ := bd_of hf95; clear hf95
            refine j_getr X fd_X5_35 h84 h101 dX5_widthWithHalf_55 ?_
            refine j_iload_n X dX5_widthWithHalf_58 5 rfl rfl ?_
            refine j_aload_n X dX5_widthWithHalf_59 2 rfl rfl ?_
            refine j_getr X fd_X5_14 h84 h87 dX5_widthWithHalf_60 ?_
            obtain ⟨i106, h107, hf108⟩ := bd_of hf102; clear hf102
            refine j_getr X fd_X5_145 h89 h107 dX5_widthWithHalf_63 ?_
            refine j_iload_n X dX5_widthWithHalf_66 5 rfl rfl ?_
            obtain ⟨h109, hf110⟩ := chk_of hf108; clear hf108
            refine j_iald X h109 dX5_widthWithHalf_67 (fun v111 ev111 => ?_)
            replace hf110 := lt_of hf110 v111 ev111
            refine j_iload X dX5_widthWithHalf_68 0 rfl ?_
            refine j_isub X dX5_widthWithHalf_70 ?_
            refine j_aload_n X dX5_widthWithHalf_71 2 rfl rfl ?_
            refine j_getr X fd_X5_14 h84 h87 dX5_widthWithHalf_72 ?_
            refine j_getr X fd_X5_145 h89 h107 dX5_widthWithHalf_75 ?_
            refine j_iload_n X dX5_widthWithHalf_78 5 rfl rfl ?_
            obtain ⟨h119, hf120⟩ := chk_of hf110; clear hf110
            refine j_iald X h119 dX5_widthWithHalf_79 (fun v121 ev121 => ?_)
            replace hf120 := lt_of hf120 v121 ev121
            refine j_iload X dX5_widthWithHalf_80 0 rfl ?_
            refine j_iadd X dX5_widthWithHalf_82 ?_
            obtain ⟨h123, hf124⟩ := chk_of hf120; clear hf120
            obtain ⟨r125, σ126, h127, hf128⟩ := bc_of hf124; clear hf124
            refine j_callV0 X [.int x3, .int (v111 - v98), .int (v121 + v98)] [] (c_X4_stand l D cs q i100 x3 (v111 - v98) (v121 + v98) τ _ _ h127) mk_X4_stand mv_X4_stand ml_X5_169 h123 rfl (by decide) ⟨rfl, rfl⟩ ⟨Nat.le_of_ble_eq_true rfl, Nat.le_of_ble_eq_true rfl⟩ rfl (Nat.le_of_ble_eq_true rfl) ⟨Nat.le_of_ble_eq_true rfl, Nat.le_of_ble_eq_true rfl⟩ dX5_widthWithHalf_83 rfl (st' := []) rfl ?_
            obtain ⟨v129, ev129⟩ : ∃ y : Int32, y = x3 + (1 : Int32) := ⟨_, rfl⟩
            replace hf128 := lt_of hf128 v129 ev129
            refine j_iinc X (v := v129) (lv' := [(3, .int v129), (5, .int v98), (4, .int v34), (0, .ref (q x0)), (1, .ref (q x1)), (2, .int x2)]) dX5_widthWithHalf_86 5 rfl (by rw [ev129]; rfl) (by decide) rfl ?_
            refine j_goto X (tgt := 2) dX5_widthWithHalf_89 (by decide) ?_
            refine j_lvsub [3, 4, 5, 0] (lv' := [(0, .ref (q x0)), (1, .ref (q x1)), (2, .int x2), (3, .int v129)]) rfl ?_
            exact ih x0 x1 x2 v129 σ126 hf128
        · have hf33 := br_y hf5 c31; clear hf5
          refine j_iconst X (v := 1) dX5_widthWithHalf_17 (by decide) ?_
          refine j_goto X (tgt := 22) dX5_widthWithHalf_18 (by decide) ?_
          refine j_nmi (fun v131 ev131 => ?_)
          replace hf33 := lt_of hf33 v131 ev131
          refine j_istore X (lv' := [(4, .int v131), (0, .ref (q x0)), (1, .ref (q x1)), (2, .int x2), (3, .int x3)]) dX5_widthWithHalf_22 (by decide) rfl ?_
          refine j_iload X dX5_widthWithHalf_24 0 rfl ?_
          refine j_if_eq X (tgt := 43) dX5_widthWithHalf_26 (by decide) (fun c133 => ?_) (fun c133 => ?_)
          · have hf134 := br_y hf33 c133; clear hf33
            refine j_aload_n X dX5_widthWithHalf_43 1 rfl rfl ?_
            obtain ⟨h136, hf137⟩ := chk_of hf134; clear hf134
            obtain ⟨i138, h139, hf140⟩ := bd_of hf137; clear hf137
            refine j_getr X fd_X5_14 h136 h139 dX5_widthWithHalf_44 ?_
            obtain ⟨h141, hf142⟩ := chk_of hf140; clear hf140
            obtain ⟨i143, h144, hf145⟩ := bd_of hf142; clear hf142
            refine j_getr X fd_X5_196 h141 h144 dX5_widthWithHalf_47 ?_
            refine j_iload_n X dX5_widthWithHalf_50 4 rfl rfl ?_
            obtain ⟨h146, hf147⟩ := chk_of hf145; clear hf145
            refine j_iald X h146 dX5_widthWithHalf_51 (fun v148 ev148 => ?_)
            replace hf147 := lt_of hf147 v148 ev148
            refine j_istore X (lv' := [(5, .int v148), (4, .int v131), (0, .ref (q x0)), (1, .ref (q x1)), (2, .int x2), (3, .int x3)]) dX5_widthWithHalf_52 (by decide) rfl ?_
            refine j_aload_n X dX5_widthWithHalf_54 2 rfl rfl ?_
            obtain ⟨i150, h151, hf152⟩ := bd_of hf147; clear hf147
            refine j_getr X fd_X5_35 h136 h151 dX5_widthWithHalf_55 ?_
            refine j_iload_n X dX5_widthWithHalf_58 5 rfl rfl ?_
            refine j_aload_n X dX5_widthWithHalf_59 2 rfl rfl ?_
            refine j_getr X fd_X5_14 h136 h139 dX5_widthWithHalf_60 ?_
            obtain ⟨i156, h157, hf158⟩ := bd_of hf152; clear hf152
            refine j_getr X fd_X5_145 h141 h157 dX5_widthWithHalf_63 ?_
            refine j_iload_n X dX5_widthWithHalf_66 5 rfl rfl ?_
            obtain ⟨h159, hf160⟩ := chk_of hf158; clear hf158
            refine j_iald X h159 dX5_widthWithHalf_67 (fun v161 ev161 => ?_)
            replace hf160 := lt_of hf160 v161 ev161
            refine j_iload X dX5_widthWithHalf_68 0 rfl ?_
            refine j_isub X dX5_widthWithHalf_70 ?_
            refine j_aload_n X dX5_widthWithHalf_71 2 rfl rfl ?_
            refine j_getr X fd_X5_14 h136 h139 dX5_widthWithHalf_72 ?_
            refine j_getr X fd_X5_145 h141 h157 dX5_widthWithHalf_75 ?_
            refine j_iload_n X dX5_widthWithHalf_78 5 rfl rfl ?_
            obtain ⟨h169, hf170⟩ := chk_of hf160; clear hf160
            refine j_iald X h169 dX5_widthWithHalf_79 (fun v171 ev171 => ?_)
            replace hf170 := lt_of hf170 v171 ev171
            refine j_iload X dX5_widthWithHalf_80 0 rfl ?_
            refine j_iadd X dX5_widthWithHalf_82 ?_
            obtain ⟨h173, hf174⟩ := chk_of hf170; clear hf170
            obtain ⟨r175, σ176, h177, hf178⟩ := bc_of hf174; clear hf174
            refine j_callV0 X [.int x3, .int (v161 - v148), .int (v171 + v148)] [] (c_X4_stand l D cs q i150 x3 (v161 - v148) (v171 + v148) τ _ _ h177) mk_X4_stand mv_X4_stand ml_X5_169 h173 rfl (by decide) ⟨rfl, rfl⟩ ⟨Nat.le_of_ble_eq_true rfl, Nat.le_of_ble_eq_true rfl⟩ rfl (Nat.le_of_ble_eq_true rfl) ⟨Nat.le_of_ble_eq_true rfl, Nat.le_of_ble_eq_true rfl⟩ dX5_widthWithHalf_83 rfl (st' := []) rfl ?_
            obtain ⟨v179, ev179⟩ : ∃ y : Int32, y = x3 + (1 : Int32) := ⟨_, rfl⟩
            replace hf178 := lt_of hf178 v179 ev179
            refine j_iinc X (v := v179) (lv' := [(3, .int v179), (5, .int v148), (4, .int v131), (0, .ref (q x0)), (1, .ref (q x1)), (2, .int x2)]) dX5_widthWithHalf_86 5 rfl (by rw [ev179]; rfl) (by decide) rfl ?_
            refine j_goto X (tgt := 2) dX5_widthWithHalf_89 (by decide) ?_
            refine j_lvsub [3, 4, 5, 0] (lv' := [(0, .ref (q x0)), (1, .ref (q x1)), (2, .int x2), (3, .int v179)]) rfl ?_
            exact ih x0 x1 x2 v179 σ176 hf178
          · have hf135 := br_n hf33 c133; clear hf33
            refine j_aload_n X dX5_widthWithHalf_29 1 rfl rfl ?_
            obtain ⟨h181, hf182⟩ := chk_of hf135; clear hf135
            obtain ⟨i183, h184, hf185⟩ := bd_of hf182; clear hf182
            refine j_getr X fd_X5_14 h181 h184 dX5_widthWithHalf_30 ?_
            obtain ⟨h186, hf187⟩ := chk_of hf185; clear hf185
            obtain ⟨i188, h189, hf190⟩ := bd_of hf187; clear hf187
            refine j_getr X fd_X5_196 h186 h189 dX5_widthWithHalf_33 ?_
            refine j_iload_n X dX5_widthWithHalf_36 4 rfl rfl ?_
            obtain ⟨h191, hf192⟩ := chk_of hf190; clear hf190
            refine j_iald X h191 dX5_widthWithHalf_37 (fun v193 ev193 => ?_)
            replace hf192 := lt_of hf192 v193 ev193
            refine j_iconst X (v := 2) dX5_widthWithHalf_38 (by decide) ?_
            refine j_idiv X dX5_widthWithHalf_39 (by decide) ?_
            refine j_goto X (tgt := 52) dX5_widthWithHalf_40 (by decide) ?_
            refine j_nmi (fun v195 ev195 => ?_)
            replace hf192 := lt_of hf192 v195 ev195
            refine j_istore X (lv' := [(5, .int v195), (4, .int v131), (0, .ref (q x0)), (1, .ref (q x1)), (2, .int x2), (3, .int x3)]) dX5_widthWithHalf_52 (by decide) rfl ?_
            refine j_aload_n X dX5_widthWithHalf_54 2 rfl rfl ?_
            obtain ⟨i197, h198, hf199⟩ := bd_of hf192; clear hf192
            refine j_getr X fd_X5_35 h181 h198 dX5_widthWithHalf_55 ?_
            refine j_iload_n X dX5_widthWithHalf_58 5 rfl rfl ?_
            refine j_aload_n X dX5_widthWithHalf_59 2 rfl rfl ?_
            refine j_getr X fd_X5_14 h181 h184 dX5_widthWithHalf_60 ?_
            obtain ⟨i203, h204, hf205⟩ := bd_of hf199; clear hf199
            refine j_getr X fd_X5_145 h186 h204 dX5_widthWithHalf_63 ?_
            refine j_iload_n X dX5_widthWithHalf_66 5 rfl rfl ?_
            obtain ⟨h206, hf207⟩ := chk_of hf205; clear hf205
            refine j_iald X h206 dX5_widthWithHalf_67 (fun v208 ev208 => ?_)
            replace hf207 := lt_of hf207 v208 ev208
            refine j_iload X dX5_widthWithHalf_68 0 rfl ?_
            refine j_isub X dX5_widthWithHalf_70 ?_
            refine j_aload_n X dX5_widthWithHalf_71 2 rfl rfl ?_
            refine j_getr X fd_X5_14 h181 h184 dX5_widthWithHalf_72 ?_
            refine j_getr X fd_X5_145 h186 h204 dX5_widthWithHalf_75 ?_
            refine j_iload_n X dX5_widthWithHalf_78 5 rfl rfl ?_
            obtain ⟨h216, hf217⟩ := chk_of hf207; clear hf207
            refine j_iald X h216 dX5_widthWithHalf_79 (fun v218 ev218 => ?_)
            replace hf217 := lt_of hf217 v218 ev218
            refine j_iload X dX5_widthWithHalf_80 0 rfl ?_
            refine j_iadd X dX5_widthWithHalf_82 ?_
            obtain ⟨h220, hf221⟩ := chk_of hf217; clear hf217
            obtain ⟨r222, σ223, h224, hf225⟩ := bc_of hf221; clear hf221
            refine j_callV0 X [.int x3, .int (v208 - v195), .int (v218 + v195)] [] (c_X4_stand l D cs q i197 x3 (v208 - v195) (v218 + v195) τ _ _ h224) mk_X4_stand mv_X4_stand ml_X5_169 h220 rfl (by decide) ⟨rfl, rfl⟩ ⟨Nat.le_of_ble_eq_true rfl, Nat.le_of_ble_eq_true rfl⟩ rfl (Nat.le_of_ble_eq_true rfl) ⟨Nat.le_of_ble_eq_true rfl, Nat.le_of_ble_eq_true rfl⟩ dX5_widthWithHalf_83 rfl (st' := []) rfl ?_
            obtain ⟨v226, ev226⟩ : ∃ y : Int32, y = x3 + (1 : Int32) := ⟨_, rfl⟩
            replace hf225 := lt_of hf225 v226 ev226
            refine j_iinc X (v := v226) (lv' := [(3, .int v226), (5, .int v195), (4, .int v131), (0, .ref (q x0)), (1, .ref (q x1)), (2, .int x2)]) dX5_widthWithHalf_86 5 rfl (by rw [ev226]; rfl) (by decide) rfl ?_
            refine j_goto X (tgt := 2) dX5_widthWithHalf_89 (by decide) ?_
            refine j_lvsub [3, 4, 5, 0] (lv' := [(0, .ref (q x0)), (1, .ref (q x1)), (2, .int x2), (3, .int v226)]) rfl ?_
            exact ih x0 x1 x2 v226 σ223 hf225
  refine j_iconst X (v := 0) dX5_widthWithHalf_0 (by decide) ?_
  refine j_nmi (fun v1 ev1 => ?_)
  replace hf0 := lt_of hf0 v1 ev1
  refine j_istore_n X (lv' := [(3, .int v1), (0, .ref (q a0)), (1, .ref (q a1)), (2, .int a2)]) dX5_widthWithHalf_1 rfl (by decide) rfl ?_
  refine j_lvsub [1, 2, 3, 0] (lv' := [(0, .ref (q a0)), (1, .ref (q a1)), (2, .int a2), (3, .int v1)]) rfl ?_
  exact L2  1000 a0 a1 a2 v1 σ hf0
abbrev rm_X5_again : Room := { frames := 5, cells := 0, slots := 0, locals := 320 }
set_option maxHeartbeats 4000000 in
set_option maxRecDepth 100000 in
theorem c_X5_again (l : Launch) (D : va_G) (cs : Nat → ClassId) (q : Nat → Nat) (a0 : Nat) (a1 : Int32) (a2 : Int64) (a4 : Int32) (σ σ0 : HS) (r0 : Int32) (hf0 : f_X5_again a0 a1 a2 a4 σ = some (r0, σ0)) : MT l yX5_again (Cond.code yX5_again cX5_again 10 (some .int) :: lw_g) rm_X5_again D cs q σ σ0 [.ref (q a0), .int a1, .long a2, .int a4] (fun z => z = q) (fun _ => some (.int r0)) 0 0 := by
  unfold f_X5_again at hf0
  refine MT_of (cc := cX5_again) (lv0 := [(0, .ref (q a0)), (1, .int a1), (2, .long a2), (4, .int a4)]) (by decide) (Nat.le_of_ble_eq_true rfl) rfl (fun p e s m args below meth c A X hr hlk hin => ?_)
  have L54 : ∀ (nk : Nat) (x0 : Nat) (x1 : Int32) (x2 : Int64) (x4 : Int32) (x5 : Nat) (x6 : Int32) (x7 : Int32) (x8 : Int32) (τ : HS), lp_X5_again_54  nk x0 x1 x2 x4 x5 x6 x7 x8 τ = some (r0, σ0) → J p l e rm_X5_again s m args below meth c 10 D cs A s.heap 0 0 (MQ below (hQ D cs (fun z => z = q) (fun _ => some (.int r0)) σ0 A) args s 0 0 A) q τ [(0, .ref (q x0)), (1, .int x1), (2, .long x2), (4, .int x4), (5, .ref (q x5)), (6, .int x6), (7, .int x7), (8, .int x8)] 54 [] := by
    intro nk
    induction nk with
    | zero => intro x0 x1 x2 x4 x5 x6 x7 x8 τ hf0; have hf1 : (none : Option (Int32 × HS)) = some (r0, σ0) := hf0; cases hf1
    | succ nk ih =>
      intro x0 x1 x2 x4 x5 x6 x7 x8 τ hf0
      replace hf0 : lp_X5_again_54_b  (lp_X5_again_54  nk) x0 x1 x2 x4 x5 x6 x7 x8 τ = some (r0, σ0) := hf0
      unfold lp_X5_again_54_b at hf0
      refine j_iload X dX5_again_54 7 rfl ?_
      refine j_bipush X (v := 64) dX5_again_56 (by decide) ?_
      refine j_icmp_ge X (tgt := 113) dX5_again_58 (by decide) (fun c42 => ?_) (fun c42 => ?_)
      · have hf43 := br_y hf0 c42; clear hf0
        refine j_iload X dX5_again_113 5 rfl ?_
        refine j_bipush X (v := -5) dX5_again_115 (by decide) ?_
        refine j_icmp_eq X (tgt := 125) dX5_again_117 (by decide) (fun c45 => ?_) (fun c45 => ?_)
        · have hf46 := br_y hf43 c45; clear hf43
          refine j_iload X dX5_again_125 5 rfl ?_
          refine j_goto X (tgt := 132) dX5_again_127 (by decide) ?_
          obtain ⟨er, es⟩ := rt_of hf46
          subst er
          exact j_reti X hr hlk (Nat.le_of_ble_eq_true rfl) (Nat.le_of_ble_eq_true rfl) rfl es.symm rfl dX5_again_132
        · have hf47 := br_n hf43 c45; clear hf43
          refine j_iload X dX5_again_120 3 rfl ?_
          refine j_if_ne X (tgt := 130) dX5_again_122 (by decide) (fun c48 => ?_) (fun c48 => ?_)
          · have hf49 := br_n hf47 c48; clear hf47
            refine j_iload X dX5_again_130 6 rfl ?_
            obtain ⟨er, es⟩ := rt_of hf49
            subst er
            exact j_reti X hr hlk (Nat.le_of_ble_eq_true rfl) (Nat.le_of_ble_eq_true rfl) rfl es.symm rfl dX5_again_132
          · have hf50 := br_y hf47 c48; clear hf47
            refine j_iload X dX5_again_125 5 rfl ?_
            refine j_goto X (tgt := 132) dX5_again_127 (by decide) ?_
            obtain ⟨er, es⟩ := rt_of hf50
            subst er
            exact j_reti X hr hlk (Nat.le_of_ble_eq_true rfl) (Nat.le_of_ble_eq_true rfl) rfl es.symm rfl dX5_again_132
      · have hf44 := br_n hf0 c42; clear hf0
        refine j_aload_n X dX5_again_61 0 rfl rfl ?_
        obtain ⟨h51, hf52⟩ := chk_of hf44; clear hf44
        obtain ⟨i53, h54, hf55⟩ := bd_of hf52; clear hf52
        refine j_getr X fd_X5_14 h51 h54 dX5_again_62 ?_
        refine j_iload X dX5_again_65 7 rfl ?_
        obtain ⟨h56, hf57⟩ := chk_of hf55; clear hf55
        obtain ⟨r58, σ59, h60, hf61⟩ := bc_of hf57; clear hf57
        refine j_callV0 X [.int x8] [] (c_X2_costOf l D cs q i53 x8 τ _ _ h60) mk_X2_costOf mv_X2_costOf ml_X5_203 h56 rfl (by decide) ⟨rfl, rfl⟩ ⟨Nat.le_of_ble_eq_true rfl, Nat.le_of_ble_eq_true rfl⟩ rfl (Nat.le_of_ble_eq_true rfl) ⟨Nat.le_of_ble_eq_true rfl, Nat.le_of_ble_eq_true rfl⟩ dX5_again_67 rfl (st' := [.int r58]) rfl ?_
        refine j_istore X (lv' := [(9, .int r58), (0, .ref (q x0)), (1, .int x1), (2, .long x2), (4, .int x4), (5, .ref (q x5)), (6, .int x6), (7, .int x7), (8, .int x8)]) dX5_again_70 (by decide) rfl ?_
        refine j_iload X dX5_again_72 6 rfl ?_
        refine j_bipush X (v := -5) dX5_again_74 (by decide) ?_
        refine j_icmp_eq X (tgt := 86) dX5_again_76 (by decide) (fun c62 => ?_) (fun c62 => ?_)
        · have hf63 := br_y hf61 c62; clear hf61
          refine j_aload_n X dX5_again_86 1 rfl rfl ?_
          refine j_aload X dX5_again_87 5 rfl ?_
          refine j_iload X dX5_again_89 8 rfl ?_
          obtain ⟨h65, hf66⟩ := chk_of hf63; clear hf63
          obtain ⟨r67, σ68, h69, hf70⟩ := bc_of hf66; clear hf66
          refine j_callV0 X [.ref (q x5), .int x8] [] (c_X5_widthWithHalf l D cs q x0 x5 x8 σ59 _ _ h69) mk_X5_widthWithHalf mv_X5_widthWithHalf ml_X5_206 h65 rfl (by decide) ⟨rfl, rfl⟩ ⟨Nat.le_of_ble_eq_true rfl, Nat.le_of_ble_eq_true rfl⟩ rfl (Nat.le_of_ble_eq_true rfl) ⟨Nat.le_of_ble_eq_true rfl, Nat.le_of_ble_eq_true rfl⟩ dX5_again_91 rfl (st' := [.long r67]) rfl ?_
          refine j_lload_n X dX5_again_94 3 rfl rfl ?_
          refine j_lcmp X dX5_again_95 ?_
          refine j_if_gt X (tgt := 107) dX5_again_96 (by decide) (fun c71 => ?_) (fun c71 => ?_)
          · have hf72 := br_y hf70 c71; clear hf70
            obtain ⟨v74, ev74⟩ : ∃ y : Int32, y = x8 + (1 : Int32) := ⟨_, rfl⟩
            replace hf72 := lt_of hf72 v74 ev74
            refine j_iinc X (v := v74) (lv' := [(8, .int v74), (9, .int r58), (0, .ref (q x0)), (1, .int x1), (2, .long x2), (4, .int x4), (5, .ref (q x5)), (6, .int x6), (7, .int x7)]) dX5_again_107 8 rfl (by rw [ev74]; rfl) (by decide) rfl ?_
            refine j_goto X (tgt := 54) dX5_again_110 (by decide) ?_
            refine j_lvsub [2, 3, 4, 5, 6, 7, 8, 0] (lv' := [(0, .ref (q x0)), (1, .int x1), (2, .long x2), (4, .int x4), (5, .ref (q x5)), (6, .int x6), (7, .int x7), (8, .int v74)]) rfl ?_
            exact ih x0 x1 x2 x4 x5 x6 x7 v74 σ68 hf72
          · have hf73 := br_n hf70 c71; clear hf70
            refine j_iload X dX5_again_99 8 rfl ?_
            refine j_istore X (lv' := [(6, .int x8), (9, .int r58), (0, .ref (q x0)), (1, .int x1), (2, .long x2), (4, .int x4), (5, .ref (q x5)), (7, .int x7), (8, .int x8)]) dX5_again_101 (by decide) rfl ?_
            refine j_iload X dX5_again_103 1 rfl ?_
            refine j_istore X (lv' := [(7, .int r58), (6, .int x8), (9, .int r58), (0, .ref (q x0)), (1, .int x1), (2, .long x2), (4, .int x4), (5, .ref (q x5)), (8, .int x8)]) dX5_again_105 (by decide) rfl ?_
            obtain ⟨v76, ev76⟩ : ∃ y : Int32, y = x8 + (1 : Int32) := ⟨_, rfl⟩
            replace hf73 := lt_of hf73 v76 ev76
            refine j_iinc X (v := v76) (lv' := [(8, .int v76), (7, .int r58), (6, .int x8), (9, .int r58), (0, .ref (q x0)), (1, .int x1), (2, .long x2), (4, .int x4), (5, .ref (q x5))]) dX5_again_107 8 rfl (by rw [ev76]; rfl) (by decide) rfl ?_
            refine j_goto X (tgt := 54) dX5_again_110 (by decide) ?_
            refine j_lvsub [4, 5, 6, 7, 8, 2, 1, 0] (lv' := [(0, .ref (q x0)), (1, .int x1), (2, .long x2), (4, .int x4), (5, .ref (q x5)), (6, .int x8), (7, .int r58), (8, .int v76)]) rfl ?_
            exact ih x0 x1 x2 x4 x5 x8 r58 v76 σ68 hf73
        · have hf64 := br_n hf61 c62; clear hf61
          refine j_iload X dX5_again_79 0 rfl ?_
          refine j_iload X dX5_again_81 7 rfl ?_
          refine j_icmp_ge X (tgt := 107) dX5_again_83 (by decide) (fun c78 => ?_) (fun c78 => ?_)
          · have hf79 := br_y hf64 c78; clear hf64
            obtain ⟨v81, ev81⟩ : ∃ y : Int32, y = x8 + (1 : Int32) := ⟨_, rfl⟩
            replace hf79 := lt_of hf79 v81 ev81
            refine j_iinc X (v := v81) (lv' := [(8, .int v81), (9, .int r58), (0, .ref (q x0)), (1, .int x1), (2, .long x2), (4, .int x4), (5, .ref (q x5)), (6, .int x6), (7, .int x7)]) dX5_again_107 8 rfl (by rw [ev81]; rfl) (by decide) rfl ?_
            refine j_goto X (tgt := 54) dX5_again_110 (by decide) ?_
            refine j_lvsub [2, 3, 4, 5, 6, 7, 8, 0] (lv' := [(0, .ref (q x0)), (1, .int x1), (2, .long x2), (4, .int x4), (5, .ref (q x5)), (6, .int x6), (7, .int x7), (8, .int v81)]) rfl ?_
            exact ih x0 x1 x2 x4 x5 x6 x7 v81 σ59 hf79
          · have hf80 := br_n hf64 c78; clear hf64
            refine j_aload_n X dX5_again_86 1 rfl rfl ?_
            refine j_aload X dX5_again_87 5 rfl ?_
            refine j_iload X dX5_again_89 8 rfl ?_
            obtain ⟨h83, hf84⟩ := chk_of hf80; clear hf80
            obtain ⟨r85, σ86, h87, hf88⟩ := bc_of hf84; clear hf84
            refine j_callV0 X [.ref (q x5), .int x8] [] (c_X5_widthWithHalf l D cs q x0 x5 x8 σ59 _ _ h87) mk_X5_widthWithHalf mv_X5_widthWithHalf ml_X5_206 h83 rfl (by decide) ⟨rfl, rfl⟩ ⟨Nat.le_of_ble_eq_true rfl, Nat.le_of_ble_eq_true rfl⟩ rfl (Nat.le_of_ble_eq_true rfl) ⟨Nat.le_of_ble_eq_true rfl, Nat.le_of_ble_eq_true rfl⟩ dX5_again_91 rfl (st' := [.long r85]) rfl ?_
            refine j_lload_n X dX5_again_94 3 rfl rfl ?_
            refine j_lcmp X dX5_again_95 ?_
            refine j_if_gt X (tgt := 107) dX5_again_96 (by decide) (fun c89 => ?_) (fun c89 => ?_)
            · have hf90 := br_y hf88 c89; clear hf88
              obtain ⟨v92, ev92⟩ : ∃ y : Int32, y = x8 + (1 : Int32) := ⟨_, rfl⟩
              replace hf90 := lt_of hf90 v92 ev92
              refine j_iinc X (v := v92) (lv' := [(8, .int v92), (9, .int r58), (0, .ref (q x0)), (1, .int x1), (2, .long x2), (4, .int x4), (5, .ref (q x5)), (6, .int x6), (7, .int x7)]) dX5_again_107 8 rfl (by rw [ev92]; rfl) (by decide) rfl ?_
              refine j_goto X (tgt := 54) dX5_again_110 (by decide) ?_
              refine j_lvsub [2, 3, 4, 5, 6, 7, 8, 0] (lv' := [(0, .ref (q x0)), (1, .int x1), (2, .long x2), (4, .int x4), (5, .ref (q x5)), (6, .int x6), (7, .int x7), (8, .int v92)]) rfl ?_
              exact ih x0 x1 x2 x4 x5 x6 x7 v92 σ86 hf90
            · have hf91 := br_n hf88 c89; clear hf88
              refine j_iload X dX5_again_99 8 rfl ?_
              refine j_istore X (lv' := [(6, .int x8), (9, .int r58), (0, .ref (q x0)), (1, .int x1), (2, .long x2), (4, .int x4), (5, .ref (q x5)), (7, .int x7), (8, .int x8)]) dX5_again_101 (by decide) rfl ?_
              refine j_iload X dX5_again_103 1 rfl ?_
              refine j_istore X (lv' := [(7, .int r58), (6, .int x8), (9, .int r58), (0, .ref (q x0)), (1, .int x1), (2, .long x2), (4, .int x4), (5, .ref (q x5)), (8, .int x8)]) dX5_again_105 (by decide) rfl ?_
              obtain ⟨v94, ev94⟩ : ∃ y : Int32, y = x8 + (1 : Int32) := ⟨_, rfl⟩
              replace hf91 := lt_of hf91 v94 ev94
              refine j_iinc X (v := v94) (lv' := [(8, .int v94), (7, .int r58), (6, .int x8), (9, .int r58), (0, .ref (q x0)), (1, .int x1), (2, .long x2), (4, .int x4), (5, .ref (q x5))]) dX5_again_107 8 rfl (by rw [ev94]; rfl) (by decide) rfl ?_
              refine j_goto X (tgt := 54) dX5_again_110 (by decide) ?_
              refine j_lvsub [4, 5, 6, 7, 8, 2, 1, 0] (lv' := [(0, .ref (q x0)), (1, .int x1), (2, .long x2), (4, .int x4), (5, .ref (q x5)), (6, .int x8), (7, .int r58), (8, .int v94)]) rfl ?_
              exact ih x0 x1 x2 x4 x5 x8 r58 v94 σ86 hf91
  refine j_aload_n X dX5_again_0 0 rfl rfl ?_
  refine j_iload_n X dX5_again_1 1 rfl rfl ?_
  obtain ⟨h1, hf2⟩ := chk_of hf0; clear hf0
  obtain ⟨r3, σ4, h5, hf6⟩ := bc_of hf2; clear hf2
  refine j_callV0 X [.int a1] [] (c_X5_formulaOf l D cs q a0 a1 σ _ _ h5) mk_X5_formulaOf mv_X5_formulaOf ml_X5_100 h1 rfl (by decide) ⟨rfl, rfl⟩ ⟨Nat.le_of_ble_eq_true rfl, Nat.le_of_ble_eq_true rfl⟩ rfl (Nat.le_of_ble_eq_true rfl) ⟨Nat.le_of_ble_eq_true rfl, Nat.le_of_ble_eq_true rfl⟩ dX5_again_2 rfl (st' := [va_rf (Option.map q r3)]) rfl ?_
  refine j_astoreq X (lv' := [(5, va_rf (Option.map q r3)), (0, .ref (q a0)), (1, .int a1), (2, .long a2), (4, .int a4)]) dX5_again_5 (by decide) rfl ?_
  refine j_aloadq X dX5_again_7 0 rfl ?_
  refine j_ifnull X (tgt := 23) dX5_again_9 (by decide) (fun c96 => ?_) (fun i7 c96 => ?_)
  · subst c96; have hf8 := (show _ = some (r0, σ0) from hf6); clear hf6; unfold oc at hf8; dsimp only at hf8
    refine j_iconst X (v := -1) dX5_again_23 (by decide) ?_
    obtain ⟨er, es⟩ := rt_of hf8
    subst er
    exact j_reti X hr hlk (Nat.le_of_ble_eq_true rfl) (Nat.le_of_ble_eq_true rfl) rfl es.symm rfl dX5_again_24
  · subst c96; have hf9 := (show _ = some (r0, σ0) from hf6); clear hf6; unfold oc at hf9; dsimp only at hf9
    refine j_iload X dX5_again_12 4 rfl ?_
    refine j_if_lt X (tgt := 23) dX5_again_14 (by decide) (fun c10 => ?_) (fun c10 => ?_)
    · have hf11 := br_y hf9 c10; clear hf9
      refine j_iconst X (v := -1) dX5_again_23 (by decide) ?_
      obtain ⟨er, es⟩ := rt_of hf11
      subst er
      exact j_reti X hr hlk (Nat.le_of_ble_eq_true rfl) (Nat.le_of_ble_eq_true rfl) rfl es.symm rfl dX5_again_24
    · have hf12 := br_n hf9 c10; clear hf9
      refine j_iload X dX5_again_17 4 rfl ?_
      refine j_iconst X (v := 1) dX5_again_19 (by decide) ?_
      refine j_icmp_le X (tgt := 25) dX5_again_20 (by decide) (fun c13 => ?_) (fun c13 => ?_)
      · have hf14 := br_y hf12 c13; clear hf12
        refine j_aload_n X dX5_again_25 1 rfl rfl ?_
        refine j_aload X dX5_again_26 0 rfl ?_
        obtain ⟨h16, hf17⟩ := chk_of hf14; clear hf14
        obtain ⟨r18, σ19, h20, hf21⟩ := bc_of hf17; clear hf17
        refine j_callV0 X [.ref (q i7)] [] (c_X5_carryAsItIs l D cs q a0 i7 σ4 _ _ h20) mk_X5_carryAsItIs mv_X5_carryAsItIs ml_X5_127 h16 rfl (by decide) ⟨rfl, rfl⟩ ⟨Nat.le_of_ble_eq_true rfl, Nat.le_of_ble_eq_true rfl⟩ rfl (Nat.le_of_ble_eq_true rfl) ⟨Nat.le_of_ble_eq_true rfl, Nat.le_of_ble_eq_true rfl⟩ dX5_again_28 rfl (st' := []) rfl ?_
        refine j_aload_n X dX5_again_31 1 rfl rfl ?_
        obtain ⟨h22, hf23⟩ := chk_of hf21; clear hf21
        obtain ⟨i24, h25, hf26⟩ := bd_of hf23; clear hf23
        refine j_getr X fd_X5_35 h22 h25 dX5_again_32 ?_
        obtain ⟨h27, hf28⟩ := chk_of hf26; clear hf26
        obtain ⟨r29, σ30, h31, hf32⟩ := bc_of hf28; clear hf28
        refine j_callV0 X [] [] (c_X4_hasWidth l D cs q i24 σ19 _ _ h31) mk_X4_hasWidth mv_X4_hasWidth ml_X5_180 h27 rfl (by decide) ⟨rfl, rfl⟩ ⟨Nat.le_of_ble_eq_true rfl, Nat.le_of_ble_eq_true rfl⟩ rfl (Nat.le_of_ble_eq_true rfl) ⟨Nat.le_of_ble_eq_true rfl, Nat.le_of_ble_eq_true rfl⟩ dX5_again_35 rfl (st' := [.int r29]) rfl ?_
        refine j_if_ne X (tgt := 44) dX5_again_38 (by decide) (fun c33 => ?_) (fun c33 => ?_)
        · have hf34 := br_n hf32 c33; clear hf32
          refine j_bipush X (v := -5) dX5_again_44 (by decide) ?_
          refine j_nmi (fun v36 ev36 => ?_)
          replace hf34 := lt_of hf34 v36 ev36
          refine j_istore X (lv' := [(6, .int v36), (5, .ref (q i7)), (0, .ref (q a0)), (1, .int a1), (2, .long a2), (4, .int a4)]) dX5_again_46 (by decide) rfl ?_
          refine j_iconst X (v := 0) dX5_again_48 (by decide) ?_
          refine j_nmi (fun v38 ev38 => ?_)
          replace hf34 := lt_of hf34 v38 ev38
          refine j_istore X (lv' := [(7, .int v38), (6, .int v36), (5, .ref (q i7)), (0, .ref (q a0)), (1, .int a1), (2, .long a2), (4, .int a4)]) dX5_again_49 (by decide) rfl ?_
          refine j_iconst X (v := 0) dX5_again_51 (by decide) ?_
          refine j_nmi (fun v40 ev40 => ?_)
          replace hf34 := lt_of hf34 v40 ev40
          refine j_istore X (lv' := [(8, .int v40), (7, .int v38), (6, .int v36), (5, .ref (q i7)), (0, .ref (q a0)), (1, .int a1), (2, .long a2), (4, .int a4)]) dX5_again_52 (by decide) rfl ?_
          refine j_lvsub [4, 5, 6, 7, 3, 2, 1, 0] (lv' := [(0, .ref (q a0)), (1, .int a1), (2, .long a2), (4, .int a4), (5, .ref (q i7)), (6, .int v36), (7, .int v38), (8, .int v40)]) rfl ?_
          exact L54  1000 a0 a1 a2 a4 i7 v36 v38 v40 σ30 hf34
        · have hf35 := br_y hf32 c33; clear hf32
          refine j_bipush X (v := -6) dX5_again_41 (by decide) ?_
          obtain ⟨er, es⟩ := rt_of hf35
          subst er
          exact j_reti X hr hlk (Nat.le_of_ble_eq_true rfl) (Nat.le_of_ble_eq_true rfl) rfl es.symm rfl dX5_again_43
      · have hf15 := br_n hf12 c13; clear hf12
        refine j_iconst X (v := -1) dX5_again_23 (by decide) ?_
        obtain ⟨er, es⟩ := rt_of hf15
        subst er
        exact j_reti X hr hlk (Nat.le_of_ble_eq_true rfl) (Nat.le_of_ble_eq_true rfl) rfl es.symm rfl dX5_again_24
abbrev rm_X5_alike : Room := { frames := 1, cells := 0, slots := 0, locals := 64 }
set_option maxHeartbeats 4000000 in
set_option maxRecDepth 100000 in
theorem c_X5_alike (l : Launch) (D : va_G) (cs : Nat → ClassId) (q : Nat → Nat) (a0 : Nat) (a1 : Int32) (a2 : Int32) (σ σ0 : HS) (r0 : Int32) (hf0 : f_X5_alike a0 a1 a2 σ = some (r0, σ0)) : MT l yX5_alike (Cond.code yX5_alike cX5_alike 5 (some .int) :: lw_g) rm_X5_alike D cs q σ σ0 [.ref (q a0), .int a1, .int a2] (fun z => z = q) (fun _ => some (.int r0)) 0 0 := by
  unfold f_X5_alike at hf0
  refine MT_of (cc := cX5_alike) (lv0 := [(0, .ref (q a0)), (1, .int a1), (2, .int a2)]) (by decide) (Nat.le_of_ble_eq_true rfl) rfl (fun p e s m args below meth c A X hr hlk hin => ?_)
  refine j_aload_n X dX5_alike_0 0 rfl rfl ?_
  refine j_iload_n X dX5_alike_1 1 rfl rfl ?_
  obtain ⟨h1, hf2⟩ := chk_of hf0; clear hf0
  obtain ⟨r3, σ4, h5, hf6⟩ := bc_of hf2; clear hf2
  refine j_callV0 X [.int a1] [] (c_X5_formulaOf l D cs q a0 a1 σ _ _ h5) mk_X5_formulaOf mv_X5_formulaOf ml_X5_100 h1 rfl (by decide) ⟨rfl, rfl⟩ ⟨Nat.le_of_ble_eq_true rfl, Nat.le_of_ble_eq_true rfl⟩ rfl (Nat.le_of_ble_eq_true rfl) ⟨Nat.le_of_ble_eq_true rfl, Nat.le_of_ble_eq_true rfl⟩ dX5_alike_2 rfl (st' := [va_rf (Option.map q r3)]) rfl ?_
  refine j_astore_nq X (lv' := [(3, va_rf (Option.map q r3)), (0, .ref (q a0)), (1, .int a1), (2, .int a2)]) dX5_alike_5 rfl (by decide) rfl ?_
  refine j_aload_n X dX5_alike_6 1 rfl rfl ?_
  refine j_iload_n X dX5_alike_7 3 rfl rfl ?_
  obtain ⟨h7, hf8⟩ := chk_of hf6; clear hf6
  obtain ⟨r9, σ10, h11, hf12⟩ := bc_of hf8; clear hf8
  refine j_callV0 X [.int a2] [] (c_X5_formulaOf l D cs q a0 a2 σ4 _ _ h11) mk_X5_formulaOf mv_X5_formulaOf ml_X5_100 h7 rfl (by decide) ⟨rfl, rfl⟩ ⟨Nat.le_of_ble_eq_true rfl, Nat.le_of_ble_eq_true rfl⟩ rfl (Nat.le_of_ble_eq_true rfl) ⟨Nat.le_of_ble_eq_true rfl, Nat.le_of_ble_eq_true rfl⟩ dX5_alike_8 rfl (st' := [va_rf (Option.map q r9)]) rfl ?_
  refine j_astoreq X (lv' := [(4, va_rf (Option.map q r9)), (3, va_rf (Option.map q r3)), (0, .ref (q a0)), (1, .int a1), (2, .int a2)]) dX5_alike_11 (by decide) (by simp [cat_rf]) ?_
  refine j_aload_nq X dX5_alike_13 1 rfl rfl ?_
  refine j_ifnull X (tgt := 22) dX5_alike_14 (by decide) (fun c29 => ?_) (fun i13 c29 => ?_)
  · subst c29; have hf14 := (show _ = some (r0, σ0) from hf12); clear hf12; unfold oc at hf14; dsimp only at hf14
    refine j_iconst X (v := -1) dX5_alike_22 (by decide) ?_
    obtain ⟨er, es⟩ := rt_of hf14
    subst er
    exact j_reti X hr hlk (Nat.le_of_ble_eq_true rfl) (Nat.le_of_ble_eq_true rfl) rfl es.symm rfl dX5_alike_23
  · subst c29; have hf15 := (show _ = some (r0, σ0) from hf12); clear hf12; unfold oc at hf15; dsimp only at hf15
    refine j_aloadq X dX5_alike_17 0 rfl ?_
    refine j_ifnonnull X (tgt := 24) dX5_alike_19 (by decide) (fun c28 => ?_) (fun i16 c28 => ?_)
    · subst c28; have hf17 := (show _ = some (r0, σ0) from hf15); clear hf15; unfold oc at hf17; dsimp only at hf17
      refine j_iconst X (v := -1) dX5_alike_22 (by decide) ?_
      obtain ⟨er, es⟩ := rt_of hf17
      subst er
      exact j_reti X hr hlk (Nat.le_of_ble_eq_true rfl) (Nat.le_of_ble_eq_true rfl) rfl es.symm rfl dX5_alike_23
    · subst c28; have hf18 := (show _ = some (r0, σ0) from hf15); clear hf15; unfold oc at hf18; dsimp only at hf18
      refine j_aload_n X dX5_alike_24 1 rfl rfl ?_
      refine j_aload X dX5_alike_25 0 rfl ?_
      obtain ⟨h19, hf20⟩ := chk_of hf18; clear hf18
      obtain ⟨r21, σ22, h23, hf24⟩ := bc_of hf20; clear hf20
      refine j_callV0 X [.ref (q i16)] [] (c_X0_isLike l D cs q i13 i16 σ10 _ _ h23) mk_X0_isLike mv_X0_isLike ml_X5_121 h19 rfl (by decide) ⟨rfl, rfl⟩ ⟨Nat.le_of_ble_eq_true rfl, Nat.le_of_ble_eq_true rfl⟩ rfl (Nat.le_of_ble_eq_true rfl) ⟨Nat.le_of_ble_eq_true rfl, Nat.le_of_ble_eq_true rfl⟩ dX5_alike_27 rfl (st' := [.int r21]) rfl ?_
      refine j_if_eq X (tgt := 37) dX5_alike_30 (by decide) (fun c25 => ?_) (fun c25 => ?_)
      · have hf26 := br_y hf24 c25; clear hf24
        refine j_iconst X (v := 0) dX5_alike_37 (by decide) ?_
        obtain ⟨er, es⟩ := rt_of hf26
        subst er
        exact j_reti X hr hlk (Nat.le_of_ble_eq_true rfl) (Nat.le_of_ble_eq_true rfl) rfl es.symm rfl dX5_alike_38
      · have hf27 := br_n hf24 c25; clear hf24
        refine j_iconst X (v := 1) dX5_alike_33 (by decide) ?_
        refine j_goto X (tgt := 38) dX5_alike_34 (by decide) ?_
        obtain ⟨er, es⟩ := rt_of hf27
        subst er
        exact j_reti X hr hlk (Nat.le_of_ble_eq_true rfl) (Nat.le_of_ble_eq_true rfl) rfl es.symm rfl dX5_alike_38
abbrev rm_X5_carrySplit : Room := { frames := 4, cells := 0, slots := 0, locals := 256 }
set_option maxHeartbeats 4000000 in
set_option maxRecDepth 100000 in
theorem c_X5_carrySplit (l : Launch) (D : va_G) (cs : Nat → ClassId) (q : Nat → Nat) (a0 : Nat) (a1 : Nat) (a2 : Int32) (a3 : Int32) (σ σ0 : HS) (r0 : Unit) (hf0 : f_X5_carrySplit a0 a1 a2 a3 σ = some (r0, σ0)) : MT l yX5_carrySplit (Cond.code yX5_carrySplit cX5_carrySplit 8 none :: lw_g) rm_X5_carrySplit D cs q σ σ0 [.ref (q a0), .ref (q a1), .int a2, .int a3] (fun z => z = q) (fun _ => none) 0 0 := by
  unfold f_X5_carrySplit at hf0
  refine MT_of (cc := cX5_carrySplit) (lv0 := [(0, .ref (q a0)), (1, .ref (q a1)), (2, .int a2), (3, .int a3)]) (by decide) (Nat.le_of_ble_eq_true rfl) rfl (fun p e s m args below meth c A X hr hlk hin => ?_)
  refine j_aload_n X dX5_carrySplit_0 0 rfl rfl ?_
  obtain ⟨h1, hf2⟩ := chk_of hf0; clear hf0
  obtain ⟨i3, h4, hf5⟩ := bd_of hf2; clear hf2
  refine j_getr X fd_X5_35 h1 h4 dX5_carrySplit_1 ?_
  refine j_iload_n X dX5_carrySplit_4 2 rfl rfl ?_
  refine j_aload_n X dX5_carrySplit_5 0 rfl rfl ?_
  obtain ⟨i6, h7, hf8⟩ := bd_of hf5; clear hf5
  refine j_getr X fd_X5_14 h1 h7 dX5_carrySplit_6 ?_
  refine j_iload_n X dX5_carrySplit_9 2 rfl rfl ?_
  obtain ⟨h9, hf10⟩ := chk_of hf8; clear hf8
  obtain ⟨r11, σ12, h13, hf14⟩ := bc_of hf10; clear hf10
  refine j_callV0 X [.int a2] [.int a2, .ref (q i3)] (c_X2_lowOf l D cs q i6 a2 σ _ _ h13) mk_X2_lowOf mv_X2_lowOf ml_X5_73 h9 rfl (by decide) ⟨rfl, rfl⟩ ⟨Nat.le_of_ble_eq_true rfl, Nat.le_of_ble_eq_true rfl⟩ rfl (Nat.le_of_ble_eq_true rfl) ⟨Nat.le_of_ble_eq_true rfl, Nat.le_of_ble_eq_true rfl⟩ dX5_carrySplit_10 rfl (st' := [.int r11, .int a2, .ref (q i3)]) rfl ?_
  refine j_iload_n X dX5_carrySplit_13 3 rfl rfl ?_
  obtain ⟨h15, hf16⟩ := chk_of hf14; clear hf14
  obtain ⟨r17, σ18, h19, hf20⟩ := bc_of hf16; clear hf16
  refine j_callV0 X [.int a2, .int r11, .int a3] [] (c_X4_stand l D cs q i3 a2 r11 a3 σ12 _ _ h19) mk_X4_stand mv_X4_stand ml_X5_169 h15 rfl (by decide) ⟨rfl, rfl⟩ ⟨Nat.le_of_ble_eq_true rfl, Nat.le_of_ble_eq_true rfl⟩ rfl (Nat.le_of_ble_eq_true rfl) ⟨Nat.le_of_ble_eq_true rfl, Nat.le_of_ble_eq_true rfl⟩ dX5_carrySplit_14 rfl (st' := []) rfl ?_
  refine j_aload_n X dX5_carrySplit_17 0 rfl rfl ?_
  obtain ⟨h21, hf22⟩ := chk_of hf20; clear hf20
  obtain ⟨i23, h24, hf25⟩ := bd_of hf22; clear hf22
  refine j_getr X fd_X5_35 h21 h24 dX5_carrySplit_18 ?_
  refine j_aload_n X dX5_carrySplit_21 1 rfl rfl ?_
  obtain ⟨h26, hf27⟩ := chk_of hf25; clear hf25
  obtain ⟨r28, σ29, h30, hf31⟩ := bc_of hf27; clear hf27
  refine j_callV0 X [.ref (q a1)] [] (c_X4_carry l D cs q i23 a1 σ18 _ _ h30) mk_X4_carry mv_X4_carry ml_X5_173 h26 rfl (by decide) ⟨rfl, rfl⟩ ⟨Nat.le_of_ble_eq_true rfl, Nat.le_of_ble_eq_true rfl⟩ rfl (Nat.le_of_ble_eq_true rfl) ⟨Nat.le_of_ble_eq_true rfl, Nat.le_of_ble_eq_true rfl⟩ dX5_carrySplit_22 rfl (st' := []) rfl ?_
  refine j_aload_n X dX5_carrySplit_25 0 rfl rfl ?_
  obtain ⟨h32, hf33⟩ := chk_of hf31; clear hf31
  obtain ⟨i34, h35, hf36⟩ := bd_of hf33; clear hf33
  refine j_getr X fd_X5_35 h32 h35 dX5_carrySplit_26 ?_
  obtain ⟨h37, hf38⟩ := chk_of hf36; clear hf36
  refine j_getl X fd_X5_188 h37 dX5_carrySplit_29 (fun v39 ev39 => ?_)
  replace hf38 := lt_of hf38 v39 ev39
  refine j_lstore X (lv' := [(4, .long v39), (0, .ref (q a0)), (1, .ref (q a1)), (2, .int a2), (3, .int a3)]) dX5_carrySplit_32 (by decide) rfl ?_
  refine j_aload_n X dX5_carrySplit_34 1 rfl rfl ?_
  refine j_getr X fd_X5_35 h32 h35 dX5_carrySplit_35 ?_
  refine j_getl X fd_X5_184 h37 dX5_carrySplit_38 (fun v44 ev44 => ?_)
  replace hf38 := lt_of hf38 v44 ev44
  refine j_lstore X (lv' := [(6, .long v44), (4, .long v39), (0, .ref (q a0)), (1, .ref (q a1)), (2, .int a2), (3, .int a3)]) dX5_carrySplit_41 (by decide) rfl ?_
  refine j_aload_n X dX5_carrySplit_43 2 rfl rfl ?_
  refine j_getr X fd_X5_35 h32 h35 dX5_carrySplit_44 ?_
  refine j_iload_n X dX5_carrySplit_47 4 rfl rfl ?_
  refine j_iload_n X dX5_carrySplit_48 5 rfl rfl ?_
  refine j_aload_n X dX5_carrySplit_49 2 rfl rfl ?_
  obtain ⟨i49, h50, hf51⟩ := bd_of hf38; clear hf38
  refine j_getr X fd_X5_14 h32 h50 dX5_carrySplit_50 ?_
  refine j_iload_n X dX5_carrySplit_53 4 rfl rfl ?_
  obtain ⟨h52, hf53⟩ := chk_of hf51; clear hf51
  obtain ⟨r54, σ55, h56, hf57⟩ := bc_of hf53; clear hf53
  refine j_callV0 X [.int a2] [.int a3, .int a2, .ref (q i34)] (c_X2_highOf l D cs q i49 a2 σ29 _ _ h56) mk_X2_highOf mv_X2_highOf ml_X5_77 h52 rfl (by decide) ⟨rfl, rfl⟩ ⟨Nat.le_of_ble_eq_true rfl, Nat.le_of_ble_eq_true rfl⟩ rfl (Nat.le_of_ble_eq_true rfl) ⟨Nat.le_of_ble_eq_true rfl, Nat.le_of_ble_eq_true rfl⟩ dX5_carrySplit_54 rfl (st' := [.int r54, .int a3, .int a2, .ref (q i34)]) rfl ?_
  obtain ⟨h58, hf59⟩ := chk_of hf57; clear hf57
  obtain ⟨r60, σ61, h62, hf63⟩ := bc_of hf59; clear hf59
  refine j_callV0 X [.int a2, .int a3, .int r54] [] (c_X4_stand l D cs q i34 a2 a3 r54 σ55 _ _ h62) mk_X4_stand mv_X4_stand ml_X5_169 h58 rfl (by decide) ⟨rfl, rfl⟩ ⟨Nat.le_of_ble_eq_true rfl, Nat.le_of_ble_eq_true rfl⟩ rfl (Nat.le_of_ble_eq_true rfl) ⟨Nat.le_of_ble_eq_true rfl, Nat.le_of_ble_eq_true rfl⟩ dX5_carrySplit_57 rfl (st' := []) rfl ?_
  refine j_aload_n X dX5_carrySplit_60 2 rfl rfl ?_
  obtain ⟨h64, hf65⟩ := chk_of hf63; clear hf63
  obtain ⟨i66, h67, hf68⟩ := bd_of hf65; clear hf65
  refine j_getr X fd_X5_35 h64 h67 dX5_carrySplit_61 ?_
  refine j_aload_n X dX5_carrySplit_64 3 rfl rfl ?_
  obtain ⟨h69, hf70⟩ := chk_of hf68; clear hf68
  obtain ⟨r71, σ72, h73, hf74⟩ := bc_of hf70; clear hf70
  refine j_callV0 X [.ref (q a1)] [] (c_X4_carry l D cs q i66 a1 σ61 _ _ h73) mk_X4_carry mv_X4_carry ml_X5_173 h69 rfl (by decide) ⟨rfl, rfl⟩ ⟨Nat.le_of_ble_eq_true rfl, Nat.le_of_ble_eq_true rfl⟩ rfl (Nat.le_of_ble_eq_true rfl) ⟨Nat.le_of_ble_eq_true rfl, Nat.le_of_ble_eq_true rfl⟩ dX5_carrySplit_65 rfl (st' := []) rfl ?_
  refine j_aload_n X dX5_carrySplit_68 2 rfl rfl ?_
  obtain ⟨h75, hf76⟩ := chk_of hf74; clear hf74
  obtain ⟨i77, h78, hf79⟩ := bd_of hf76; clear hf76
  refine j_getr X fd_X5_35 h75 h78 dX5_carrySplit_69 ?_
  refine j_lload X dX5_carrySplit_72 1 rfl ?_
  refine j_aload_n X dX5_carrySplit_74 2 rfl rfl ?_
  refine j_getr X fd_X5_35 h75 h78 dX5_carrySplit_75 ?_
  obtain ⟨h83, hf84⟩ := chk_of hf79; clear hf79
  refine j_getl X fd_X5_188 h83 dX5_carrySplit_78 (fun v85 ev85 => ?_)
  replace hf84 := lt_of hf84 v85 ev85
  refine j_mmin_long X ml_X5_156 (Nat.le_of_ble_eq_true rfl) (Nat.le_of_ble_eq_true rfl) (Nat.le_of_ble_eq_true rfl) (Nat.le_of_ble_eq_true rfl) dX5_carrySplit_81 (fun v87 ev87 => ?_)
  replace hf84 := lt_of hf84 v87 ev87
  refine j_putl X fp_X5_188 h83 dX5_carrySplit_84 (fun σ89 eσ89 => ?_)
  replace hf84 := lt_of hf84 σ89 eσ89
  have h91 : isO σ89 5 a0 := by rw [eσ89]; exact h75
  have h92 : isO σ89 4 i77 := by rw [eσ89]; exact h83
  refine j_aload_n X dX5_carrySplit_87 2 rfl rfl ?_
  obtain ⟨i93, h94, hf95⟩ := bd_of hf84; clear hf84
  refine j_getr X fd_X5_35 h91 h94 dX5_carrySplit_88 ?_
  refine j_lload X dX5_carrySplit_91 0 rfl ?_
  refine j_aload_n X dX5_carrySplit_93 2 rfl rfl ?_
  refine j_getr X fd_X5_35 h91 h94 dX5_carrySplit_94 ?_
  obtain ⟨h99, hf100⟩ := chk_of hf95; clear hf95
  refine j_getl X fd_X5_184 h99 dX5_carrySplit_97 (fun v101 ev101 => ?_)
  replace hf100 := lt_of hf100 v101 ev101
  refine j_mmax_long X ml_X5_162 (Nat.le_of_ble_eq_true rfl) (Nat.le_of_ble_eq_true rfl) (Nat.le_of_ble_eq_true rfl) (Nat.le_of_ble_eq_true rfl) dX5_carrySplit_100 (fun v103 ev103 => ?_)
  replace hf100 := lt_of hf100 v103 ev103
  refine j_putl X fp_X5_184 h99 dX5_carrySplit_103 (fun σ105 eσ105 => ?_)
  replace hf100 := lt_of hf100 σ105 eσ105
  have h107 : isO σ105 5 a0 := by rw [eσ105]; exact h91
  have h108 : isO σ105 4 i77 := by rw [eσ105]; exact h92
  have h109 : isO σ105 4 i93 := by rw [eσ105]; exact h99
  refine j_aload_n X dX5_carrySplit_106 2 rfl rfl ?_
  obtain ⟨i110, h111, hf112⟩ := bd_of hf100; clear hf100
  refine j_getr X fd_X5_35 h107 h111 dX5_carrySplit_107 ?_
  refine j_iload_n X dX5_carrySplit_110 4 rfl rfl ?_
  refine j_aload_n X dX5_carrySplit_111 2 rfl rfl ?_
  obtain ⟨i113, h114, hf115⟩ := bd_of hf112; clear hf112
  refine j_getr X fd_X5_14 h107 h114 dX5_carrySplit_112 ?_
  refine j_iload_n X dX5_carrySplit_115 4 rfl rfl ?_
  obtain ⟨h116, hf117⟩ := chk_of hf115; clear hf115
  obtain ⟨r118, σ119, h120, hf121⟩ := bc_of hf117; clear hf117
  refine j_callV0 X [.int a2] [.int a2, .ref (q i110)] (c_X2_lowOf l D cs q i113 a2 σ105 _ _ h120) mk_X2_lowOf mv_X2_lowOf ml_X5_73 h116 rfl (by decide) ⟨rfl, rfl⟩ ⟨Nat.le_of_ble_eq_true rfl, Nat.le_of_ble_eq_true rfl⟩ rfl (Nat.le_of_ble_eq_true rfl) ⟨Nat.le_of_ble_eq_true rfl, Nat.le_of_ble_eq_true rfl⟩ dX5_carrySplit_116 rfl (st' := [.int r118, .int a2, .ref (q i110)]) rfl ?_
  refine j_aload_n X dX5_carrySplit_119 2 rfl rfl ?_
  obtain ⟨h122, hf123⟩ := chk_of hf121; clear hf121
  obtain ⟨i124, h125, hf126⟩ := bd_of hf123; clear hf123
  refine j_getr X fd_X5_14 h122 h125 dX5_carrySplit_120 ?_
  refine j_iload_n X dX5_carrySplit_123 4 rfl rfl ?_
  obtain ⟨h127, hf128⟩ := chk_of hf126; clear hf126
  obtain ⟨r129, σ130, h131, hf132⟩ := bc_of hf128; clear hf128
  refine j_callV0 X [.int a2] [.int r118, .int a2, .ref (q i110)] (c_X2_highOf l D cs q i124 a2 σ119 _ _ h131) mk_X2_highOf mv_X2_highOf ml_X5_77 h127 rfl (by decide) ⟨rfl, rfl⟩ ⟨Nat.le_of_ble_eq_true rfl, Nat.le_of_ble_eq_true rfl⟩ rfl (Nat.le_of_ble_eq_true rfl) ⟨Nat.le_of_ble_eq_true rfl, Nat.le_of_ble_eq_true rfl⟩ dX5_carrySplit_124 rfl (st' := [.int r129, .int r118, .int a2, .ref (q i110)]) rfl ?_
  obtain ⟨h133, hf134⟩ := chk_of hf132; clear hf132
  obtain ⟨r135, σ136, h137, hf138⟩ := bc_of hf134; clear hf134
  refine j_callV0 X [.int a2, .int r118, .int r129] [] (c_X4_stand l D cs q i110 a2 r118 r129 σ130 _ _ h137) mk_X4_stand mv_X4_stand ml_X5_169 h133 rfl (by decide) ⟨rfl, rfl⟩ ⟨Nat.le_of_ble_eq_true rfl, Nat.le_of_ble_eq_true rfl⟩ rfl (Nat.le_of_ble_eq_true rfl) ⟨Nat.le_of_ble_eq_true rfl, Nat.le_of_ble_eq_true rfl⟩ dX5_carrySplit_127 rfl (st' := []) rfl ?_
  obtain ⟨er, es⟩ := rt_of hf138
  exact j_retv X hr hlk (Nat.le_of_ble_eq_true rfl) (Nat.le_of_ble_eq_true rfl) rfl es.symm rfl dX5_carrySplit_130
abbrev rm_X5_best : Room := { frames := 5, cells := 0, slots := 0, locals := 320 }
set_option maxHeartbeats 4000000 in
set_option maxRecDepth 100000 in
theorem c_X5_best (l : Launch) (D : va_G) (cs : Nat → ClassId) (q : Nat → Nat) (a0 : Nat) (a1 : Int32) (a2 : Int32) (σ σ0 : HS) (r0 : Int64) (hf0 : f_X5_best a0 a1 a2 σ = some (r0, σ0)) : MT l yX5_best (Cond.code yX5_best cX5_best 14 (some .long) :: lw_g) rm_X5_best D cs q σ σ0 [.ref (q a0), .int a1, .int a2] (fun z => z = q) (fun _ => some (.long r0)) 0 0 := by
  unfold f_X5_best at hf0
  refine MT_of (cc := cX5_best) (lv0 := [(0, .ref (q a0)), (1, .int a1), (2, .int a2)]) (by decide) (Nat.le_of_ble_eq_true rfl) rfl (fun p e s m args below meth c A X hr hlk hin => ?_)
  have L102 : ∀ (K72 : Nat → Int32 → Int32 → Nat → Int64 → Int64 → Int32 → Int32 → Int32 → HS → Option (Int64 × HS)) (hK72 : ∀ (x0 : Nat) (x1 : Int32) (x2 : Int32) (x3 : Nat) (x4 : Int64) (x6 : Int64) (x8 : Int32) (x9 : Int32) (x10 : Int32) (τ : HS), K72 x0 x1 x2 x3 x4 x6 x8 x9 x10 τ = some (r0, σ0) → J p l e rm_X5_best s m args below meth c 14 D cs A s.heap 0 0 (MQ below (hQ D cs (fun z => z = q) (fun _ => some (.long r0)) σ0 A) args s 0 0 A) q τ [(0, .ref (q x0)), (1, .int x1), (2, .int x2), (3, .ref (q x3)), (4, .long x4), (6, .long x6), (8, .int x8), (9, .int x9), (10, .int x10)] 72 []), ∀ (nk : Nat) (x0 : Nat) (x1 : Int32) (x2 : Int32) (x3 : Nat) (x4 : Int64) (x6 : Int64) (x8 : Int32) (x9 : Int32) (x10 : Int32) (x11 : Int32) (τ : HS), lp_X5_best_102 K72 nk x0 x1 x2 x3 x4 x6 x8 x9 x10 x11 τ = some (r0, σ0) → J p l e rm_X5_best s m args below meth c 14 D cs A s.heap 0 0 (MQ below (hQ D cs (fun z => z = q) (fun _ => some (.long r0)) σ0 A) args s 0 0 A) q τ [(0, .ref (q x0)), (1, .int x1), (2, .int x2), (3, .ref (q x3)), (4, .long x4), (6, .long x6), (8, .int x8), (9, .int x9), (10, .int x10), (11, .int x11)] 102 [] := by
    intro K72 hK72
    intro nk
    induction nk with
    | zero => intro x0 x1 x2 x3 x4 x6 x8 x9 x10 x11 τ hf0; have hf1 : (none : Option (Int64 × HS)) = some (r0, σ0) := hf0; cases hf1
    | succ nk ih =>
      intro x0 x1 x2 x3 x4 x6 x8 x9 x10 x11 τ hf0
      replace hf0 : lp_X5_best_102_b K72 (lp_X5_best_102 K72 nk) x0 x1 x2 x3 x4 x6 x8 x9 x10 x11 τ = some (r0, σ0) := hf0
      unfold lp_X5_best_102_b at hf0
      refine j_iload X dX5_best_102 9 rfl ?_
      refine j_aload_n X dX5_best_104 0 rfl rfl ?_
      obtain ⟨h90, hf91⟩ := chk_of hf0; clear hf0
      obtain ⟨i92, h93, hf94⟩ := bd_of hf91; clear hf91
      refine j_getr X fd_X5_14 h90 h93 dX5_best_105 ?_
      refine j_iload X dX5_best_108 8 rfl ?_
      obtain ⟨h95, hf96⟩ := chk_of hf94; clear hf94
      obtain ⟨r97, σ98, h99, hf100⟩ := bc_of hf96; clear hf96
      refine j_callV0 X [.int x10] [.int x11] (c_X2_highOf l D cs q i92 x10 τ _ _ h99) mk_X2_highOf mv_X2_highOf ml_X5_77 h95 rfl (by decide) ⟨rfl, rfl⟩ ⟨Nat.le_of_ble_eq_true rfl, Nat.le_of_ble_eq_true rfl⟩ rfl (Nat.le_of_ble_eq_true rfl) ⟨Nat.le_of_ble_eq_true rfl, Nat.le_of_ble_eq_true rfl⟩ dX5_best_110 rfl (st' := [.int r97, .int x11]) rfl ?_
      refine j_icmp_gt X (tgt := 168) dX5_best_113 (by decide) (fun c101 => ?_) (fun c101 => ?_)
      · have hf102 := br_y hf100 c101; clear hf100
        obtain ⟨v104, ev104⟩ : ∃ y : Int32, y = x10 + (1 : Int32) := ⟨_, rfl⟩
        replace hf102 := lt_of hf102 v104 ev104
        refine j_iinc X (v := v104) (lv' := [(10, .int v104), (0, .ref (q x0)), (1, .int x1), (2, .int x2), (3, .ref (q x3)), (4, .long x4), (6, .long x6), (8, .int x8), (9, .int x9), (11, .int x11)]) dX5_best_168 8 rfl (by rw [ev104]; rfl) (by decide) rfl ?_
        refine j_goto X (tgt := 72) dX5_best_171 (by decide) ?_
        refine j_lvsub [1, 2, 3, 4, 5, 6, 7, 8, 0] (lv' := [(0, .ref (q x0)), (1, .int x1), (2, .int x2), (3, .ref (q x3)), (4, .long x4), (6, .long x6), (8, .int x8), (9, .int x9), (10, .int v104)]) rfl ?_
        exact hK72 x0 x1 x2 x3 x4 x6 x8 x9 v104 σ98 hf102
      · have hf103 := br_n hf100 c101; clear hf100
        refine j_aload_n X dX5_best_116 0 rfl rfl ?_
        refine j_aload_n X dX5_best_117 3 rfl rfl ?_
        refine j_iload X dX5_best_118 8 rfl ?_
        refine j_iload X dX5_best_120 9 rfl ?_
        obtain ⟨h106, hf107⟩ := chk_of hf103; clear hf103
        obtain ⟨r108, σ109, h110, hf111⟩ := bc_of hf107; clear hf107
        refine j_callV0 X [.ref (q x3), .int x10, .int x11] [] (c_X5_carrySplit l D cs q x0 x3 x10 x11 σ98 _ _ h110) mk_X5_carrySplit mv_X5_carrySplit ml_X5_176 h106 rfl (by decide) ⟨rfl, rfl⟩ ⟨Nat.le_of_ble_eq_true rfl, Nat.le_of_ble_eq_true rfl⟩ rfl (Nat.le_of_ble_eq_true rfl) ⟨Nat.le_of_ble_eq_true rfl, Nat.le_of_ble_eq_true rfl⟩ dX5_best_122 rfl (st' := []) rfl ?_
        refine j_aload_n X dX5_best_125 0 rfl rfl ?_
        obtain ⟨h112, hf113⟩ := chk_of hf111; clear hf111
        obtain ⟨i114, h115, hf116⟩ := bd_of hf113; clear hf113
        refine j_getr X fd_X5_35 h112 h115 dX5_best_126 ?_
        obtain ⟨h117, hf118⟩ := chk_of hf116; clear hf116
        refine j_getl X fd_X5_184 h117 dX5_best_129 (fun v119 ev119 => ?_)
        replace hf118 := lt_of hf118 v119 ev119
        refine j_aload_n X dX5_best_132 0 rfl rfl ?_
        refine j_getr X fd_X5_35 h112 h115 dX5_best_133 ?_
        refine j_getl X fd_X5_188 h117 dX5_best_136 (fun v124 ev124 => ?_)
        replace hf118 := lt_of hf118 v124 ev124
        refine j_lsub X dX5_best_139 ?_
        refine j_nml (fun v126 ev126 => ?_)
        replace hf118 := lt_of hf118 v126 ev126
        refine j_lstore X (lv' := [(12, .long v126), (0, .ref (q x0)), (1, .int x1), (2, .int x2), (3, .ref (q x3)), (4, .long x4), (6, .long x6), (8, .int x8), (9, .int x9), (10, .int x10), (11, .int x11)]) dX5_best_140 (by decide) rfl ?_
        refine j_lload X dX5_best_142 0 rfl ?_
        refine j_lload X dX5_best_144 6 rfl ?_
        refine j_lcmp X dX5_best_146 ?_
        refine j_if_ge X (tgt := 162) dX5_best_147 (by decide) (fun c128 => ?_) (fun c128 => ?_)
        · have hf129 := br_y hf118 c128; clear hf118
          obtain ⟨v131, ev131⟩ : ∃ y : Int32, y = x11 + (1 : Int32) := ⟨_, rfl⟩
          replace hf129 := lt_of hf129 v131 ev131
          refine j_iinc X (v := v131) (lv' := [(11, .int v131), (12, .long v126), (0, .ref (q x0)), (1, .int x1), (2, .int x2), (3, .ref (q x3)), (4, .long x4), (6, .long x6), (8, .int x8), (9, .int x9), (10, .int x10)]) dX5_best_162 10 rfl (by rw [ev131]; rfl) (by decide) rfl ?_
          refine j_goto X (tgt := 102) dX5_best_165 (by decide) ?_
          refine j_lvsub [2, 3, 4, 5, 6, 7, 8, 9, 10, 0] (lv' := [(0, .ref (q x0)), (1, .int x1), (2, .int x2), (3, .ref (q x3)), (4, .long x4), (6, .long x6), (8, .int x8), (9, .int x9), (10, .int x10), (11, .int v131)]) rfl ?_
          exact ih x0 x1 x2 x3 x4 x6 x8 x9 x10 v131 σ109 hf129
        · have hf130 := br_n hf118 c128; clear hf118
          refine j_lload X dX5_best_150 0 rfl ?_
          refine j_lstore X (lv' := [(6, .long v126), (12, .long v126), (0, .ref (q x0)), (1, .int x1), (2, .int x2), (3, .ref (q x3)), (4, .long x4), (8, .int x8), (9, .int x9), (10, .int x10), (11, .int x11)]) dX5_best_152 (by decide) rfl ?_
          refine j_iload X dX5_best_154 9 rfl ?_
          refine j_istore X (lv' := [(8, .int x10), (6, .long v126), (12, .long v126), (0, .ref (q x0)), (1, .int x1), (2, .int x2), (3, .ref (q x3)), (4, .long x4), (9, .int x9), (10, .int x10), (11, .int x11)]) dX5_best_156 (by decide) rfl ?_
          refine j_iload X dX5_best_158 10 rfl ?_
          refine j_istore X (lv' := [(9, .int x11), (8, .int x10), (6, .long v126), (12, .long v126), (0, .ref (q x0)), (1, .int x1), (2, .int x2), (3, .ref (q x3)), (4, .long x4), (10, .int x10), (11, .int x11)]) dX5_best_160 (by decide) rfl ?_
          obtain ⟨v133, ev133⟩ : ∃ y : Int32, y = x11 + (1 : Int32) := ⟨_, rfl⟩
          replace hf130 := lt_of hf130 v133 ev133
          refine j_iinc X (v := v133) (lv' := [(11, .int v133), (9, .int x11), (8, .int x10), (6, .long v126), (12, .long v126), (0, .ref (q x0)), (1, .int x1), (2, .int x2), (3, .ref (q x3)), (4, .long x4), (10, .int x10)]) dX5_best_162 10 rfl (by rw [ev133]; rfl) (by decide) rfl ?_
          refine j_goto X (tgt := 102) dX5_best_165 (by decide) ?_
          refine j_lvsub [5, 6, 7, 8, 9, 3, 2, 1, 10, 0] (lv' := [(0, .ref (q x0)), (1, .int x1), (2, .int x2), (3, .ref (q x3)), (4, .long x4), (6, .long v126), (8, .int x10), (9, .int x11), (10, .int x10), (11, .int v133)]) rfl ?_
          exact ih x0 x1 x2 x3 x4 v126 x10 x11 x10 v133 σ109 hf130
  have L72 : ∀ (nk : Nat) (x0 : Nat) (x1 : Int32) (x2 : Int32) (x3 : Nat) (x4 : Int64) (x6 : Int64) (x8 : Int32) (x9 : Int32) (x10 : Int32) (τ : HS), lp_X5_best_72  nk x0 x1 x2 x3 x4 x6 x8 x9 x10 τ = some (r0, σ0) → J p l e rm_X5_best s m args below meth c 14 D cs A s.heap 0 0 (MQ below (hQ D cs (fun z => z = q) (fun _ => some (.long r0)) σ0 A) args s 0 0 A) q τ [(0, .ref (q x0)), (1, .int x1), (2, .int x2), (3, .ref (q x3)), (4, .long x4), (6, .long x6), (8, .int x8), (9, .int x9), (10, .int x10)] 72 [] := by
    intro nk
    induction nk with
    | zero => intro x0 x1 x2 x3 x4 x6 x8 x9 x10 τ hf0; have hf1 : (none : Option (Int64 × HS)) = some (r0, σ0) := hf0; cases hf1
    | succ nk ih =>
      intro x0 x1 x2 x3 x4 x6 x8 x9 x10 τ hf0
      replace hf0 : lp_X5_best_72_b  (lp_X5_best_72  nk) x0 x1 x2 x3 x4 x6 x8 x9 x10 τ = some (r0, σ0) := hf0
      unfold lp_X5_best_72_b at hf0
      refine j_iload X dX5_best_72 8 rfl ?_
      refine j_bipush X (v := 6) dX5_best_74 (by decide) ?_
      refine j_icmp_ge X (tgt := 174) dX5_best_76 (by decide) (fun c58 => ?_) (fun c58 => ?_)
      · have hf59 := br_y hf0 c58; clear hf0
        refine j_iload X dX5_best_174 6 rfl ?_
        refine j_iconst X (v := -1) dX5_best_176 (by decide) ?_
        refine j_icmp_ne X (tgt := 184) dX5_best_177 (by decide) (fun c61 => ?_) (fun c61 => ?_)
        · have hf62 := br_n hf59 c61; clear hf59
          refine j_iload_n X dX5_best_184 2 rfl rfl ?_
          refine j_if_ne X (tgt := 194) dX5_best_185 (by decide) (fun c64 => ?_) (fun c64 => ?_)
          · have hf65 := br_n hf62 c64; clear hf62
            refine j_iload_n X dX5_best_194 2 rfl rfl ?_
            refine j_iconst X (v := 1) dX5_best_195 (by decide) ?_
            refine j_icmp_ne X (tgt := 205) dX5_best_196 (by decide) (fun c67 => ?_) (fun c67 => ?_)
            · have hf68 := br_n hf65 c67; clear hf65
              refine j_lload X dX5_best_205 4 rfl ?_
              refine j_lload X dX5_best_207 5 rfl ?_
              refine j_lsub X dX5_best_209 ?_
              obtain ⟨er, es⟩ := rt_of hf68
              subst er
              exact j_retl X hr hlk (Nat.le_of_ble_eq_true rfl) (Nat.le_of_ble_eq_true rfl) rfl es.symm rfl dX5_best_210
            · have hf69 := br_y hf65 c67; clear hf65
              refine j_iload X dX5_best_199 7 rfl ?_
              refine j_i2l X dX5_best_201 ?_
              refine j_goto X (tgt := 210) dX5_best_202 (by decide) ?_
              obtain ⟨er, es⟩ := rt_of hf69
              subst er
              exact j_retl X hr hlk (Nat.le_of_ble_eq_true rfl) (Nat.le_of_ble_eq_true rfl) rfl es.symm rfl dX5_best_210
          · have hf66 := br_y hf62 c64; clear hf62
            refine j_iload X dX5_best_188 6 rfl ?_
            refine j_i2l X dX5_best_190 ?_
            refine j_goto X (tgt := 210) dX5_best_191 (by decide) ?_
            obtain ⟨er, es⟩ := rt_of hf66
            subst er
            exact j_retl X hr hlk (Nat.le_of_ble_eq_true rfl) (Nat.le_of_ble_eq_true rfl) rfl es.symm rfl dX5_best_210
        · have hf63 := br_y hf59 c61; clear hf59
          refine j_ldc2 X k_X5_194 dX5_best_180 ?_
          obtain ⟨er, es⟩ := rt_of hf63
          subst er
          exact j_retl X hr hlk (Nat.le_of_ble_eq_true rfl) (Nat.le_of_ble_eq_true rfl) rfl es.symm rfl dX5_best_183
      · have hf60 := br_n hf0 c58; clear hf0
        refine j_aload_n X dX5_best_79 3 rfl rfl ?_
        refine j_iload X dX5_best_80 8 rfl ?_
        obtain ⟨h70, hf71⟩ := chk_of hf60; clear hf60
        obtain ⟨r72, σ73, h74, hf75⟩ := bc_of hf71; clear hf71
        refine j_callV0 X [.int x10] [] (c_X0_hasSource l D cs q x3 x10 τ _ _ h74) mk_X0_hasSource mv_X0_hasSource ml_X5_191 h70 rfl (by decide) ⟨rfl, rfl⟩ ⟨Nat.le_of_ble_eq_true rfl, Nat.le_of_ble_eq_true rfl⟩ rfl (Nat.le_of_ble_eq_true rfl) ⟨Nat.le_of_ble_eq_true rfl, Nat.le_of_ble_eq_true rfl⟩ dX5_best_82 rfl (st' := [.int r72]) rfl ?_
        refine j_if_ne X (tgt := 91) dX5_best_85 (by decide) (fun c76 => ?_) (fun c76 => ?_)
        · have hf77 := br_n hf75 c76; clear hf75
          refine j_aload_n X dX5_best_91 0 rfl rfl ?_
          obtain ⟨h79, hf80⟩ := chk_of hf77; clear hf77
          obtain ⟨i81, h82, hf83⟩ := bd_of hf80; clear hf80
          refine j_getr X fd_X5_14 h79 h82 dX5_best_92 ?_
          refine j_iload X dX5_best_95 8 rfl ?_
          obtain ⟨h84, hf85⟩ := chk_of hf83; clear hf83
          obtain ⟨r86, σ87, h88, hf89⟩ := bc_of hf85; clear hf85
          refine j_callV0 X [.int x10] [] (c_X2_lowOf l D cs q i81 x10 σ73 _ _ h88) mk_X2_lowOf mv_X2_lowOf ml_X5_73 h84 rfl (by decide) ⟨rfl, rfl⟩ ⟨Nat.le_of_ble_eq_true rfl, Nat.le_of_ble_eq_true rfl⟩ rfl (Nat.le_of_ble_eq_true rfl) ⟨Nat.le_of_ble_eq_true rfl, Nat.le_of_ble_eq_true rfl⟩ dX5_best_97 rfl (st' := [.int r86]) rfl ?_
          refine j_istore X (lv' := [(11, .int r86), (0, .ref (q x0)), (1, .int x1), (2, .int x2), (3, .ref (q x3)), (4, .long x4), (6, .long x6), (8, .int x8), (9, .int x9), (10, .int x10)]) dX5_best_100 (by decide) rfl ?_
          refine j_lvsub [1, 2, 3, 4, 5, 6, 7, 8, 9, 0] (lv' := [(0, .ref (q x0)), (1, .int x1), (2, .int x2), (3, .ref (q x3)), (4, .long x4), (6, .long x6), (8, .int x8), (9, .int x9), (10, .int x10), (11, .int r86)]) rfl ?_
          exact L102 _ (ih) 1000 x0 x1 x2 x3 x4 x6 x8 x9 x10 r86 σ87 hf89
        · have hf78 := br_y hf75 c76; clear hf75
          refine j_goto X (tgt := 168) dX5_best_88 (by decide) ?_
          obtain ⟨v135, ev135⟩ : ∃ y : Int32, y = x10 + (1 : Int32) := ⟨_, rfl⟩
          replace hf78 := lt_of hf78 v135 ev135
          refine j_iinc X (v := v135) (lv' := [(10, .int v135), (0, .ref (q x0)), (1, .int x1), (2, .int x2), (3, .ref (q x3)), (4, .long x4), (6, .long x6), (8, .int x8), (9, .int x9)]) dX5_best_168 8 rfl (by rw [ev135]; rfl) (by decide) rfl ?_
          refine j_goto X (tgt := 72) dX5_best_171 (by decide) ?_
          refine j_lvsub [1, 2, 3, 4, 5, 6, 7, 8, 0] (lv' := [(0, .ref (q x0)), (1, .int x1), (2, .int x2), (3, .ref (q x3)), (4, .long x4), (6, .long x6), (8, .int x8), (9, .int x9), (10, .int v135)]) rfl ?_
          exact ih x0 x1 x2 x3 x4 x6 x8 x9 v135 σ73 hf78
  refine j_aload_n X dX5_best_0 0 rfl rfl ?_
  refine j_iload_n X dX5_best_1 1 rfl rfl ?_
  obtain ⟨h1, hf2⟩ := chk_of hf0; clear hf0
  obtain ⟨r3, σ4, h5, hf6⟩ := bc_of hf2; clear hf2
  refine j_callV0 X [.int a1] [] (c_X5_formulaOf l D cs q a0 a1 σ _ _ h5) mk_X5_formulaOf mv_X5_formulaOf ml_X5_100 h1 rfl (by decide) ⟨rfl, rfl⟩ ⟨Nat.le_of_ble_eq_true rfl, Nat.le_of_ble_eq_true rfl⟩ rfl (Nat.le_of_ble_eq_true rfl) ⟨Nat.le_of_ble_eq_true rfl, Nat.le_of_ble_eq_true rfl⟩ dX5_best_2 rfl (st' := [va_rf (Option.map q r3)]) rfl ?_
  refine j_astore_nq X (lv' := [(3, va_rf (Option.map q r3)), (0, .ref (q a0)), (1, .int a1), (2, .int a2)]) dX5_best_5 rfl (by decide) rfl ?_
  refine j_aload_nq X dX5_best_6 0 rfl rfl ?_
  refine j_ifnull X (tgt := 19) dX5_best_7 (by decide) (fun c137 => ?_) (fun i7 c137 => ?_)
  · subst c137; have hf8 := (show _ = some (r0, σ0) from hf6); clear hf6; unfold oc at hf8; dsimp only at hf8
    refine j_ldc2 X k_X5_125 dX5_best_19 ?_
    obtain ⟨er, es⟩ := rt_of hf8
    subst er
    exact j_retl X hr hlk (Nat.le_of_ble_eq_true rfl) (Nat.le_of_ble_eq_true rfl) rfl es.symm rfl dX5_best_22
  · subst c137; have hf9 := (show _ = some (r0, σ0) from hf6); clear hf6; unfold oc at hf9; dsimp only at hf9
    refine j_iload_n X dX5_best_10 3 rfl rfl ?_
    refine j_if_lt X (tgt := 19) dX5_best_11 (by decide) (fun c10 => ?_) (fun c10 => ?_)
    · have hf11 := br_y hf9 c10; clear hf9
      refine j_ldc2 X k_X5_125 dX5_best_19 ?_
      obtain ⟨er, es⟩ := rt_of hf11
      subst er
      exact j_retl X hr hlk (Nat.le_of_ble_eq_true rfl) (Nat.le_of_ble_eq_true rfl) rfl es.symm rfl dX5_best_22
    · have hf12 := br_n hf9 c10; clear hf9
      refine j_iload_n X dX5_best_14 3 rfl rfl ?_
      refine j_iconst X (v := 2) dX5_best_15 (by decide) ?_
      refine j_icmp_le X (tgt := 23) dX5_best_16 (by decide) (fun c13 => ?_) (fun c13 => ?_)
      · have hf14 := br_y hf12 c13; clear hf12
        refine j_aload_n X dX5_best_23 1 rfl rfl ?_
        refine j_aload_n X dX5_best_24 0 rfl rfl ?_
        obtain ⟨h16, hf17⟩ := chk_of hf14; clear hf14
        obtain ⟨r18, σ19, h20, hf21⟩ := bc_of hf17; clear hf17
        refine j_callV0 X [.ref (q i7)] [] (c_X5_carryAsItIs l D cs q a0 i7 σ4 _ _ h20) mk_X5_carryAsItIs mv_X5_carryAsItIs ml_X5_127 h16 rfl (by decide) ⟨rfl, rfl⟩ ⟨Nat.le_of_ble_eq_true rfl, Nat.le_of_ble_eq_true rfl⟩ rfl (Nat.le_of_ble_eq_true rfl) ⟨Nat.le_of_ble_eq_true rfl, Nat.le_of_ble_eq_true rfl⟩ dX5_best_25 rfl (st' := []) rfl ?_
        refine j_aload_n X dX5_best_28 1 rfl rfl ?_
        obtain ⟨h22, hf23⟩ := chk_of hf21; clear hf21
        obtain ⟨i24, h25, hf26⟩ := bd_of hf23; clear hf23
        refine j_getr X fd_X5_35 h22 h25 dX5_best_29 ?_
        obtain ⟨h27, hf28⟩ := chk_of hf26; clear hf26
        obtain ⟨r29, σ30, h31, hf32⟩ := bc_of hf28; clear hf28
        refine j_callV0 X [] [] (c_X4_hasWidth l D cs q i24 σ19 _ _ h31) mk_X4_hasWidth mv_X4_hasWidth ml_X5_180 h27 rfl (by decide) ⟨rfl, rfl⟩ ⟨Nat.le_of_ble_eq_true rfl, Nat.le_of_ble_eq_true rfl⟩ rfl (Nat.le_of_ble_eq_true rfl) ⟨Nat.le_of_ble_eq_true rfl, Nat.le_of_ble_eq_true rfl⟩ dX5_best_32 rfl (st' := [.int r29]) rfl ?_
        refine j_if_ne X (tgt := 42) dX5_best_35 (by decide) (fun c33 => ?_) (fun c33 => ?_)
        · have hf34 := br_n hf32 c33; clear hf32
          refine j_aload_n X dX5_best_42 1 rfl rfl ?_
          obtain ⟨h36, hf37⟩ := chk_of hf34; clear hf34
          obtain ⟨i38, h39, hf40⟩ := bd_of hf37; clear hf37
          refine j_getr X fd_X5_35 h36 h39 dX5_best_43 ?_
          obtain ⟨h41, hf42⟩ := chk_of hf40; clear hf40
          refine j_getl X fd_X5_184 h41 dX5_best_46 (fun v43 ev43 => ?_)
          replace hf42 := lt_of hf42 v43 ev43
          refine j_aload_n X dX5_best_49 1 rfl rfl ?_
          refine j_getr X fd_X5_35 h36 h39 dX5_best_50 ?_
          refine j_getl X fd_X5_188 h41 dX5_best_53 (fun v48 ev48 => ?_)
          replace hf42 := lt_of hf42 v48 ev48
          refine j_lsub X dX5_best_56 ?_
          refine j_nml (fun v50 ev50 => ?_)
          replace hf42 := lt_of hf42 v50 ev50
          refine j_lstore X (lv' := [(4, .long v50), (3, .ref (q i7)), (0, .ref (q a0)), (1, .int a1), (2, .int a2)]) dX5_best_57 (by decide) rfl ?_
          refine j_lload X dX5_best_59 0 rfl ?_
          refine j_lstore X (lv' := [(6, .long v50), (4, .long v50), (3, .ref (q i7)), (0, .ref (q a0)), (1, .int a1), (2, .int a2)]) dX5_best_61 (by decide) rfl ?_
          refine j_iconst X (v := -1) dX5_best_63 (by decide) ?_
          refine j_nmi (fun v52 ev52 => ?_)
          replace hf42 := lt_of hf42 v52 ev52
          refine j_istore X (lv' := [(8, .int v52), (6, .long v50), (4, .long v50), (3, .ref (q i7)), (0, .ref (q a0)), (1, .int a1), (2, .int a2)]) dX5_best_64 (by decide) rfl ?_
          refine j_iconst X (v := 0) dX5_best_66 (by decide) ?_
          refine j_nmi (fun v54 ev54 => ?_)
          replace hf42 := lt_of hf42 v54 ev54
          refine j_istore X (lv' := [(9, .int v54), (8, .int v52), (6, .long v50), (4, .long v50), (3, .ref (q i7)), (0, .ref (q a0)), (1, .int a1), (2, .int a2)]) dX5_best_67 (by decide) rfl ?_
          refine j_iconst X (v := 0) dX5_best_69 (by decide) ?_
          refine j_nmi (fun v56 ev56 => ?_)
          replace hf42 := lt_of hf42 v56 ev56
          refine j_istore X (lv' := [(10, .int v56), (9, .int v54), (8, .int v52), (6, .long v50), (4, .long v50), (3, .ref (q i7)), (0, .ref (q a0)), (1, .int a1), (2, .int a2)]) dX5_best_70 (by decide) rfl ?_
          refine j_lvsub [6, 7, 8, 5, 4, 3, 2, 1, 0] (lv' := [(0, .ref (q a0)), (1, .int a1), (2, .int a2), (3, .ref (q i7)), (4, .long v50), (6, .long v50), (8, .int v52), (9, .int v54), (10, .int v56)]) rfl ?_
          exact L72  1000 a0 a1 a2 i7 v50 v50 v52 v54 v56 σ30 hf42
        · have hf35 := br_y hf32 c33; clear hf32
          refine j_ldc2 X k_X5_141 dX5_best_38 ?_
          obtain ⟨er, es⟩ := rt_of hf35
          subst er
          exact j_retl X hr hlk (Nat.le_of_ble_eq_true rfl) (Nat.le_of_ble_eq_true rfl) rfl es.symm rfl dX5_best_41
      · have hf15 := br_n hf12 c13; clear hf12
        refine j_ldc2 X k_X5_125 dX5_best_19 ?_
        obtain ⟨er, es⟩ := rt_of hf15
        subst er
        exact j_retl X hr hlk (Nat.le_of_ble_eq_true rfl) (Nat.le_of_ble_eq_true rfl) rfl es.symm rfl dX5_best_22
abbrev rm_X5_worthAtCorner : Room := { frames := 2, cells := 0, slots := 0, locals := 128 }
set_option maxHeartbeats 4000000 in
set_option maxRecDepth 100000 in
theorem c_X5_worthAtCorner (l : Launch) (D : va_G) (cs : Nat → ClassId) (q : Nat → Nat) (a0 : Nat) (a1 : Nat) (a2 : Int32) (σ σ0 : HS) (r0 : Int64) (hf0 : f_X5_worthAtCorner a0 a1 a2 σ = some (r0, σ0)) : MT l yX5_worthAtCorner (Cond.code yX5_worthAtCorner cX5_worthAtCorner 5 (some .long) :: lw_g) rm_X5_worthAtCorner D cs q σ σ0 [.ref (q a0), .ref (q a1), .int a2] (fun z => z = q) (fun _ => some (.long r0)) 0 0 := by
  unfold f_X5_worthAtCorner at hf0
  refine MT_of (cc := cX5_worthAtCorner) (lv0 := [(0, .ref (q a0)), (1, .ref (q a1)), (2, .int a2)]) (by decide) (Nat.le_of_ble_eq_true rfl) rfl (fun p e s m args below meth c A X hr hlk hin => ?_)
  have L2 : ∀ (nk : Nat) (x0 : Nat) (x1 : Nat) (x2 : Int32) (x3 : Int32) (τ : HS), lp_X5_worthAtCorner_2  nk x0 x1 x2 x3 τ = some (r0, σ0) → J p l e rm_X5_worthAtCorner s m args below meth c 5 D cs A s.heap 0 0 (MQ below (hQ D cs (fun z => z = q) (fun _ => some (.long r0)) σ0 A) args s 0 0 A) q τ [(0, .ref (q x0)), (1, .ref (q x1)), (2, .int x2), (3, .int x3)] 2 [] := by
    intro nk
    induction nk with
    | zero => intro x0 x1 x2 x3 τ hf0; have hf1 : (none : Option (Int64 × HS)) = some (r0, σ0) := hf0; cases hf1
    | succ nk ih =>
      intro x0 x1 x2 x3 τ hf0
      replace hf0 : lp_X5_worthAtCorner_2_b  (lp_X5_worthAtCorner_2  nk) x0 x1 x2 x3 τ = some (r0, σ0) := hf0
      unfold lp_X5_worthAtCorner_2_b at hf0
      refine j_iload_n X dX5_worthAtCorner_2 3 rfl rfl ?_
      refine j_bipush X (v := 6) dX5_worthAtCorner_3 (by decide) ?_
      refine j_icmp_ge X (tgt := 63) dX5_worthAtCorner_5 (by decide) (fun c3 => ?_) (fun c3 => ?_)
      · have hf4 := br_y hf0 c3; clear hf0
        refine j_aload_n X dX5_worthAtCorner_63 0 rfl rfl ?_
        obtain ⟨h6, hf7⟩ := chk_of hf4; clear hf4
        obtain ⟨i8, h9, hf10⟩ := bd_of hf7; clear hf7
        refine j_getr X fd_X5_35 h6 h9 dX5_worthAtCorner_64 ?_
        refine j_aload_n X dX5_worthAtCorner_67 1 rfl rfl ?_
        obtain ⟨h11, hf12⟩ := chk_of hf10; clear hf10
        obtain ⟨r13, σ14, h15, hf16⟩ := bc_of hf12; clear hf12
        refine j_callV0 X [.ref (q x1)] [] (c_X4_worthOf l D cs q i8 x1 τ _ _ h15) mk_X4_worthOf mv_X4_worthOf ml_X5_148 h11 rfl (by decide) ⟨rfl, rfl⟩ ⟨Nat.le_of_ble_eq_true rfl, Nat.le_of_ble_eq_true rfl⟩ rfl (Nat.le_of_ble_eq_true rfl) ⟨Nat.le_of_ble_eq_true rfl, Nat.le_of_ble_eq_true rfl⟩ dX5_worthAtCorner_68 rfl (st' := [.long r13]) rfl ?_
        obtain ⟨er, es⟩ := rt_of hf16
        subst er
        exact j_retl X hr hlk (Nat.le_of_ble_eq_true rfl) (Nat.le_of_ble_eq_true rfl) rfl es.symm rfl dX5_worthAtCorner_71
      · have hf5 := br_n hf0 c3; clear hf0
        refine j_iload_n X dX5_worthAtCorner_8 2 rfl rfl ?_
        refine j_iload_n X dX5_worthAtCorner_9 3 rfl rfl ?_
        refine j_ishr X dX5_worthAtCorner_10 ?_
        refine j_iconst X (v := 1) dX5_worthAtCorner_11 (by decide) ?_
        refine j_iand X dX5_worthAtCorner_12 ?_
        refine j_iconst X (v := 1) dX5_worthAtCorner_13 (by decide) ?_
        refine j_icmp_ne X (tgt := 21) dX5_worthAtCorner_14 (by decide) (fun c17 => ?_) (fun c17 => ?_)
        · have hf18 := br_n hf5 c17; clear hf5
          refine j_iconst X (v := 0) dX5_worthAtCorner_21 (by decide) ?_
          refine j_nmi (fun v20 ev20 => ?_)
          replace hf18 := lt_of hf18 v20 ev20
          refine j_istore X (lv' := [(4, .int v20), (0, .ref (q x0)), (1, .ref (q x1)), (2, .int x2), (3, .int x3)]) dX5_worthAtCorner_22 (by decide) rfl ?_
          refine j_aload_n X dX5_worthAtCorner_24 1 rfl rfl ?_
          obtain ⟨h22, hf23⟩ := chk_of hf18; clear hf18
          obtain ⟨i24, h25, hf26⟩ := bd_of hf23; clear hf23
          refine j_getr X fd_X5_35 h22 h25 dX5_worthAtCorner_25 ?_
          obtain ⟨h27, hf28⟩ := chk_of hf26; clear hf26
          obtain ⟨i29, h30, hf31⟩ := bd_of hf28; clear hf28
          refine j_getr X fd_X5_143 h27 h30 dX5_worthAtCorner_28 ?_
          refine j_iload_n X dX5_worthAtCorner_31 4 rfl rfl ?_
          refine j_iload X dX5_worthAtCorner_32 0 rfl ?_
          refine j_if_eq X (tgt := 48) dX5_worthAtCorner_34 (by decide) (fun c32 => ?_) (fun c32 => ?_)
          · have hf33 := br_y hf31 c32; clear hf31
            refine j_aload_n X dX5_worthAtCorner_48 1 rfl rfl ?_
            obtain ⟨i35, h36, hf37⟩ := bd_of hf33; clear hf33
            refine j_getr X fd_X5_14 h22 h36 dX5_worthAtCorner_49 ?_
            refine j_iload_n X dX5_worthAtCorner_52 4 rfl rfl ?_
            obtain ⟨h38, hf39⟩ := chk_of hf37; clear hf37
            obtain ⟨r40, σ41, h42, hf43⟩ := bc_of hf39; clear hf39
            refine j_callV0 X [.int x3] [.int x3, .ref (q i29)] (c_X2_lowOf l D cs q i35 x3 τ _ _ h42) mk_X2_lowOf mv_X2_lowOf ml_X5_73 h38 rfl (by decide) ⟨rfl, rfl⟩ ⟨Nat.le_of_ble_eq_true rfl, Nat.le_of_ble_eq_true rfl⟩ rfl (Nat.le_of_ble_eq_true rfl) ⟨Nat.le_of_ble_eq_true rfl, Nat.le_of_ble_eq_true rfl⟩ dX5_worthAtCorner_53 rfl (st' := [.int r40, .int x3, .ref (q i29)]) rfl ?_
            obtain ⟨h44, hf45⟩ := chk_of hf43; clear hf43
            refine j_iast X h44 dX5_worthAtCorner_56 (fun σ46 eσ46 => ?_)
            replace hf45 := lt_of hf45 σ46 eσ46
            obtain ⟨v48, ev48⟩ : ∃ y : Int32, y = x3 + (1 : Int32) := ⟨_, rfl⟩
            replace hf45 := lt_of hf45 v48 ev48
            refine j_iinc X (v := v48) (lv' := [(3, .int v48), (4, .int v20), (0, .ref (q x0)), (1, .ref (q x1)), (2, .int x2)]) dX5_worthAtCorner_57 4 rfl (by rw [ev48]; rfl) (by decide) rfl ?_
            refine j_goto X (tgt := 2) dX5_worthAtCorner_60 (by decide) ?_
            refine j_lvsub [2, 3, 4, 0] (lv' := [(0, .ref (q x0)), (1, .ref (q x1)), (2, .int x2), (3, .int v48)]) rfl ?_
            exact ih x0 x1 x2 v48 σ46 hf45
          · have hf34 := br_n hf31 c32; clear hf31
            refine j_aload_n X dX5_worthAtCorner_37 1 rfl rfl ?_
            obtain ⟨i50, h51, hf52⟩ := bd_of hf34; clear hf34
            refine j_getr X fd_X5_14 h22 h51 dX5_worthAtCorner_38 ?_
            refine j_iload_n X dX5_worthAtCorner_41 4 rfl rfl ?_
            obtain ⟨h53, hf54⟩ := chk_of hf52; clear hf52
            obtain ⟨r55, σ56, h57, hf58⟩ := bc_of hf54; clear hf54
            refine j_callV0 X [.int x3] [.int x3, .ref (q i29)] (c_X2_highOf l D cs q i50 x3 τ _ _ h57) mk_X2_highOf mv_X2_highOf ml_X5_77 h53 rfl (by decide) ⟨rfl, rfl⟩ ⟨Nat.le_of_ble_eq_true rfl, Nat.le_of_ble_eq_true rfl⟩ rfl (Nat.le_of_ble_eq_true rfl) ⟨Nat.le_of_ble_eq_true rfl, Nat.le_of_ble_eq_true rfl⟩ dX5_worthAtCorner_42 rfl (st' := [.int r55, .int x3, .ref (q i29)]) rfl ?_
            refine j_goto X (tgt := 56) dX5_worthAtCorner_45 (by decide) ?_
            obtain ⟨h59, hf60⟩ := chk_of hf58; clear hf58
            refine j_iast X h59 dX5_worthAtCorner_56 (fun σ61 eσ61 => ?_)
            replace hf60 := lt_of hf60 σ61 eσ61
            obtain ⟨v63, ev63⟩ : ∃ y : Int32, y = x3 + (1 : Int32) := ⟨_, rfl⟩
            replace hf60 := lt_of hf60 v63 ev63
            refine j_iinc X (v := v63) (lv' := [(3, .int v63), (4, .int v20), (0, .ref (q x0)), (1, .ref (q x1)), (2, .int x2)]) dX5_worthAtCorner_57 4 rfl (by rw [ev63]; rfl) (by decide) rfl ?_
            refine j_goto X (tgt := 2) dX5_worthAtCorner_60 (by decide) ?_
            refine j_lvsub [2, 3, 4, 0] (lv' := [(0, .ref (q x0)), (1, .ref (q x1)), (2, .int x2), (3, .int v63)]) rfl ?_
            exact ih x0 x1 x2 v63 σ61 hf60
        · have hf19 := br_y hf5 c17; clear hf5
          refine j_iconst X (v := 1) dX5_worthAtCorner_17 (by decide) ?_
          refine j_goto X (tgt := 22) dX5_worthAtCorner_18 (by decide) ?_
          refine j_nmi (fun v65 ev65 => ?_)
          replace hf19 := lt_of hf19 v65 ev65
          refine j_istore X (lv' := [(4, .int v65), (0, .ref (q x0)), (1, .ref (q x1)), (2, .int x2), (3, .int x3)]) dX5_worthAtCorner_22 (by decide) rfl ?_
          refine j_aload_n X dX5_worthAtCorner_24 1 rfl rfl ?_
          obtain ⟨h67, hf68⟩ := chk_of hf19; clear hf19
          obtain ⟨i69, h70, hf71⟩ := bd_of hf68; clear hf68
          refine j_getr X fd_X5_35 h67 h70 dX5_worthAtCorner_25 ?_
          obtain ⟨h72, hf73⟩ := chk_of hf71; clear hf71
          obtain ⟨i74, h75, hf76⟩ := bd_of hf73; clear hf73
          refine j_getr X fd_X5_143 h72 h75 dX5_worthAtCorner_28 ?_
          refine j_iload_n X dX5_worthAtCorner_31 4 rfl rfl ?_
          refine j_iload X dX5_worthAtCorner_32 0 rfl ?_
          refine j_if_eq X (tgt := 48) dX5_worthAtCorner_34 (by decide) (fun c77 => ?_) (fun c77 => ?_)
          · have hf78 := br_y hf76 c77; clear hf76
            refine j_aload_n X dX5_worthAtCorner_48 1 rfl rfl ?_
            obtain ⟨i80, h81, hf82⟩ := bd_of hf78; clear hf78
            refine j_getr X fd_X5_14 h67 h81 dX5_worthAtCorner_49 ?_
            refine j_iload_n X dX5_worthAtCorner_52 4 rfl rfl ?_
            obtain ⟨h83, hf84⟩ := chk_of hf82; clear hf82
            obtain ⟨r85, σ86, h87, hf88⟩ := bc_of hf84; clear hf84
            refine j_callV0 X [.int x3] [.int x3, .ref (q i74)] (c_X2_lowOf l D cs q i80 x3 τ _ _ h87) mk_X2_lowOf mv_X2_lowOf ml_X5_73 h83 rfl (by decide) ⟨rfl, rfl⟩ ⟨Nat.le_of_ble_eq_true rfl, Nat.le_of_ble_eq_true rfl⟩ rfl (Nat.le_of_ble_eq_true rfl) ⟨Nat.le_of_ble_eq_true rfl, Nat.le_of_ble_eq_true rfl⟩ dX5_worthAtCorner_53 rfl (st' := [.int r85, .int x3, .ref (q i74)]) rfl ?_
            obtain ⟨h89, hf90⟩ := chk_of hf88; clear hf88
            refine j_iast X h89 dX5_worthAtCorner_56 (fun σ91 eσ91 => ?_)
            replace hf90 := lt_of hf90 σ91 eσ91
            obtain ⟨v93, ev93⟩ : ∃ y : Int32, y = x3 + (1 : Int32) := ⟨_, rfl⟩
            replace hf90 := lt_of hf90 v93 ev93
            refine j_iinc X (v := v93) (lv' := [(3, .int v93), (4, .int v65), (0, .ref (q x0)), (1, .ref (q x1)), (2, .int x2)]) dX5_worthAtCorner_57 4 rfl (by rw [ev93]; rfl) (by decide) rfl ?_
            refine j_goto X (tgt := 2) dX5_worthAtCorner_60 (by decide) ?_
            refine j_lvsub [2, 3, 4, 0] (lv' := [(0, .ref (q x0)), (1, .ref (q x1)), (2, .int x2), (3, .int v93)]) rfl ?_
            exact ih x0 x1 x2 v93 σ91 hf90
          · have hf79 := br_n hf76 c77; clear hf76
            refine j_aload_n X dX5_worthAtCorner_37 1 rfl rfl ?_
            obtain ⟨i95, h96, hf97⟩ := bd_of hf79; clear hf79
            refine j_getr X fd_X5_14 h67 h96 dX5_worthAtCorner_38 ?_
            refine j_iload_n X dX5_worthAtCorner_41 4 rfl rfl ?_
            obtain ⟨h98, hf99⟩ := chk_of hf97; clear hf97
            obtain ⟨r100, σ101, h102, hf103⟩ := bc_of hf99; clear hf99
            refine j_callV0 X [.int x3] [.int x3, .ref (q i74)] (c_X2_highOf l D cs q i95 x3 τ _ _ h102) mk_X2_highOf mv_X2_highOf ml_X5_77 h98 rfl (by decide) ⟨rfl, rfl⟩ ⟨Nat.le_of_ble_eq_true rfl, Nat.le_of_ble_eq_true rfl⟩ rfl (Nat.le_of_ble_eq_true rfl) ⟨Nat.le_of_ble_eq_true rfl, Nat.le_of_ble_eq_true rfl⟩ dX5_worthAtCorner_42 rfl (st' := [.int r100, .int x3, .ref (q i74)]) rfl ?_
            refine j_goto X (tgt := 56) dX5_worthAtCorner_45 (by decide) ?_
            obtain ⟨h104, hf105⟩ := chk_of hf103; clear hf103
            refine j_iast X h104 dX5_worthAtCorner_56 (fun σ106 eσ106 => ?_)
            replace hf105 := lt_of hf105 σ106 eσ106
            obtain ⟨v108, ev108⟩ : ∃ y : Int32, y = x3 + (1 : Int32) := ⟨_, rfl⟩
            replace hf105 := lt_of hf105 v108 ev108
            refine j_iinc X (v := v108) (lv' := [(3, .int v108), (4, .int v65), (0, .ref (q x0)), (1, .ref (q x1)), (2, .int x2)]) dX5_worthAtCorner_57 4 rfl (by rw [ev108]; rfl) (by decide) rfl ?_
            refine j_goto X (tgt := 2) dX5_worthAtCorner_60 (by decide) ?_
            refine j_lvsub [2, 3, 4, 0] (lv' := [(0, .ref (q x0)), (1, .ref (q x1)), (2, .int x2), (3, .int v108)]) rfl ?_
            exact ih x0 x1 x2 v108 σ106 hf105
  refine j_iconst X (v := 0) dX5_worthAtCorner_0 (by decide) ?_
  refine j_nmi (fun v1 ev1 => ?_)
  replace hf0 := lt_of hf0 v1 ev1
  refine j_istore_n X (lv' := [(3, .int v1), (0, .ref (q a0)), (1, .ref (q a1)), (2, .int a2)]) dX5_worthAtCorner_1 rfl (by decide) rfl ?_
  refine j_lvsub [1, 2, 3, 0] (lv' := [(0, .ref (q a0)), (1, .ref (q a1)), (2, .int a2), (3, .int v1)]) rfl ?_
  exact L2  1000 a0 a1 a2 v1 σ hf0
abbrev rm_X5_corner : Room := { frames := 5, cells := 0, slots := 0, locals := 320 }
set_option maxHeartbeats 4000000 in
set_option maxRecDepth 100000 in
theorem c_X5_corner (l : Launch) (D : va_G) (cs : Nat → ClassId) (q : Nat → Nat) (a0 : Nat) (a1 : Int32) (a2 : Int32) (σ σ0 : HS) (r0 : Int64) (hf0 : f_X5_corner a0 a1 a2 σ = some (r0, σ0)) : MT l yX5_corner (Cond.code yX5_corner cX5_corner 9 (some .long) :: lw_g) rm_X5_corner D cs q σ σ0 [.ref (q a0), .int a1, .int a2] (fun z => z = q) (fun _ => some (.long r0)) 0 0 := by
  unfold f_X5_corner at hf0
  refine MT_of (cc := cX5_corner) (lv0 := [(0, .ref (q a0)), (1, .int a1), (2, .int a2)]) (by decide) (Nat.le_of_ble_eq_true rfl) rfl (fun p e s m args below meth c A X hr hlk hin => ?_)
  have L53 : ∀ (nk : Nat) (x0 : Nat) (x1 : Int32) (x2 : Int32) (x3 : Nat) (x4 : Int64) (x6 : Int32) (τ : HS), lp_X5_corner_53  nk x0 x1 x2 x3 x4 x6 τ = some (r0, σ0) → J p l e rm_X5_corner s m args below meth c 9 D cs A s.heap 0 0 (MQ below (hQ D cs (fun z => z = q) (fun _ => some (.long r0)) σ0 A) args s 0 0 A) q τ [(0, .ref (q x0)), (1, .int x1), (2, .int x2), (3, .ref (q x3)), (4, .long x4), (6, .int x6)] 53 [] := by
    intro nk
    induction nk with
    | zero => intro x0 x1 x2 x3 x4 x6 τ hf0; have hf1 : (none : Option (Int64 × HS)) = some (r0, σ0) := hf0; cases hf1
    | succ nk ih =>
      intro x0 x1 x2 x3 x4 x6 τ hf0
      replace hf0 : lp_X5_corner_53_b  (lp_X5_corner_53  nk) x0 x1 x2 x3 x4 x6 τ = some (r0, σ0) := hf0
      unfold lp_X5_corner_53_b at hf0
      refine j_iload X dX5_corner_53 5 rfl ?_
      refine j_bipush X (v := 64) dX5_corner_55 (by decide) ?_
      refine j_icmp_ge X (tgt := 110) dX5_corner_57 (by decide) (fun c40 => ?_) (fun c40 => ?_)
      · have hf41 := br_y hf0 c40; clear hf0
        refine j_lload X dX5_corner_110 4 rfl ?_
        obtain ⟨er, es⟩ := rt_of hf41
        subst er
        exact j_retl X hr hlk (Nat.le_of_ble_eq_true rfl) (Nat.le_of_ble_eq_true rfl) rfl es.symm rfl dX5_corner_112
      · have hf42 := br_n hf0 c40; clear hf0
        refine j_iload X dX5_corner_60 5 rfl ?_
        refine j_aload_n X dX5_corner_62 3 rfl rfl ?_
        obtain ⟨h43, hf44⟩ := chk_of hf42; clear hf42
        refine j_geti X fd_X5_115 h43 dX5_corner_63 (fun v45 ev45 => ?_)
        replace hf44 := lt_of hf44 v45 ev45
        refine j_iconst X (v := -1) dX5_corner_66 (by decide) ?_
        refine j_ixor X dX5_corner_67 ?_
        refine j_iand X dX5_corner_68 ?_
        refine j_if_ne X (tgt := 104) dX5_corner_69 (by decide) (fun c47 => ?_) (fun c47 => ?_)
        · have hf48 := br_n hf44 c47; clear hf44
          obtain ⟨v50, ev50⟩ : ∃ y : Int32, y = x6 + (1 : Int32) := ⟨_, rfl⟩
          replace hf48 := lt_of hf48 v50 ev50
          refine j_iinc X (v := v50) (lv' := [(6, .int v50), (0, .ref (q x0)), (1, .int x1), (2, .int x2), (3, .ref (q x3)), (4, .long x4)]) dX5_corner_104 5 rfl (by rw [ev50]; rfl) (by decide) rfl ?_
          refine j_goto X (tgt := 53) dX5_corner_107 (by decide) ?_
          refine j_lvsub [1, 2, 3, 4, 5, 0] (lv' := [(0, .ref (q x0)), (1, .int x1), (2, .int x2), (3, .ref (q x3)), (4, .long x4), (6, .int v50)]) rfl ?_
          exact ih x0 x1 x2 x3 x4 v50 τ hf48
        · have hf49 := br_y hf44 c47; clear hf44
          refine j_aload_n X dX5_corner_72 0 rfl rfl ?_
          refine j_aload_n X dX5_corner_73 3 rfl rfl ?_
          refine j_iload X dX5_corner_74 5 rfl ?_
          obtain ⟨h52, hf53⟩ := chk_of hf49; clear hf49
          obtain ⟨r54, σ55, h56, hf57⟩ := bc_of hf53; clear hf53
          refine j_callV0 X [.ref (q x3), .int x6] [] (c_X5_worthAtCorner l D cs q x0 x3 x6 τ _ _ h56) mk_X5_worthAtCorner mv_X5_worthAtCorner ml_X5_152 h52 rfl (by decide) ⟨rfl, rfl⟩ ⟨Nat.le_of_ble_eq_true rfl, Nat.le_of_ble_eq_true rfl⟩ rfl (Nat.le_of_ble_eq_true rfl) ⟨Nat.le_of_ble_eq_true rfl, Nat.le_of_ble_eq_true rfl⟩ dX5_corner_76 rfl (st' := [.long r54]) rfl ?_
          refine j_lstore X (lv' := [(7, .long r54), (0, .ref (q x0)), (1, .int x1), (2, .int x2), (3, .ref (q x3)), (4, .long x4), (6, .int x6)]) dX5_corner_79 (by decide) rfl ?_
          refine j_iload_n X dX5_corner_81 3 rfl rfl ?_
          refine j_if_ne X (tgt := 95) dX5_corner_82 (by decide) (fun c58 => ?_) (fun c58 => ?_)
          · have hf59 := br_n hf57 c58; clear hf57
            refine j_lload X dX5_corner_95 5 rfl ?_
            refine j_lload X dX5_corner_97 0 rfl ?_
            refine j_mmax_long X ml_X5_162 (Nat.le_of_ble_eq_true rfl) (Nat.le_of_ble_eq_true rfl) (Nat.le_of_ble_eq_true rfl) (Nat.le_of_ble_eq_true rfl) dX5_corner_99 (fun v61 ev61 => ?_)
            replace hf59 := lt_of hf59 v61 ev61
            refine j_lstore X (lv' := [(4, .long v61), (7, .long r54), (0, .ref (q x0)), (1, .int x1), (2, .int x2), (3, .ref (q x3)), (6, .int x6)]) dX5_corner_102 (by decide) rfl ?_
            obtain ⟨v63, ev63⟩ : ∃ y : Int32, y = x6 + (1 : Int32) := ⟨_, rfl⟩
            replace hf59 := lt_of hf59 v63 ev63
            refine j_iinc X (v := v63) (lv' := [(6, .int v63), (4, .long v61), (7, .long r54), (0, .ref (q x0)), (1, .int x1), (2, .int x2), (3, .ref (q x3))]) dX5_corner_104 6 rfl (by rw [ev63]; rfl) (by decide) rfl ?_
            refine j_goto X (tgt := 53) dX5_corner_107 (by decide) ?_
            refine j_lvsub [3, 4, 5, 6, 1, 0] (lv' := [(0, .ref (q x0)), (1, .int x1), (2, .int x2), (3, .ref (q x3)), (4, .long v61), (6, .int v63)]) rfl ?_
            exact ih x0 x1 x2 x3 v61 v63 σ55 hf59
          · have hf60 := br_y hf57 c58; clear hf57
            refine j_lload X dX5_corner_85 5 rfl ?_
            refine j_lload X dX5_corner_87 0 rfl ?_
            refine j_mmin_long X ml_X5_156 (Nat.le_of_ble_eq_true rfl) (Nat.le_of_ble_eq_true rfl) (Nat.le_of_ble_eq_true rfl) (Nat.le_of_ble_eq_true rfl) dX5_corner_89 (fun v65 ev65 => ?_)
            replace hf60 := lt_of hf60 v65 ev65
            refine j_goto X (tgt := 102) dX5_corner_92 (by decide) ?_
            refine j_lstore X (lv' := [(4, .long v65), (7, .long r54), (0, .ref (q x0)), (1, .int x1), (2, .int x2), (3, .ref (q x3)), (6, .int x6)]) dX5_corner_102 (by decide) rfl ?_
            obtain ⟨v67, ev67⟩ : ∃ y : Int32, y = x6 + (1 : Int32) := ⟨_, rfl⟩
            replace hf60 := lt_of hf60 v67 ev67
            refine j_iinc X (v := v67) (lv' := [(6, .int v67), (4, .long v65), (7, .long r54), (0, .ref (q x0)), (1, .int x1), (2, .int x2), (3, .ref (q x3))]) dX5_corner_104 6 rfl (by rw [ev67]; rfl) (by decide) rfl ?_
            refine j_goto X (tgt := 53) dX5_corner_107 (by decide) ?_
            refine j_lvsub [3, 4, 5, 6, 1, 0] (lv' := [(0, .ref (q x0)), (1, .int x1), (2, .int x2), (3, .ref (q x3)), (4, .long v65), (6, .int v67)]) rfl ?_
            exact ih x0 x1 x2 x3 v65 v67 σ55 hf60
  refine j_aload_n X dX5_corner_0 0 rfl rfl ?_
  refine j_iload_n X dX5_corner_1 1 rfl rfl ?_
  obtain ⟨h1, hf2⟩ := chk_of hf0; clear hf0
  obtain ⟨r3, σ4, h5, hf6⟩ := bc_of hf2; clear hf2
  refine j_callV0 X [.int a1] [] (c_X5_formulaOf l D cs q a0 a1 σ _ _ h5) mk_X5_formulaOf mv_X5_formulaOf ml_X5_100 h1 rfl (by decide) ⟨rfl, rfl⟩ ⟨Nat.le_of_ble_eq_true rfl, Nat.le_of_ble_eq_true rfl⟩ rfl (Nat.le_of_ble_eq_true rfl) ⟨Nat.le_of_ble_eq_true rfl, Nat.le_of_ble_eq_true rfl⟩ dX5_corner_2 rfl (st' := [va_rf (Option.map q r3)]) rfl ?_
  refine j_astore_nq X (lv' := [(3, va_rf (Option.map q r3)), (0, .ref (q a0)), (1, .int a1), (2, .int a2)]) dX5_corner_5 rfl (by decide) rfl ?_
  refine j_aload_nq X dX5_corner_6 0 rfl rfl ?_
  refine j_ifnull X (tgt := 19) dX5_corner_7 (by decide) (fun c69 => ?_) (fun i7 c69 => ?_)
  · subst c69; have hf8 := (show _ = some (r0, σ0) from hf6); clear hf6; unfold oc at hf8; dsimp only at hf8
    refine j_ldc2 X k_X5_125 dX5_corner_19 ?_
    obtain ⟨er, es⟩ := rt_of hf8
    subst er
    exact j_retl X hr hlk (Nat.le_of_ble_eq_true rfl) (Nat.le_of_ble_eq_true rfl) rfl es.symm rfl dX5_corner_22
  · subst c69; have hf9 := (show _ = some (r0, σ0) from hf6); clear hf6; unfold oc at hf9; dsimp only at hf9
    refine j_iload_n X dX5_corner_10 3 rfl rfl ?_
    refine j_if_lt X (tgt := 19) dX5_corner_11 (by decide) (fun c10 => ?_) (fun c10 => ?_)
    · have hf11 := br_y hf9 c10; clear hf9
      refine j_ldc2 X k_X5_125 dX5_corner_19 ?_
      obtain ⟨er, es⟩ := rt_of hf11
      subst er
      exact j_retl X hr hlk (Nat.le_of_ble_eq_true rfl) (Nat.le_of_ble_eq_true rfl) rfl es.symm rfl dX5_corner_22
    · have hf12 := br_n hf9 c10; clear hf9
      refine j_iload_n X dX5_corner_14 3 rfl rfl ?_
      refine j_iconst X (v := 1) dX5_corner_15 (by decide) ?_
      refine j_icmp_le X (tgt := 23) dX5_corner_16 (by decide) (fun c13 => ?_) (fun c13 => ?_)
      · have hf14 := br_y hf12 c13; clear hf12
        refine j_aload_n X dX5_corner_23 1 rfl rfl ?_
        refine j_aload_n X dX5_corner_24 0 rfl rfl ?_
        obtain ⟨h16, hf17⟩ := chk_of hf14; clear hf14
        obtain ⟨r18, σ19, h20, hf21⟩ := bc_of hf17; clear hf17
        refine j_callV0 X [.ref (q i7)] [] (c_X5_carryAsItIs l D cs q a0 i7 σ4 _ _ h20) mk_X5_carryAsItIs mv_X5_carryAsItIs ml_X5_127 h16 rfl (by decide) ⟨rfl, rfl⟩ ⟨Nat.le_of_ble_eq_true rfl, Nat.le_of_ble_eq_true rfl⟩ rfl (Nat.le_of_ble_eq_true rfl) ⟨Nat.le_of_ble_eq_true rfl, Nat.le_of_ble_eq_true rfl⟩ dX5_corner_25 rfl (st' := []) rfl ?_
        refine j_aload_n X dX5_corner_28 1 rfl rfl ?_
        obtain ⟨h22, hf23⟩ := chk_of hf21; clear hf21
        obtain ⟨i24, h25, hf26⟩ := bd_of hf23; clear hf23
        refine j_getr X fd_X5_35 h22 h25 dX5_corner_29 ?_
        obtain ⟨h27, hf28⟩ := chk_of hf26; clear hf26
        refine j_geti X fd_X5_131 h27 dX5_corner_32 (fun v29 ev29 => ?_)
        replace hf28 := lt_of hf28 v29 ev29
        refine j_if_eq X (tgt := 42) dX5_corner_35 (by decide) (fun c31 => ?_) (fun c31 => ?_)
        · have hf32 := br_y hf28 c31; clear hf28
          refine j_aload_n X dX5_corner_42 1 rfl rfl ?_
          refine j_aload_n X dX5_corner_43 0 rfl rfl ?_
          refine j_iconst X (v := 0) dX5_corner_44 (by decide) ?_
          obtain ⟨r34, σ35, h36, hf37⟩ := bc_of hf32; clear hf32
          refine j_callV0 X [.ref (q i7), .int (0 : Int32)] [] (c_X5_worthAtCorner l D cs q a0 i7 (0 : Int32) σ19 _ _ h36) mk_X5_worthAtCorner mv_X5_worthAtCorner ml_X5_152 h22 rfl (by decide) ⟨rfl, rfl⟩ ⟨Nat.le_of_ble_eq_true rfl, Nat.le_of_ble_eq_true rfl⟩ rfl (Nat.le_of_ble_eq_true rfl) ⟨Nat.le_of_ble_eq_true rfl, Nat.le_of_ble_eq_true rfl⟩ dX5_corner_45 rfl (st' := [.long r34]) rfl ?_
          refine j_lstore X (lv' := [(4, .long r34), (3, .ref (q i7)), (0, .ref (q a0)), (1, .int a1), (2, .int a2)]) dX5_corner_48 (by decide) rfl ?_
          refine j_iconst X (v := 1) dX5_corner_50 (by decide) ?_
          refine j_nmi (fun v38 ev38 => ?_)
          replace hf37 := lt_of hf37 v38 ev38
          refine j_istore X (lv' := [(6, .int v38), (4, .long r34), (3, .ref (q i7)), (0, .ref (q a0)), (1, .int a1), (2, .int a2)]) dX5_corner_51 (by decide) rfl ?_
          refine j_lvsub [3, 4, 5, 2, 1, 0] (lv' := [(0, .ref (q a0)), (1, .int a1), (2, .int a2), (3, .ref (q i7)), (4, .long r34), (6, .int v38)]) rfl ?_
          exact L53  1000 a0 a1 a2 i7 r34 v38 σ35 hf37
        · have hf33 := br_n hf28 c31; clear hf28
          refine j_ldc2 X k_X5_141 dX5_corner_38 ?_
          obtain ⟨er, es⟩ := rt_of hf33
          subst er
          exact j_retl X hr hlk (Nat.le_of_ble_eq_true rfl) (Nat.le_of_ble_eq_true rfl) rfl es.symm rfl dX5_corner_41
      · have hf15 := br_n hf12 c13; clear hf12
        refine j_ldc2 X k_X5_125 dX5_corner_19 ?_
        obtain ⟨er, es⟩ := rt_of hf15
        subst er
        exact j_retl X hr hlk (Nat.le_of_ble_eq_true rfl) (Nat.le_of_ble_eq_true rfl) rfl es.symm rfl dX5_corner_22
abbrev rm_X5_formulasOver : Room := { frames := 5, cells := 0, slots := 0, locals := 320 }
set_option maxHeartbeats 4000000 in
set_option maxRecDepth 100000 in
theorem c_X5_formulasOver (l : Launch) (D : va_G) (cs : Nat → ClassId) (q : Nat → Nat) (a0 : Nat) (σ σ0 : HS) (r0 : Int32) (hf0 : f_X5_formulasOver a0 σ = some (r0, σ0)) : MT l yX5_formulasOver (Cond.code yX5_formulasOver cX5_formulasOver 4 (some .int) :: lw_g) rm_X5_formulasOver D cs q σ σ0 [.ref (q a0)] (fun z => z = q) (fun _ => some (.int r0)) 0 0 := by
  unfold f_X5_formulasOver at hf0
  refine MT_of (cc := cX5_formulasOver) (lv0 := [(0, .ref (q a0))]) (by decide) (Nat.le_of_ble_eq_true rfl) rfl (fun p e s m args below meth c A X hr hlk hin => ?_)
  have L4 : ∀ (nk : Nat) (x0 : Nat) (x1 : Int32) (x2 : Int32) (τ : HS), lp_X5_formulasOver_4  nk x0 x1 x2 τ = some (r0, σ0) → J p l e rm_X5_formulasOver s m args below meth c 4 D cs A s.heap 0 0 (MQ below (hQ D cs (fun z => z = q) (fun _ => some (.int r0)) σ0 A) args s 0 0 A) q τ [(0, .ref (q x0)), (1, .int x1), (2, .int x2)] 4 [] := by
    intro nk
    induction nk with
    | zero => intro x0 x1 x2 τ hf0; have hf1 : (none : Option (Int32 × HS)) = some (r0, σ0) := hf0; cases hf1
    | succ nk ih =>
      intro x0 x1 x2 τ hf0
      replace hf0 : lp_X5_formulasOver_4_b  (lp_X5_formulasOver_4  nk) x0 x1 x2 τ = some (r0, σ0) := hf0
      unfold lp_X5_formulasOver_4_b at hf0
      refine j_iload_n X dX5_formulasOver_4 2 rfl rfl ?_
      refine j_aload_n X dX5_formulasOver_5 0 rfl rfl ?_
      obtain ⟨h5, hf6⟩ := chk_of hf0; clear hf0
      obtain ⟨i7, h8, hf9⟩ := bd_of hf6; clear hf6
      refine j_getr X fd_X5_14 h5 h8 dX5_formulasOver_6 ?_
      obtain ⟨h10, hf11⟩ := chk_of hf9; clear hf9
      refine j_geti X fd_X5_93 h10 dX5_formulasOver_9 (fun v12 ev12 => ?_)
      replace hf11 := lt_of hf11 v12 ev12
      refine j_icmp_ge X (tgt := 54) dX5_formulasOver_12 (by decide) (fun c14 => ?_) (fun c14 => ?_)
      · have hf15 := br_y hf11 c14; clear hf11
        refine j_iload_n X dX5_formulasOver_54 1 rfl rfl ?_
        obtain ⟨er, es⟩ := rt_of hf15
        subst er
        exact j_reti X hr hlk (Nat.le_of_ble_eq_true rfl) (Nat.le_of_ble_eq_true rfl) rfl es.symm rfl dX5_formulasOver_55
      · have hf16 := br_n hf11 c14; clear hf11
        refine j_aload_n X dX5_formulasOver_15 0 rfl rfl ?_
        refine j_iload_n X dX5_formulasOver_16 2 rfl rfl ?_
        obtain ⟨r17, σ18, h19, hf20⟩ := bc_of hf16; clear hf16
        refine j_callV0 X [.int x2] [] (c_X5_formulaOf l D cs q x0 x2 τ _ _ h19) mk_X5_formulaOf mv_X5_formulaOf ml_X5_100 h5 rfl (by decide) ⟨rfl, rfl⟩ ⟨Nat.le_of_ble_eq_true rfl, Nat.le_of_ble_eq_true rfl⟩ rfl (Nat.le_of_ble_eq_true rfl) ⟨Nat.le_of_ble_eq_true rfl, Nat.le_of_ble_eq_true rfl⟩ dX5_formulasOver_17 rfl (st' := [va_rf (Option.map q r17)]) rfl ?_
        refine j_astore_nq X (lv' := [(3, va_rf (Option.map q r17)), (0, .ref (q x0)), (1, .int x1), (2, .int x2)]) dX5_formulasOver_20 rfl (by decide) rfl ?_
        refine j_aload_nq X dX5_formulasOver_21 0 rfl rfl ?_
        refine j_ifnull X (tgt := 48) dX5_formulasOver_22 (by decide) (fun c52 => ?_) (fun i21 c52 => ?_)
        · subst c52; have hf22 := (show _ = some (r0, σ0) from hf20); clear hf20; unfold oc at hf22; dsimp only at hf22
          obtain ⟨v24, ev24⟩ : ∃ y : Int32, y = x2 + (1 : Int32) := ⟨_, rfl⟩
          replace hf22 := lt_of hf22 v24 ev24
          refine j_iinc X (v := v24) (lv' := [(2, .int v24), (3, va_rf (Option.map q none)), (0, .ref (q x0)), (1, .int x1)]) dX5_formulasOver_48 3 rfl (by rw [ev24]; rfl) (by decide) rfl ?_
          refine j_goto X (tgt := 4) dX5_formulasOver_51 (by decide) ?_
          refine j_lvsub [2, 3, 0] (lv' := [(0, .ref (q x0)), (1, .int x1), (2, .int v24)]) rfl ?_
          exact ih x0 x1 v24 σ18 hf22
        · subst c52; have hf23 := (show _ = some (r0, σ0) from hf20); clear hf20; unfold oc at hf23; dsimp only at hf23
          refine j_aload_n X dX5_formulasOver_25 1 rfl rfl ?_
          refine j_aload_n X dX5_formulasOver_26 0 rfl rfl ?_
          obtain ⟨h26, hf27⟩ := chk_of hf23; clear hf23
          obtain ⟨r28, σ29, h30, hf31⟩ := bc_of hf27; clear hf27
          refine j_callV0 X [.ref (q i21)] [] (c_X5_carryAsItIs l D cs q x0 i21 σ18 _ _ h30) mk_X5_carryAsItIs mv_X5_carryAsItIs ml_X5_127 h26 rfl (by decide) ⟨rfl, rfl⟩ ⟨Nat.le_of_ble_eq_true rfl, Nat.le_of_ble_eq_true rfl⟩ rfl (Nat.le_of_ble_eq_true rfl) ⟨Nat.le_of_ble_eq_true rfl, Nat.le_of_ble_eq_true rfl⟩ dX5_formulasOver_27 rfl (st' := []) rfl ?_
          refine j_iload_n X dX5_formulasOver_30 2 rfl rfl ?_
          refine j_aload_n X dX5_formulasOver_31 1 rfl rfl ?_
          obtain ⟨h32, hf33⟩ := chk_of hf31; clear hf31
          obtain ⟨i34, h35, hf36⟩ := bd_of hf33; clear hf33
          refine j_getr X fd_X5_35 h32 h35 dX5_formulasOver_32 ?_
          obtain ⟨h37, hf38⟩ := chk_of hf36; clear hf36
          refine j_geti X fd_X5_131 h37 dX5_formulasOver_35 (fun v39 ev39 => ?_)
          replace hf38 := lt_of hf38 v39 ev39
          refine j_if_eq X (tgt := 45) dX5_formulasOver_38 (by decide) (fun c41 => ?_) (fun c41 => ?_)
          · have hf42 := br_y hf38 c41; clear hf38
            refine j_iconst X (v := 0) dX5_formulasOver_45 (by decide) ?_
            refine j_iadd X dX5_formulasOver_46 ?_
            refine j_nmi (fun v44 ev44 => ?_)
            replace hf42 := lt_of hf42 v44 ev44
            refine j_istore_n X (lv' := [(1, .int v44), (3, .ref (q i21)), (0, .ref (q x0)), (2, .int x2)]) dX5_formulasOver_47 rfl (by decide) rfl ?_
            obtain ⟨v46, ev46⟩ : ∃ y : Int32, y = x2 + (1 : Int32) := ⟨_, rfl⟩
            replace hf42 := lt_of hf42 v46 ev46
            refine j_iinc X (v := v46) (lv' := [(2, .int v46), (1, .int v44), (3, .ref (q i21)), (0, .ref (q x0))]) dX5_formulasOver_48 3 rfl (by rw [ev46]; rfl) (by decide) rfl ?_
            refine j_goto X (tgt := 4) dX5_formulasOver_51 (by decide) ?_
            refine j_lvsub [3, 1, 0] (lv' := [(0, .ref (q x0)), (1, .int v44), (2, .int v46)]) rfl ?_
            exact ih x0 v44 v46 σ29 hf42
          · have hf43 := br_n hf38 c41; clear hf38
            refine j_iconst X (v := 1) dX5_formulasOver_41 (by decide) ?_
            refine j_goto X (tgt := 46) dX5_formulasOver_42 (by decide) ?_
            refine j_iadd X dX5_formulasOver_46 ?_
            refine j_nmi (fun v48 ev48 => ?_)
            replace hf43 := lt_of hf43 v48 ev48
            refine j_istore_n X (lv' := [(1, .int v48), (3, .ref (q i21)), (0, .ref (q x0)), (2, .int x2)]) dX5_formulasOver_47 rfl (by decide) rfl ?_
            obtain ⟨v50, ev50⟩ : ∃ y : Int32, y = x2 + (1 : Int32) := ⟨_, rfl⟩
            replace hf43 := lt_of hf43 v50 ev50
            refine j_iinc X (v := v50) (lv' := [(2, .int v50), (1, .int v48), (3, .ref (q i21)), (0, .ref (q x0))]) dX5_formulasOver_48 3 rfl (by rw [ev50]; rfl) (by decide) rfl ?_
            refine j_goto X (tgt := 4) dX5_formulasOver_51 (by decide) ?_
            refine j_lvsub [3, 1, 0] (lv' := [(0, .ref (q x0)), (1, .int v48), (2, .int v50)]) rfl ?_
            exact ih x0 v48 v50 σ29 hf43
  refine j_iconst X (v := 0) dX5_formulasOver_0 (by decide) ?_
  refine j_nmi (fun v1 ev1 => ?_)
  replace hf0 := lt_of hf0 v1 ev1
  refine j_istore_n X (lv' := [(1, .int v1), (0, .ref (q a0))]) dX5_formulasOver_1 rfl (by decide) rfl ?_
  refine j_iconst X (v := 0) dX5_formulasOver_2 (by decide) ?_
  refine j_nmi (fun v3 ev3 => ?_)
  replace hf0 := lt_of hf0 v3 ev3
  refine j_istore_n X (lv' := [(2, .int v3), (1, .int v1), (0, .ref (q a0))]) dX5_formulasOver_3 rfl (by decide) rfl ?_
  refine j_lvsub [2, 1, 0] (lv' := [(0, .ref (q a0)), (1, .int v1), (2, .int v3)]) rfl ?_
  exact L4  1000 a0 v1 v3 σ hf0
