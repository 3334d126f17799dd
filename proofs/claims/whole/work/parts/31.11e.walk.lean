abbrev rm_X5_sourcesWithSpan : Room := { frames := 0, cells := 0, slots := 0, locals := 0 }
set_option maxHeartbeats 4000000 in
set_option maxRecDepth 100000 in
theorem c_X5_sourcesWithSpan (l : Launch) (D : va_G) (cs : Nat → ClassId) (q : Nat → Nat) (a0 : Nat) (σ σ0 : HS) (r0 : Int32) (hf0 : f_X5_sourcesWithSpan a0 σ = some (r0, σ0)) : MT l yX5_sourcesWithSpan (Cond.code yX5_sourcesWithSpan cX5_sourcesWithSpan 3 (some .int) :: lw_g) rm_X5_sourcesWithSpan D cs q σ σ0 [.ref (q a0)] (fun z => z = q) (fun _ => some (.int r0)) 0 0 := by
  unfold f_X5_sourcesWithSpan at hf0
  refine MT_of (cc := cX5_sourcesWithSpan) (lv0 := [(0, .ref (q a0))]) (by decide) (Nat.le_of_ble_eq_true rfl) rfl (fun p e s m args below meth c A X hr hlk hin => ?_)
  have L4 : ∀ (nk : Nat) (x0 : Nat) (x1 : Int32) (x2 : Int32) (τ : HS), lp_X5_sourcesWithSpan_4  nk x0 x1 x2 τ = some (r0, σ0) → J p l e rm_X5_sourcesWithSpan s m args below meth c 3 D cs A s.heap 0 0 (MQ below (hQ D cs (fun z => z = q) (fun _ => some (.int r0)) σ0 A) args s 0 0 A) q τ [(0, .ref (q x0)), (1, .int x1), (2, .int x2)] 4 [] := by
    intro nk
    induction nk with
    | zero => intro x0 x1 x2 τ hf0; have hf1 : (none : Option (Int32 × HS)) = some (r0, σ0) := hf0; cases hf1
    | succ nk ih =>
      intro x0 x1 x2 τ hf0
      replace hf0 : lp_X5_sourcesWithSpan_4_b  (lp_X5_sourcesWithSpan_4  nk) x0 x1 x2 τ = some (r0, σ0) := hf0
      unfold lp_X5_sourcesWithSpan_4_b at hf0
      refine j_iload_n X dX5_sourcesWithSpan_4 2 rfl rfl ?_
      refine j_bipush X (v := 6) dX5_sourcesWithSpan_5 (by decide) ?_
      refine j_icmp_ge X (tgt := 36) dX5_sourcesWithSpan_7 (by decide) (fun c5 => ?_) (fun c5 => ?_)
      · have hf6 := br_y hf0 c5; clear hf0
        refine j_iload_n X dX5_sourcesWithSpan_36 1 rfl rfl ?_
        obtain ⟨er, es⟩ := rt_of hf6
        subst er
        exact j_reti X hr hlk (Nat.le_of_ble_eq_true rfl) (Nat.le_of_ble_eq_true rfl) rfl es.symm rfl dX5_sourcesWithSpan_37
      · have hf7 := br_n hf0 c5; clear hf0
        refine j_iload_n X dX5_sourcesWithSpan_10 1 rfl rfl ?_
        refine j_aload_n X dX5_sourcesWithSpan_11 0 rfl rfl ?_
        obtain ⟨h8, hf9⟩ := chk_of hf7; clear hf7
        obtain ⟨i10, h11, hf12⟩ := bd_of hf9; clear hf9
        refine j_getr X fd_X5_14 h8 h11 dX5_sourcesWithSpan_12 ?_
        obtain ⟨h13, hf14⟩ := chk_of hf12; clear hf12
        obtain ⟨i15, h16, hf17⟩ := bd_of hf14; clear hf14
        refine j_getr X fd_X5_196 h13 h16 dX5_sourcesWithSpan_15 ?_
        refine j_iload_n X dX5_sourcesWithSpan_18 2 rfl rfl ?_
        obtain ⟨h18, hf19⟩ := chk_of hf17; clear hf17
        refine j_iald X h18 dX5_sourcesWithSpan_19 (fun v20 ev20 => ?_)
        replace hf19 := lt_of hf19 v20 ev20
        refine j_if_le X (tgt := 27) dX5_sourcesWithSpan_20 (by decide) (fun c22 => ?_) (fun c22 => ?_)
        · have hf23 := br_y hf19 c22; clear hf19
          refine j_iconst X (v := 0) dX5_sourcesWithSpan_27 (by decide) ?_
          refine j_iadd X dX5_sourcesWithSpan_28 ?_
          refine j_nmi (fun v25 ev25 => ?_)
          replace hf23 := lt_of hf23 v25 ev25
          refine j_istore_n X (lv' := [(1, .int v25), (0, .ref (q x0)), (2, .int x2)]) dX5_sourcesWithSpan_29 rfl (by decide) rfl ?_
          obtain ⟨v27, ev27⟩ : ∃ y : Int32, y = x2 + (1 : Int32) := ⟨_, rfl⟩
          replace hf23 := lt_of hf23 v27 ev27
          refine j_iinc X (v := v27) (lv' := [(2, .int v27), (1, .int v25), (0, .ref (q x0))]) dX5_sourcesWithSpan_30 2 rfl (by rw [ev27]; rfl) (by decide) rfl ?_
          refine j_goto X (tgt := 4) dX5_sourcesWithSpan_33 (by decide) ?_
          refine j_lvsub [2, 1, 0] (lv' := [(0, .ref (q x0)), (1, .int v25), (2, .int v27)]) rfl ?_
          exact ih x0 v25 v27 τ hf23
        · have hf24 := br_n hf19 c22; clear hf19
          refine j_iconst X (v := 1) dX5_sourcesWithSpan_23 (by decide) ?_
          refine j_goto X (tgt := 28) dX5_sourcesWithSpan_24 (by decide) ?_
          refine j_iadd X dX5_sourcesWithSpan_28 ?_
          refine j_nmi (fun v29 ev29 => ?_)
          replace hf24 := lt_of hf24 v29 ev29
          refine j_istore_n X (lv' := [(1, .int v29), (0, .ref (q x0)), (2, .int x2)]) dX5_sourcesWithSpan_29 rfl (by decide) rfl ?_
          obtain ⟨v31, ev31⟩ : ∃ y : Int32, y = x2 + (1 : Int32) := ⟨_, rfl⟩
          replace hf24 := lt_of hf24 v31 ev31
          refine j_iinc X (v := v31) (lv' := [(2, .int v31), (1, .int v29), (0, .ref (q x0))]) dX5_sourcesWithSpan_30 2 rfl (by rw [ev31]; rfl) (by decide) rfl ?_
          refine j_goto X (tgt := 4) dX5_sourcesWithSpan_33 (by decide) ?_
          refine j_lvsub [2, 1, 0] (lv' := [(0, .ref (q x0)), (1, .int v29), (2, .int v31)]) rfl ?_
          exact ih x0 v29 v31 τ hf24
  refine j_iconst X (v := 0) dX5_sourcesWithSpan_0 (by decide) ?_
  refine j_nmi (fun v1 ev1 => ?_)
  replace hf0 := lt_of hf0 v1 ev1
  refine j_istore_n X (lv' := [(1, .int v1), (0, .ref (q a0))]) dX5_sourcesWithSpan_1 rfl (by decide) rfl ?_
  refine j_iconst X (v := 0) dX5_sourcesWithSpan_2 (by decide) ?_
  refine j_nmi (fun v3 ev3 => ?_)
  replace hf0 := lt_of hf0 v3 ev3
  refine j_istore_n X (lv' := [(2, .int v3), (1, .int v1), (0, .ref (q a0))]) dX5_sourcesWithSpan_3 rfl (by decide) rfl ?_
  refine j_lvsub [2, 1, 0] (lv' := [(0, .ref (q a0)), (1, .int v1), (2, .int v3)]) rfl ?_
  exact L4  1000 a0 v1 v3 σ hf0
abbrev rm_X5_count : Room := { frames := 6, cells := 0, slots := 0, locals := 384 }
set_option maxHeartbeats 4000000 in
set_option maxRecDepth 100000 in
theorem c_X5_count (l : Launch) (D : va_G) (cs : Nat → ClassId) (q : Nat → Nat) (a0 : Nat) (a1 : Int32) (σ σ0 : HS) (r0 : Int32) (hf0 : f_X5_count a0 a1 σ = some (r0, σ0)) : MT l yX5_count (Cond.code yX5_count cX5_count 2 (some .int) :: lw_g) rm_X5_count D cs q σ σ0 [.ref (q a0), .int a1] (fun z => z = q) (fun _ => some (.int r0)) 0 0 := by
  unfold f_X5_count at hf0
  refine MT_of (cc := cX5_count) (lv0 := [(0, .ref (q a0)), (1, .int a1)]) (by decide) (Nat.le_of_ble_eq_true rfl) rfl (fun p e s m args below meth c A X hr hlk hin => ?_)
  refine j_iload_n X dX5_count_0 1 rfl rfl ?_
  by_cases c1 : a1 = (0 : Int32)
  · have hf2 := br_y hf0 c1; clear hf0
    refine j_tabIn X (v := 0) (tgt := 36) dX5_count_1 c1 (by decide) (by decide) rfl (by decide) ?_
    refine j_aload_n X dX5_count_36 0 rfl rfl ?_
    obtain ⟨h4, hf5⟩ := chk_of hf2; clear hf2
    obtain ⟨i6, h7, hf8⟩ := bd_of hf5; clear hf5
    refine j_getr X fd_X5_14 h4 h7 dX5_count_37 ?_
    obtain ⟨h9, hf10⟩ := chk_of hf8; clear hf8
    refine j_geti X fd_X5_93 h9 dX5_count_40 (fun v11 ev11 => ?_)
    replace hf10 := lt_of hf10 v11 ev11
    obtain ⟨er, es⟩ := rt_of hf10
    subst er
    exact j_reti X hr hlk (Nat.le_of_ble_eq_true rfl) (Nat.le_of_ble_eq_true rfl) rfl es.symm rfl dX5_count_43
  · have hf3 := br_n hf0 c1; clear hf0
    by_cases c13 : a1 = (1 : Int32)
    · have hf14 := br_y hf3 c13; clear hf3
      refine j_tabIn X (v := 1) (tgt := 44) dX5_count_1 c13 (by decide) (by decide) rfl (by decide) ?_
      refine j_aload_n X dX5_count_44 0 rfl rfl ?_
      obtain ⟨h16, hf17⟩ := chk_of hf14; clear hf14
      obtain ⟨i18, h19, hf20⟩ := bd_of hf17; clear hf17
      refine j_getr X fd_X5_28 h16 h19 dX5_count_45 ?_
      obtain ⟨h21, hf22⟩ := chk_of hf20; clear hf20
      refine j_geti X fd_X5_83 h21 dX5_count_48 (fun v23 ev23 => ?_)
      replace hf22 := lt_of hf22 v23 ev23
      obtain ⟨er, es⟩ := rt_of hf22
      subst er
      exact j_reti X hr hlk (Nat.le_of_ble_eq_true rfl) (Nat.le_of_ble_eq_true rfl) rfl es.symm rfl dX5_count_51
    · have hf15 := br_n hf3 c13; clear hf3
      by_cases c25 : a1 = (2 : Int32)
      · have hf26 := br_y hf15 c25; clear hf15
        refine j_tabIn X (v := 2) (tgt := 52) dX5_count_1 c25 (by decide) (by decide) rfl (by decide) ?_
        refine j_aload_n X dX5_count_52 0 rfl rfl ?_
        obtain ⟨h28, hf29⟩ := chk_of hf26; clear hf26
        obtain ⟨i30, h31, hf32⟩ := bd_of hf29; clear hf29
        refine j_getr X fd_X5_14 h28 h31 dX5_count_53 ?_
        obtain ⟨h33, hf34⟩ := chk_of hf32; clear hf32
        refine j_geti X fd_X5_217 h33 dX5_count_56 (fun v35 ev35 => ?_)
        replace hf34 := lt_of hf34 v35 ev35
        obtain ⟨er, es⟩ := rt_of hf34
        subst er
        exact j_reti X hr hlk (Nat.le_of_ble_eq_true rfl) (Nat.le_of_ble_eq_true rfl) rfl es.symm rfl dX5_count_59
      · have hf27 := br_n hf15 c25; clear hf15
        by_cases c37 : a1 = (3 : Int32)
        · have hf38 := br_y hf27 c37; clear hf27
          refine j_tabIn X (v := 3) (tgt := 60) dX5_count_1 c37 (by decide) (by decide) rfl (by decide) ?_
          refine j_aload_n X dX5_count_60 0 rfl rfl ?_
          obtain ⟨h40, hf41⟩ := chk_of hf38; clear hf38
          obtain ⟨r42, σ43, h44, hf45⟩ := bc_of hf41; clear hf41
          refine j_callV0 X [] [] (c_X5_formulasOver l D cs q a0 σ _ _ h44) mk_X5_formulasOver mv_X5_formulasOver ml_X5_241 h40 rfl (by decide) ⟨rfl, rfl⟩ ⟨Nat.le_of_ble_eq_true rfl, Nat.le_of_ble_eq_true rfl⟩ rfl (Nat.le_of_ble_eq_true rfl) ⟨Nat.le_of_ble_eq_true rfl, Nat.le_of_ble_eq_true rfl⟩ dX5_count_61 rfl (st' := [.int r42]) rfl ?_
          obtain ⟨er, es⟩ := rt_of hf45
          subst er
          exact j_reti X hr hlk (Nat.le_of_ble_eq_true rfl) (Nat.le_of_ble_eq_true rfl) rfl es.symm rfl dX5_count_64
        · have hf39 := br_n hf27 c37; clear hf27
          by_cases c46 : a1 = (4 : Int32)
          · have hf47 := br_y hf39 c46; clear hf39
            refine j_tabIn X (v := 4) (tgt := 65) dX5_count_1 c46 (by decide) (by decide) rfl (by decide) ?_
            refine j_aload_n X dX5_count_65 0 rfl rfl ?_
            obtain ⟨h49, hf50⟩ := chk_of hf47; clear hf47
            obtain ⟨r51, σ52, h53, hf54⟩ := bc_of hf50; clear hf50
            refine j_callV0 X [] [] (c_X5_sourcesWithSpan l D cs q a0 σ _ _ h53) mk_X5_sourcesWithSpan mv_X5_sourcesWithSpan ml_X5_245 h49 rfl (by decide) ⟨rfl, rfl⟩ ⟨Nat.le_of_ble_eq_true rfl, Nat.le_of_ble_eq_true rfl⟩ rfl (Nat.le_of_ble_eq_true rfl) ⟨Nat.le_of_ble_eq_true rfl, Nat.le_of_ble_eq_true rfl⟩ dX5_count_66 rfl (st' := [.int r51]) rfl ?_
            obtain ⟨er, es⟩ := rt_of hf54
            subst er
            exact j_reti X hr hlk (Nat.le_of_ble_eq_true rfl) (Nat.le_of_ble_eq_true rfl) rfl es.symm rfl dX5_count_69
          · have hf48 := br_n hf39 c46; clear hf39
            refine j_tabOut X (tgt := 70) dX5_count_1 (by have z0 := lv_neT c1 (show ((0 : Int32)).toInt = 0 from rfl); have z1 := lv_neT c13 (show ((1 : Int32)).toInt = 1 from rfl); have z2 := lv_neT c25 (show ((2 : Int32)).toInt = 2 from rfl); have z3 := lv_neT c37 (show ((3 : Int32)).toInt = 3 from rfl); have z4 := lv_neT c46 (show ((4 : Int32)).toInt = 4 from rfl); omega) (by decide) ?_
            refine j_bipush X (v := -2) dX5_count_70 (by decide) ?_
            obtain ⟨er, es⟩ := rt_of hf48
            subst er
            exact j_reti X hr hlk (Nat.le_of_ble_eq_true rfl) (Nat.le_of_ble_eq_true rfl) rfl es.symm rfl dX5_count_72
abbrev rm_X5_drop : Room := { frames := 0, cells := 0, slots := 0, locals := 0 }
set_option maxHeartbeats 4000000 in
set_option maxRecDepth 100000 in
theorem c_X5_drop (l : Launch) (D : va_G) (cs : Nat → ClassId) (q : Nat → Nat) (a0 : Nat) (σ σ0 : HS) (r0 : Int32) (hf0 : f_X5_drop a0 σ = some (r0, σ0)) : MT l yX5_drop (Cond.code yX5_drop cX5_drop 1 (some .int) :: lw_g) rm_X5_drop D cs q σ σ0 [.ref (q a0)] (fun z => z = q) (fun _ => some (.int r0)) 0 0 := by
  unfold f_X5_drop at hf0
  refine MT_of (cc := cX5_drop) (lv0 := [(0, .ref (q a0))]) (by decide) (Nat.le_of_ble_eq_true rfl) rfl (fun p e s m args below meth c A X hr hlk hin => ?_)
  refine j_aload_n X dX5_drop_0 0 rfl rfl ?_
  obtain ⟨h1, hf2⟩ := chk_of hf0; clear hf0
  obtain ⟨i3, h4, hf5⟩ := bd_of hf2; clear hf2
  refine j_getr X fd_X5_14 h1 h4 dX5_drop_1 ?_
  obtain ⟨h6, hf7⟩ := chk_of hf5; clear hf5
  refine j_geti X fd_X5_93 h6 dX5_drop_4 (fun v8 ev8 => ?_)
  replace hf7 := lt_of hf7 v8 ev8
  refine j_if_gt X (tgt := 13) dX5_drop_7 (by decide) (fun c10 => ?_) (fun c10 => ?_)
  · have hf11 := br_y hf7 c10; clear hf7
    refine j_aload_n X dX5_drop_13 0 rfl rfl ?_
    refine j_getr X fd_X5_14 h1 h4 dX5_drop_14 ?_
    refine j_dup X dX5_drop_17 rfl ?_
    refine j_geti X fd_X5_93 h6 dX5_drop_18 (fun v16 ev16 => ?_)
    replace hf11 := lt_of hf11 v16 ev16
    refine j_iconst X (v := 1) dX5_drop_21 (by decide) ?_
    refine j_isub X dX5_drop_22 ?_
    refine j_puti X fp_X5_93 h6 dX5_drop_23 (fun σ18 eσ18 => ?_)
    replace hf11 := lt_of hf11 σ18 eσ18
    have h20 : isO σ18 5 a0 := by rw [eσ18]; exact h1
    have h21 : isO σ18 2 i3 := by rw [eσ18]; exact h6
    refine j_aload_n X dX5_drop_26 0 rfl rfl ?_
    obtain ⟨i22, h23, hf24⟩ := bd_of hf11; clear hf11
    refine j_getr X fd_X5_14 h20 h23 dX5_drop_27 ?_
    obtain ⟨h25, hf26⟩ := chk_of hf24; clear hf24
    obtain ⟨i27, h28, hf29⟩ := bd_of hf26; clear hf26
    refine j_getr X fd_X5_96 h25 h28 dX5_drop_30 ?_
    refine j_aload_n X dX5_drop_33 0 rfl rfl ?_
    refine j_getr X fd_X5_14 h20 h23 dX5_drop_34 ?_
    refine j_geti X fd_X5_93 h25 dX5_drop_37 (fun v33 ev33 => ?_)
    replace hf29 := lt_of hf29 v33 ev33
    refine j_null X dX5_drop_40 ?_
    obtain ⟨h35, hf36⟩ := chk_of hf29; clear hf29
    obtain ⟨h37, hf38⟩ := chk_of hf36; clear hf36
    refine j_aast X (o := none) h35 h37 dX5_drop_41 (fun σ39 eσ39 => ?_)
    replace hf38 := lt_of hf38 σ39 eσ39
    have h41 : isO σ39 5 a0 := by rw [eσ39]; exact h20
    have h42 : isO σ39 2 i3 := by rw [eσ39]; exact h21
    have h43 : isO σ39 2 i22 := by rw [eσ39]; exact h25
    refine j_aload_n X dX5_drop_42 0 rfl rfl ?_
    obtain ⟨i44, h45, hf46⟩ := bd_of hf38; clear hf38
    refine j_getr X fd_X5_14 h41 h45 dX5_drop_43 ?_
    obtain ⟨h47, hf48⟩ := chk_of hf46; clear hf46
    refine j_geti X fd_X5_93 h47 dX5_drop_46 (fun v49 ev49 => ?_)
    replace hf48 := lt_of hf48 v49 ev49
    obtain ⟨er, es⟩ := rt_of hf48
    subst er
    exact j_reti X hr hlk (Nat.le_of_ble_eq_true rfl) (Nat.le_of_ble_eq_true rfl) rfl es.symm rfl dX5_drop_49
  · have hf12 := br_n hf7 c10; clear hf7
    refine j_bipush X (v := -3) dX5_drop_10 (by decide) ?_
    obtain ⟨er, es⟩ := rt_of hf12
    subst er
    exact j_reti X hr hlk (Nat.le_of_ble_eq_true rfl) (Nat.le_of_ble_eq_true rfl) rfl es.symm rfl dX5_drop_12
abbrev rm_X5_ends : Room := { frames := 4, cells := 0, slots := 0, locals := 256 }
set_option maxHeartbeats 4000000 in
set_option maxRecDepth 100000 in
theorem c_X5_ends (l : Launch) (D : va_G) (cs : Nat → ClassId) (q : Nat → Nat) (a0 : Nat) (a1 : Int32) (σ σ0 : HS) (r0 : Int64) (hf0 : f_X5_ends a0 a1 σ = some (r0, σ0)) : MT l yX5_ends (Cond.code yX5_ends cX5_ends 7 (some .long) :: lw_g) rm_X5_ends D cs q σ σ0 [.ref (q a0), .int a1] (fun z => z = q) (fun _ => some (.long r0)) 0 0 := by
  unfold f_X5_ends at hf0
  refine MT_of (cc := cX5_ends) (lv0 := [(0, .ref (q a0)), (1, .int a1)]) (by decide) (Nat.le_of_ble_eq_true rfl) rfl (fun p e s m args below meth c A X hr hlk hin => ?_)
  have L47 : ∀ (K16 : Nat → Int32 → Nat → Int32 → HS → Option (Int64 × HS)) (hK16 : ∀ (x0 : Nat) (x1 : Int32) (x2 : Nat) (x3 : Int32) (τ : HS), K16 x0 x1 x2 x3 τ = some (r0, σ0) → J p l e rm_X5_ends s m args below meth c 7 D cs A s.heap 0 0 (MQ below (hQ D cs (fun z => z = q) (fun _ => some (.long r0)) σ0 A) args s 0 0 A) q τ [(0, .ref (q x0)), (1, .int x1), (2, .ref (q x2)), (3, .int x3)] 16 []), ∀ (nk : Nat) (x0 : Nat) (x1 : Int32) (x2 : Nat) (x3 : Int32) (x4 : Int32) (x5 : Int32) (x6 : Int32) (τ : HS), lp_X5_ends_47 K16 nk x0 x1 x2 x3 x4 x5 x6 τ = some (r0, σ0) → J p l e rm_X5_ends s m args below meth c 7 D cs A s.heap 0 0 (MQ below (hQ D cs (fun z => z = q) (fun _ => some (.long r0)) σ0 A) args s 0 0 A) q τ [(0, .ref (q x0)), (1, .int x1), (2, .ref (q x2)), (3, .int x3), (4, .int x4), (5, .int x5), (6, .int x6)] 47 [] := by
    intro K16 hK16
    intro nk
    induction nk with
    | zero => intro x0 x1 x2 x3 x4 x5 x6 τ hf0; have hf1 : (none : Option (Int64 × HS)) = some (r0, σ0) := hf0; cases hf1
    | succ nk ih =>
      intro x0 x1 x2 x3 x4 x5 x6 τ hf0
      replace hf0 : lp_X5_ends_47_b K16 (lp_X5_ends_47 K16 nk) x0 x1 x2 x3 x4 x5 x6 τ = some (r0, σ0) := hf0
      unfold lp_X5_ends_47_b at hf0
      refine j_iload X dX5_ends_47 6 rfl ?_
      refine j_aload_n X dX5_ends_49 0 rfl rfl ?_
      obtain ⟨h63, hf64⟩ := chk_of hf0; clear hf0
      obtain ⟨i65, h66, hf67⟩ := bd_of hf64; clear hf64
      refine j_getr X fd_X5_14 h63 h66 dX5_ends_50 ?_
      obtain ⟨h68, hf69⟩ := chk_of hf67; clear hf67
      refine j_geti X fd_X5_217 h68 dX5_ends_53 (fun v70 ev70 => ?_)
      replace hf69 := lt_of hf69 v70 ev70
      refine j_icmp_ge X (tgt := 122) dX5_ends_56 (by decide) (fun c72 => ?_) (fun c72 => ?_)
      · have hf73 := br_y hf69 c72; clear hf69
        refine j_aload_n X dX5_ends_122 0 rfl rfl ?_
        obtain ⟨i75, h76, hf77⟩ := bd_of hf73; clear hf73
        refine j_getr X fd_X5_35 h63 h76 dX5_ends_123 ?_
        refine j_iload_n X dX5_ends_126 3 rfl rfl ?_
        refine j_iload X dX5_ends_127 4 rfl ?_
        refine j_iload X dX5_ends_129 5 rfl ?_
        refine j_isub X dX5_ends_131 ?_
        refine j_iload X dX5_ends_132 4 rfl ?_
        refine j_iload X dX5_ends_134 5 rfl ?_
        refine j_iadd X dX5_ends_136 ?_
        obtain ⟨h78, hf79⟩ := chk_of hf77; clear hf77
        obtain ⟨r80, σ81, h82, hf83⟩ := bc_of hf79; clear hf79
        refine j_callV0 X [.int x3, .int (x4 - x5), .int (x4 + x5)] [] (c_X4_stand l D cs q i75 x3 (x4 - x5) (x4 + x5) τ _ _ h82) mk_X4_stand mv_X4_stand ml_X5_169 h78 rfl (by decide) ⟨rfl, rfl⟩ ⟨Nat.le_of_ble_eq_true rfl, Nat.le_of_ble_eq_true rfl⟩ rfl (Nat.le_of_ble_eq_true rfl) ⟨Nat.le_of_ble_eq_true rfl, Nat.le_of_ble_eq_true rfl⟩ dX5_ends_137 rfl (st' := []) rfl ?_
        obtain ⟨v84, ev84⟩ : ∃ y : Int32, y = x3 + (1 : Int32) := ⟨_, rfl⟩
        replace hf83 := lt_of hf83 v84 ev84
        refine j_iinc X (v := v84) (lv' := [(3, .int v84), (0, .ref (q x0)), (1, .int x1), (2, .ref (q x2)), (4, .int x4), (5, .int x5), (6, .int x6)]) dX5_ends_140 3 rfl (by rw [ev84]; rfl) (by decide) rfl ?_
        refine j_goto X (tgt := 16) dX5_ends_143 (by decide) ?_
        refine j_lvsub [1, 2, 3, 0] (lv' := [(0, .ref (q x0)), (1, .int x1), (2, .ref (q x2)), (3, .int v84)]) rfl ?_
        exact hK16 x0 x1 x2 v84 σ81 hf83
      · have hf74 := br_n hf69 c72; clear hf69
        refine j_aload_n X dX5_ends_59 0 rfl rfl ?_
        refine j_getr X fd_X5_14 h63 h66 dX5_ends_60 ?_
        obtain ⟨i89, h90, hf91⟩ := bd_of hf74; clear hf74
        refine j_getr X fd_X5_220 h68 h90 dX5_ends_63 ?_
        refine j_iload X dX5_ends_66 6 rfl ?_
        obtain ⟨h92, hf93⟩ := chk_of hf91; clear hf91
        refine j_iald X h92 dX5_ends_68 (fun v94 ev94 => ?_)
        replace hf93 := lt_of hf93 v94 ev94
        refine j_iload_n X dX5_ends_69 3 rfl rfl ?_
        refine j_icmp_ne X (tgt := 116) dX5_ends_70 (by decide) (fun c96 => ?_) (fun c96 => ?_)
        · have hf97 := br_n hf93 c96; clear hf93
          obtain ⟨v99, ev99⟩ : ∃ y : Int32, y = x6 + (1 : Int32) := ⟨_, rfl⟩
          replace hf97 := lt_of hf97 v99 ev99
          refine j_iinc X (v := v99) (lv' := [(6, .int v99), (0, .ref (q x0)), (1, .int x1), (2, .ref (q x2)), (3, .int x3), (4, .int x4), (5, .int x5)]) dX5_ends_116 6 rfl (by rw [ev99]; rfl) (by decide) rfl ?_
          refine j_goto X (tgt := 47) dX5_ends_119 (by decide) ?_
          refine j_lvsub [1, 2, 3, 4, 5, 6, 0] (lv' := [(0, .ref (q x0)), (1, .int x1), (2, .ref (q x2)), (3, .int x3), (4, .int x4), (5, .int x5), (6, .int v99)]) rfl ?_
          exact ih x0 x1 x2 x3 x4 x5 v99 τ hf97
        · have hf98 := br_y hf93 c96; clear hf93
          refine j_aload_n X dX5_ends_73 0 rfl rfl ?_
          refine j_getr X fd_X5_14 h63 h66 dX5_ends_74 ?_
          obtain ⟨i104, h105, hf106⟩ := bd_of hf98; clear hf98
          refine j_getr X fd_X5_223 h68 h105 dX5_ends_77 ?_
          refine j_iload X dX5_ends_80 6 rfl ?_
          obtain ⟨h107, hf108⟩ := chk_of hf106; clear hf106
          refine j_iald X h107 dX5_ends_82 (fun v109 ev109 => ?_)
          replace hf108 := lt_of hf108 v109 ev109
          refine j_if_ne X (tgt := 99) dX5_ends_83 (by decide) (fun c111 => ?_) (fun c111 => ?_)
          · have hf112 := br_n hf108 c111; clear hf108
            refine j_iload X dX5_ends_99 4 rfl ?_
            refine j_istore X (lv' := [(4, .int x4), (0, .ref (q x0)), (1, .int x1), (2, .ref (q x2)), (3, .int x3), (5, .int x5), (6, .int x6)]) dX5_ends_101 (by decide) rfl ?_
            refine j_aload_n X dX5_ends_103 1 rfl rfl ?_
            refine j_getr X fd_X5_14 h63 h66 dX5_ends_104 ?_
            refine j_iload X dX5_ends_107 6 rfl ?_
            refine j_iload X dX5_ends_109 5 rfl ?_
            obtain ⟨r117, σ118, h119, hf120⟩ := bc_of hf112; clear hf112
            refine j_callV0 X [.int x6, .int x5] [] (c_X2_spanBehind l D cs q i65 x6 x5 τ _ _ h119) mk_X2_spanBehind mv_X2_spanBehind ml_X5_229 h68 rfl (by decide) ⟨rfl, rfl⟩ ⟨Nat.le_of_ble_eq_true rfl, Nat.le_of_ble_eq_true rfl⟩ rfl (Nat.le_of_ble_eq_true rfl) ⟨Nat.le_of_ble_eq_true rfl, Nat.le_of_ble_eq_true rfl⟩ dX5_ends_111 rfl (st' := [.int r117]) rfl ?_
            refine j_istore X (lv' := [(5, .int r117), (4, .int x4), (0, .ref (q x0)), (1, .int x1), (2, .ref (q x2)), (3, .int x3), (6, .int x6)]) dX5_ends_114 (by decide) rfl ?_
            obtain ⟨v121, ev121⟩ : ∃ y : Int32, y = x6 + (1 : Int32) := ⟨_, rfl⟩
            replace hf120 := lt_of hf120 v121 ev121
            refine j_iinc X (v := v121) (lv' := [(6, .int v121), (5, .int r117), (4, .int x4), (0, .ref (q x0)), (1, .int x1), (2, .ref (q x2)), (3, .int x3)]) dX5_ends_116 6 rfl (by rw [ev121]; rfl) (by decide) rfl ?_
            refine j_goto X (tgt := 47) dX5_ends_119 (by decide) ?_
            refine j_lvsub [3, 4, 5, 6, 2, 1, 0] (lv' := [(0, .ref (q x0)), (1, .int x1), (2, .ref (q x2)), (3, .int x3), (4, .int x4), (5, .int r117), (6, .int v121)]) rfl ?_
            exact ih x0 x1 x2 x3 x4 r117 v121 σ118 hf120
          · have hf113 := br_y hf108 c111; clear hf108
            refine j_aload_n X dX5_ends_86 0 rfl rfl ?_
            refine j_getr X fd_X5_14 h63 h66 dX5_ends_87 ?_
            obtain ⟨i126, h127, hf128⟩ := bd_of hf113; clear hf113
            refine j_getr X fd_X5_226 h68 h127 dX5_ends_90 ?_
            refine j_iload X dX5_ends_93 6 rfl ?_
            obtain ⟨h129, hf130⟩ := chk_of hf128; clear hf128
            refine j_iald X h129 dX5_ends_95 (fun v131 ev131 => ?_)
            replace hf130 := lt_of hf130 v131 ev131
            refine j_goto X (tgt := 101) dX5_ends_96 (by decide) ?_
            refine j_istore X (lv' := [(4, .int v131), (0, .ref (q x0)), (1, .int x1), (2, .ref (q x2)), (3, .int x3), (5, .int x5), (6, .int x6)]) dX5_ends_101 (by decide) rfl ?_
            refine j_aload_n X dX5_ends_103 1 rfl rfl ?_
            refine j_getr X fd_X5_14 h63 h66 dX5_ends_104 ?_
            refine j_iload X dX5_ends_107 6 rfl ?_
            refine j_iload X dX5_ends_109 5 rfl ?_
            obtain ⟨r136, σ137, h138, hf139⟩ := bc_of hf130; clear hf130
            refine j_callV0 X [.int x6, .int x5] [] (c_X2_spanBehind l D cs q i65 x6 x5 τ _ _ h138) mk_X2_spanBehind mv_X2_spanBehind ml_X5_229 h68 rfl (by decide) ⟨rfl, rfl⟩ ⟨Nat.le_of_ble_eq_true rfl, Nat.le_of_ble_eq_true rfl⟩ rfl (Nat.le_of_ble_eq_true rfl) ⟨Nat.le_of_ble_eq_true rfl, Nat.le_of_ble_eq_true rfl⟩ dX5_ends_111 rfl (st' := [.int r136]) rfl ?_
            refine j_istore X (lv' := [(5, .int r136), (4, .int v131), (0, .ref (q x0)), (1, .int x1), (2, .ref (q x2)), (3, .int x3), (6, .int x6)]) dX5_ends_114 (by decide) rfl ?_
            obtain ⟨v140, ev140⟩ : ∃ y : Int32, y = x6 + (1 : Int32) := ⟨_, rfl⟩
            replace hf139 := lt_of hf139 v140 ev140
            refine j_iinc X (v := v140) (lv' := [(6, .int v140), (5, .int r136), (4, .int v131), (0, .ref (q x0)), (1, .int x1), (2, .ref (q x2)), (3, .int x3)]) dX5_ends_116 6 rfl (by rw [ev140]; rfl) (by decide) rfl ?_
            refine j_goto X (tgt := 47) dX5_ends_119 (by decide) ?_
            refine j_lvsub [3, 4, 5, 6, 2, 1, 0] (lv' := [(0, .ref (q x0)), (1, .int x1), (2, .ref (q x2)), (3, .int x3), (4, .int v131), (5, .int r136), (6, .int v140)]) rfl ?_
            exact ih x0 x1 x2 x3 v131 r136 v140 σ137 hf139
  have L16 : ∀ (nk : Nat) (x0 : Nat) (x1 : Int32) (x2 : Nat) (x3 : Int32) (τ : HS), lp_X5_ends_16  nk x0 x1 x2 x3 τ = some (r0, σ0) → J p l e rm_X5_ends s m args below meth c 7 D cs A s.heap 0 0 (MQ below (hQ D cs (fun z => z = q) (fun _ => some (.long r0)) σ0 A) args s 0 0 A) q τ [(0, .ref (q x0)), (1, .int x1), (2, .ref (q x2)), (3, .int x3)] 16 [] := by
    intro nk
    induction nk with
    | zero => intro x0 x1 x2 x3 τ hf0; have hf1 : (none : Option (Int64 × HS)) = some (r0, σ0) := hf0; cases hf1
    | succ nk ih =>
      intro x0 x1 x2 x3 τ hf0
      replace hf0 : lp_X5_ends_16_b  (lp_X5_ends_16  nk) x0 x1 x2 x3 τ = some (r0, σ0) := hf0
      unfold lp_X5_ends_16_b at hf0
      refine j_iload_n X dX5_ends_16 3 rfl rfl ?_
      refine j_bipush X (v := 6) dX5_ends_17 (by decide) ?_
      refine j_icmp_ge X (tgt := 146) dX5_ends_19 (by decide) (fun c12 => ?_) (fun c12 => ?_)
      · have hf13 := br_y hf0 c12; clear hf0
        refine j_aload_n X dX5_ends_146 0 rfl rfl ?_
        obtain ⟨h15, hf16⟩ := chk_of hf13; clear hf13
        obtain ⟨i17, h18, hf19⟩ := bd_of hf16; clear hf16
        refine j_getr X fd_X5_35 h15 h18 dX5_ends_147 ?_
        refine j_aload_n X dX5_ends_150 2 rfl rfl ?_
        obtain ⟨h20, hf21⟩ := chk_of hf19; clear hf19
        obtain ⟨r22, σ23, h24, hf25⟩ := bc_of hf21; clear hf21
        refine j_callV0 X [.ref (q x2)] [] (c_X4_carry l D cs q i17 x2 τ _ _ h24) mk_X4_carry mv_X4_carry ml_X5_173 h20 rfl (by decide) ⟨rfl, rfl⟩ ⟨Nat.le_of_ble_eq_true rfl, Nat.le_of_ble_eq_true rfl⟩ rfl (Nat.le_of_ble_eq_true rfl) ⟨Nat.le_of_ble_eq_true rfl, Nat.le_of_ble_eq_true rfl⟩ dX5_ends_151 rfl (st' := []) rfl ?_
        refine j_aload_n X dX5_ends_154 0 rfl rfl ?_
        obtain ⟨h26, hf27⟩ := chk_of hf25; clear hf25
        obtain ⟨i28, h29, hf30⟩ := bd_of hf27; clear hf27
        refine j_getr X fd_X5_35 h26 h29 dX5_ends_155 ?_
        refine j_iconst X (v := 2) dX5_ends_158 (by decide) ?_
        obtain ⟨h31, hf32⟩ := chk_of hf30; clear hf30
        obtain ⟨r33, σ34, h35, hf36⟩ := bc_of hf32; clear hf32
        refine j_callV0 X [.int (2 : Int32)] [] (c_X4_told l D cs q i28 (2 : Int32) σ23 _ _ h35) mk_X4_told mv_X4_told ml_X5_137 h31 rfl (by decide) ⟨rfl, rfl⟩ ⟨Nat.le_of_ble_eq_true rfl, Nat.le_of_ble_eq_true rfl⟩ rfl (Nat.le_of_ble_eq_true rfl) ⟨Nat.le_of_ble_eq_true rfl, Nat.le_of_ble_eq_true rfl⟩ dX5_ends_159 rfl (st' := [.long r33]) rfl ?_
        obtain ⟨er, es⟩ := rt_of hf36
        subst er
        exact j_retl X hr hlk (Nat.le_of_ble_eq_true rfl) (Nat.le_of_ble_eq_true rfl) rfl es.symm rfl dX5_ends_162
      · have hf14 := br_n hf0 c12; clear hf0
        refine j_aload_n X dX5_ends_22 0 rfl rfl ?_
        obtain ⟨h37, hf38⟩ := chk_of hf14; clear hf14
        obtain ⟨i39, h40, hf41⟩ := bd_of hf38; clear hf38
        refine j_getr X fd_X5_14 h37 h40 dX5_ends_23 ?_
        obtain ⟨h42, hf43⟩ := chk_of hf41; clear hf41
        obtain ⟨i44, h45, hf46⟩ := bd_of hf43; clear hf43
        refine j_getr X fd_X5_145 h42 h45 dX5_ends_26 ?_
        refine j_iload_n X dX5_ends_29 3 rfl rfl ?_
        obtain ⟨h47, hf48⟩ := chk_of hf46; clear hf46
        refine j_iald X h47 dX5_ends_30 (fun v49 ev49 => ?_)
        replace hf48 := lt_of hf48 v49 ev49
        refine j_istore X (lv' := [(4, .int v49), (0, .ref (q x0)), (1, .int x1), (2, .ref (q x2)), (3, .int x3)]) dX5_ends_31 (by decide) rfl ?_
        refine j_aload_n X dX5_ends_33 1 rfl rfl ?_
        refine j_getr X fd_X5_14 h37 h40 dX5_ends_34 ?_
        obtain ⟨i54, h55, hf56⟩ := bd_of hf48; clear hf48
        refine j_getr X fd_X5_196 h42 h55 dX5_ends_37 ?_
        refine j_iload_n X dX5_ends_40 4 rfl rfl ?_
        obtain ⟨h57, hf58⟩ := chk_of hf56; clear hf56
        refine j_iald X h57 dX5_ends_41 (fun v59 ev59 => ?_)
        replace hf58 := lt_of hf58 v59 ev59
        refine j_istore X (lv' := [(5, .int v59), (4, .int v49), (0, .ref (q x0)), (1, .int x1), (2, .ref (q x2)), (3, .int x3)]) dX5_ends_42 (by decide) rfl ?_
        refine j_iconst X (v := 0) dX5_ends_44 (by decide) ?_
        refine j_nmi (fun v61 ev61 => ?_)
        replace hf58 := lt_of hf58 v61 ev61
        refine j_istore X (lv' := [(6, .int v61), (5, .int v59), (4, .int v49), (0, .ref (q x0)), (1, .int x1), (2, .ref (q x2)), (3, .int x3)]) dX5_ends_45 (by decide) rfl ?_
        refine j_lvsub [3, 4, 5, 6, 2, 1, 0] (lv' := [(0, .ref (q x0)), (1, .int x1), (2, .ref (q x2)), (3, .int x3), (4, .int v49), (5, .int v59), (6, .int v61)]) rfl ?_
        exact L47 _ (ih) 1000 x0 x1 x2 x3 v49 v59 v61 τ hf58
  refine j_aload_n X dX5_ends_0 0 rfl rfl ?_
  refine j_iload_n X dX5_ends_1 1 rfl rfl ?_
  obtain ⟨h1, hf2⟩ := chk_of hf0; clear hf0
  obtain ⟨r3, σ4, h5, hf6⟩ := bc_of hf2; clear hf2
  refine j_callV0 X [.int a1] [] (c_X5_formulaOf l D cs q a0 a1 σ _ _ h5) mk_X5_formulaOf mv_X5_formulaOf ml_X5_100 h1 rfl (by decide) ⟨rfl, rfl⟩ ⟨Nat.le_of_ble_eq_true rfl, Nat.le_of_ble_eq_true rfl⟩ rfl (Nat.le_of_ble_eq_true rfl) ⟨Nat.le_of_ble_eq_true rfl, Nat.le_of_ble_eq_true rfl⟩ dX5_ends_2 rfl (st' := [va_rf (Option.map q r3)]) rfl ?_
  refine j_astore_nq X (lv' := [(2, va_rf (Option.map q r3)), (0, .ref (q a0)), (1, .int a1)]) dX5_ends_5 rfl (by decide) rfl ?_
  refine j_aload_nq X dX5_ends_6 0 rfl rfl ?_
  refine j_ifnonnull X (tgt := 14) dX5_ends_7 (by decide) (fun c142 => ?_) (fun i7 c142 => ?_)
  · subst c142; have hf8 := (show _ = some (r0, σ0) from hf6); clear hf6; unfold oc at hf8; dsimp only at hf8
    refine j_ldc2 X k_X5_125 dX5_ends_10 ?_
    obtain ⟨er, es⟩ := rt_of hf8
    subst er
    exact j_retl X hr hlk (Nat.le_of_ble_eq_true rfl) (Nat.le_of_ble_eq_true rfl) rfl es.symm rfl dX5_ends_13
  · subst c142; have hf9 := (show _ = some (r0, σ0) from hf6); clear hf6; unfold oc at hf9; dsimp only at hf9
    refine j_iconst X (v := 0) dX5_ends_14 (by decide) ?_
    refine j_nmi (fun v10 ev10 => ?_)
    replace hf9 := lt_of hf9 v10 ev10
    refine j_istore_n X (lv' := [(3, .int v10), (2, .ref (q i7)), (0, .ref (q a0)), (1, .int a1)]) dX5_ends_15 rfl (by decide) rfl ?_
    refine j_lvsub [2, 3, 1, 0] (lv' := [(0, .ref (q a0)), (1, .int a1), (2, .ref (q i7)), (3, .int v10)]) rfl ?_
    exact L16  1000 a0 a1 i7 v10 σ4 hf9
abbrev rm_X5_exact : Room := { frames := 5, cells := 0, slots := 0, locals := 320 }
set_option maxHeartbeats 4000000 in
set_option maxRecDepth 100000 in
theorem c_X5_exact (l : Launch) (D : va_G) (cs : Nat → ClassId) (q : Nat → Nat) (a0 : Nat) (a1 : Int32) (σ σ0 : HS) (r0 : Int64) (hf0 : f_X5_exact a0 a1 σ = some (r0, σ0)) : MT l yX5_exact (Cond.code yX5_exact cX5_exact 4 (some .long) :: lw_g) rm_X5_exact D cs q σ σ0 [.ref (q a0), .int a1] (fun z => z = q) (fun _ => some (.long r0)) 0 0 := by
  unfold f_X5_exact at hf0
  refine MT_of (cc := cX5_exact) (lv0 := [(0, .ref (q a0)), (1, .int a1)]) (by decide) (Nat.le_of_ble_eq_true rfl) rfl (fun p e s m args below meth c A X hr hlk hin => ?_)
  have L35 : ∀ (nk : Nat) (x0 : Nat) (x1 : Int32) (x2 : Nat) (x3 : Int32) (τ : HS), lp_X5_exact_35  nk x0 x1 x2 x3 τ = some (r0, σ0) → J p l e rm_X5_exact s m args below meth c 4 D cs A s.heap 0 0 (MQ below (hQ D cs (fun z => z = q) (fun _ => some (.long r0)) σ0 A) args s 0 0 A) q τ [(0, .ref (q x0)), (1, .int x1), (2, .ref (q x2)), (3, .int x3)] 35 [] := by
    intro nk
    induction nk with
    | zero => intro x0 x1 x2 x3 τ hf0; have hf1 : (none : Option (Int64 × HS)) = some (r0, σ0) := hf0; cases hf1
    | succ nk ih =>
      intro x0 x1 x2 x3 τ hf0
      replace hf0 : lp_X5_exact_35_b  (lp_X5_exact_35  nk) x0 x1 x2 x3 τ = some (r0, σ0) := hf0
      unfold lp_X5_exact_35_b at hf0
      refine j_iload_n X dX5_exact_35 3 rfl rfl ?_
      refine j_bipush X (v := 6) dX5_exact_36 (by decide) ?_
      refine j_icmp_ge X (tgt := 65) dX5_exact_38 (by decide) (fun c30 => ?_) (fun c30 => ?_)
      · have hf31 := br_y hf0 c30; clear hf0
        refine j_aload_n X dX5_exact_65 0 rfl rfl ?_
        obtain ⟨h33, hf34⟩ := chk_of hf31; clear hf31
        obtain ⟨i35, h36, hf37⟩ := bd_of hf34; clear hf34
        refine j_getr X fd_X5_35 h33 h36 dX5_exact_66 ?_
        refine j_aload_n X dX5_exact_69 2 rfl rfl ?_
        obtain ⟨h38, hf39⟩ := chk_of hf37; clear hf37
        obtain ⟨r40, σ41, h42, hf43⟩ := bc_of hf39; clear hf39
        refine j_callV0 X [.ref (q x2)] [] (c_X4_worthOf l D cs q i35 x2 τ _ _ h42) mk_X4_worthOf mv_X4_worthOf ml_X5_148 h38 rfl (by decide) ⟨rfl, rfl⟩ ⟨Nat.le_of_ble_eq_true rfl, Nat.le_of_ble_eq_true rfl⟩ rfl (Nat.le_of_ble_eq_true rfl) ⟨Nat.le_of_ble_eq_true rfl, Nat.le_of_ble_eq_true rfl⟩ dX5_exact_70 rfl (st' := [.long r40]) rfl ?_
        obtain ⟨er, es⟩ := rt_of hf43
        subst er
        exact j_retl X hr hlk (Nat.le_of_ble_eq_true rfl) (Nat.le_of_ble_eq_true rfl) rfl es.symm rfl dX5_exact_73
      · have hf32 := br_n hf0 c30; clear hf0
        refine j_aload_n X dX5_exact_41 0 rfl rfl ?_
        obtain ⟨h44, hf45⟩ := chk_of hf32; clear hf32
        obtain ⟨i46, h47, hf48⟩ := bd_of hf45; clear hf45
        refine j_getr X fd_X5_35 h44 h47 dX5_exact_42 ?_
        obtain ⟨h49, hf50⟩ := chk_of hf48; clear hf48
        obtain ⟨i51, h52, hf53⟩ := bd_of hf50; clear hf50
        refine j_getr X fd_X5_143 h49 h52 dX5_exact_45 ?_
        refine j_iload_n X dX5_exact_48 3 rfl rfl ?_
        refine j_aload_n X dX5_exact_49 0 rfl rfl ?_
        obtain ⟨i54, h55, hf56⟩ := bd_of hf53; clear hf53
        refine j_getr X fd_X5_14 h44 h55 dX5_exact_50 ?_
        obtain ⟨h57, hf58⟩ := chk_of hf56; clear hf56
        obtain ⟨i59, h60, hf61⟩ := bd_of hf58; clear hf58
        refine j_getr X fd_X5_145 h57 h60 dX5_exact_53 ?_
        refine j_iload_n X dX5_exact_56 3 rfl rfl ?_
        obtain ⟨h62, hf63⟩ := chk_of hf61; clear hf61
        refine j_iald X h62 dX5_exact_57 (fun v64 ev64 => ?_)
        replace hf63 := lt_of hf63 v64 ev64
        obtain ⟨h66, hf67⟩ := chk_of hf63; clear hf63
        refine j_iast X h66 dX5_exact_58 (fun σ68 eσ68 => ?_)
        replace hf67 := lt_of hf67 σ68 eσ68
        have h70 : isO σ68 5 x0 := by rw [eσ68]; exact h44
        have h71 : isO σ68 4 i46 := by rw [eσ68]; exact h49
        have h72 : isO σ68 2 i54 := by rw [eσ68]; exact h57
        obtain ⟨v73, ev73⟩ : ∃ y : Int32, y = x3 + (1 : Int32) := ⟨_, rfl⟩
        replace hf67 := lt_of hf67 v73 ev73
        refine j_iinc X (v := v73) (lv' := [(3, .int v73), (0, .ref (q x0)), (1, .int x1), (2, .ref (q x2))]) dX5_exact_59 3 rfl (by rw [ev73]; rfl) (by decide) rfl ?_
        refine j_goto X (tgt := 35) dX5_exact_62 (by decide) ?_
        refine j_lvsub [1, 2, 3, 0] (lv' := [(0, .ref (q x0)), (1, .int x1), (2, .ref (q x2)), (3, .int v73)]) rfl ?_
        exact ih x0 x1 x2 v73 σ68 hf67
  refine j_aload_n X dX5_exact_0 0 rfl rfl ?_
  refine j_iload_n X dX5_exact_1 1 rfl rfl ?_
  obtain ⟨h1, hf2⟩ := chk_of hf0; clear hf0
  obtain ⟨r3, σ4, h5, hf6⟩ := bc_of hf2; clear hf2
  refine j_callV0 X [.int a1] [] (c_X5_formulaOf l D cs q a0 a1 σ _ _ h5) mk_X5_formulaOf mv_X5_formulaOf ml_X5_100 h1 rfl (by decide) ⟨rfl, rfl⟩ ⟨Nat.le_of_ble_eq_true rfl, Nat.le_of_ble_eq_true rfl⟩ rfl (Nat.le_of_ble_eq_true rfl) ⟨Nat.le_of_ble_eq_true rfl, Nat.le_of_ble_eq_true rfl⟩ dX5_exact_2 rfl (st' := [va_rf (Option.map q r3)]) rfl ?_
  refine j_astore_nq X (lv' := [(2, va_rf (Option.map q r3)), (0, .ref (q a0)), (1, .int a1)]) dX5_exact_5 rfl (by decide) rfl ?_
  refine j_aload_nq X dX5_exact_6 0 rfl rfl ?_
  refine j_ifnonnull X (tgt := 14) dX5_exact_7 (by decide) (fun c75 => ?_) (fun i7 c75 => ?_)
  · subst c75; have hf8 := (show _ = some (r0, σ0) from hf6); clear hf6; unfold oc at hf8; dsimp only at hf8
    refine j_ldc2 X k_X5_125 dX5_exact_10 ?_
    obtain ⟨er, es⟩ := rt_of hf8
    subst er
    exact j_retl X hr hlk (Nat.le_of_ble_eq_true rfl) (Nat.le_of_ble_eq_true rfl) rfl es.symm rfl dX5_exact_13
  · subst c75; have hf9 := (show _ = some (r0, σ0) from hf6); clear hf6; unfold oc at hf9; dsimp only at hf9
    refine j_aload_n X dX5_exact_14 1 rfl rfl ?_
    refine j_aload_n X dX5_exact_15 0 rfl rfl ?_
    obtain ⟨h10, hf11⟩ := chk_of hf9; clear hf9
    obtain ⟨r12, σ13, h14, hf15⟩ := bc_of hf11; clear hf11
    refine j_callV0 X [.ref (q i7)] [] (c_X5_carryAsItIs l D cs q a0 i7 σ4 _ _ h14) mk_X5_carryAsItIs mv_X5_carryAsItIs ml_X5_127 h10 rfl (by decide) ⟨rfl, rfl⟩ ⟨Nat.le_of_ble_eq_true rfl, Nat.le_of_ble_eq_true rfl⟩ rfl (Nat.le_of_ble_eq_true rfl) ⟨Nat.le_of_ble_eq_true rfl, Nat.le_of_ble_eq_true rfl⟩ dX5_exact_16 rfl (st' := []) rfl ?_
    refine j_aload_n X dX5_exact_19 1 rfl rfl ?_
    obtain ⟨h16, hf17⟩ := chk_of hf15; clear hf15
    obtain ⟨i18, h19, hf20⟩ := bd_of hf17; clear hf17
    refine j_getr X fd_X5_35 h16 h19 dX5_exact_20 ?_
    obtain ⟨h21, hf22⟩ := chk_of hf20; clear hf20
    refine j_geti X fd_X5_131 h21 dX5_exact_23 (fun v23 ev23 => ?_)
    replace hf22 := lt_of hf22 v23 ev23
    refine j_if_eq X (tgt := 33) dX5_exact_26 (by decide) (fun c25 => ?_) (fun c25 => ?_)
    · have hf26 := br_y hf22 c25; clear hf22
      refine j_iconst X (v := 0) dX5_exact_33 (by decide) ?_
      refine j_nmi (fun v28 ev28 => ?_)
      replace hf26 := lt_of hf26 v28 ev28
      refine j_istore_n X (lv' := [(3, .int v28), (2, .ref (q i7)), (0, .ref (q a0)), (1, .int a1)]) dX5_exact_34 rfl (by decide) rfl ?_
      refine j_lvsub [2, 3, 1, 0] (lv' := [(0, .ref (q a0)), (1, .int a1), (2, .ref (q i7)), (3, .int v28)]) rfl ?_
      exact L35  1000 a0 a1 i7 v28 σ13 hf26
    · have hf27 := br_n hf22 c25; clear hf22
      refine j_ldc2 X k_X5_141 dX5_exact_29 ?_
      obtain ⟨er, es⟩ := rt_of hf27
      subst er
      exact j_retl X hr hlk (Nat.le_of_ble_eq_true rfl) (Nat.le_of_ble_eq_true rfl) rfl es.symm rfl dX5_exact_32
abbrev rm_X5_feed : Room := { frames := 1, cells := 0, slots := 0, locals := 64 }
set_option maxHeartbeats 4000000 in
set_option maxRecDepth 100000 in
theorem c_X5_feed (l : Launch) (D : va_G) (cs : Nat → ClassId) (q : Nat → Nat) (a0 : Nat) (a1 : Int32) (σ σ0 : HS) (r0 : Int32) (hf0 : f_X5_feed a0 a1 σ = some (r0, σ0)) : MT l yX5_feed (Cond.code yX5_feed cX5_feed 2 (some .int) :: lw_g) rm_X5_feed D cs q σ σ0 [.ref (q a0), .int a1] (fun z => z = q) (fun _ => some (.int r0)) 0 0 := by
  unfold f_X5_feed at hf0
  refine MT_of (cc := cX5_feed) (lv0 := [(0, .ref (q a0)), (1, .int a1)]) (by decide) (Nat.le_of_ble_eq_true rfl) rfl (fun p e s m args below meth c A X hr hlk hin => ?_)
  refine j_iload_n X dX5_feed_0 1 rfl rfl ?_
  refine j_iconst X (v := 1) dX5_feed_1 (by decide) ?_
  refine j_icmp_lt X (tgt := 11) dX5_feed_2 (by decide) (fun c1 => ?_) (fun c1 => ?_)
  · have hf2 := br_y hf0 c1; clear hf0
    refine j_bipush X (v := -2) dX5_feed_11 (by decide) ?_
    obtain ⟨er, es⟩ := rt_of hf2
    subst er
    exact j_reti X hr hlk (Nat.le_of_ble_eq_true rfl) (Nat.le_of_ble_eq_true rfl) rfl es.symm rfl dX5_feed_13
  · have hf3 := br_n hf0 c1; clear hf0
    refine j_iload_n X dX5_feed_5 1 rfl rfl ?_
    refine j_bipush X (v := 127) dX5_feed_6 (by decide) ?_
    refine j_icmp_le X (tgt := 14) dX5_feed_8 (by decide) (fun c4 => ?_) (fun c4 => ?_)
    · have hf5 := br_y hf3 c4; clear hf3
      refine j_aload_n X dX5_feed_14 0 rfl rfl ?_
      obtain ⟨h7, hf8⟩ := chk_of hf5; clear hf5
      obtain ⟨i9, h10, hf11⟩ := bd_of hf8; clear hf8
      refine j_getr X fd_X5_28 h7 h10 dX5_feed_15 ?_
      refine j_iload_n X dX5_feed_18 1 rfl rfl ?_
      obtain ⟨h12, hf13⟩ := chk_of hf11; clear hf11
      obtain ⟨r14, σ15, h16, hf17⟩ := bc_of hf13; clear hf13
      refine j_callV0 X [.int a1] [] (c_X3_append l D cs q i9 a1 σ _ _ h16) mk_X3_append mv_X3_append ml_X5_80 h12 rfl (by decide) ⟨rfl, rfl⟩ ⟨Nat.le_of_ble_eq_true rfl, Nat.le_of_ble_eq_true rfl⟩ rfl (Nat.le_of_ble_eq_true rfl) ⟨Nat.le_of_ble_eq_true rfl, Nat.le_of_ble_eq_true rfl⟩ dX5_feed_19 rfl (st' := [.int r14]) rfl ?_
      refine j_if_eq X (tgt := 35) dX5_feed_22 (by decide) (fun c18 => ?_) (fun c18 => ?_)
      · have hf19 := br_y hf17 c18; clear hf17
        refine j_bipush X (v := -4) dX5_feed_35 (by decide) ?_
        obtain ⟨er, es⟩ := rt_of hf19
        subst er
        exact j_reti X hr hlk (Nat.le_of_ble_eq_true rfl) (Nat.le_of_ble_eq_true rfl) rfl es.symm rfl dX5_feed_37
      · have hf20 := br_n hf17 c18; clear hf17
        refine j_aload_n X dX5_feed_25 0 rfl rfl ?_
        obtain ⟨h21, hf22⟩ := chk_of hf20; clear hf20
        obtain ⟨i23, h24, hf25⟩ := bd_of hf22; clear hf22
        refine j_getr X fd_X5_28 h21 h24 dX5_feed_26 ?_
        obtain ⟨h26, hf27⟩ := chk_of hf25; clear hf25
        refine j_geti X fd_X5_83 h26 dX5_feed_29 (fun v28 ev28 => ?_)
        replace hf27 := lt_of hf27 v28 ev28
        refine j_goto X (tgt := 37) dX5_feed_32 (by decide) ?_
        obtain ⟨er, es⟩ := rt_of hf27
        subst er
        exact j_reti X hr hlk (Nat.le_of_ble_eq_true rfl) (Nat.le_of_ble_eq_true rfl) rfl es.symm rfl dX5_feed_37
    · have hf6 := br_n hf3 c4; clear hf3
      refine j_bipush X (v := -2) dX5_feed_11 (by decide) ?_
      obtain ⟨er, es⟩ := rt_of hf6
      subst er
      exact j_reti X hr hlk (Nat.le_of_ble_eq_true rfl) (Nat.le_of_ble_eq_true rfl) rfl es.symm rfl dX5_feed_13
abbrev rm_X5_isSource : Room := { frames := 0, cells := 0, slots := 0, locals := 0 }
set_option maxHeartbeats 4000000 in
set_option maxRecDepth 100000 in
theorem c_X5_isSource (l : Launch) (D : va_G) (cs : Nat → ClassId) (q : Nat → Nat) (a0 : Int32) (σ σ0 : HS) (r0 : Int32) (hf0 : f_X5_isSource a0 σ = some (r0, σ0)) : MT l yX5_isSource (Cond.code yX5_isSource cX5_isSource 1 (some .boolean) :: lw_g) rm_X5_isSource D cs q σ σ0 [.int a0] (fun z => z = q) (fun _ => some (.int r0)) 0 0 := by
  unfold f_X5_isSource at hf0
  refine MT_of (cc := cX5_isSource) (lv0 := [(0, .int a0)]) (by decide) (Nat.le_of_ble_eq_true rfl) rfl (fun p e s m args below meth c A X hr hlk hin => ?_)
  refine j_iload_n X dX5_isSource_0 0 rfl rfl ?_
  refine j_if_lt X (tgt := 14) dX5_isSource_1 (by decide) (fun c1 => ?_) (fun c1 => ?_)
  · have hf2 := br_y hf0 c1; clear hf0
    refine j_iconst X (v := 0) dX5_isSource_14 (by decide) ?_
    obtain ⟨er, es⟩ := rt_of hf2
    subst er
    exact j_retz X hr hlk (Nat.le_of_ble_eq_true rfl) (Nat.le_of_ble_eq_true rfl) rfl es.symm rfl (Or.inl rfl) dX5_isSource_15
  · have hf3 := br_n hf0 c1; clear hf0
    refine j_iload_n X dX5_isSource_4 0 rfl rfl ?_
    refine j_bipush X (v := 6) dX5_isSource_5 (by decide) ?_
    refine j_icmp_ge X (tgt := 14) dX5_isSource_7 (by decide) (fun c4 => ?_) (fun c4 => ?_)
    · have hf5 := br_y hf3 c4; clear hf3
      refine j_iconst X (v := 0) dX5_isSource_14 (by decide) ?_
      obtain ⟨er, es⟩ := rt_of hf5
      subst er
      exact j_retz X hr hlk (Nat.le_of_ble_eq_true rfl) (Nat.le_of_ble_eq_true rfl) rfl es.symm rfl (Or.inl rfl) dX5_isSource_15
    · have hf6 := br_n hf3 c4; clear hf3
      refine j_iconst X (v := 1) dX5_isSource_10 (by decide) ?_
      refine j_goto X (tgt := 15) dX5_isSource_11 (by decide) ?_
      obtain ⟨er, es⟩ := rt_of hf6
      subst er
      exact j_retz X hr hlk (Nat.le_of_ble_eq_true rfl) (Nat.le_of_ble_eq_true rfl) rfl es.symm rfl (Or.inr rfl) dX5_isSource_15
abbrev rm_X5_fits : Room := { frames := 4, cells := 0, slots := 0, locals := 256 }
set_option maxHeartbeats 4000000 in
set_option maxRecDepth 100000 in
theorem c_X5_fits (l : Launch) (D : va_G) (cs : Nat → ClassId) (q : Nat → Nat) (a0 : Nat) (a1 : Int32) (a2 : Int32) (a3 : Int64) (a5 : Int32) (σ σ0 : HS) (r0 : Int32) (hf0 : f_X5_fits a0 a1 a2 a3 a5 σ = some (r0, σ0)) : MT l yX5_fits (Cond.code yX5_fits cX5_fits 10 (some .int) :: lw_g) rm_X5_fits D cs q σ σ0 [.ref (q a0), .int a1, .int a2, .long a3, .int a5] (fun z => z = q) (fun _ => some (.int r0)) 0 0 := by
  unfold f_X5_fits at hf0
  refine MT_of (cc := cX5_fits) (lv0 := [(0, .ref (q a0)), (1, .int a1), (2, .int a2), (3, .long a3), (5, .int a5)]) (by decide) (Nat.le_of_ble_eq_true rfl) rfl (fun p e s m args below meth c A X hr hlk hin => ?_)
  have L55 : ∀ (nk : Nat) (x0 : Nat) (x1 : Int32) (x2 : Int32) (x3 : Int64) (x5 : Int32) (x6 : Nat) (x7 : Int32) (x8 : Int32) (x9 : Int32) (τ : HS), lp_X5_fits_55  nk x0 x1 x2 x3 x5 x6 x7 x8 x9 τ = some (r0, σ0) → J p l e rm_X5_fits s m args below meth c 10 D cs A s.heap 0 0 (MQ below (hQ D cs (fun z => z = q) (fun _ => some (.int r0)) σ0 A) args s 0 0 A) q τ [(0, .ref (q x0)), (1, .int x1), (2, .int x2), (3, .long x3), (5, .int x5), (6, .ref (q x6)), (7, .int x7), (8, .int x8), (9, .int x9)] 55 [] := by
    intro nk
    induction nk with
    | zero => intro x0 x1 x2 x3 x5 x6 x7 x8 x9 τ hf0; have hf1 : (none : Option (Int32 × HS)) = some (r0, σ0) := hf0; cases hf1
    | succ nk ih =>
      intro x0 x1 x2 x3 x5 x6 x7 x8 x9 τ hf0
      replace hf0 : lp_X5_fits_55_b  (lp_X5_fits_55  nk) x0 x1 x2 x3 x5 x6 x7 x8 x9 τ = some (r0, σ0) := hf0
      unfold lp_X5_fits_55_b at hf0
      refine j_iload X dX5_fits_55 8 rfl ?_
      refine j_bipush X (v := 99) dX5_fits_57 (by decide) ?_
      refine j_icmp_gt X (tgt := 155) dX5_fits_59 (by decide) (fun c43 => ?_) (fun c43 => ?_)
      · have hf44 := br_y hf0 c43; clear hf0
        refine j_iload X dX5_fits_155 4 rfl ?_
        refine j_if_ne X (tgt := 165) dX5_fits_157 (by decide) (fun c46 => ?_) (fun c46 => ?_)
        · have hf47 := br_n hf44 c46; clear hf44
          refine j_iload X dX5_fits_165 7 rfl ?_
          obtain ⟨er, es⟩ := rt_of hf47
          subst er
          exact j_reti X hr hlk (Nat.le_of_ble_eq_true rfl) (Nat.le_of_ble_eq_true rfl) rfl es.symm rfl dX5_fits_167
        · have hf48 := br_y hf44 c46; clear hf44
          refine j_iload X dX5_fits_160 6 rfl ?_
          refine j_goto X (tgt := 167) dX5_fits_162 (by decide) ?_
          obtain ⟨er, es⟩ := rt_of hf48
          subst er
          exact j_reti X hr hlk (Nat.le_of_ble_eq_true rfl) (Nat.le_of_ble_eq_true rfl) rfl es.symm rfl dX5_fits_167
      · have hf45 := br_n hf0 c43; clear hf0
        refine j_aload_n X dX5_fits_62 0 rfl rfl ?_
        obtain ⟨h49, hf50⟩ := chk_of hf45; clear hf45
        obtain ⟨i51, h52, hf53⟩ := bd_of hf50; clear hf50
        refine j_getr X fd_X5_35 h49 h52 dX5_fits_63 ?_
        refine j_iload_n X dX5_fits_66 2 rfl rfl ?_
        refine j_iload X dX5_fits_67 8 rfl ?_
        refine j_aload_n X dX5_fits_69 0 rfl rfl ?_
        obtain ⟨i54, h55, hf56⟩ := bd_of hf53; clear hf53
        refine j_getr X fd_X5_14 h49 h55 dX5_fits_70 ?_
        obtain ⟨h57, hf58⟩ := chk_of hf56; clear hf56
        obtain ⟨i59, h60, hf61⟩ := bd_of hf58; clear hf58
        refine j_getr X fd_X5_196 h57 h60 dX5_fits_73 ?_
        refine j_iload_n X dX5_fits_76 2 rfl rfl ?_
        obtain ⟨h62, hf63⟩ := chk_of hf61; clear hf61
        refine j_iald X h62 dX5_fits_77 (fun v64 ev64 => ?_)
        replace hf63 := lt_of hf63 v64 ev64
        refine j_isub X dX5_fits_78 ?_
        refine j_iload X dX5_fits_79 8 rfl ?_
        refine j_aload_n X dX5_fits_81 0 rfl rfl ?_
        refine j_getr X fd_X5_14 h49 h55 dX5_fits_82 ?_
        refine j_getr X fd_X5_196 h57 h60 dX5_fits_85 ?_
        refine j_iload_n X dX5_fits_88 2 rfl rfl ?_
        obtain ⟨h72, hf73⟩ := chk_of hf63; clear hf63
        refine j_iald X h72 dX5_fits_89 (fun v74 ev74 => ?_)
        replace hf73 := lt_of hf73 v74 ev74
        refine j_iadd X dX5_fits_90 ?_
        obtain ⟨h76, hf77⟩ := chk_of hf73; clear hf73
        obtain ⟨r78, σ79, h80, hf81⟩ := bc_of hf77; clear hf77
        refine j_callV0 X [.int x2, .int (x9 - v64), .int (x9 + v74)] [] (c_X4_stand l D cs q i51 x2 (x9 - v64) (x9 + v74) τ _ _ h80) mk_X4_stand mv_X4_stand ml_X5_169 h76 rfl (by decide) ⟨rfl, rfl⟩ ⟨Nat.le_of_ble_eq_true rfl, Nat.le_of_ble_eq_true rfl⟩ rfl (Nat.le_of_ble_eq_true rfl) ⟨Nat.le_of_ble_eq_true rfl, Nat.le_of_ble_eq_true rfl⟩ dX5_fits_91 rfl (st' := []) rfl ?_
        refine j_aload_n X dX5_fits_94 0 rfl rfl ?_
        obtain ⟨h82, hf83⟩ := chk_of hf81; clear hf81
        obtain ⟨i84, h85, hf86⟩ := bd_of hf83; clear hf83
        refine j_getr X fd_X5_35 h82 h85 dX5_fits_95 ?_
        refine j_aload X dX5_fits_98 5 rfl ?_
        obtain ⟨h87, hf88⟩ := chk_of hf86; clear hf86
        obtain ⟨r89, σ90, h91, hf92⟩ := bc_of hf88; clear hf88
        refine j_callV0 X [.ref (q x6)] [] (c_X4_carry l D cs q i84 x6 σ79 _ _ h91) mk_X4_carry mv_X4_carry ml_X5_173 h87 rfl (by decide) ⟨rfl, rfl⟩ ⟨Nat.le_of_ble_eq_true rfl, Nat.le_of_ble_eq_true rfl⟩ rfl (Nat.le_of_ble_eq_true rfl) ⟨Nat.le_of_ble_eq_true rfl, Nat.le_of_ble_eq_true rfl⟩ dX5_fits_100 rfl (st' := []) rfl ?_
        refine j_aload_n X dX5_fits_103 0 rfl rfl ?_
        obtain ⟨h93, hf94⟩ := chk_of hf92; clear hf92
        obtain ⟨i95, h96, hf97⟩ := bd_of hf94; clear hf94
        refine j_getr X fd_X5_35 h93 h96 dX5_fits_104 ?_
        obtain ⟨h98, hf99⟩ := chk_of hf97; clear hf97
        refine j_geti X fd_X5_131 h98 dX5_fits_107 (fun v100 ev100 => ?_)
        replace hf99 := lt_of hf99 v100 ev100
        refine j_if_ne X (tgt := 149) dX5_fits_110 (by decide) (fun c102 => ?_) (fun c102 => ?_)
        · have hf103 := br_n hf99 c102; clear hf99
          obtain ⟨v105, ev105⟩ : ∃ y : Int32, y = x9 + (1 : Int32) := ⟨_, rfl⟩
          replace hf103 := lt_of hf103 v105 ev105
          refine j_iinc X (v := v105) (lv' := [(9, .int v105), (0, .ref (q x0)), (1, .int x1), (2, .int x2), (3, .long x3), (5, .int x5), (6, .ref (q x6)), (7, .int x7), (8, .int x8)]) dX5_fits_149 8 rfl (by rw [ev105]; rfl) (by decide) rfl ?_
          refine j_goto X (tgt := 55) dX5_fits_152 (by decide) ?_
          refine j_lvsub [1, 2, 3, 4, 5, 6, 7, 8, 0] (lv' := [(0, .ref (q x0)), (1, .int x1), (2, .int x2), (3, .long x3), (5, .int x5), (6, .ref (q x6)), (7, .int x7), (8, .int x8), (9, .int v105)]) rfl ?_
          exact ih x0 x1 x2 x3 x5 x6 x7 x8 v105 σ90 hf103
        · have hf104 := br_y hf99 c102; clear hf99
          refine j_aload_n X dX5_fits_113 0 rfl rfl ?_
          refine j_getr X fd_X5_35 h93 h96 dX5_fits_114 ?_
          refine j_getl X fd_X5_188 h98 dX5_fits_117 (fun v110 ev110 => ?_)
          replace hf104 := lt_of hf104 v110 ev110
          refine j_lload_n X dX5_fits_120 3 rfl rfl ?_
          refine j_lcmp X dX5_fits_121 ?_
          refine j_if_gt X (tgt := 149) dX5_fits_122 (by decide) (fun c112 => ?_) (fun c112 => ?_)
          · have hf113 := br_y hf104 c112; clear hf104
            obtain ⟨v115, ev115⟩ : ∃ y : Int32, y = x9 + (1 : Int32) := ⟨_, rfl⟩
            replace hf113 := lt_of hf113 v115 ev115
            refine j_iinc X (v := v115) (lv' := [(9, .int v115), (0, .ref (q x0)), (1, .int x1), (2, .int x2), (3, .long x3), (5, .int x5), (6, .ref (q x6)), (7, .int x7), (8, .int x8)]) dX5_fits_149 8 rfl (by rw [ev115]; rfl) (by decide) rfl ?_
            refine j_goto X (tgt := 55) dX5_fits_152 (by decide) ?_
            refine j_lvsub [1, 2, 3, 4, 5, 6, 7, 8, 0] (lv' := [(0, .ref (q x0)), (1, .int x1), (2, .int x2), (3, .long x3), (5, .int x5), (6, .ref (q x6)), (7, .int x7), (8, .int x8), (9, .int v115)]) rfl ?_
            exact ih x0 x1 x2 x3 x5 x6 x7 x8 v115 σ90 hf113
          · have hf114 := br_n hf104 c112; clear hf104
            refine j_lload_n X dX5_fits_125 3 rfl rfl ?_
            refine j_aload_n X dX5_fits_126 0 rfl rfl ?_
            refine j_getr X fd_X5_35 h93 h96 dX5_fits_127 ?_
            refine j_getl X fd_X5_184 h98 dX5_fits_130 (fun v120 ev120 => ?_)
            replace hf114 := lt_of hf114 v120 ev120
            refine j_lcmp X dX5_fits_133 ?_
            refine j_if_gt X (tgt := 149) dX5_fits_134 (by decide) (fun c122 => ?_) (fun c122 => ?_)
            · have hf123 := br_y hf114 c122; clear hf114
              obtain ⟨v125, ev125⟩ : ∃ y : Int32, y = x9 + (1 : Int32) := ⟨_, rfl⟩
              replace hf123 := lt_of hf123 v125 ev125
              refine j_iinc X (v := v125) (lv' := [(9, .int v125), (0, .ref (q x0)), (1, .int x1), (2, .int x2), (3, .long x3), (5, .int x5), (6, .ref (q x6)), (7, .int x7), (8, .int x8)]) dX5_fits_149 8 rfl (by rw [ev125]; rfl) (by decide) rfl ?_
              refine j_goto X (tgt := 55) dX5_fits_152 (by decide) ?_
              refine j_lvsub [1, 2, 3, 4, 5, 6, 7, 8, 0] (lv' := [(0, .ref (q x0)), (1, .int x1), (2, .int x2), (3, .long x3), (5, .int x5), (6, .ref (q x6)), (7, .int x7), (8, .int x8), (9, .int v125)]) rfl ?_
              exact ih x0 x1 x2 x3 x5 x6 x7 x8 v125 σ90 hf123
            · have hf124 := br_n hf114 c122; clear hf114
              refine j_iload X dX5_fits_137 6 rfl ?_
              refine j_if_ne X (tgt := 146) dX5_fits_139 (by decide) (fun c127 => ?_) (fun c127 => ?_)
              · have hf128 := br_n hf124 c127; clear hf124
                obtain ⟨v130, ev130⟩ : ∃ y : Int32, y = x7 + (1 : Int32) := ⟨_, rfl⟩
                replace hf128 := lt_of hf128 v130 ev130
                refine j_iinc X (v := v130) (lv' := [(7, .int v130), (0, .ref (q x0)), (1, .int x1), (2, .int x2), (3, .long x3), (5, .int x5), (6, .ref (q x6)), (8, .int x8), (9, .int x9)]) dX5_fits_146 6 rfl (by rw [ev130]; rfl) (by decide) rfl ?_
                obtain ⟨v132, ev132⟩ : ∃ y : Int32, y = x9 + (1 : Int32) := ⟨_, rfl⟩
                replace hf128 := lt_of hf128 v132 ev132
                refine j_iinc X (v := v132) (lv' := [(9, .int v132), (7, .int v130), (0, .ref (q x0)), (1, .int x1), (2, .int x2), (3, .long x3), (5, .int x5), (6, .ref (q x6)), (8, .int x8)]) dX5_fits_149 8 rfl (by rw [ev132]; rfl) (by decide) rfl ?_
                refine j_goto X (tgt := 55) dX5_fits_152 (by decide) ?_
                refine j_lvsub [2, 3, 4, 5, 6, 7, 1, 8, 0] (lv' := [(0, .ref (q x0)), (1, .int x1), (2, .int x2), (3, .long x3), (5, .int x5), (6, .ref (q x6)), (7, .int v130), (8, .int x8), (9, .int v132)]) rfl ?_
                exact ih x0 x1 x2 x3 x5 x6 v130 x8 v132 σ90 hf128
              · have hf129 := br_y hf124 c127; clear hf124
                refine j_iload X dX5_fits_142 8 rfl ?_
                refine j_istore X (lv' := [(8, .int x9), (0, .ref (q x0)), (1, .int x1), (2, .int x2), (3, .long x3), (5, .int x5), (6, .ref (q x6)), (7, .int x7), (9, .int x9)]) dX5_fits_144 (by decide) rfl ?_
                obtain ⟨v134, ev134⟩ : ∃ y : Int32, y = x7 + (1 : Int32) := ⟨_, rfl⟩
                replace hf129 := lt_of hf129 v134 ev134
                refine j_iinc X (v := v134) (lv' := [(7, .int v134), (8, .int x9), (0, .ref (q x0)), (1, .int x1), (2, .int x2), (3, .long x3), (5, .int x5), (6, .ref (q x6)), (9, .int x9)]) dX5_fits_146 7 rfl (by rw [ev134]; rfl) (by decide) rfl ?_
                obtain ⟨v136, ev136⟩ : ∃ y : Int32, y = x9 + (1 : Int32) := ⟨_, rfl⟩
                replace hf129 := lt_of hf129 v136 ev136
                refine j_iinc X (v := v136) (lv' := [(9, .int v136), (7, .int v134), (8, .int x9), (0, .ref (q x0)), (1, .int x1), (2, .int x2), (3, .long x3), (5, .int x5), (6, .ref (q x6))]) dX5_fits_149 8 rfl (by rw [ev136]; rfl) (by decide) rfl ?_
                refine j_goto X (tgt := 55) dX5_fits_152 (by decide) ?_
                refine j_lvsub [3, 4, 5, 6, 7, 8, 1, 2, 0] (lv' := [(0, .ref (q x0)), (1, .int x1), (2, .int x2), (3, .long x3), (5, .int x5), (6, .ref (q x6)), (7, .int v134), (8, .int x9), (9, .int v136)]) rfl ?_
                exact ih x0 x1 x2 x3 x5 x6 v134 x9 v136 σ90 hf129
  refine j_aload_n X dX5_fits_0 0 rfl rfl ?_
  refine j_iload_n X dX5_fits_1 1 rfl rfl ?_
  obtain ⟨h1, hf2⟩ := chk_of hf0; clear hf0
  obtain ⟨r3, σ4, h5, hf6⟩ := bc_of hf2; clear hf2
  refine j_callV0 X [.int a1] [] (c_X5_formulaOf l D cs q a0 a1 σ _ _ h5) mk_X5_formulaOf mv_X5_formulaOf ml_X5_100 h1 rfl (by decide) ⟨rfl, rfl⟩ ⟨Nat.le_of_ble_eq_true rfl, Nat.le_of_ble_eq_true rfl⟩ rfl (Nat.le_of_ble_eq_true rfl) ⟨Nat.le_of_ble_eq_true rfl, Nat.le_of_ble_eq_true rfl⟩ dX5_fits_2 rfl (st' := [va_rf (Option.map q r3)]) rfl ?_
  refine j_astoreq X (lv' := [(6, va_rf (Option.map q r3)), (0, .ref (q a0)), (1, .int a1), (2, .int a2), (3, .long a3), (5, .int a5)]) dX5_fits_5 (by decide) rfl ?_
  refine j_aloadq X dX5_fits_7 0 rfl ?_
  refine j_ifnull X (tgt := 30) dX5_fits_9 (by decide) (fun c138 => ?_) (fun i7 c138 => ?_)
  · subst c138; have hf8 := (show _ = some (r0, σ0) from hf6); clear hf6; unfold oc at hf8; dsimp only at hf8
    refine j_iconst X (v := -1) dX5_fits_30 (by decide) ?_
    obtain ⟨er, es⟩ := rt_of hf8
    subst er
    exact j_reti X hr hlk (Nat.le_of_ble_eq_true rfl) (Nat.le_of_ble_eq_true rfl) rfl es.symm rfl dX5_fits_31
  · subst c138; have hf9 := (show _ = some (r0, σ0) from hf6); clear hf6; unfold oc at hf9; dsimp only at hf9
    refine j_iload_n X dX5_fits_12 3 rfl rfl ?_
    obtain ⟨r10, σ11, h12, hf13⟩ := bc_of hf9; clear hf9
    refine j_callS0 X [.int a2] [] (c_X5_isSource l D cs q a2 σ4 _ _ h12) mk_X5_isSource ms_X5_isSource ml_X5_61 ⟨rfl, rfl⟩ ⟨Nat.le_of_ble_eq_true rfl, Nat.le_of_ble_eq_true rfl⟩ rfl (Nat.le_of_ble_eq_true rfl) ⟨Nat.le_of_ble_eq_true rfl, Nat.le_of_ble_eq_true rfl⟩ dX5_fits_13 rfl (st' := [.int r10]) rfl ?_
    refine j_if_eq X (tgt := 30) dX5_fits_16 (by decide) (fun c14 => ?_) (fun c14 => ?_)
    · have hf15 := br_y hf13 c14; clear hf13
      refine j_iconst X (v := -1) dX5_fits_30 (by decide) ?_
      obtain ⟨er, es⟩ := rt_of hf15
      subst er
      exact j_reti X hr hlk (Nat.le_of_ble_eq_true rfl) (Nat.le_of_ble_eq_true rfl) rfl es.symm rfl dX5_fits_31
    · have hf16 := br_n hf13 c14; clear hf13
      refine j_iload X dX5_fits_19 5 rfl ?_
      refine j_if_lt X (tgt := 30) dX5_fits_21 (by decide) (fun c17 => ?_) (fun c17 => ?_)
      · have hf18 := br_y hf16 c17; clear hf16
        refine j_iconst X (v := -1) dX5_fits_30 (by decide) ?_
        obtain ⟨er, es⟩ := rt_of hf18
        subst er
        exact j_reti X hr hlk (Nat.le_of_ble_eq_true rfl) (Nat.le_of_ble_eq_true rfl) rfl es.symm rfl dX5_fits_31
      · have hf19 := br_n hf16 c17; clear hf16
        refine j_iload X dX5_fits_24 5 rfl ?_
        refine j_iconst X (v := 1) dX5_fits_26 (by decide) ?_
        refine j_icmp_le X (tgt := 32) dX5_fits_27 (by decide) (fun c20 => ?_) (fun c20 => ?_)
        · have hf21 := br_y hf19 c20; clear hf19
          refine j_iconst X (v := 0) dX5_fits_32 (by decide) ?_
          refine j_nmi (fun v23 ev23 => ?_)
          replace hf21 := lt_of hf21 v23 ev23
          refine j_istore X (lv' := [(7, .int v23), (6, .ref (q i7)), (0, .ref (q a0)), (1, .int a1), (2, .int a2), (3, .long a3), (5, .int a5)]) dX5_fits_33 (by decide) rfl ?_
          refine j_sipush X (v := -1000) dX5_fits_35 (by decide) ?_
          refine j_nmi (fun v25 ev25 => ?_)
          replace hf21 := lt_of hf21 v25 ev25
          refine j_istore X (lv' := [(8, .int v25), (7, .int v23), (6, .ref (q i7)), (0, .ref (q a0)), (1, .int a1), (2, .int a2), (3, .long a3), (5, .int a5)]) dX5_fits_38 (by decide) rfl ?_
          refine j_aload_n X dX5_fits_40 3 rfl rfl ?_
          obtain ⟨h27, hf28⟩ := chk_of hf21; clear hf21
          obtain ⟨i29, h30, hf31⟩ := bd_of hf28; clear hf28
          refine j_getr X fd_X5_35 h27 h30 dX5_fits_41 ?_
          refine j_aload_n X dX5_fits_44 3 rfl rfl ?_
          obtain ⟨i32, h33, hf34⟩ := bd_of hf31; clear hf31
          refine j_getr X fd_X5_14 h27 h33 dX5_fits_45 ?_
          obtain ⟨h35, hf36⟩ := chk_of hf34; clear hf34
          obtain ⟨r37, σ38, h39, hf40⟩ := bc_of hf36; clear hf36
          refine j_callV0 X [.ref (q i32)] [] (c_X4_standAs l D cs q i29 i32 σ11 _ _ h39) mk_X4_standAs mv_X4_standAs ml_X5_199 h35 rfl (by decide) ⟨rfl, rfl⟩ ⟨Nat.le_of_ble_eq_true rfl, Nat.le_of_ble_eq_true rfl⟩ rfl (Nat.le_of_ble_eq_true rfl) ⟨Nat.le_of_ble_eq_true rfl, Nat.le_of_ble_eq_true rfl⟩ dX5_fits_48 rfl (st' := []) rfl ?_
          refine j_bipush X (v := -99) dX5_fits_51 (by decide) ?_
          refine j_nmi (fun v41 ev41 => ?_)
          replace hf40 := lt_of hf40 v41 ev41
          refine j_istore X (lv' := [(9, .int v41), (8, .int v25), (7, .int v23), (6, .ref (q i7)), (0, .ref (q a0)), (1, .int a1), (2, .int a2), (3, .long a3), (5, .int a5)]) dX5_fits_53 (by decide) rfl ?_
          refine j_lvsub [4, 5, 6, 7, 8, 3, 2, 1, 0] (lv' := [(0, .ref (q a0)), (1, .int a1), (2, .int a2), (3, .long a3), (5, .int a5), (6, .ref (q i7)), (7, .int v23), (8, .int v25), (9, .int v41)]) rfl ?_
          exact L55  1000 a0 a1 a2 a3 a5 i7 v23 v25 v41 σ38 hf40
        · have hf22 := br_n hf19 c20; clear hf19
          refine j_iconst X (v := -1) dX5_fits_30 (by decide) ?_
          obtain ⟨er, es⟩ := rt_of hf22
          subst er
          exact j_reti X hr hlk (Nat.le_of_ble_eq_true rfl) (Nat.le_of_ble_eq_true rfl) rfl es.symm rfl dX5_fits_31
abbrev rm_X5_isList : Room := { frames := 0, cells := 0, slots := 0, locals := 0 }
set_option maxHeartbeats 4000000 in
set_option maxRecDepth 100000 in
theorem c_X5_isList (l : Launch) (D : va_G) (cs : Nat → ClassId) (q : Nat → Nat) (a0 : Int32) (σ σ0 : HS) (r0 : Int32) (hf0 : f_X5_isList a0 σ = some (r0, σ0)) : MT l yX5_isList (Cond.code yX5_isList cX5_isList 1 (some .boolean) :: lw_g) rm_X5_isList D cs q σ σ0 [.int a0] (fun z => z = q) (fun _ => some (.int r0)) 0 0 := by
  unfold f_X5_isList at hf0
  refine MT_of (cc := cX5_isList) (lv0 := [(0, .int a0)]) (by decide) (Nat.le_of_ble_eq_true rfl) rfl (fun p e s m args below meth c A X hr hlk hin => ?_)
  refine j_iload_n X dX5_isList_0 0 rfl rfl ?_
  refine j_if_lt X (tgt := 13) dX5_isList_1 (by decide) (fun c1 => ?_) (fun c1 => ?_)
  · have hf2 := br_y hf0 c1; clear hf0
    refine j_iconst X (v := 0) dX5_isList_13 (by decide) ?_
    obtain ⟨er, es⟩ := rt_of hf2
    subst er
    exact j_retz X hr hlk (Nat.le_of_ble_eq_true rfl) (Nat.le_of_ble_eq_true rfl) rfl es.symm rfl (Or.inl rfl) dX5_isList_14
  · have hf3 := br_n hf0 c1; clear hf0
    refine j_iload_n X dX5_isList_4 0 rfl rfl ?_
    refine j_iconst X (v := 4) dX5_isList_5 (by decide) ?_
    refine j_icmp_ge X (tgt := 13) dX5_isList_6 (by decide) (fun c4 => ?_) (fun c4 => ?_)
    · have hf5 := br_y hf3 c4; clear hf3
      refine j_iconst X (v := 0) dX5_isList_13 (by decide) ?_
      obtain ⟨er, es⟩ := rt_of hf5
      subst er
      exact j_retz X hr hlk (Nat.le_of_ble_eq_true rfl) (Nat.le_of_ble_eq_true rfl) rfl es.symm rfl (Or.inl rfl) dX5_isList_14
    · have hf6 := br_n hf3 c4; clear hf3
      refine j_iconst X (v := 1) dX5_isList_9 (by decide) ?_
      refine j_goto X (tgt := 14) dX5_isList_10 (by decide) ?_
      obtain ⟨er, es⟩ := rt_of hf6
      subst er
      exact j_retz X hr hlk (Nat.le_of_ble_eq_true rfl) (Nat.le_of_ble_eq_true rfl) rfl es.symm rfl (Or.inr rfl) dX5_isList_14
abbrev rm_X5_get : Room := { frames := 1, cells := 0, slots := 0, locals := 64 }
set_option maxHeartbeats 4000000 in
set_option maxRecDepth 100000 in
theorem c_X5_get (l : Launch) (D : va_G) (cs : Nat → ClassId) (q : Nat → Nat) (a0 : Nat) (a1 : Int32) (a2 : Int32) (σ σ0 : HS) (r0 : Int64) (hf0 : f_X5_get a0 a1 a2 σ = some (r0, σ0)) : MT l yX5_get (Cond.code yX5_get cX5_get 3 (some .long) :: lw_g) rm_X5_get D cs q σ σ0 [.ref (q a0), .int a1, .int a2] (fun z => z = q) (fun _ => some (.long r0)) 0 0 := by
  unfold f_X5_get at hf0
  refine MT_of (cc := cX5_get) (lv0 := [(0, .ref (q a0)), (1, .int a1), (2, .int a2)]) (by decide) (Nat.le_of_ble_eq_true rfl) rfl (fun p e s m args below meth c A X hr hlk hin => ?_)
  refine j_iload_n X dX5_get_0 1 rfl rfl ?_
  obtain ⟨r1, σ2, h3, hf4⟩ := bc_of hf0; clear hf0
  refine j_callS0 X [.int a1] [] (c_X5_isList l D cs q a1 σ _ _ h3) mk_X5_isList ms_X5_isList ml_X5_232 ⟨rfl, rfl⟩ ⟨Nat.le_of_ble_eq_true rfl, Nat.le_of_ble_eq_true rfl⟩ rfl (Nat.le_of_ble_eq_true rfl) ⟨Nat.le_of_ble_eq_true rfl, Nat.le_of_ble_eq_true rfl⟩ dX5_get_1 rfl (st' := [.int r1]) rfl ?_
  refine j_if_eq X (tgt := 21) dX5_get_4 (by decide) (fun c5 => ?_) (fun c5 => ?_)
  · have hf6 := br_y hf4 c5; clear hf4
    refine j_ldc2 X k_X5_125 dX5_get_21 ?_
    obtain ⟨er, es⟩ := rt_of hf6
    subst er
    exact j_retl X hr hlk (Nat.le_of_ble_eq_true rfl) (Nat.le_of_ble_eq_true rfl) rfl es.symm rfl dX5_get_24
  · have hf7 := br_n hf4 c5; clear hf4
    refine j_iload_n X dX5_get_7 2 rfl rfl ?_
    refine j_if_lt X (tgt := 21) dX5_get_8 (by decide) (fun c8 => ?_) (fun c8 => ?_)
    · have hf9 := br_y hf7 c8; clear hf7
      refine j_ldc2 X k_X5_125 dX5_get_21 ?_
      obtain ⟨er, es⟩ := rt_of hf9
      subst er
      exact j_retl X hr hlk (Nat.le_of_ble_eq_true rfl) (Nat.le_of_ble_eq_true rfl) rfl es.symm rfl dX5_get_24
    · have hf10 := br_n hf7 c8; clear hf7
      refine j_iload_n X dX5_get_11 2 rfl rfl ?_
      refine j_aload_n X dX5_get_12 0 rfl rfl ?_
      obtain ⟨h11, hf12⟩ := chk_of hf10; clear hf10
      obtain ⟨i13, h14, hf15⟩ := bd_of hf12; clear hf12
      refine j_getr X fd_X5_44 h11 h14 dX5_get_13 ?_
      refine j_iload_n X dX5_get_16 1 rfl rfl ?_
      obtain ⟨h16, hf17⟩ := chk_of hf15; clear hf15
      refine j_iald X h16 dX5_get_17 (fun v18 ev18 => ?_)
      replace hf17 := lt_of hf17 v18 ev18
      refine j_icmp_lt X (tgt := 25) dX5_get_18 (by decide) (fun c20 => ?_) (fun c20 => ?_)
      · have hf21 := br_y hf17 c20; clear hf17
        refine j_aload_n X dX5_get_25 0 rfl rfl ?_
        obtain ⟨i23, h24, hf25⟩ := bd_of hf21; clear hf21
        refine j_getr X fd_X5_41 h11 h24 dX5_get_26 ?_
        refine j_iload_n X dX5_get_29 1 rfl rfl ?_
        obtain ⟨h26, hf27⟩ := chk_of hf25; clear hf25
        refine j_aaldR X h26 dX5_get_30 (fun o28 eo28 => ?_)
        replace hf27 := lt_of hf27 o28 eo28
        obtain ⟨i30, h31, hf32⟩ := bd_of hf27; clear hf27; subst h31
        refine j_iload_n X dX5_get_31 2 rfl rfl ?_
        obtain ⟨h33, hf34⟩ := chk_of hf32; clear hf32
        refine j_lald X h33 dX5_get_32 (fun v35 ev35 => ?_)
        replace hf34 := lt_of hf34 v35 ev35
        obtain ⟨er, es⟩ := rt_of hf34
        subst er
        exact j_retl X hr hlk (Nat.le_of_ble_eq_true rfl) (Nat.le_of_ble_eq_true rfl) rfl es.symm rfl dX5_get_33
      · have hf22 := br_n hf17 c20; clear hf17
        refine j_ldc2 X k_X5_125 dX5_get_21 ?_
        obtain ⟨er, es⟩ := rt_of hf22
        subst er
        exact j_retl X hr hlk (Nat.le_of_ble_eq_true rfl) (Nat.le_of_ble_eq_true rfl) rfl es.symm rfl dX5_get_24
abbrev rm_X5_greatestCommon : Room := { frames := 0, cells := 0, slots := 0, locals := 0 }
set_option maxHeartbeats 4000000 in
set_option maxRecDepth 100000 in
theorem c_X5_greatestCommon (l : Launch) (D : va_G) (cs : Nat → ClassId) (q : Nat → Nat) (a0 : Int32) (a1 : Int32) (σ σ0 : HS) (r0 : Int32) (hf0 : f_X5_greatestCommon a0 a1 σ = some (r0, σ0)) : MT l yX5_greatestCommon (Cond.code yX5_greatestCommon cX5_greatestCommon 3 (some .int) :: lw_g) rm_X5_greatestCommon D cs q σ σ0 [.int a0, .int a1] (fun z => z = q) (fun _ => some (.int r0)) 0 0 := by
  unfold f_X5_greatestCommon at hf0
  refine MT_of (cc := cX5_greatestCommon) (lv0 := [(0, .int a0), (1, .int a1)]) (by decide) (Nat.le_of_ble_eq_true rfl) rfl (fun p e s m args below meth c A X hr hlk hin => ?_)
  have L2 : ∀ (nk : Nat) (x0 : Int32) (x1 : Int32) (x2 : Int32) (τ : HS), lp_X5_greatestCommon_2  nk x0 x1 x2 τ = some (r0, σ0) → J p l e rm_X5_greatestCommon s m args below meth c 3 D cs A s.heap 0 0 (MQ below (hQ D cs (fun z => z = q) (fun _ => some (.int r0)) σ0 A) args s 0 0 A) q τ [(0, .int x0), (1, .int x1), (2, .int x2)] 2 [] := by
    intro nk
    induction nk with
    | zero => intro x0 x1 x2 τ hf0; have hf1 : (none : Option (Int32 × HS)) = some (r0, σ0) := hf0; cases hf1
    | succ nk ih =>
      intro x0 x1 x2 τ hf0
      replace hf0 : lp_X5_greatestCommon_2_b  (lp_X5_greatestCommon_2  nk) x0 x1 x2 τ = some (r0, σ0) := hf0
      unfold lp_X5_greatestCommon_2_b at hf0
      refine j_iload_n X dX5_greatestCommon_2 2 rfl rfl ?_
      refine j_iconst X (v := 1) dX5_greatestCommon_3 (by decide) ?_
      refine j_icmp_le X (tgt := 27) dX5_greatestCommon_4 (by decide) (fun c1 => ?_) (fun c1 => ?_)
      · have hf2 := br_y hf0 c1; clear hf0
        refine j_iconst X (v := 1) dX5_greatestCommon_27 (by decide) ?_
        obtain ⟨er, es⟩ := rt_of hf2
        subst er
        exact j_reti X hr hlk (Nat.le_of_ble_eq_true rfl) (Nat.le_of_ble_eq_true rfl) rfl es.symm rfl dX5_greatestCommon_28
      · have hf3 := br_n hf0 c1; clear hf0
        refine j_iload_n X dX5_greatestCommon_7 0 rfl rfl ?_
        refine j_iload_n X dX5_greatestCommon_8 2 rfl rfl ?_
        obtain ⟨h4, hf5⟩ := chk_of hf3; clear hf3
        refine j_irem X dX5_greatestCommon_9 h4 ?_
        refine j_if_ne X (tgt := 21) dX5_greatestCommon_10 (by decide) (fun c6 => ?_) (fun c6 => ?_)
        · have hf7 := br_n hf5 c6; clear hf5
          obtain ⟨v9, ev9⟩ : ∃ y : Int32, y = x2 + (-1 : Int32) := ⟨_, rfl⟩
          replace hf7 := lt_of hf7 v9 ev9
          refine j_iinc X (v := v9) (lv' := [(2, .int v9), (0, .int x0), (1, .int x1)]) dX5_greatestCommon_21 2 rfl (by rw [ev9]; rfl) (by decide) rfl ?_
          refine j_goto X (tgt := 2) dX5_greatestCommon_24 (by decide) ?_
          refine j_lvsub [1, 2, 0] (lv' := [(0, .int x0), (1, .int x1), (2, .int v9)]) rfl ?_
          exact ih x0 x1 v9 τ hf7
        · have hf8 := br_y hf5 c6; clear hf5
          refine j_iload_n X dX5_greatestCommon_13 1 rfl rfl ?_
          refine j_iload_n X dX5_greatestCommon_14 2 rfl rfl ?_
          obtain ⟨h11, hf12⟩ := chk_of hf8; clear hf8
          refine j_irem X dX5_greatestCommon_15 h11 ?_
          refine j_if_ne X (tgt := 21) dX5_greatestCommon_16 (by decide) (fun c13 => ?_) (fun c13 => ?_)
          · have hf14 := br_n hf12 c13; clear hf12
            obtain ⟨v16, ev16⟩ : ∃ y : Int32, y = x2 + (-1 : Int32) := ⟨_, rfl⟩
            replace hf14 := lt_of hf14 v16 ev16
            refine j_iinc X (v := v16) (lv' := [(2, .int v16), (0, .int x0), (1, .int x1)]) dX5_greatestCommon_21 2 rfl (by rw [ev16]; rfl) (by decide) rfl ?_
            refine j_goto X (tgt := 2) dX5_greatestCommon_24 (by decide) ?_
            refine j_lvsub [1, 2, 0] (lv' := [(0, .int x0), (1, .int x1), (2, .int v16)]) rfl ?_
            exact ih x0 x1 v16 τ hf14
          · have hf15 := br_y hf12 c13; clear hf12
            refine j_iload_n X dX5_greatestCommon_19 2 rfl rfl ?_
            obtain ⟨er, es⟩ := rt_of hf15
            subst er
            exact j_reti X hr hlk (Nat.le_of_ble_eq_true rfl) (Nat.le_of_ble_eq_true rfl) rfl es.symm rfl dX5_greatestCommon_20
  refine j_iload_n X dX5_greatestCommon_0 1 rfl rfl ?_
  refine j_istore_n X (lv' := [(2, .int a1), (0, .int a0), (1, .int a1)]) dX5_greatestCommon_1 rfl (by decide) rfl ?_
  refine j_lvsub [1, 2, 0] (lv' := [(0, .int a0), (1, .int a1), (2, .int a1)]) rfl ?_
  exact L2  1000 a0 a1 a1 σ hf0
abbrev rm_X5_image : Room := { frames := 2, cells := 0, slots := 0, locals := 128 }
set_option maxHeartbeats 4000000 in
set_option maxRecDepth 100000 in
theorem c_X5_image (l : Launch) (D : va_G) (cs : Nat → ClassId) (q : Nat → Nat) (a0 : Nat) (σ σ0 : HS) (r0 : Int32) (hf0 : f_X5_image a0 σ = some (r0, σ0)) : MT l yX5_image (Cond.code yX5_image cX5_image 1 (some .int) :: lw_g) rm_X5_image D cs q σ σ0 [.ref (q a0)] (fun z => z = q) (fun _ => some (.int r0)) 0 0 := by
  unfold f_X5_image at hf0
  refine MT_of (cc := cX5_image) (lv0 := [(0, .ref (q a0))]) (by decide) (Nat.le_of_ble_eq_true rfl) rfl (fun p e s m args below meth c A X hr hlk hin => ?_)
  refine j_aload_n X dX5_image_0 0 rfl rfl ?_
  obtain ⟨h1, hf2⟩ := chk_of hf0; clear hf0
  obtain ⟨i3, h4, hf5⟩ := bd_of hf2; clear hf2
  refine j_getr X fd_X5_18 h1 h4 dX5_image_1 ?_
  refine j_aload_n X dX5_image_4 0 rfl rfl ?_
  obtain ⟨i6, h7, hf8⟩ := bd_of hf5; clear hf5
  refine j_getr X fd_X5_14 h1 h7 dX5_image_5 ?_
  obtain ⟨h9, hf10⟩ := chk_of hf8; clear hf8
  obtain ⟨r11, σ12, h13, hf14⟩ := bc_of hf10; clear hf10
  refine j_callV0 X [.ref (q i6)] [] (c_X2_becomeLike l D cs q i3 i6 σ _ _ h13) mk_X2_becomeLike mv_X2_becomeLike ml_X5_238 h9 rfl (by decide) ⟨rfl, rfl⟩ ⟨Nat.le_of_ble_eq_true rfl, Nat.le_of_ble_eq_true rfl⟩ rfl (Nat.le_of_ble_eq_true rfl) ⟨Nat.le_of_ble_eq_true rfl, Nat.le_of_ble_eq_true rfl⟩ dX5_image_8 rfl (st' := []) rfl ?_
  refine j_aload_n X dX5_image_11 0 rfl rfl ?_
  refine j_iconst X (v := 1) dX5_image_12 (by decide) ?_
  obtain ⟨h15, hf16⟩ := chk_of hf14; clear hf14
  refine j_putz X fp_X5_21 h15 (Or.inr rfl) dX5_image_13 (fun σ17 eσ17 => ?_)
  replace hf16 := lt_of hf16 σ17 eσ17
  have h19 : isO σ17 5 a0 := by rw [eσ17]; exact h15
  refine j_aload_n X dX5_image_16 0 rfl rfl ?_
  obtain ⟨i20, h21, hf22⟩ := bd_of hf16; clear hf16
  refine j_getr X fd_X5_14 h19 h21 dX5_image_17 ?_
  obtain ⟨h23, hf24⟩ := chk_of hf22; clear hf22
  refine j_geti X fd_X5_93 h23 dX5_image_20 (fun v25 ev25 => ?_)
  replace hf24 := lt_of hf24 v25 ev25
  obtain ⟨er, es⟩ := rt_of hf24
  subst er
  exact j_reti X hr hlk (Nat.le_of_ble_eq_true rfl) (Nat.le_of_ble_eq_true rfl) rfl es.symm rfl dX5_image_23
abbrev rm_X5_judge : Room := { frames := 5, cells := 0, slots := 0, locals := 320 }
set_option maxHeartbeats 4000000 in
set_option maxRecDepth 100000 in
theorem c_X5_judge (l : Launch) (D : va_G) (cs : Nat → ClassId) (q : Nat → Nat) (a0 : Nat) (a1 : Int32) (σ σ0 : HS) (r0 : Int32) (hf0 : f_X5_judge a0 a1 σ = some (r0, σ0)) : MT l yX5_judge (Cond.code yX5_judge cX5_judge 4 (some .int) :: lw_g) rm_X5_judge D cs q σ σ0 [.ref (q a0), .int a1] (fun z => z = q) (fun _ => some (.int r0)) 0 0 := by
  unfold f_X5_judge at hf0
  refine MT_of (cc := cX5_judge) (lv0 := [(0, .ref (q a0)), (1, .int a1)]) (by decide) (Nat.le_of_ble_eq_true rfl) rfl (fun p e s m args below meth c A X hr hlk hin => ?_)
  have L25 : ∀ (nk : Nat) (x0 : Nat) (x1 : Int32) (x2 : Int32) (τ : HS), lp_X5_judge_25  nk x0 x1 x2 τ = some (r0, σ0) → J p l e rm_X5_judge s m args below meth c 4 D cs A s.heap 0 0 (MQ below (hQ D cs (fun z => z = q) (fun _ => some (.int r0)) σ0 A) args s 0 0 A) q τ [(0, .ref (q x0)), (1, .int x1), (2, .int x2)] 25 [] := by
    intro nk
    induction nk with
    | zero => intro x0 x1 x2 τ hf0; have hf1 : (none : Option (Int32 × HS)) = some (r0, σ0) := hf0; cases hf1
    | succ nk ih =>
      intro x0 x1 x2 τ hf0
      replace hf0 : lp_X5_judge_25_b  (lp_X5_judge_25  nk) x0 x1 x2 τ = some (r0, σ0) := hf0
      unfold lp_X5_judge_25_b at hf0
      refine j_iload_n X dX5_judge_25 2 rfl rfl ?_
      refine j_aload_n X dX5_judge_26 0 rfl rfl ?_
      obtain ⟨h22, hf23⟩ := chk_of hf0; clear hf0
      obtain ⟨i24, h25, hf26⟩ := bd_of hf23; clear hf23
      refine j_getr X fd_X5_44 h22 h25 dX5_judge_27 ?_
      refine j_iload_n X dX5_judge_30 1 rfl rfl ?_
      obtain ⟨h27, hf28⟩ := chk_of hf26; clear hf26
      refine j_iald X h27 dX5_judge_31 (fun v29 ev29 => ?_)
      replace hf28 := lt_of hf28 v29 ev29
      refine j_icmp_ge X (tgt := 97) dX5_judge_32 (by decide) (fun c31 => ?_) (fun c31 => ?_)
      · have hf32 := br_y hf28 c31; clear hf28
        refine j_bipush X (v := -5) dX5_judge_97 (by decide) ?_
        obtain ⟨er, es⟩ := rt_of hf32
        subst er
        exact j_reti X hr hlk (Nat.le_of_ble_eq_true rfl) (Nat.le_of_ble_eq_true rfl) rfl es.symm rfl dX5_judge_99
      · have hf33 := br_n hf28 c31; clear hf28
        refine j_aload_n X dX5_judge_35 0 rfl rfl ?_
        refine j_iload_n X dX5_judge_36 2 rfl rfl ?_
        obtain ⟨r34, σ35, h36, hf37⟩ := bc_of hf33; clear hf33
        refine j_callV0 X [.int x2] [] (c_X5_formulaOf l D cs q x0 x2 τ _ _ h36) mk_X5_formulaOf mv_X5_formulaOf ml_X5_100 h22 rfl (by decide) ⟨rfl, rfl⟩ ⟨Nat.le_of_ble_eq_true rfl, Nat.le_of_ble_eq_true rfl⟩ rfl (Nat.le_of_ble_eq_true rfl) ⟨Nat.le_of_ble_eq_true rfl, Nat.le_of_ble_eq_true rfl⟩ dX5_judge_37 rfl (st' := [va_rf (Option.map q r34)]) rfl ?_
        refine j_astore_nq X (lv' := [(3, va_rf (Option.map q r34)), (0, .ref (q x0)), (1, .int x1), (2, .int x2)]) dX5_judge_40 rfl (by decide) rfl ?_
        refine j_aload_nq X dX5_judge_41 0 rfl rfl ?_
        refine j_ifnonnull X (tgt := 47) dX5_judge_42 (by decide) (fun c94 => ?_) (fun i38 c94 => ?_)
        · subst c94; have hf39 := (show _ = some (r0, σ0) from hf37); clear hf37; unfold oc at hf39; dsimp only at hf39
          refine j_iload_n X dX5_judge_45 3 rfl rfl ?_
          obtain ⟨er, es⟩ := rt_of hf39
          subst er
          exact j_reti X hr hlk (Nat.le_of_ble_eq_true rfl) (Nat.le_of_ble_eq_true rfl) rfl es.symm rfl dX5_judge_46
        · subst c94; have hf40 := (show _ = some (r0, σ0) from hf37); clear hf37; unfold oc at hf40; dsimp only at hf40
          refine j_aload_n X dX5_judge_47 1 rfl rfl ?_
          refine j_aload_n X dX5_judge_48 0 rfl rfl ?_
          obtain ⟨h41, hf42⟩ := chk_of hf40; clear hf40
          obtain ⟨r43, σ44, h45, hf46⟩ := bc_of hf42; clear hf42
          refine j_callV0 X [.ref (q i38)] [] (c_X5_carryAsItIs l D cs q x0 i38 σ35 _ _ h45) mk_X5_carryAsItIs mv_X5_carryAsItIs ml_X5_127 h41 rfl (by decide) ⟨rfl, rfl⟩ ⟨Nat.le_of_ble_eq_true rfl, Nat.le_of_ble_eq_true rfl⟩ rfl (Nat.le_of_ble_eq_true rfl) ⟨Nat.le_of_ble_eq_true rfl, Nat.le_of_ble_eq_true rfl⟩ dX5_judge_49 rfl (st' := []) rfl ?_
          refine j_aload_n X dX5_judge_52 1 rfl rfl ?_
          obtain ⟨h47, hf48⟩ := chk_of hf46; clear hf46
          obtain ⟨i49, h50, hf51⟩ := bd_of hf48; clear hf48
          refine j_getr X fd_X5_35 h47 h50 dX5_judge_53 ?_
          obtain ⟨h52, hf53⟩ := chk_of hf51; clear hf51
          obtain ⟨r54, σ55, h56, hf57⟩ := bc_of hf53; clear hf53
          refine j_callV0 X [] [] (c_X4_hasWidth l D cs q i49 σ44 _ _ h56) mk_X4_hasWidth mv_X4_hasWidth ml_X5_180 h52 rfl (by decide) ⟨rfl, rfl⟩ ⟨Nat.le_of_ble_eq_true rfl, Nat.le_of_ble_eq_true rfl⟩ rfl (Nat.le_of_ble_eq_true rfl) ⟨Nat.le_of_ble_eq_true rfl, Nat.le_of_ble_eq_true rfl⟩ dX5_judge_56 rfl (st' := [.int r54]) rfl ?_
          refine j_if_eq X (tgt := 89) dX5_judge_59 (by decide) (fun c58 => ?_) (fun c58 => ?_)
          · have hf59 := br_y hf57 c58; clear hf57
            refine j_iload_n X dX5_judge_89 3 rfl rfl ?_
            obtain ⟨er, es⟩ := rt_of hf59
            subst er
            exact j_reti X hr hlk (Nat.le_of_ble_eq_true rfl) (Nat.le_of_ble_eq_true rfl) rfl es.symm rfl dX5_judge_90
          · have hf60 := br_n hf57 c58; clear hf57
            refine j_aload_n X dX5_judge_62 1 rfl rfl ?_
            obtain ⟨h61, hf62⟩ := chk_of hf60; clear hf60
            obtain ⟨i63, h64, hf65⟩ := bd_of hf62; clear hf62
            refine j_getr X fd_X5_35 h61 h64 dX5_judge_63 ?_
            obtain ⟨h66, hf67⟩ := chk_of hf65; clear hf65
            refine j_getl X fd_X5_184 h66 dX5_judge_66 (fun v68 ev68 => ?_)
            replace hf67 := lt_of hf67 v68 ev68
            refine j_aload_n X dX5_judge_69 1 rfl rfl ?_
            refine j_getr X fd_X5_35 h61 h64 dX5_judge_70 ?_
            refine j_getl X fd_X5_188 h66 dX5_judge_73 (fun v73 ev73 => ?_)
            replace hf67 := lt_of hf67 v73 ev73
            refine j_lsub X dX5_judge_76 ?_
            refine j_aload_n X dX5_judge_77 1 rfl rfl ?_
            obtain ⟨i75, h76, hf77⟩ := bd_of hf67; clear hf67
            refine j_getr X fd_X5_41 h61 h76 dX5_judge_78 ?_
            refine j_iload_n X dX5_judge_81 2 rfl rfl ?_
            obtain ⟨h78, hf79⟩ := chk_of hf77; clear hf77
            refine j_aaldR X h78 dX5_judge_82 (fun o80 eo80 => ?_)
            replace hf79 := lt_of hf79 o80 eo80
            obtain ⟨i82, h83, hf84⟩ := bd_of hf79; clear hf79; subst h83
            refine j_iload_n X dX5_judge_83 3 rfl rfl ?_
            obtain ⟨h85, hf86⟩ := chk_of hf84; clear hf84
            refine j_lald X h85 dX5_judge_84 (fun v87 ev87 => ?_)
            replace hf86 := lt_of hf86 v87 ev87
            refine j_lcmp X dX5_judge_85 ?_
            refine j_if_eq X (tgt := 91) dX5_judge_86 (by decide) (fun c89 => ?_) (fun c89 => ?_)
            · have hf90 := br_y hf86 c89; clear hf86
              obtain ⟨v92, ev92⟩ : ∃ y : Int32, y = x2 + (1 : Int32) := ⟨_, rfl⟩
              replace hf90 := lt_of hf90 v92 ev92
              refine j_iinc X (v := v92) (lv' := [(2, .int v92), (3, .ref (q i38)), (0, .ref (q x0)), (1, .int x1)]) dX5_judge_91 3 rfl (by rw [ev92]; rfl) (by decide) rfl ?_
              refine j_goto X (tgt := 25) dX5_judge_94 (by decide) ?_
              refine j_lvsub [2, 3, 0] (lv' := [(0, .ref (q x0)), (1, .int x1), (2, .int v92)]) rfl ?_
              exact ih x0 x1 v92 σ55 hf90
            · have hf91 := br_n hf86 c89; clear hf86
              refine j_iload_n X dX5_judge_89 3 rfl rfl ?_
              obtain ⟨er, es⟩ := rt_of hf91
              subst er
              exact j_reti X hr hlk (Nat.le_of_ble_eq_true rfl) (Nat.le_of_ble_eq_true rfl) rfl es.symm rfl dX5_judge_90
  refine j_iload_n X dX5_judge_0 1 rfl rfl ?_
  obtain ⟨r1, σ2, h3, hf4⟩ := bc_of hf0; clear hf0
  refine j_callS0 X [.int a1] [] (c_X5_isList l D cs q a1 σ _ _ h3) mk_X5_isList ms_X5_isList ml_X5_232 ⟨rfl, rfl⟩ ⟨Nat.le_of_ble_eq_true rfl, Nat.le_of_ble_eq_true rfl⟩ rfl (Nat.le_of_ble_eq_true rfl) ⟨Nat.le_of_ble_eq_true rfl, Nat.le_of_ble_eq_true rfl⟩ dX5_judge_1 rfl (st' := [.int r1]) rfl ?_
  refine j_if_ne X (tgt := 9) dX5_judge_4 (by decide) (fun c5 => ?_) (fun c5 => ?_)
  · have hf6 := br_n hf4 c5; clear hf4
    refine j_aload_n X dX5_judge_9 0 rfl rfl ?_
    obtain ⟨h8, hf9⟩ := chk_of hf6; clear hf6
    obtain ⟨i10, h11, hf12⟩ := bd_of hf9; clear hf9
    refine j_getr X fd_X5_44 h8 h11 dX5_judge_10 ?_
    refine j_iload_n X dX5_judge_13 1 rfl rfl ?_
    obtain ⟨h13, hf14⟩ := chk_of hf12; clear hf12
    refine j_iald X h13 dX5_judge_14 (fun v15 ev15 => ?_)
    replace hf14 := lt_of hf14 v15 ev15
    refine j_bipush X (v := -11) dX5_judge_15 (by decide) ?_
    refine j_icmp_ne X (tgt := 23) dX5_judge_17 (by decide) (fun c17 => ?_) (fun c17 => ?_)
    · have hf18 := br_n hf14 c17; clear hf14
      refine j_iconst X (v := 0) dX5_judge_23 (by decide) ?_
      refine j_nmi (fun v20 ev20 => ?_)
      replace hf18 := lt_of hf18 v20 ev20
      refine j_istore_n X (lv' := [(2, .int v20), (0, .ref (q a0)), (1, .int a1)]) dX5_judge_24 rfl (by decide) rfl ?_
      refine j_lvsub [1, 2, 0] (lv' := [(0, .ref (q a0)), (1, .int a1), (2, .int v20)]) rfl ?_
      exact L25  1000 a0 a1 v20 σ2 hf18
    · have hf19 := br_y hf14 c17; clear hf14
      refine j_bipush X (v := -11) dX5_judge_20 (by decide) ?_
      obtain ⟨er, es⟩ := rt_of hf19
      subst er
      exact j_reti X hr hlk (Nat.le_of_ble_eq_true rfl) (Nat.le_of_ble_eq_true rfl) rfl es.symm rfl dX5_judge_22
  · have hf7 := br_y hf4 c5; clear hf4
    refine j_iconst X (v := -1) dX5_judge_7 (by decide) ?_
    obtain ⟨er, es⟩ := rt_of hf7
    subst er
    exact j_reti X hr hlk (Nat.le_of_ble_eq_true rfl) (Nat.le_of_ble_eq_true rfl) rfl es.symm rfl dX5_judge_8
abbrev rm_X5_keepWay : Room := { frames := 2, cells := 0, slots := 0, locals := 128 }
set_option maxHeartbeats 4000000 in
set_option maxRecDepth 100000 in
theorem c_X5_keepWay (l : Launch) (D : va_G) (cs : Nat → ClassId) (q : Nat → Nat) (a0 : Nat) (a1 : Nat) (σ σ0 : HS) (r0 : Unit) (hf0 : f_X5_keepWay a0 a1 σ = some (r0, σ0)) : MT l yX5_keepWay (Cond.code yX5_keepWay cX5_keepWay 3 none :: lw_g) rm_X5_keepWay D cs q σ σ0 [.ref (q a0), .ref (q a1)] (fun z => z = q) (fun _ => none) 0 0 := by
  unfold f_X5_keepWay at hf0
  refine MT_of (cc := cX5_keepWay) (lv0 := [(0, .ref (q a0)), (1, .ref (q a1))]) (by decide) (Nat.le_of_ble_eq_true rfl) rfl (fun p e s m args below meth c A X hr hlk hin => ?_)
  have L12 : ∀ (nk : Nat) (x0 : Nat) (x1 : Nat) (x2 : Int32) (τ : HS), lp_X5_keepWay_12  nk x0 x1 x2 τ = some (r0, σ0) → J p l e rm_X5_keepWay s m args below meth c 3 D cs A s.heap 0 0 (MQ below (hQ D cs (fun z => z = q) (fun _ => none) σ0 A) args s 0 0 A) q τ [(0, .ref (q x0)), (1, .ref (q x1)), (2, .int x2)] 12 [] := by
    intro nk
    induction nk with
    | zero => intro x0 x1 x2 τ hf0; have hf1 : (none : Option (Unit × HS)) = some (r0, σ0) := hf0; cases hf1
    | succ nk ih =>
      intro x0 x1 x2 τ hf0
      replace hf0 : lp_X5_keepWay_12_b  (lp_X5_keepWay_12  nk) x0 x1 x2 τ = some (r0, σ0) := hf0
      unfold lp_X5_keepWay_12_b at hf0
      refine j_iload_n X dX5_keepWay_12 2 rfl rfl ?_
      refine j_if_lt X (tgt := 63) dX5_keepWay_13 (by decide) (fun c12 => ?_) (fun c12 => ?_)
      · have hf13 := br_y hf0 c12; clear hf0
        obtain ⟨er, es⟩ := rt_of hf13
        exact j_retv X hr hlk (Nat.le_of_ble_eq_true rfl) (Nat.le_of_ble_eq_true rfl) rfl es.symm rfl dX5_keepWay_63
      · have hf14 := br_n hf0 c12; clear hf0
        refine j_aload_n X dX5_keepWay_16 0 rfl rfl ?_
        obtain ⟨h15, hf16⟩ := chk_of hf14; clear hf14
        refine j_geti X fd_X5_51 h15 dX5_keepWay_17 (fun v17 ev17 => ?_)
        replace hf16 := lt_of hf16 v17 ev17
        refine j_bipush X (v := 60) dX5_keepWay_20 (by decide) ?_
        refine j_icmp_ge X (tgt := 63) dX5_keepWay_22 (by decide) (fun c19 => ?_) (fun c19 => ?_)
        · have hf20 := br_y hf16 c19; clear hf16
          obtain ⟨er, es⟩ := rt_of hf20
          exact j_retv X hr hlk (Nat.le_of_ble_eq_true rfl) (Nat.le_of_ble_eq_true rfl) rfl es.symm rfl dX5_keepWay_63
        · have hf21 := br_n hf16 c19; clear hf16
          refine j_aload_n X dX5_keepWay_25 0 rfl rfl ?_
          obtain ⟨i22, h23, hf24⟩ := bd_of hf21; clear hf21
          refine j_getr X fd_X5_48 h15 h23 dX5_keepWay_26 ?_
          refine j_aload_n X dX5_keepWay_29 0 rfl rfl ?_
          refine j_geti X fd_X5_51 h15 dX5_keepWay_30 (fun v25 ev25 => ?_)
          replace hf24 := lt_of hf24 v25 ev25
          refine j_aload_n X dX5_keepWay_33 1 rfl rfl ?_
          obtain ⟨h27, hf28⟩ := chk_of hf24; clear hf24
          obtain ⟨i29, h30, hf31⟩ := bd_of hf28; clear hf28
          refine j_getr X fd_X5_248 h27 h30 dX5_keepWay_34 ?_
          refine j_iload_n X dX5_keepWay_37 2 rfl rfl ?_
          obtain ⟨h32, hf33⟩ := chk_of hf31; clear hf31
          refine j_iald X h32 dX5_keepWay_38 (fun v34 ev34 => ?_)
          replace hf33 := lt_of hf33 v34 ev34
          obtain ⟨h36, hf37⟩ := chk_of hf33; clear hf33
          refine j_iast X h36 dX5_keepWay_39 (fun σ38 eσ38 => ?_)
          replace hf37 := lt_of hf37 σ38 eσ38
          have h40 : isO σ38 5 x0 := by rw [eσ38]; exact h15
          have h41 : isO σ38 0 x1 := by rw [eσ38]; exact h27
          refine j_aload_n X dX5_keepWay_40 0 rfl rfl ?_
          refine j_dup X dX5_keepWay_41 rfl ?_
          refine j_geti X fd_X5_51 h40 dX5_keepWay_42 (fun v42 ev42 => ?_)
          replace hf37 := lt_of hf37 v42 ev42
          refine j_iconst X (v := 1) dX5_keepWay_45 (by decide) ?_
          refine j_iadd X dX5_keepWay_46 ?_
          refine j_puti X fp_X5_51 h40 dX5_keepWay_47 (fun σ44 eσ44 => ?_)
          replace hf37 := lt_of hf37 σ44 eσ44
          have h46 : isO σ44 5 x0 := by rw [eσ44]; exact h40
          have h47 : isO σ44 0 x1 := by rw [eσ44]; exact h41
          refine j_aload_n X dX5_keepWay_50 0 rfl rfl ?_
          obtain ⟨i48, h49, hf50⟩ := bd_of hf37; clear hf37
          refine j_getr X fd_X5_35 h46 h49 dX5_keepWay_51 ?_
          refine j_aload_n X dX5_keepWay_54 1 rfl rfl ?_
          refine j_iload_n X dX5_keepWay_55 2 rfl rfl ?_
          obtain ⟨h51, hf52⟩ := chk_of hf50; clear hf50
          obtain ⟨r53, σ54, h55, hf56⟩ := bc_of hf52; clear hf52
          refine j_callV0 X [.ref (q x1), .int x2] [] (c_X4_firstOverOf l D cs q i48 x1 x2 σ44 _ _ h55) mk_X4_firstOverOf mv_X4_firstOverOf ml_X5_251 h51 rfl (by decide) ⟨rfl, rfl⟩ ⟨Nat.le_of_ble_eq_true rfl, Nat.le_of_ble_eq_true rfl⟩ rfl (Nat.le_of_ble_eq_true rfl) ⟨Nat.le_of_ble_eq_true rfl, Nat.le_of_ble_eq_true rfl⟩ dX5_keepWay_56 rfl (st' := [.int r53]) rfl ?_
          refine j_istore_n X (lv' := [(2, .int r53), (0, .ref (q x0)), (1, .ref (q x1))]) dX5_keepWay_59 rfl (by decide) rfl ?_
          refine j_goto X (tgt := 12) dX5_keepWay_60 (by decide) ?_
          refine j_lvsub [1, 2, 0] (lv' := [(0, .ref (q x0)), (1, .ref (q x1)), (2, .int r53)]) rfl ?_
          exact ih x0 x1 r53 σ54 hf56
  refine j_aload_n X dX5_keepWay_0 0 rfl rfl ?_
  refine j_iconst X (v := 0) dX5_keepWay_1 (by decide) ?_
  obtain ⟨h1, hf2⟩ := chk_of hf0; clear hf0
  refine j_puti X fp_X5_51 h1 dX5_keepWay_2 (fun σ3 eσ3 => ?_)
  replace hf2 := lt_of hf2 σ3 eσ3
  have h5 : isO σ3 5 a0 := by rw [eσ3]; exact h1
  refine j_aload_n X dX5_keepWay_5 1 rfl rfl ?_
  obtain ⟨h6, hf7⟩ := chk_of hf2; clear hf2
  refine j_geti X fd_X5_104 h6 dX5_keepWay_6 (fun v8 ev8 => ?_)
  replace hf7 := lt_of hf7 v8 ev8
  refine j_iconst X (v := 1) dX5_keepWay_9 (by decide) ?_
  refine j_isub X dX5_keepWay_10 ?_
  refine j_nmi (fun v10 ev10 => ?_)
  replace hf7 := lt_of hf7 v10 ev10
  refine j_istore_n X (lv' := [(2, .int v10), (0, .ref (q a0)), (1, .ref (q a1))]) dX5_keepWay_11 rfl (by decide) rfl ?_
  refine j_lvsub [1, 2, 0] (lv' := [(0, .ref (q a0)), (1, .ref (q a1)), (2, .int v10)]) rfl ?_
  exact L12  1000 a0 a1 v10 σ3 hf7
abbrev rm_X5_list : Room := { frames := 1, cells := 0, slots := 0, locals := 64 }
set_option maxHeartbeats 4000000 in
set_option maxRecDepth 100000 in
theorem c_X5_list (l : Launch) (D : va_G) (cs : Nat → ClassId) (q : Nat → Nat) (a0 : Nat) (a1 : Int32) (a2 : Int32) (σ σ0 : HS) (r0 : Int32) (hf0 : f_X5_list a0 a1 a2 σ = some (r0, σ0)) : MT l yX5_list (Cond.code yX5_list cX5_list 3 (some .int) :: lw_g) rm_X5_list D cs q σ σ0 [.ref (q a0), .int a1, .int a2] (fun z => z = q) (fun _ => some (.int r0)) 0 0 := by
  unfold f_X5_list at hf0
  refine MT_of (cc := cX5_list) (lv0 := [(0, .ref (q a0)), (1, .int a1), (2, .int a2)]) (by decide) (Nat.le_of_ble_eq_true rfl) rfl (fun p e s m args below meth c A X hr hlk hin => ?_)
  refine j_iload_n X dX5_list_0 1 rfl rfl ?_
  obtain ⟨r1, σ2, h3, hf4⟩ := bc_of hf0; clear hf0
  refine j_callS0 X [.int a1] [] (c_X5_isList l D cs q a1 σ _ _ h3) mk_X5_isList ms_X5_isList ml_X5_232 ⟨rfl, rfl⟩ ⟨Nat.le_of_ble_eq_true rfl, Nat.le_of_ble_eq_true rfl⟩ rfl (Nat.le_of_ble_eq_true rfl) ⟨Nat.le_of_ble_eq_true rfl, Nat.le_of_ble_eq_true rfl⟩ dX5_list_1 rfl (st' := [.int r1]) rfl ?_
  refine j_if_ne X (tgt := 9) dX5_list_4 (by decide) (fun c5 => ?_) (fun c5 => ?_)
  · have hf6 := br_n hf4 c5; clear hf4
    refine j_iload_n X dX5_list_9 2 rfl rfl ?_
    refine j_bipush X (v := 8) dX5_list_10 (by decide) ?_
    refine j_icmp_le X (tgt := 18) dX5_list_12 (by decide) (fun c8 => ?_) (fun c8 => ?_)
    · have hf9 := br_y hf6 c8; clear hf6
      refine j_iload_n X dX5_list_18 2 rfl rfl ?_
      refine j_if_ge X (tgt := 25) dX5_list_19 (by decide) (fun c11 => ?_) (fun c11 => ?_)
      · have hf12 := br_y hf9 c11; clear hf9
        refine j_aload_n X dX5_list_25 0 rfl rfl ?_
        obtain ⟨h14, hf15⟩ := chk_of hf12; clear hf12
        obtain ⟨i16, h17, hf18⟩ := bd_of hf15; clear hf15
        refine j_getr X fd_X5_41 h14 h17 dX5_list_26 ?_
        refine j_iload_n X dX5_list_29 1 rfl rfl ?_
        obtain ⟨h19, hf20⟩ := chk_of hf18; clear hf18
        refine j_aaldR X h19 dX5_list_30 (fun o21 eo21 => ?_)
        replace hf20 := lt_of hf20 o21 eo21
        obtain ⟨i23, h24, hf25⟩ := bd_of hf20; clear hf20; subst h24
        refine j_lconst X (v := 0) dX5_list_31 (by decide) ?_
        obtain ⟨r26, σ27, h28, hf29⟩ := bc_of hf25; clear hf25
        refine j_callS0 X [.ref (q i23), .long (0 : Int64)] [] (c_J7_fill_d0a16 l D cs q i23 (0 : Int64) σ2 _ _ h28) mk_J7_fill_d0a16 ms_J7_fill_d0a16 ml_X5_235 ⟨rfl, rfl⟩ ⟨Nat.le_of_ble_eq_true rfl, Nat.le_of_ble_eq_true rfl⟩ rfl (Nat.le_of_ble_eq_true rfl) ⟨Nat.le_of_ble_eq_true rfl, Nat.le_of_ble_eq_true rfl⟩ dX5_list_32 rfl (st' := []) rfl ?_
        refine j_aload_n X dX5_list_35 0 rfl rfl ?_
        obtain ⟨h30, hf31⟩ := chk_of hf29; clear hf29
        obtain ⟨i32, h33, hf34⟩ := bd_of hf31; clear hf31
        refine j_getr X fd_X5_44 h30 h33 dX5_list_36 ?_
        refine j_iload_n X dX5_list_39 1 rfl rfl ?_
        refine j_iload_n X dX5_list_40 2 rfl rfl ?_
        obtain ⟨h35, hf36⟩ := chk_of hf34; clear hf34
        refine j_iast X h35 dX5_list_41 (fun σ37 eσ37 => ?_)
        replace hf36 := lt_of hf36 σ37 eσ37
        have h39 : isO σ37 5 a0 := by rw [eσ37]; exact h30
        refine j_iconst X (v := 1) dX5_list_42 (by decide) ?_
        obtain ⟨er, es⟩ := rt_of hf36
        subst er
        exact j_reti X hr hlk (Nat.le_of_ble_eq_true rfl) (Nat.le_of_ble_eq_true rfl) rfl es.symm rfl dX5_list_43
      · have hf13 := br_n hf9 c11; clear hf9
        refine j_bipush X (v := -14) dX5_list_22 (by decide) ?_
        obtain ⟨er, es⟩ := rt_of hf13
        subst er
        exact j_reti X hr hlk (Nat.le_of_ble_eq_true rfl) (Nat.le_of_ble_eq_true rfl) rfl es.symm rfl dX5_list_24
    · have hf10 := br_n hf6 c8; clear hf6
      refine j_bipush X (v := -2) dX5_list_15 (by decide) ?_
      obtain ⟨er, es⟩ := rt_of hf10
      subst er
      exact j_reti X hr hlk (Nat.le_of_ble_eq_true rfl) (Nat.le_of_ble_eq_true rfl) rfl es.symm rfl dX5_list_17
  · have hf7 := br_y hf4 c5; clear hf4
    refine j_iconst X (v := -1) dX5_list_7 (by decide) ?_
    obtain ⟨er, es⟩ := rt_of hf7
    subst er
    exact j_reti X hr hlk (Nat.le_of_ble_eq_true rfl) (Nat.le_of_ble_eq_true rfl) rfl es.symm rfl dX5_list_8
abbrev rm_X5_mayBecome : Room := { frames := 0, cells := 0, slots := 0, locals := 0 }
set_option maxHeartbeats 4000000 in
set_option maxRecDepth 100000 in
theorem c_X5_mayBecome (l : Launch) (D : va_G) (cs : Nat → ClassId) (q : Nat → Nat) (a0 : Int32) (a1 : Int32) (σ σ0 : HS) (r0 : Int32) (hf0 : f_X5_mayBecome a0 a1 σ = some (r0, σ0)) : MT l yX5_mayBecome (Cond.code yX5_mayBecome cX5_mayBecome 2 (some .boolean) :: lw_g) rm_X5_mayBecome D cs q σ σ0 [.int a0, .int a1] (fun z => z = q) (fun _ => some (.int r0)) 0 0 := by
  unfold f_X5_mayBecome at hf0
  refine MT_of (cc := cX5_mayBecome) (lv0 := [(0, .int a0), (1, .int a1)]) (by decide) (Nat.le_of_ble_eq_true rfl) rfl (fun p e s m args below meth c A X hr hlk hin => ?_)
  refine j_iload_n X dX5_mayBecome_0 0 rfl rfl ?_
  by_cases c1 : a0 = (0 : Int32)
  · have hf2 := br_y hf0 c1; clear hf0
    refine j_lookup X (off := 27) (tgt := 28) dX5_mayBecome_1 rfl (by rw [c1]; rfl) (by decide) ?_
    refine j_iload_n X dX5_mayBecome_28 1 rfl rfl ?_
    refine j_bipush X (v := -99) dX5_mayBecome_29 (by decide) ?_
    refine j_icmp_lt X (tgt := 44) dX5_mayBecome_31 (by decide) (fun c4 => ?_) (fun c4 => ?_)
    · have hf5 := br_y hf2 c4; clear hf2
      refine j_iconst X (v := 0) dX5_mayBecome_44 (by decide) ?_
      obtain ⟨er, es⟩ := rt_of hf5
      subst er
      exact j_retz X hr hlk (Nat.le_of_ble_eq_true rfl) (Nat.le_of_ble_eq_true rfl) rfl es.symm rfl (Or.inl rfl) dX5_mayBecome_45
    · have hf6 := br_n hf2 c4; clear hf2
      refine j_iload_n X dX5_mayBecome_34 1 rfl rfl ?_
      refine j_bipush X (v := 99) dX5_mayBecome_35 (by decide) ?_
      refine j_icmp_gt X (tgt := 44) dX5_mayBecome_37 (by decide) (fun c7 => ?_) (fun c7 => ?_)
      · have hf8 := br_y hf6 c7; clear hf6
        refine j_iconst X (v := 0) dX5_mayBecome_44 (by decide) ?_
        obtain ⟨er, es⟩ := rt_of hf8
        subst er
        exact j_retz X hr hlk (Nat.le_of_ble_eq_true rfl) (Nat.le_of_ble_eq_true rfl) rfl es.symm rfl (Or.inl rfl) dX5_mayBecome_45
      · have hf9 := br_n hf6 c7; clear hf6
        refine j_iconst X (v := 1) dX5_mayBecome_40 (by decide) ?_
        refine j_goto X (tgt := 45) dX5_mayBecome_41 (by decide) ?_
        obtain ⟨er, es⟩ := rt_of hf9
        subst er
        exact j_retz X hr hlk (Nat.le_of_ble_eq_true rfl) (Nat.le_of_ble_eq_true rfl) rfl es.symm rfl (Or.inr rfl) dX5_mayBecome_45
  · have hf3 := br_n hf0 c1; clear hf0
    by_cases c10 : a0 = (1 : Int32)
    · have hf11 := br_y hf3 c10; clear hf3
      refine j_lookup X (off := 45) (tgt := 46) dX5_mayBecome_1 rfl (by rw [c10]; rfl) (by decide) ?_
      refine j_iload_n X dX5_mayBecome_46 1 rfl rfl ?_
      refine j_if_lt X (tgt := 60) dX5_mayBecome_47 (by decide) (fun c13 => ?_) (fun c13 => ?_)
      · have hf14 := br_y hf11 c13; clear hf11
        refine j_iconst X (v := 0) dX5_mayBecome_60 (by decide) ?_
        obtain ⟨er, es⟩ := rt_of hf14
        subst er
        exact j_retz X hr hlk (Nat.le_of_ble_eq_true rfl) (Nat.le_of_ble_eq_true rfl) rfl es.symm rfl (Or.inl rfl) dX5_mayBecome_61
      · have hf15 := br_n hf11 c13; clear hf11
        refine j_iload_n X dX5_mayBecome_50 1 rfl rfl ?_
        refine j_bipush X (v := 20) dX5_mayBecome_51 (by decide) ?_
        refine j_icmp_gt X (tgt := 60) dX5_mayBecome_53 (by decide) (fun c16 => ?_) (fun c16 => ?_)
        · have hf17 := br_y hf15 c16; clear hf15
          refine j_iconst X (v := 0) dX5_mayBecome_60 (by decide) ?_
          obtain ⟨er, es⟩ := rt_of hf17
          subst er
          exact j_retz X hr hlk (Nat.le_of_ble_eq_true rfl) (Nat.le_of_ble_eq_true rfl) rfl es.symm rfl (Or.inl rfl) dX5_mayBecome_61
        · have hf18 := br_n hf15 c16; clear hf15
          refine j_iconst X (v := 1) dX5_mayBecome_56 (by decide) ?_
          refine j_goto X (tgt := 61) dX5_mayBecome_57 (by decide) ?_
          obtain ⟨er, es⟩ := rt_of hf18
          subst er
          exact j_retz X hr hlk (Nat.le_of_ble_eq_true rfl) (Nat.le_of_ble_eq_true rfl) rfl es.symm rfl (Or.inr rfl) dX5_mayBecome_61
    · have hf12 := br_n hf3 c10; clear hf3
      refine j_lookup X (off := 61) (tgt := 62) dX5_mayBecome_1 rfl (by show Op.lookupswitch.offset ([(0, 27), (1, 45)] : List (Int × Int)) 61 _ = 61; rw [lv_osw c1 (show ((0 : Int32)).toInt = 0 from rfl), lv_osw c10 (show ((1 : Int32)).toInt = 1 from rfl)]; rfl) (by decide) ?_
      refine j_iload_n X dX5_mayBecome_62 1 rfl rfl ?_
      refine j_if_lt X (tgt := 76) dX5_mayBecome_63 (by decide) (fun c19 => ?_) (fun c19 => ?_)
      · have hf20 := br_y hf12 c19; clear hf12
        refine j_iconst X (v := 0) dX5_mayBecome_76 (by decide) ?_
        obtain ⟨er, es⟩ := rt_of hf20
        subst er
        exact j_retz X hr hlk (Nat.le_of_ble_eq_true rfl) (Nat.le_of_ble_eq_true rfl) rfl es.symm rfl (Or.inl rfl) dX5_mayBecome_77
      · have hf21 := br_n hf12 c19; clear hf12
        refine j_iload_n X dX5_mayBecome_66 1 rfl rfl ?_
        refine j_bipush X (v := 99) dX5_mayBecome_67 (by decide) ?_
        refine j_icmp_gt X (tgt := 76) dX5_mayBecome_69 (by decide) (fun c22 => ?_) (fun c22 => ?_)
        · have hf23 := br_y hf21 c22; clear hf21
          refine j_iconst X (v := 0) dX5_mayBecome_76 (by decide) ?_
          obtain ⟨er, es⟩ := rt_of hf23
          subst er
          exact j_retz X hr hlk (Nat.le_of_ble_eq_true rfl) (Nat.le_of_ble_eq_true rfl) rfl es.symm rfl (Or.inl rfl) dX5_mayBecome_77
        · have hf24 := br_n hf21 c22; clear hf21
          refine j_iconst X (v := 1) dX5_mayBecome_72 (by decide) ?_
          refine j_goto X (tgt := 77) dX5_mayBecome_73 (by decide) ?_
          obtain ⟨er, es⟩ := rt_of hf24
          subst er
          exact j_retz X hr hlk (Nat.le_of_ble_eq_true rfl) (Nat.le_of_ble_eq_true rfl) rfl es.symm rfl (Or.inr rfl) dX5_mayBecome_77
abbrev rm_X5_odds : Room := { frames := 5, cells := 0, slots := 0, locals := 320 }
set_option maxHeartbeats 4000000 in
set_option maxRecDepth 100000 in
theorem c_X5_odds (l : Launch) (D : va_G) (cs : Nat → ClassId) (q : Nat → Nat) (a0 : Nat) (a1 : Int32) (a2 : Int32) (a3 : Int32) (a4 : Int64) (a6 : Int64) (a8 : Int32) (σ σ0 : HS) (r0 : Int64) (hf0 : f_X5_odds a0 a1 a2 a3 a4 a6 a8 σ = some (r0, σ0)) : MT l yX5_odds (Cond.code yX5_odds cX5_odds 14 (some .long) :: lw_g) rm_X5_odds D cs q σ σ0 [.ref (q a0), .int a1, .int a2, .int a3, .long a4, .long a6, .int a8] (fun z => z = q) (fun _ => some (.long r0)) 0 0 := by
  unfold f_X5_odds at hf0
  refine MT_of (cc := cX5_odds) (lv0 := [(0, .ref (q a0)), (1, .int a1), (2, .int a2), (3, .int a3), (4, .long a4), (6, .long a6), (8, .int a8)]) (by decide) (Nat.le_of_ble_eq_true rfl) rfl (fun p e s m args below meth c A X hr hlk hin => ?_)
  have L64 : ∀ (nk : Nat) (x0 : Nat) (x1 : Int32) (x2 : Int32) (x3 : Int32) (x4 : Int64) (x6 : Int64) (x8 : Int32) (x9 : Nat) (x10 : Int32) (x11 : Int32) (τ : HS), lp_X5_odds_64  nk x0 x1 x2 x3 x4 x6 x8 x9 x10 x11 τ = some (r0, σ0) → J p l e rm_X5_odds s m args below meth c 14 D cs A s.heap 0 0 (MQ below (hQ D cs (fun z => z = q) (fun _ => some (.long r0)) σ0 A) args s 0 0 A) q τ [(0, .ref (q x0)), (1, .int x1), (2, .int x2), (3, .int x3), (4, .long x4), (6, .long x6), (8, .int x8), (9, .ref (q x9)), (10, .int x10), (11, .int x11)] 64 [] := by
    intro nk
    induction nk with
    | zero => intro x0 x1 x2 x3 x4 x6 x8 x9 x10 x11 τ hf0; have hf1 : (none : Option (Int64 × HS)) = some (r0, σ0) := hf0; cases hf1
    | succ nk ih =>
      intro x0 x1 x2 x3 x4 x6 x8 x9 x10 x11 τ hf0
      replace hf0 : lp_X5_odds_64_b  (lp_X5_odds_64  nk) x0 x1 x2 x3 x4 x6 x8 x9 x10 x11 τ = some (r0, σ0) := hf0
      unfold lp_X5_odds_64_b at hf0
      refine j_iload X dX5_odds_64 9 rfl ?_
      refine j_iload_n X dX5_odds_66 3 rfl rfl ?_
      refine j_icmp_ge X (tgt := 121) dX5_odds_67 (by decide) (fun c44 => ?_) (fun c44 => ?_)
      · have hf45 := br_y hf0 c44; clear hf0
        refine j_iload X dX5_odds_121 8 rfl ?_
        refine j_iload_n X dX5_odds_123 3 rfl rfl ?_
        obtain ⟨r47, σ48, h49, hf50⟩ := bc_of hf45; clear hf45
        refine j_callS0 X [.int x10, .int x3] [] (c_X5_greatestCommon l D cs q x10 x3 τ _ _ h49) mk_X5_greatestCommon ms_X5_greatestCommon ml_X5_213 ⟨rfl, rfl⟩ ⟨Nat.le_of_ble_eq_true rfl, Nat.le_of_ble_eq_true rfl⟩ rfl (Nat.le_of_ble_eq_true rfl) ⟨Nat.le_of_ble_eq_true rfl, Nat.le_of_ble_eq_true rfl⟩ dX5_odds_124 rfl (st' := [.int r47]) rfl ?_
        refine j_istore X (lv' := [(11, .int r47), (0, .ref (q x0)), (1, .int x1), (2, .int x2), (3, .int x3), (4, .long x4), (6, .long x6), (8, .int x8), (9, .ref (q x9)), (10, .int x10)]) dX5_odds_127 (by decide) rfl ?_
        refine j_iload X dX5_odds_129 7 rfl ?_
        refine j_if_ne X (tgt := 143) dX5_odds_131 (by decide) (fun c51 => ?_) (fun c51 => ?_)
        · have hf52 := br_n hf50 c51; clear hf50
          refine j_iload_n X dX5_odds_143 4 rfl rfl ?_
          refine j_iload X dX5_odds_144 0 rfl ?_
          obtain ⟨h54, hf55⟩ := chk_of hf52; clear hf52
          refine j_idiv X dX5_odds_146 h54 ?_
          refine j_i2l X dX5_odds_147 ?_
          obtain ⟨er, es⟩ := rt_of hf55
          subst er
          exact j_retl X hr hlk (Nat.le_of_ble_eq_true rfl) (Nat.le_of_ble_eq_true rfl) rfl es.symm rfl dX5_odds_148
        · have hf53 := br_y hf50 c51; clear hf50
          refine j_iload X dX5_odds_134 9 rfl ?_
          refine j_iload X dX5_odds_136 0 rfl ?_
          obtain ⟨h56, hf57⟩ := chk_of hf53; clear hf53
          refine j_idiv X dX5_odds_138 h56 ?_
          refine j_i2l X dX5_odds_139 ?_
          refine j_goto X (tgt := 148) dX5_odds_140 (by decide) ?_
          obtain ⟨er, es⟩ := rt_of hf57
          subst er
          exact j_retl X hr hlk (Nat.le_of_ble_eq_true rfl) (Nat.le_of_ble_eq_true rfl) rfl es.symm rfl dX5_odds_148
      · have hf46 := br_n hf0 c44; clear hf0
        refine j_aload_n X dX5_odds_70 0 rfl rfl ?_
        obtain ⟨h58, hf59⟩ := chk_of hf46; clear hf46
        obtain ⟨i60, h61, hf62⟩ := bd_of hf59; clear hf59
        refine j_getr X fd_X5_35 h58 h61 dX5_odds_71 ?_
        refine j_iload_n X dX5_odds_74 2 rfl rfl ?_
        refine j_iload X dX5_odds_75 9 rfl ?_
        refine j_iadd X dX5_odds_77 ?_
        refine j_aload_n X dX5_odds_78 0 rfl rfl ?_
        obtain ⟨i63, h64, hf65⟩ := bd_of hf62; clear hf62
        refine j_getr X fd_X5_14 h58 h64 dX5_odds_79 ?_
        obtain ⟨h66, hf67⟩ := chk_of hf65; clear hf65
        obtain ⟨r68, σ69, h70, hf71⟩ := bc_of hf67; clear hf67
        refine j_callV0 X [.int (x2 + x11), .ref (q i63)] [] (c_X4_drawBy l D cs q i60 (x2 + x11) i63 τ _ _ h70) mk_X4_drawBy mv_X4_drawBy ml_X5_209 h66 rfl (by decide) ⟨rfl, rfl⟩ ⟨Nat.le_of_ble_eq_true rfl, Nat.le_of_ble_eq_true rfl⟩ rfl (Nat.le_of_ble_eq_true rfl) ⟨Nat.le_of_ble_eq_true rfl, Nat.le_of_ble_eq_true rfl⟩ dX5_odds_82 rfl (st' := []) rfl ?_
        refine j_aload_n X dX5_odds_85 0 rfl rfl ?_
        obtain ⟨h72, hf73⟩ := chk_of hf71; clear hf71
        obtain ⟨i74, h75, hf76⟩ := bd_of hf73; clear hf73
        refine j_getr X fd_X5_35 h72 h75 dX5_odds_86 ?_
        refine j_aload X dX5_odds_89 7 rfl ?_
        obtain ⟨h77, hf78⟩ := chk_of hf76; clear hf76
        obtain ⟨r79, σ80, h81, hf82⟩ := bc_of hf78; clear hf78
        refine j_callV0 X [.ref (q x9)] [] (c_X4_worthOf l D cs q i74 x9 σ69 _ _ h81) mk_X4_worthOf mv_X4_worthOf ml_X5_148 h77 rfl (by decide) ⟨rfl, rfl⟩ ⟨Nat.le_of_ble_eq_true rfl, Nat.le_of_ble_eq_true rfl⟩ rfl (Nat.le_of_ble_eq_true rfl) ⟨Nat.le_of_ble_eq_true rfl, Nat.le_of_ble_eq_true rfl⟩ dX5_odds_91 rfl (st' := [.long r79]) rfl ?_
        refine j_lstore X (lv' := [(12, .long r79), (0, .ref (q x0)), (1, .int x1), (2, .int x2), (3, .int x3), (4, .long x4), (6, .long x6), (8, .int x8), (9, .ref (q x9)), (10, .int x10), (11, .int x11)]) dX5_odds_94 (by decide) rfl ?_
        refine j_lload X dX5_odds_96 5 rfl ?_
        refine j_lload X dX5_odds_98 0 rfl ?_
        refine j_lcmp X dX5_odds_100 ?_
        refine j_if_gt X (tgt := 115) dX5_odds_101 (by decide) (fun c83 => ?_) (fun c83 => ?_)
        · have hf84 := br_y hf82 c83; clear hf82
          obtain ⟨v86, ev86⟩ : ∃ y : Int32, y = x11 + (1 : Int32) := ⟨_, rfl⟩
          replace hf84 := lt_of hf84 v86 ev86
          refine j_iinc X (v := v86) (lv' := [(11, .int v86), (12, .long r79), (0, .ref (q x0)), (1, .int x1), (2, .int x2), (3, .int x3), (4, .long x4), (6, .long x6), (8, .int x8), (9, .ref (q x9)), (10, .int x10)]) dX5_odds_115 10 rfl (by rw [ev86]; rfl) (by decide) rfl ?_
          refine j_goto X (tgt := 64) dX5_odds_118 (by decide) ?_
          refine j_lvsub [2, 3, 4, 5, 6, 7, 8, 9, 10, 0] (lv' := [(0, .ref (q x0)), (1, .int x1), (2, .int x2), (3, .int x3), (4, .long x4), (6, .long x6), (8, .int x8), (9, .ref (q x9)), (10, .int x10), (11, .int v86)]) rfl ?_
          exact ih x0 x1 x2 x3 x4 x6 x8 x9 x10 v86 σ80 hf84
        · have hf85 := br_n hf82 c83; clear hf82
          refine j_lload X dX5_odds_104 0 rfl ?_
          refine j_lload X dX5_odds_106 6 rfl ?_
          refine j_lcmp X dX5_odds_108 ?_
          refine j_if_gt X (tgt := 115) dX5_odds_109 (by decide) (fun c88 => ?_) (fun c88 => ?_)
          · have hf89 := br_y hf85 c88; clear hf85
            obtain ⟨v91, ev91⟩ : ∃ y : Int32, y = x11 + (1 : Int32) := ⟨_, rfl⟩
            replace hf89 := lt_of hf89 v91 ev91
            refine j_iinc X (v := v91) (lv' := [(11, .int v91), (12, .long r79), (0, .ref (q x0)), (1, .int x1), (2, .int x2), (3, .int x3), (4, .long x4), (6, .long x6), (8, .int x8), (9, .ref (q x9)), (10, .int x10)]) dX5_odds_115 10 rfl (by rw [ev91]; rfl) (by decide) rfl ?_
            refine j_goto X (tgt := 64) dX5_odds_118 (by decide) ?_
            refine j_lvsub [2, 3, 4, 5, 6, 7, 8, 9, 10, 0] (lv' := [(0, .ref (q x0)), (1, .int x1), (2, .int x2), (3, .int x3), (4, .long x4), (6, .long x6), (8, .int x8), (9, .ref (q x9)), (10, .int x10), (11, .int v91)]) rfl ?_
            exact ih x0 x1 x2 x3 x4 x6 x8 x9 x10 v91 σ80 hf89
          · have hf90 := br_n hf85 c88; clear hf85
            obtain ⟨v93, ev93⟩ : ∃ y : Int32, y = x10 + (1 : Int32) := ⟨_, rfl⟩
            replace hf90 := lt_of hf90 v93 ev93
            refine j_iinc X (v := v93) (lv' := [(10, .int v93), (12, .long r79), (0, .ref (q x0)), (1, .int x1), (2, .int x2), (3, .int x3), (4, .long x4), (6, .long x6), (8, .int x8), (9, .ref (q x9)), (11, .int x11)]) dX5_odds_112 9 rfl (by rw [ev93]; rfl) (by decide) rfl ?_
            obtain ⟨v95, ev95⟩ : ∃ y : Int32, y = x11 + (1 : Int32) := ⟨_, rfl⟩
            replace hf90 := lt_of hf90 v95 ev95
            refine j_iinc X (v := v95) (lv' := [(11, .int v95), (10, .int v93), (12, .long r79), (0, .ref (q x0)), (1, .int x1), (2, .int x2), (3, .int x3), (4, .long x4), (6, .long x6), (8, .int x8), (9, .ref (q x9))]) dX5_odds_115 10 rfl (by rw [ev95]; rfl) (by decide) rfl ?_
            refine j_goto X (tgt := 64) dX5_odds_118 (by decide) ?_
            refine j_lvsub [3, 4, 5, 6, 7, 8, 9, 10, 1, 0] (lv' := [(0, .ref (q x0)), (1, .int x1), (2, .int x2), (3, .int x3), (4, .long x4), (6, .long x6), (8, .int x8), (9, .ref (q x9)), (10, .int v93), (11, .int v95)]) rfl ?_
            exact ih x0 x1 x2 x3 x4 x6 x8 x9 v93 v95 σ80 hf90
  refine j_aload_n X dX5_odds_0 0 rfl rfl ?_
  refine j_iload_n X dX5_odds_1 1 rfl rfl ?_
  obtain ⟨h1, hf2⟩ := chk_of hf0; clear hf0
  obtain ⟨r3, σ4, h5, hf6⟩ := bc_of hf2; clear hf2
  refine j_callV0 X [.int a1] [] (c_X5_formulaOf l D cs q a0 a1 σ _ _ h5) mk_X5_formulaOf mv_X5_formulaOf ml_X5_100 h1 rfl (by decide) ⟨rfl, rfl⟩ ⟨Nat.le_of_ble_eq_true rfl, Nat.le_of_ble_eq_true rfl⟩ rfl (Nat.le_of_ble_eq_true rfl) ⟨Nat.le_of_ble_eq_true rfl, Nat.le_of_ble_eq_true rfl⟩ dX5_odds_2 rfl (st' := [va_rf (Option.map q r3)]) rfl ?_
  refine j_astoreq X (lv' := [(9, va_rf (Option.map q r3)), (0, .ref (q a0)), (1, .int a1), (2, .int a2), (3, .int a3), (4, .long a4), (6, .long a6), (8, .int a8)]) dX5_odds_5 (by decide) rfl ?_
  refine j_aloadq X dX5_odds_7 0 rfl ?_
  refine j_ifnull X (tgt := 34) dX5_odds_9 (by decide) (fun c97 => ?_) (fun i7 c97 => ?_)
  · subst c97; have hf8 := (show _ = some (r0, σ0) from hf6); clear hf6; unfold oc at hf8; dsimp only at hf8
    refine j_ldc2 X k_X5_125 dX5_odds_34 ?_
    obtain ⟨er, es⟩ := rt_of hf8
    subst er
    exact j_retl X hr hlk (Nat.le_of_ble_eq_true rfl) (Nat.le_of_ble_eq_true rfl) rfl es.symm rfl dX5_odds_37
  · subst c97; have hf9 := (show _ = some (r0, σ0) from hf6); clear hf6; unfold oc at hf9; dsimp only at hf9
    refine j_iload_n X dX5_odds_12 4 rfl rfl ?_
    refine j_iconst X (v := 1) dX5_odds_13 (by decide) ?_
    refine j_icmp_lt X (tgt := 34) dX5_odds_14 (by decide) (fun c10 => ?_) (fun c10 => ?_)
    · have hf11 := br_y hf9 c10; clear hf9
      refine j_ldc2 X k_X5_125 dX5_odds_34 ?_
      obtain ⟨er, es⟩ := rt_of hf11
      subst er
      exact j_retl X hr hlk (Nat.le_of_ble_eq_true rfl) (Nat.le_of_ble_eq_true rfl) rfl es.symm rfl dX5_odds_37
    · have hf12 := br_n hf9 c10; clear hf9
      refine j_iload_n X dX5_odds_17 4 rfl rfl ?_
      refine j_bipush X (v := 30) dX5_odds_18 (by decide) ?_
      refine j_icmp_gt X (tgt := 34) dX5_odds_20 (by decide) (fun c13 => ?_) (fun c13 => ?_)
      · have hf14 := br_y hf12 c13; clear hf12
        refine j_ldc2 X k_X5_125 dX5_odds_34 ?_
        obtain ⟨er, es⟩ := rt_of hf14
        subst er
        exact j_retl X hr hlk (Nat.le_of_ble_eq_true rfl) (Nat.le_of_ble_eq_true rfl) rfl es.symm rfl dX5_odds_37
      · have hf15 := br_n hf12 c13; clear hf12
        refine j_iload X dX5_odds_23 7 rfl ?_
        refine j_if_lt X (tgt := 34) dX5_odds_25 (by decide) (fun c16 => ?_) (fun c16 => ?_)
        · have hf17 := br_y hf15 c16; clear hf15
          refine j_ldc2 X k_X5_125 dX5_odds_34 ?_
          obtain ⟨er, es⟩ := rt_of hf17
          subst er
          exact j_retl X hr hlk (Nat.le_of_ble_eq_true rfl) (Nat.le_of_ble_eq_true rfl) rfl es.symm rfl dX5_odds_37
        · have hf18 := br_n hf15 c16; clear hf15
          refine j_iload X dX5_odds_28 7 rfl ?_
          refine j_iconst X (v := 1) dX5_odds_30 (by decide) ?_
          refine j_icmp_le X (tgt := 38) dX5_odds_31 (by decide) (fun c19 => ?_) (fun c19 => ?_)
          · have hf20 := br_y hf18 c19; clear hf18
            refine j_aload_n X dX5_odds_38 1 rfl rfl ?_
            refine j_aload X dX5_odds_39 0 rfl ?_
            obtain ⟨h22, hf23⟩ := chk_of hf20; clear hf20
            obtain ⟨r24, σ25, h26, hf27⟩ := bc_of hf23; clear hf23
            refine j_callV0 X [.ref (q i7)] [] (c_X5_carryAsItIs l D cs q a0 i7 σ4 _ _ h26) mk_X5_carryAsItIs mv_X5_carryAsItIs ml_X5_127 h22 rfl (by decide) ⟨rfl, rfl⟩ ⟨Nat.le_of_ble_eq_true rfl, Nat.le_of_ble_eq_true rfl⟩ rfl (Nat.le_of_ble_eq_true rfl) ⟨Nat.le_of_ble_eq_true rfl, Nat.le_of_ble_eq_true rfl⟩ dX5_odds_41 rfl (st' := []) rfl ?_
            refine j_aload_n X dX5_odds_44 1 rfl rfl ?_
            obtain ⟨h28, hf29⟩ := chk_of hf27; clear hf27
            obtain ⟨i30, h31, hf32⟩ := bd_of hf29; clear hf29
            refine j_getr X fd_X5_35 h28 h31 dX5_odds_45 ?_
            obtain ⟨h33, hf34⟩ := chk_of hf32; clear hf32
            refine j_geti X fd_X5_131 h33 dX5_odds_48 (fun v35 ev35 => ?_)
            replace hf34 := lt_of hf34 v35 ev35
            refine j_if_eq X (tgt := 58) dX5_odds_51 (by decide) (fun c37 => ?_) (fun c37 => ?_)
            · have hf38 := br_y hf34 c37; clear hf34
              refine j_iconst X (v := 0) dX5_odds_58 (by decide) ?_
              refine j_nmi (fun v40 ev40 => ?_)
              replace hf38 := lt_of hf38 v40 ev40
              refine j_istore X (lv' := [(10, .int v40), (9, .ref (q i7)), (0, .ref (q a0)), (1, .int a1), (2, .int a2), (3, .int a3), (4, .long a4), (6, .long a6), (8, .int a8)]) dX5_odds_59 (by decide) rfl ?_
              refine j_iconst X (v := 0) dX5_odds_61 (by decide) ?_
              refine j_nmi (fun v42 ev42 => ?_)
              replace hf38 := lt_of hf38 v42 ev42
              refine j_istore X (lv' := [(11, .int v42), (10, .int v40), (9, .ref (q i7)), (0, .ref (q a0)), (1, .int a1), (2, .int a2), (3, .int a3), (4, .long a4), (6, .long a6), (8, .int a8)]) dX5_odds_62 (by decide) rfl ?_
              refine j_lvsub [3, 4, 5, 6, 7, 8, 9, 2, 1, 0] (lv' := [(0, .ref (q a0)), (1, .int a1), (2, .int a2), (3, .int a3), (4, .long a4), (6, .long a6), (8, .int a8), (9, .ref (q i7)), (10, .int v40), (11, .int v42)]) rfl ?_
              exact L64  1000 a0 a1 a2 a3 a4 a6 a8 i7 v40 v42 σ25 hf38
            · have hf39 := br_n hf34 c37; clear hf34
              refine j_ldc2 X k_X5_141 dX5_odds_54 ?_
              obtain ⟨er, es⟩ := rt_of hf39
              subst er
              exact j_retl X hr hlk (Nat.le_of_ble_eq_true rfl) (Nat.le_of_ble_eq_true rfl) rfl es.symm rfl dX5_odds_57
          · have hf21 := br_n hf18 c19; clear hf18
            refine j_ldc2 X k_X5_125 dX5_odds_34 ?_
            obtain ⟨er, es⟩ := rt_of hf21
            subst er
            exact j_retl X hr hlk (Nat.le_of_ble_eq_true rfl) (Nat.le_of_ble_eq_true rfl) rfl es.symm rfl dX5_odds_37
