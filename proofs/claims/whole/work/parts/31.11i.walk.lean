abbrev rm_X6_overMany : Room := { frames := 5, cells := 0, slots := 0, locals := 320 }
set_option maxHeartbeats 4000000 in
set_option maxRecDepth 100000 in
theorem c_X6_overMany (l : Launch) (D : va_G) (cs : Nat → ClassId) (q : Nat → Nat) (a0 : Nat) (σ σ0 : HS) (r0 : Int32) (hf0 : f_X6_overMany a0 σ = some (r0, σ0)) : MT l yX6_overMany (Cond.code yX6_overMany cX6_overMany 3 (some .int) :: lw_g) rm_X6_overMany D cs q σ σ0 [.ref (q a0)] (fun z => z = q) (fun _ => some (.int r0)) 0 0 := by
  unfold f_X6_overMany at hf0
  refine MT_of (cc := cX6_overMany) (lv0 := [(0, .ref (q a0))]) (by decide) (Nat.le_of_ble_eq_true rfl) rfl (fun p e s m args below meth c A X hr hlk hin => ?_)
  have L4 : ∀ (nk : Nat) (x0 : Nat) (x1 : Int32) (x2 : Int32) (τ : HS), lp_X6_overMany_4  nk x0 x1 x2 τ = some (r0, σ0) → J p l e rm_X6_overMany s m args below meth c 3 D cs A s.heap 0 0 (MQ below (hQ D cs (fun z => z = q) (fun _ => some (.int r0)) σ0 A) args s 0 0 A) q τ [(0, .ref (q x0)), (1, .int x1), (2, .int x2)] 4 [] := by
    intro nk
    induction nk with
    | zero => intro x0 x1 x2 τ hf0; have hf1 : (none : Option (Int32 × HS)) = some (r0, σ0) := hf0; cases hf1
    | succ nk ih =>
      intro x0 x1 x2 τ hf0
      replace hf0 : lp_X6_overMany_4_b  (lp_X6_overMany_4  nk) x0 x1 x2 τ = some (r0, σ0) := hf0
      unfold lp_X6_overMany_4_b at hf0
      refine j_iload_n X dX6_overMany_4 2 rfl rfl ?_
      refine j_aload_n X dX6_overMany_5 0 rfl rfl ?_
      obtain ⟨h5, hf6⟩ := chk_of hf0; clear hf0
      refine j_geti X fd_X6_122 h5 dX6_overMany_6 (fun v7 ev7 => ?_)
      replace hf6 := lt_of hf6 v7 ev7
      refine j_icmp_ge X (tgt := 34) dX6_overMany_9 (by decide) (fun c9 => ?_) (fun c9 => ?_)
      · have hf10 := br_y hf6 c9; clear hf6
        refine j_iload_n X dX6_overMany_34 1 rfl rfl ?_
        obtain ⟨er, es⟩ := rt_of hf10
        subst er
        exact j_reti X hr hlk (Nat.le_of_ble_eq_true rfl) (Nat.le_of_ble_eq_true rfl) rfl es.symm rfl dX6_overMany_35
      · have hf11 := br_n hf6 c9; clear hf6
        refine j_iload_n X dX6_overMany_12 1 rfl rfl ?_
        refine j_aload_n X dX6_overMany_13 0 rfl rfl ?_
        refine j_iload_n X dX6_overMany_14 2 rfl rfl ?_
        obtain ⟨r12, σ13, h14, hf15⟩ := bc_of hf11; clear hf11
        refine j_callV0 X [.int x2] [.int x1] (c_X6_spansNow l D cs q x0 x2 τ _ _ h14) mk_X6_spansNow mv_X6_spansNow ml_X6_254 h5 rfl (by decide) ⟨rfl, rfl⟩ ⟨Nat.le_of_ble_eq_true rfl, Nat.le_of_ble_eq_true rfl⟩ rfl (Nat.le_of_ble_eq_true rfl) ⟨Nat.le_of_ble_eq_true rfl, Nat.le_of_ble_eq_true rfl⟩ dX6_overMany_15 rfl (st' := [.int r12, .int x1]) rfl ?_
        refine j_if_eq X (tgt := 25) dX6_overMany_18 (by decide) (fun c16 => ?_) (fun c16 => ?_)
        · have hf17 := br_y hf15 c16; clear hf15
          refine j_iconst X (v := 1) dX6_overMany_25 (by decide) ?_
          refine j_iadd X dX6_overMany_26 ?_
          refine j_nmi (fun v19 ev19 => ?_)
          replace hf17 := lt_of hf17 v19 ev19
          refine j_istore_n X (lv' := [(1, .int v19), (0, .ref (q x0)), (2, .int x2)]) dX6_overMany_27 rfl (by decide) rfl ?_
          obtain ⟨v21, ev21⟩ : ∃ y : Int32, y = x2 + (1 : Int32) := ⟨_, rfl⟩
          replace hf17 := lt_of hf17 v21 ev21
          refine j_iinc X (v := v21) (lv' := [(2, .int v21), (1, .int v19), (0, .ref (q x0))]) dX6_overMany_28 2 rfl (by rw [ev21]; rfl) (by decide) rfl ?_
          refine j_goto X (tgt := 4) dX6_overMany_31 (by decide) ?_
          refine j_lvsub [2, 1, 0] (lv' := [(0, .ref (q x0)), (1, .int v19), (2, .int v21)]) rfl ?_
          exact ih x0 v19 v21 σ13 hf17
        · have hf18 := br_n hf15 c16; clear hf15
          refine j_iconst X (v := 0) dX6_overMany_21 (by decide) ?_
          refine j_goto X (tgt := 26) dX6_overMany_22 (by decide) ?_
          refine j_iadd X dX6_overMany_26 ?_
          refine j_nmi (fun v23 ev23 => ?_)
          replace hf18 := lt_of hf18 v23 ev23
          refine j_istore_n X (lv' := [(1, .int v23), (0, .ref (q x0)), (2, .int x2)]) dX6_overMany_27 rfl (by decide) rfl ?_
          obtain ⟨v25, ev25⟩ : ∃ y : Int32, y = x2 + (1 : Int32) := ⟨_, rfl⟩
          replace hf18 := lt_of hf18 v25 ev25
          refine j_iinc X (v := v25) (lv' := [(2, .int v25), (1, .int v23), (0, .ref (q x0))]) dX6_overMany_28 2 rfl (by rw [ev25]; rfl) (by decide) rfl ?_
          refine j_goto X (tgt := 4) dX6_overMany_31 (by decide) ?_
          refine j_lvsub [2, 1, 0] (lv' := [(0, .ref (q x0)), (1, .int v23), (2, .int v25)]) rfl ?_
          exact ih x0 v23 v25 σ13 hf18
  refine j_iconst X (v := 0) dX6_overMany_0 (by decide) ?_
  refine j_nmi (fun v1 ev1 => ?_)
  replace hf0 := lt_of hf0 v1 ev1
  refine j_istore_n X (lv' := [(1, .int v1), (0, .ref (q a0))]) dX6_overMany_1 rfl (by decide) rfl ?_
  refine j_iconst X (v := 0) dX6_overMany_2 (by decide) ?_
  refine j_nmi (fun v3 ev3 => ?_)
  replace hf0 := lt_of hf0 v3 ev3
  refine j_istore_n X (lv' := [(2, .int v3), (1, .int v1), (0, .ref (q a0))]) dX6_overMany_3 rfl (by decide) rfl ?_
  refine j_lvsub [2, 1, 0] (lv' := [(0, .ref (q a0)), (1, .int v1), (2, .int v3)]) rfl ?_
  exact L4  1000 a0 v1 v3 σ hf0
abbrev rm_X6_spannedMany : Room := { frames := 1, cells := 0, slots := 0, locals := 64 }
set_option maxHeartbeats 4000000 in
set_option maxRecDepth 100000 in
theorem c_X6_spannedMany (l : Launch) (D : va_G) (cs : Nat → ClassId) (q : Nat → Nat) (a0 : Nat) (σ σ0 : HS) (r0 : Int32) (hf0 : f_X6_spannedMany a0 σ = some (r0, σ0)) : MT l yX6_spannedMany (Cond.code yX6_spannedMany cX6_spannedMany 3 (some .int) :: lw_g) rm_X6_spannedMany D cs q σ σ0 [.ref (q a0)] (fun z => z = q) (fun _ => some (.int r0)) 0 0 := by
  unfold f_X6_spannedMany at hf0
  refine MT_of (cc := cX6_spannedMany) (lv0 := [(0, .ref (q a0))]) (by decide) (Nat.le_of_ble_eq_true rfl) rfl (fun p e s m args below meth c A X hr hlk hin => ?_)
  have L4 : ∀ (nk : Nat) (x0 : Nat) (x1 : Int32) (x2 : Int32) (τ : HS), lp_X6_spannedMany_4  nk x0 x1 x2 τ = some (r0, σ0) → J p l e rm_X6_spannedMany s m args below meth c 3 D cs A s.heap 0 0 (MQ below (hQ D cs (fun z => z = q) (fun _ => some (.int r0)) σ0 A) args s 0 0 A) q τ [(0, .ref (q x0)), (1, .int x1), (2, .int x2)] 4 [] := by
    intro nk
    induction nk with
    | zero => intro x0 x1 x2 τ hf0; have hf1 : (none : Option (Int32 × HS)) = some (r0, σ0) := hf0; cases hf1
    | succ nk ih =>
      intro x0 x1 x2 τ hf0
      replace hf0 : lp_X6_spannedMany_4_b  (lp_X6_spannedMany_4  nk) x0 x1 x2 τ = some (r0, σ0) := hf0
      unfold lp_X6_spannedMany_4_b at hf0
      refine j_iload_n X dX6_spannedMany_4 2 rfl rfl ?_
      refine j_bipush X (v := 6) dX6_spannedMany_5 (by decide) ?_
      refine j_icmp_ge X (tgt := 32) dX6_spannedMany_7 (by decide) (fun c5 => ?_) (fun c5 => ?_)
      · have hf6 := br_y hf0 c5; clear hf0
        refine j_iload_n X dX6_spannedMany_32 1 rfl rfl ?_
        obtain ⟨er, es⟩ := rt_of hf6
        subst er
        exact j_reti X hr hlk (Nat.le_of_ble_eq_true rfl) (Nat.le_of_ble_eq_true rfl) rfl es.symm rfl dX6_spannedMany_33
      · have hf7 := br_n hf0 c5; clear hf0
        refine j_iload_n X dX6_spannedMany_10 1 rfl rfl ?_
        refine j_aload_n X dX6_spannedMany_11 0 rfl rfl ?_
        refine j_iload_n X dX6_spannedMany_12 2 rfl rfl ?_
        obtain ⟨h8, hf9⟩ := chk_of hf7; clear hf7
        obtain ⟨r10, σ11, h12, hf13⟩ := bc_of hf9; clear hf9
        refine j_callV0 X [.int x2] [.int x1] (c_X6_spanOf l D cs q x0 x2 τ _ _ h12) mk_X6_spanOf mv_X6_spanOf ml_X6_119 h8 rfl (by decide) ⟨rfl, rfl⟩ ⟨Nat.le_of_ble_eq_true rfl, Nat.le_of_ble_eq_true rfl⟩ rfl (Nat.le_of_ble_eq_true rfl) ⟨Nat.le_of_ble_eq_true rfl, Nat.le_of_ble_eq_true rfl⟩ dX6_spannedMany_13 rfl (st' := [.int r10, .int x1]) rfl ?_
        refine j_if_le X (tgt := 23) dX6_spannedMany_16 (by decide) (fun c14 => ?_) (fun c14 => ?_)
        · have hf15 := br_y hf13 c14; clear hf13
          refine j_iconst X (v := 0) dX6_spannedMany_23 (by decide) ?_
          refine j_iadd X dX6_spannedMany_24 ?_
          refine j_nmi (fun v17 ev17 => ?_)
          replace hf15 := lt_of hf15 v17 ev17
          refine j_istore_n X (lv' := [(1, .int v17), (0, .ref (q x0)), (2, .int x2)]) dX6_spannedMany_25 rfl (by decide) rfl ?_
          obtain ⟨v19, ev19⟩ : ∃ y : Int32, y = x2 + (1 : Int32) := ⟨_, rfl⟩
          replace hf15 := lt_of hf15 v19 ev19
          refine j_iinc X (v := v19) (lv' := [(2, .int v19), (1, .int v17), (0, .ref (q x0))]) dX6_spannedMany_26 2 rfl (by rw [ev19]; rfl) (by decide) rfl ?_
          refine j_goto X (tgt := 4) dX6_spannedMany_29 (by decide) ?_
          refine j_lvsub [2, 1, 0] (lv' := [(0, .ref (q x0)), (1, .int v17), (2, .int v19)]) rfl ?_
          exact ih x0 v17 v19 σ11 hf15
        · have hf16 := br_n hf13 c14; clear hf13
          refine j_iconst X (v := 1) dX6_spannedMany_19 (by decide) ?_
          refine j_goto X (tgt := 24) dX6_spannedMany_20 (by decide) ?_
          refine j_iadd X dX6_spannedMany_24 ?_
          refine j_nmi (fun v21 ev21 => ?_)
          replace hf16 := lt_of hf16 v21 ev21
          refine j_istore_n X (lv' := [(1, .int v21), (0, .ref (q x0)), (2, .int x2)]) dX6_spannedMany_25 rfl (by decide) rfl ?_
          obtain ⟨v23, ev23⟩ : ∃ y : Int32, y = x2 + (1 : Int32) := ⟨_, rfl⟩
          replace hf16 := lt_of hf16 v23 ev23
          refine j_iinc X (v := v23) (lv' := [(2, .int v23), (1, .int v21), (0, .ref (q x0))]) dX6_spannedMany_26 2 rfl (by rw [ev23]; rfl) (by decide) rfl ?_
          refine j_goto X (tgt := 4) dX6_spannedMany_29 (by decide) ?_
          refine j_lvsub [2, 1, 0] (lv' := [(0, .ref (q x0)), (1, .int v21), (2, .int v23)]) rfl ?_
          exact ih x0 v21 v23 σ11 hf16
  refine j_iconst X (v := 0) dX6_spannedMany_0 (by decide) ?_
  refine j_nmi (fun v1 ev1 => ?_)
  replace hf0 := lt_of hf0 v1 ev1
  refine j_istore_n X (lv' := [(1, .int v1), (0, .ref (q a0))]) dX6_spannedMany_1 rfl (by decide) rfl ?_
  refine j_iconst X (v := 0) dX6_spannedMany_2 (by decide) ?_
  refine j_nmi (fun v3 ev3 => ?_)
  replace hf0 := lt_of hf0 v3 ev3
  refine j_istore_n X (lv' := [(2, .int v3), (1, .int v1), (0, .ref (q a0))]) dX6_spannedMany_3 rfl (by decide) rfl ?_
  refine j_lvsub [2, 1, 0] (lv' := [(0, .ref (q a0)), (1, .int v1), (2, .int v3)]) rfl ?_
  exact L4  1000 a0 v1 v3 σ hf0
abbrev rm_X6_count : Room := { frames := 6, cells := 0, slots := 0, locals := 384 }
set_option maxHeartbeats 4000000 in
set_option maxRecDepth 100000 in
theorem c_X6_count (l : Launch) (D : va_G) (cs : Nat → ClassId) (q : Nat → Nat) (a0 : Nat) (a1 : Int32) (σ σ0 : HS) (r0 : Int32) (hf0 : f_X6_count a0 a1 σ = some (r0, σ0)) : MT l yX6_count (Cond.code yX6_count cX6_count 2 (some .int) :: lw_g) rm_X6_count D cs q σ σ0 [.ref (q a0), .int a1] (fun z => z = q) (fun _ => some (.int r0)) 0 0 := by
  unfold f_X6_count at hf0
  refine MT_of (cc := cX6_count) (lv0 := [(0, .ref (q a0)), (1, .int a1)]) (by decide) (Nat.le_of_ble_eq_true rfl) rfl (fun p e s m args below meth c A X hr hlk hin => ?_)
  refine j_iload_n X dX6_count_0 1 rfl rfl ?_
  by_cases c1 : a1 = (0 : Int32)
  · have hf2 := br_y hf0 c1; clear hf0
    refine j_tabIn X (v := 0) (tgt := 36) dX6_count_1 c1 (by decide) (by decide) rfl (by decide) ?_
    refine j_aload_n X dX6_count_36 0 rfl rfl ?_
    obtain ⟨h4, hf5⟩ := chk_of hf2; clear hf2
    refine j_geti X fd_X6_122 h4 dX6_count_37 (fun v6 ev6 => ?_)
    replace hf5 := lt_of hf5 v6 ev6
    obtain ⟨er, es⟩ := rt_of hf5
    subst er
    exact j_reti X hr hlk (Nat.le_of_ble_eq_true rfl) (Nat.le_of_ble_eq_true rfl) rfl es.symm rfl dX6_count_40
  · have hf3 := br_n hf0 c1; clear hf0
    by_cases c8 : a1 = (1 : Int32)
    · have hf9 := br_y hf3 c8; clear hf3
      refine j_tabIn X (v := 1) (tgt := 41) dX6_count_1 c8 (by decide) (by decide) rfl (by decide) ?_
      refine j_aload_n X dX6_count_41 0 rfl rfl ?_
      obtain ⟨h11, hf12⟩ := chk_of hf9; clear hf9
      refine j_geti X fd_X6_128 h11 dX6_count_42 (fun v13 ev13 => ?_)
      replace hf12 := lt_of hf12 v13 ev13
      obtain ⟨er, es⟩ := rt_of hf12
      subst er
      exact j_reti X hr hlk (Nat.le_of_ble_eq_true rfl) (Nat.le_of_ble_eq_true rfl) rfl es.symm rfl dX6_count_45
    · have hf10 := br_n hf3 c8; clear hf3
      by_cases c15 : a1 = (2 : Int32)
      · have hf16 := br_y hf10 c15; clear hf10
        refine j_tabIn X (v := 2) (tgt := 46) dX6_count_1 c15 (by decide) (by decide) rfl (by decide) ?_
        refine j_aload_n X dX6_count_46 0 rfl rfl ?_
        obtain ⟨h18, hf19⟩ := chk_of hf16; clear hf16
        refine j_geti X fd_X6_297 h18 dX6_count_47 (fun v20 ev20 => ?_)
        replace hf19 := lt_of hf19 v20 ev20
        obtain ⟨er, es⟩ := rt_of hf19
        subst er
        exact j_reti X hr hlk (Nat.le_of_ble_eq_true rfl) (Nat.le_of_ble_eq_true rfl) rfl es.symm rfl dX6_count_50
      · have hf17 := br_n hf10 c15; clear hf10
        by_cases c22 : a1 = (3 : Int32)
        · have hf23 := br_y hf17 c22; clear hf17
          refine j_tabIn X (v := 3) (tgt := 51) dX6_count_1 c22 (by decide) (by decide) rfl (by decide) ?_
          refine j_aload_n X dX6_count_51 0 rfl rfl ?_
          obtain ⟨h25, hf26⟩ := chk_of hf23; clear hf23
          obtain ⟨r27, σ28, h29, hf30⟩ := bc_of hf26; clear hf26
          refine j_callV0 X [] [] (c_X6_overMany l D cs q a0 σ _ _ h29) mk_X6_overMany mv_X6_overMany ml_X6_324 h25 rfl (by decide) ⟨rfl, rfl⟩ ⟨Nat.le_of_ble_eq_true rfl, Nat.le_of_ble_eq_true rfl⟩ rfl (Nat.le_of_ble_eq_true rfl) ⟨Nat.le_of_ble_eq_true rfl, Nat.le_of_ble_eq_true rfl⟩ dX6_count_52 rfl (st' := [.int r27]) rfl ?_
          obtain ⟨er, es⟩ := rt_of hf30
          subst er
          exact j_reti X hr hlk (Nat.le_of_ble_eq_true rfl) (Nat.le_of_ble_eq_true rfl) rfl es.symm rfl dX6_count_55
        · have hf24 := br_n hf17 c22; clear hf17
          by_cases c31 : a1 = (4 : Int32)
          · have hf32 := br_y hf24 c31; clear hf24
            refine j_tabIn X (v := 4) (tgt := 56) dX6_count_1 c31 (by decide) (by decide) rfl (by decide) ?_
            refine j_aload_n X dX6_count_56 0 rfl rfl ?_
            obtain ⟨h34, hf35⟩ := chk_of hf32; clear hf32
            obtain ⟨r36, σ37, h38, hf39⟩ := bc_of hf35; clear hf35
            refine j_callV0 X [] [] (c_X6_spannedMany l D cs q a0 σ _ _ h38) mk_X6_spannedMany mv_X6_spannedMany ml_X6_327 h34 rfl (by decide) ⟨rfl, rfl⟩ ⟨Nat.le_of_ble_eq_true rfl, Nat.le_of_ble_eq_true rfl⟩ rfl (Nat.le_of_ble_eq_true rfl) ⟨Nat.le_of_ble_eq_true rfl, Nat.le_of_ble_eq_true rfl⟩ dX6_count_57 rfl (st' := [.int r36]) rfl ?_
            obtain ⟨er, es⟩ := rt_of hf39
            subst er
            exact j_reti X hr hlk (Nat.le_of_ble_eq_true rfl) (Nat.le_of_ble_eq_true rfl) rfl es.symm rfl dX6_count_60
          · have hf33 := br_n hf24 c31; clear hf24
            refine j_tabOut X (tgt := 61) dX6_count_1 (by have z0 := lv_neT c1 (show ((0 : Int32)).toInt = 0 from rfl); have z1 := lv_neT c8 (show ((1 : Int32)).toInt = 1 from rfl); have z2 := lv_neT c15 (show ((2 : Int32)).toInt = 2 from rfl); have z3 := lv_neT c22 (show ((3 : Int32)).toInt = 3 from rfl); have z4 := lv_neT c31 (show ((4 : Int32)).toInt = 4 from rfl); omega) (by decide) ?_
            refine j_bipush X (v := -2) dX6_count_61 (by decide) ?_
            obtain ⟨er, es⟩ := rt_of hf33
            subst er
            exact j_reti X hr hlk (Nat.le_of_ble_eq_true rfl) (Nat.le_of_ble_eq_true rfl) rfl es.symm rfl dX6_count_63
abbrev rg_MD (n : Nat) : Room := { frames := 1 + n, cells := 0, slots := 0, locals := 64 * (1 + n) }
set_option maxHeartbeats 4000000 in
set_option maxRecDepth 100000 in
theorem cg_MD (l : Launch) (D : va_G) (cs : Nat → ClassId) (q : Nat → Nat) : ∀ ng : Nat, (∀ (a0 : Nat) (a1 : Int32) (a2 : Int32) (σ σ0 : HS) (r0 : Int32), g_MD ng 0 a0 a1 a2 σ = some (r0, σ0) → MT l yX6_depthOf (Cond.code yX6_depthOf cX6_depthOf 5 (some .int) :: lw_g) (rg_MD ng) D cs q σ σ0 [.ref (q a0), .int a1, .int a2] (fun z => z = q) (fun _ => some (.int r0)) 0 0) := by
  intro ng
  induction ng with
  | zero => exact (fun _ _ _ _ _ _ h => (by have h9 : (none : Option (Int32 × HS)) = some _ := h; cases h9))
  | succ ng ihg =>
    intro a0 a1 a2 σ σ0 r0 hf0
    replace hf0 : b_X6_depthOf (g_MD ng) a0 a1 a2 σ = some (r0, σ0) := hf0
    unfold b_X6_depthOf at hf0
    refine MT_of (cc := cX6_depthOf) (lv0 := [(0, .ref (q a0)), (1, .int a1), (2, .int a2)]) (by decide) (Nat.le_of_ble_eq_true rfl) rfl (fun p e s m args below meth c A X hr hlk hin => ?_)
    refine j_iload_n X dX6_depthOf_0 1 rfl rfl ?_
    refine j_iload_n X dX6_depthOf_1 2 rfl rfl ?_
    obtain ⟨r1, σ2, h3, hf4⟩ := bc_of hf0; clear hf0
    refine j_callS0 X [.int a1, .int a2] [] (c_X6_at l D cs q a1 a2 σ _ _ h3) mk_X6_at ms_X6_at ml_X6_134 ⟨rfl, rfl⟩ ⟨by dsimp only [rg_MD, rm_X6_at]; omega, by dsimp only [rg_MD, rm_X6_at]; omega⟩ rfl (Nat.le_of_ble_eq_true rfl) ⟨Nat.zero_le _, Nat.zero_le _⟩ dX6_depthOf_2 rfl (st' := [.int r1]) rfl ?_
    refine j_istore_n X (lv' := [(3, .int r1), (0, .ref (q a0)), (1, .int a1), (2, .int a2)]) dX6_depthOf_5 rfl (by decide) rfl ?_
    refine j_aload_n X dX6_depthOf_6 1 rfl rfl ?_
    obtain ⟨h5, hf6⟩ := chk_of hf4; clear hf4
    obtain ⟨i7, h8, hf9⟩ := bd_of hf6; clear hf6
    refine j_getr X fd_X6_18 h5 h8 dX6_depthOf_7 ?_
    refine j_iload_n X dX6_depthOf_10 0 rfl rfl ?_
    obtain ⟨h10, hf11⟩ := chk_of hf9; clear hf9
    refine j_iald X h10 dX6_depthOf_11 (fun v12 ev12 => ?_)
    replace hf11 := lt_of hf11 v12 ev12
    refine j_iconst X (v := 1) dX6_depthOf_12 (by decide) ?_
    refine j_icmp_gt X (tgt := 18) dX6_depthOf_13 (by decide) (fun c14 => ?_) (fun c14 => ?_)
    · have hf15 := br_y hf11 c14; clear hf11
      refine j_aload_n X dX6_depthOf_18 1 rfl rfl ?_
      refine j_iload_n X dX6_depthOf_19 2 rfl rfl ?_
      refine j_aload_n X dX6_depthOf_20 1 rfl rfl ?_
      obtain ⟨i17, h18, hf19⟩ := bd_of hf15; clear hf15
      refine j_getr X fd_X6_21 h5 h18 dX6_depthOf_21 ?_
      refine j_iload_n X dX6_depthOf_24 0 rfl rfl ?_
      obtain ⟨h20, hf21⟩ := chk_of hf19; clear hf19
      refine j_iald X h20 dX6_depthOf_25 (fun v22 ev22 => ?_)
      replace hf21 := lt_of hf21 v22 ev22
      obtain ⟨r24, σ25, h26, hf27⟩ := bc_of hf21; clear hf21
      refine j_callV0 X [.int a1, .int v22] [] (ihg a0 a1 v22 σ2 _ _ h26) mk_X6_depthOf mv_X6_depthOf ml_X6_172 h5 rfl (by decide) ⟨rfl, rfl⟩ ⟨by dsimp only [rg_MD]; omega, by dsimp only [rg_MD]; omega⟩ rfl (Nat.le_of_ble_eq_true rfl) ⟨Nat.zero_le _, Nat.zero_le _⟩ dX6_depthOf_26 rfl (st' := [.int r24]) rfl ?_
      refine j_istore X (lv' := [(4, .int r24), (3, .int r1), (0, .ref (q a0)), (1, .int a1), (2, .int a2)]) dX6_depthOf_29 (by decide) rfl ?_
      refine j_iconst X (v := 1) dX6_depthOf_31 (by decide) ?_
      refine j_aload_n X dX6_depthOf_32 2 rfl rfl ?_
      obtain ⟨h28, hf29⟩ := chk_of hf27; clear hf27
      obtain ⟨i30, h31, hf32⟩ := bd_of hf29; clear hf29
      refine j_getr X fd_X6_18 h28 h31 dX6_depthOf_33 ?_
      refine j_iload_n X dX6_depthOf_36 1 rfl rfl ?_
      obtain ⟨h33, hf34⟩ := chk_of hf32; clear hf32
      refine j_iald X h33 dX6_depthOf_37 (fun v35 ev35 => ?_)
      replace hf34 := lt_of hf34 v35 ev35
      refine j_iconst X (v := 2) dX6_depthOf_38 (by decide) ?_
      refine j_icmp_ne X (tgt := 47) dX6_depthOf_39 (by decide) (fun c37 => ?_) (fun c37 => ?_)
      · have hf38 := br_n hf34 c37; clear hf34
        refine j_iload X dX6_depthOf_47 0 rfl ?_
        refine j_aload_n X dX6_depthOf_49 2 rfl rfl ?_
        refine j_iload_n X dX6_depthOf_50 3 rfl rfl ?_
        refine j_aload_n X dX6_depthOf_51 2 rfl rfl ?_
        obtain ⟨i40, h41, hf42⟩ := bd_of hf38; clear hf38
        refine j_getr X fd_X6_24 h28 h41 dX6_depthOf_52 ?_
        refine j_iload_n X dX6_depthOf_55 1 rfl rfl ?_
        obtain ⟨h43, hf44⟩ := chk_of hf42; clear hf42
        refine j_iald X h43 dX6_depthOf_56 (fun v45 ev45 => ?_)
        replace hf44 := lt_of hf44 v45 ev45
        obtain ⟨r47, σ48, h49, hf50⟩ := bc_of hf44; clear hf44
        refine j_callV0 X [.int a1, .int v45] [.int r24, .int (1 : Int32)] (ihg a0 a1 v45 σ25 _ _ h49) mk_X6_depthOf mv_X6_depthOf ml_X6_172 h28 rfl (by decide) ⟨rfl, rfl⟩ ⟨by dsimp only [rg_MD]; omega, by dsimp only [rg_MD]; omega⟩ rfl (Nat.le_of_ble_eq_true rfl) ⟨Nat.zero_le _, Nat.zero_le _⟩ dX6_depthOf_57 rfl (st' := [.int r47, .int r24, .int (1 : Int32)]) rfl ?_
        refine j_mmax X ml_X6_175 (Nat.le_of_ble_eq_true rfl) (Nat.le_of_ble_eq_true rfl) (Nat.le_of_ble_eq_true rfl) (Nat.le_of_ble_eq_true rfl) dX6_depthOf_60 (fun v51 ev51 => ?_)
        replace hf50 := lt_of hf50 v51 ev51
        refine j_iadd X dX6_depthOf_63 ?_
        obtain ⟨er, es⟩ := rt_of hf50
        subst er
        exact j_reti X hr hlk (Nat.le_of_ble_eq_true rfl) (Nat.le_of_ble_eq_true rfl) rfl es.symm rfl dX6_depthOf_64
      · have hf39 := br_y hf34 c37; clear hf34
        refine j_iload X dX6_depthOf_42 0 rfl ?_
        refine j_goto X (tgt := 63) dX6_depthOf_44 (by decide) ?_
        refine j_iadd X dX6_depthOf_63 ?_
        obtain ⟨er, es⟩ := rt_of hf39
        subst er
        exact j_reti X hr hlk (Nat.le_of_ble_eq_true rfl) (Nat.le_of_ble_eq_true rfl) rfl es.symm rfl dX6_depthOf_64
    · have hf16 := br_n hf11 c14; clear hf11
      refine j_iconst X (v := 0) dX6_depthOf_16 (by decide) ?_
      obtain ⟨er, es⟩ := rt_of hf16
      subst er
      exact j_reti X hr hlk (Nat.le_of_ble_eq_true rfl) (Nat.le_of_ble_eq_true rfl) rfl es.symm rfl dX6_depthOf_17
abbrev rm_X6_depthOf : Room := rg_MD 64
theorem c_X6_depthOf (l : Launch) (D : va_G) (cs : Nat → ClassId) (q : Nat → Nat) (a0 : Nat) (a1 : Int32) (a2 : Int32) (σ σ0 : HS) (r0 : Int32) (hf0 : f_X6_depthOf a0 a1 a2 σ = some (r0, σ0)) : MT l yX6_depthOf (Cond.code yX6_depthOf cX6_depthOf 5 (some .int) :: lw_g) rm_X6_depthOf D cs q σ σ0 [.ref (q a0), .int a1, .int a2] (fun z => z = q) (fun _ => some (.int r0)) 0 0 := (cg_MD l D cs q 64) a0 a1 a2 σ σ0 r0 hf0
abbrev rm_X6_drop : Room := { frames := 0, cells := 0, slots := 0, locals := 0 }
set_option maxHeartbeats 4000000 in
set_option maxRecDepth 100000 in
theorem c_X6_drop (l : Launch) (D : va_G) (cs : Nat → ClassId) (q : Nat → Nat) (a0 : Nat) (σ σ0 : HS) (r0 : Int32) (hf0 : f_X6_drop a0 σ = some (r0, σ0)) : MT l yX6_drop (Cond.code yX6_drop cX6_drop 1 (some .int) :: lw_g) rm_X6_drop D cs q σ σ0 [.ref (q a0)] (fun z => z = q) (fun _ => some (.int r0)) 0 0 := by
  unfold f_X6_drop at hf0
  refine MT_of (cc := cX6_drop) (lv0 := [(0, .ref (q a0))]) (by decide) (Nat.le_of_ble_eq_true rfl) rfl (fun p e s m args below meth c A X hr hlk hin => ?_)
  refine j_aload_n X dX6_drop_0 0 rfl rfl ?_
  obtain ⟨h1, hf2⟩ := chk_of hf0; clear hf0
  refine j_geti X fd_X6_122 h1 dX6_drop_1 (fun v3 ev3 => ?_)
  replace hf2 := lt_of hf2 v3 ev3
  refine j_if_ne X (tgt := 10) dX6_drop_4 (by decide) (fun c5 => ?_) (fun c5 => ?_)
  · have hf6 := br_n hf2 c5; clear hf2
    refine j_aload_n X dX6_drop_10 0 rfl rfl ?_
    refine j_dup X dX6_drop_11 rfl ?_
    refine j_geti X fd_X6_122 h1 dX6_drop_12 (fun v8 ev8 => ?_)
    replace hf6 := lt_of hf6 v8 ev8
    refine j_iconst X (v := 1) dX6_drop_15 (by decide) ?_
    refine j_isub X dX6_drop_16 ?_
    refine j_puti X fp_X6_122 h1 dX6_drop_17 (fun σ10 eσ10 => ?_)
    replace hf6 := lt_of hf6 σ10 eσ10
    have h12 : isO σ10 6 a0 := by rw [eσ10]; exact h1
    refine j_aload_n X dX6_drop_20 0 rfl rfl ?_
    refine j_geti X fd_X6_122 h12 dX6_drop_21 (fun v13 ev13 => ?_)
    replace hf6 := lt_of hf6 v13 ev13
    obtain ⟨er, es⟩ := rt_of hf6
    subst er
    exact j_reti X hr hlk (Nat.le_of_ble_eq_true rfl) (Nat.le_of_ble_eq_true rfl) rfl es.symm rfl dX6_drop_24
  · have hf7 := br_y hf2 c5; clear hf2
    refine j_bipush X (v := -3) dX6_drop_7 (by decide) ?_
    obtain ⟨er, es⟩ := rt_of hf7
    subst er
    exact j_reti X hr hlk (Nat.le_of_ble_eq_true rfl) (Nat.le_of_ble_eq_true rfl) rfl es.symm rfl dX6_drop_9
abbrev rm_X6_ends : Room := { frames := 6, cells := 0, slots := 0, locals := 384 }
set_option maxHeartbeats 4000000 in
set_option maxRecDepth 100000 in
theorem c_X6_ends (l : Launch) (D : va_G) (cs : Nat → ClassId) (q : Nat → Nat) (a0 : Nat) (a1 : Int32) (σ σ0 : HS) (r0 : Int64) (hf0 : f_X6_ends a0 a1 σ = some (r0, σ0)) : MT l yX6_ends (Cond.code yX6_ends cX6_ends 5 (some .long) :: lw_g) rm_X6_ends D cs q σ σ0 [.ref (q a0), .int a1] (fun z => z = q) (fun _ => some (.long r0)) 0 0 := by
  unfold f_X6_ends at hf0
  refine MT_of (cc := cX6_ends) (lv0 := [(0, .ref (q a0)), (1, .int a1)]) (by decide) (Nat.le_of_ble_eq_true rfl) rfl (fun p e s m args below meth c A X hr hlk hin => ?_)
  have L29 : ∀ (nk : Nat) (x0 : Nat) (x1 : Int32) (x2 : Int32) (τ : HS), lp_X6_ends_29  nk x0 x1 x2 τ = some (r0, σ0) → J p l e rm_X6_ends s m args below meth c 5 D cs A s.heap 0 0 (MQ below (hQ D cs (fun z => z = q) (fun _ => some (.long r0)) σ0 A) args s 0 0 A) q τ [(0, .ref (q x0)), (1, .int x1), (2, .int x2)] 29 [] := by
    intro nk
    induction nk with
    | zero => intro x0 x1 x2 τ hf0; have hf1 : (none : Option (Int64 × HS)) = some (r0, σ0) := hf0; cases hf1
    | succ nk ih =>
      intro x0 x1 x2 τ hf0
      replace hf0 : lp_X6_ends_29_b  (lp_X6_ends_29  nk) x0 x1 x2 τ = some (r0, σ0) := hf0
      unfold lp_X6_ends_29_b at hf0
      refine j_iload_n X dX6_ends_29 2 rfl rfl ?_
      refine j_aload_n X dX6_ends_30 0 rfl rfl ?_
      obtain ⟨h25, hf26⟩ := chk_of hf0; clear hf0
      refine j_geti X fd_X6_297 h25 dX6_ends_31 (fun v27 ev27 => ?_)
      replace hf26 := lt_of hf26 v27 ev27
      refine j_icmp_ge X (tgt := 115) dX6_ends_34 (by decide) (fun c29 => ?_) (fun c29 => ?_)
      · have hf30 := br_y hf26 c29; clear hf26
        refine j_aload_n X dX6_ends_115 0 rfl rfl ?_
        refine j_iload_n X dX6_ends_116 1 rfl rfl ?_
        obtain ⟨r32, σ33, h34, hf35⟩ := bc_of hf30; clear hf30
        refine j_callV0 X [.int x1] [] (c_X6_widthNow l D cs q x0 x1 τ _ _ h34) mk_X6_widthNow mv_X6_widthNow ml_X6_261 h25 rfl (by decide) ⟨rfl, rfl⟩ ⟨Nat.le_of_ble_eq_true rfl, Nat.le_of_ble_eq_true rfl⟩ rfl (Nat.le_of_ble_eq_true rfl) ⟨Nat.le_of_ble_eq_true rfl, Nat.le_of_ble_eq_true rfl⟩ dX6_ends_117 rfl (st' := [.long r32]) rfl ?_
        refine j_lstore_n X (lv' := [(2, .long r32), (0, .ref (q x0)), (1, .int x1)]) dX6_ends_120 rfl (by decide) rfl ?_
        refine j_aload_n X dX6_ends_121 1 rfl rfl ?_
        obtain ⟨h36, hf37⟩ := chk_of hf35; clear hf35
        obtain ⟨i38, h39, hf40⟩ := bd_of hf37; clear hf37
        refine j_getr X fd_X6_86 h36 h39 dX6_ends_122 ?_
        refine j_iconst X (v := 0) dX6_ends_125 (by decide) ?_
        refine j_aload_n X dX6_ends_126 1 rfl rfl ?_
        obtain ⟨i41, h42, hf43⟩ := bd_of hf40; clear hf40
        refine j_getr X fd_X6_11 h36 h42 dX6_ends_127 ?_
        refine j_iconst X (v := 0) dX6_ends_130 (by decide) ?_
        refine j_bipush X (v := 18) dX6_ends_131 (by decide) ?_
        obtain ⟨h44, hf45⟩ := chk_of hf43; clear hf43
        refine j_copy X h44 ml_X6_300 (Nat.le_of_ble_eq_true rfl) (Nat.le_of_ble_eq_true rfl) dX6_ends_133 (fun σ46 eσ46 => ?_)
        replace hf45 := lt_of hf45 σ46 eσ46
        have h48 : isO σ46 6 x0 := by rw [eσ46]; exact h36
        refine j_lload_n X dX6_ends_136 0 rfl rfl ?_
        obtain ⟨er, es⟩ := rt_of hf45
        subst er
        exact j_retl X hr hlk (Nat.le_of_ble_eq_true rfl) (Nat.le_of_ble_eq_true rfl) rfl es.symm rfl dX6_ends_137
      · have hf31 := br_n hf26 c29; clear hf26
        refine j_iconst X (v := 3) dX6_ends_37 (by decide) ?_
        refine j_aload_n X dX6_ends_38 0 rfl rfl ?_
        obtain ⟨i49, h50, hf51⟩ := bd_of hf31; clear hf31
        refine j_getr X fd_X6_80 h25 h50 dX6_ends_39 ?_
        refine j_iconst X (v := 3) dX6_ends_42 (by decide) ?_
        refine j_iload_n X dX6_ends_43 2 rfl rfl ?_
        refine j_imul X dX6_ends_44 ?_
        obtain ⟨h52, hf53⟩ := chk_of hf51; clear hf51
        refine j_iald X h52 dX6_ends_45 (fun v54 ev54 => ?_)
        replace hf53 := lt_of hf53 v54 ev54
        refine j_imul X dX6_ends_46 ?_
        refine j_nmi (fun v56 ev56 => ?_)
        replace hf53 := lt_of hf53 v56 ev56
        refine j_istore_n X (lv' := [(3, .int v56), (0, .ref (q x0)), (1, .int x1), (2, .int x2)]) dX6_ends_47 rfl (by decide) rfl ?_
        refine j_aload_n X dX6_ends_48 1 rfl rfl ?_
        refine j_getr X fd_X6_80 h25 h50 dX6_ends_49 ?_
        refine j_iconst X (v := 3) dX6_ends_52 (by decide) ?_
        refine j_iload_n X dX6_ends_53 3 rfl rfl ?_
        refine j_imul X dX6_ends_54 ?_
        refine j_iconst X (v := 2) dX6_ends_55 (by decide) ?_
        refine j_iadd X dX6_ends_56 ?_
        obtain ⟨h61, hf62⟩ := chk_of hf53; clear hf53
        refine j_iald X h61 dX6_ends_57 (fun v63 ev63 => ?_)
        replace hf62 := lt_of hf62 v63 ev63
        refine j_istore X (lv' := [(4, .int v63), (3, .int v56), (0, .ref (q x0)), (1, .int x1), (2, .int x2)]) dX6_ends_58 (by decide) rfl ?_
        refine j_aload_n X dX6_ends_60 2 rfl rfl ?_
        refine j_getr X fd_X6_80 h25 h50 dX6_ends_61 ?_
        refine j_iconst X (v := 3) dX6_ends_64 (by decide) ?_
        refine j_iload_n X dX6_ends_65 4 rfl rfl ?_
        refine j_imul X dX6_ends_66 ?_
        refine j_iconst X (v := 1) dX6_ends_67 (by decide) ?_
        refine j_iadd X dX6_ends_68 ?_
        obtain ⟨h68, hf69⟩ := chk_of hf62; clear hf62
        refine j_iald X h68 dX6_ends_69 (fun v70 ev70 => ?_)
        replace hf69 := lt_of hf69 v70 ev70
        refine j_iconst X (v := 2) dX6_ends_70 (by decide) ?_
        refine j_icmp_ge X (tgt := 96) dX6_ends_71 (by decide) (fun c72 => ?_) (fun c72 => ?_)
        · have hf73 := br_y hf69 c72; clear hf69
          refine j_aload_n X dX6_ends_96 2 rfl rfl ?_
          obtain ⟨i75, h76, hf77⟩ := bd_of hf73; clear hf73
          refine j_getr X fd_X6_11 h25 h76 dX6_ends_97 ?_
          refine j_iload_n X dX6_ends_100 1 rfl rfl ?_
          refine j_iconst X (v := 1) dX6_ends_101 (by decide) ?_
          refine j_iadd X dX6_ends_102 ?_
          refine j_dup2 X dX6_ends_103 rfl rfl ?_
          obtain ⟨h78, hf79⟩ := chk_of hf77; clear hf77
          refine j_iald X h78 dX6_ends_104 (fun v80 ev80 => ?_)
          replace hf79 := lt_of hf79 v80 ev80
          refine j_iload X dX6_ends_105 0 rfl ?_
          refine j_ishr X dX6_ends_107 ?_
          obtain ⟨h82, hf83⟩ := chk_of hf79; clear hf79
          refine j_iast X h82 dX6_ends_108 (fun σ84 eσ84 => ?_)
          replace hf83 := lt_of hf83 σ84 eσ84
          have h86 : isO σ84 6 x0 := by rw [eσ84]; exact h25
          obtain ⟨v87, ev87⟩ : ∃ y : Int32, y = x2 + (1 : Int32) := ⟨_, rfl⟩
          replace hf83 := lt_of hf83 v87 ev87
          refine j_iinc X (v := v87) (lv' := [(2, .int v87), (4, .int v63), (3, .int v56), (0, .ref (q x0)), (1, .int x1)]) dX6_ends_109 4 rfl (by rw [ev87]; rfl) (by decide) rfl ?_
          refine j_goto X (tgt := 29) dX6_ends_112 (by decide) ?_
          refine j_lvsub [3, 4, 0] (lv' := [(0, .ref (q x0)), (1, .int x1), (2, .int v87)]) rfl ?_
          exact ih x0 x1 v87 σ84 hf83
        · have hf74 := br_n hf69 c72; clear hf69
          refine j_aload_n X dX6_ends_74 2 rfl rfl ?_
          obtain ⟨i89, h90, hf91⟩ := bd_of hf74; clear hf74
          refine j_getr X fd_X6_11 h25 h90 dX6_ends_75 ?_
          refine j_iload_n X dX6_ends_78 1 rfl rfl ?_
          refine j_aload_n X dX6_ends_79 2 rfl rfl ?_
          refine j_getr X fd_X6_80 h25 h50 dX6_ends_80 ?_
          refine j_iconst X (v := 3) dX6_ends_83 (by decide) ?_
          refine j_iload_n X dX6_ends_84 4 rfl rfl ?_
          refine j_imul X dX6_ends_85 ?_
          refine j_iconst X (v := 1) dX6_ends_86 (by decide) ?_
          refine j_iadd X dX6_ends_87 ?_
          obtain ⟨h95, hf96⟩ := chk_of hf91; clear hf91
          refine j_iald X h95 dX6_ends_88 (fun v97 ev97 => ?_)
          replace hf96 := lt_of hf96 v97 ev97
          refine j_iadd X dX6_ends_89 ?_
          refine j_iload X dX6_ends_90 0 rfl ?_
          obtain ⟨h99, hf100⟩ := chk_of hf96; clear hf96
          refine j_iast X h99 dX6_ends_92 (fun σ101 eσ101 => ?_)
          replace hf100 := lt_of hf100 σ101 eσ101
          have h103 : isO σ101 6 x0 := by rw [eσ101]; exact h25
          refine j_goto X (tgt := 109) dX6_ends_93 (by decide) ?_
          obtain ⟨v104, ev104⟩ : ∃ y : Int32, y = x2 + (1 : Int32) := ⟨_, rfl⟩
          replace hf100 := lt_of hf100 v104 ev104
          refine j_iinc X (v := v104) (lv' := [(2, .int v104), (4, .int v63), (3, .int v56), (0, .ref (q x0)), (1, .int x1)]) dX6_ends_109 4 rfl (by rw [ev104]; rfl) (by decide) rfl ?_
          refine j_goto X (tgt := 29) dX6_ends_112 (by decide) ?_
          refine j_lvsub [3, 4, 0] (lv' := [(0, .ref (q x0)), (1, .int x1), (2, .int v104)]) rfl ?_
          exact ih x0 x1 v104 σ101 hf100
  refine j_aload_n X dX6_ends_0 0 rfl rfl ?_
  refine j_iload_n X dX6_ends_1 1 rfl rfl ?_
  obtain ⟨h1, hf2⟩ := chk_of hf0; clear hf0
  obtain ⟨r3, σ4, h5, hf6⟩ := bc_of hf2; clear hf2
  refine j_callV0 X [.int a1] [] (c_X6_isFormula l D cs q a0 a1 σ _ _ h5) mk_X6_isFormula mv_X6_isFormula ml_X6_180 h1 rfl (by decide) ⟨rfl, rfl⟩ ⟨Nat.le_of_ble_eq_true rfl, Nat.le_of_ble_eq_true rfl⟩ rfl (Nat.le_of_ble_eq_true rfl) ⟨Nat.le_of_ble_eq_true rfl, Nat.le_of_ble_eq_true rfl⟩ dX6_ends_2 rfl (st' := [.int r3]) rfl ?_
  refine j_if_ne X (tgt := 12) dX6_ends_5 (by decide) (fun c7 => ?_) (fun c7 => ?_)
  · have hf8 := br_n hf6 c7; clear hf6
    refine j_aload_n X dX6_ends_12 0 rfl rfl ?_
    obtain ⟨h10, hf11⟩ := chk_of hf8; clear hf8
    obtain ⟨i12, h13, hf14⟩ := bd_of hf11; clear hf11
    refine j_getr X fd_X6_11 h10 h13 dX6_ends_13 ?_
    refine j_iconst X (v := 0) dX6_ends_16 (by decide) ?_
    refine j_aload_n X dX6_ends_17 0 rfl rfl ?_
    obtain ⟨i15, h16, hf17⟩ := bd_of hf14; clear hf14
    refine j_getr X fd_X6_86 h10 h16 dX6_ends_18 ?_
    refine j_iconst X (v := 0) dX6_ends_21 (by decide) ?_
    refine j_bipush X (v := 18) dX6_ends_22 (by decide) ?_
    obtain ⟨h18, hf19⟩ := chk_of hf17; clear hf17
    refine j_copy X h18 ml_X6_300 (Nat.le_of_ble_eq_true rfl) (Nat.le_of_ble_eq_true rfl) dX6_ends_24 (fun σ20 eσ20 => ?_)
    replace hf19 := lt_of hf19 σ20 eσ20
    have h22 : isO σ20 6 a0 := by rw [eσ20]; exact h10
    refine j_iconst X (v := 0) dX6_ends_27 (by decide) ?_
    refine j_nmi (fun v23 ev23 => ?_)
    replace hf19 := lt_of hf19 v23 ev23
    refine j_istore_n X (lv' := [(2, .int v23), (0, .ref (q a0)), (1, .int a1)]) dX6_ends_28 rfl (by decide) rfl ?_
    refine j_lvsub [1, 2, 0] (lv' := [(0, .ref (q a0)), (1, .int a1), (2, .int v23)]) rfl ?_
    exact L29  1000 a0 a1 v23 σ20 hf19
  · have hf9 := br_y hf6 c7; clear hf6
    refine j_ldc2 X k_X6_198 dX6_ends_8 ?_
    obtain ⟨er, es⟩ := rt_of hf9
    subst er
    exact j_retl X hr hlk (Nat.le_of_ble_eq_true rfl) (Nat.le_of_ble_eq_true rfl) rfl es.symm rfl dX6_ends_11
abbrev rm_X6_exact : Room := { frames := 5, cells := 0, slots := 0, locals := 320 }
set_option maxHeartbeats 4000000 in
set_option maxRecDepth 100000 in
theorem c_X6_exact (l : Launch) (D : va_G) (cs : Nat → ClassId) (q : Nat → Nat) (a0 : Nat) (a1 : Int32) (σ σ0 : HS) (r0 : Int64) (hf0 : f_X6_exact a0 a1 σ = some (r0, σ0)) : MT l yX6_exact (Cond.code yX6_exact cX6_exact 3 (some .long) :: lw_g) rm_X6_exact D cs q σ σ0 [.ref (q a0), .int a1] (fun z => z = q) (fun _ => some (.long r0)) 0 0 := by
  unfold f_X6_exact at hf0
  refine MT_of (cc := cX6_exact) (lv0 := [(0, .ref (q a0)), (1, .int a1)]) (by decide) (Nat.le_of_ble_eq_true rfl) rfl (fun p e s m args below meth c A X hr hlk hin => ?_)
  have L26 : ∀ (nk : Nat) (x0 : Nat) (x1 : Int32) (x2 : Int32) (τ : HS), lp_X6_exact_26  nk x0 x1 x2 τ = some (r0, σ0) → J p l e rm_X6_exact s m args below meth c 3 D cs A s.heap 0 0 (MQ below (hQ D cs (fun z => z = q) (fun _ => some (.long r0)) σ0 A) args s 0 0 A) q τ [(0, .ref (q x0)), (1, .int x1), (2, .int x2)] 26 [] := by
    intro nk
    induction nk with
    | zero => intro x0 x1 x2 τ hf0; have hf1 : (none : Option (Int64 × HS)) = some (r0, σ0) := hf0; cases hf1
    | succ nk ih =>
      intro x0 x1 x2 τ hf0
      replace hf0 : lp_X6_exact_26_b  (lp_X6_exact_26  nk) x0 x1 x2 τ = some (r0, σ0) := hf0
      unfold lp_X6_exact_26_b at hf0
      refine j_iload_n X dX6_exact_26 2 rfl rfl ?_
      refine j_bipush X (v := 6) dX6_exact_27 (by decide) ?_
      refine j_icmp_ge X (tgt := 48) dX6_exact_29 (by decide) (fun c21 => ?_) (fun c21 => ?_)
      · have hf22 := br_y hf0 c21; clear hf0
        refine j_aload_n X dX6_exact_48 0 rfl rfl ?_
        refine j_iload_n X dX6_exact_49 1 rfl rfl ?_
        obtain ⟨h24, hf25⟩ := chk_of hf22; clear hf22
        obtain ⟨r26, σ27, h28, hf29⟩ := bc_of hf25; clear hf25
        refine j_callV0 X [.int x1] [] (c_X6_spans l D cs q x0 x1 τ _ _ h28) mk_X6_spans mv_X6_spans ml_X6_236 h24 rfl (by decide) ⟨rfl, rfl⟩ ⟨Nat.le_of_ble_eq_true rfl, Nat.le_of_ble_eq_true rfl⟩ rfl (Nat.le_of_ble_eq_true rfl) ⟨Nat.le_of_ble_eq_true rfl, Nat.le_of_ble_eq_true rfl⟩ dX6_exact_50 rfl (st' := [.int r26]) rfl ?_
        refine j_istore_n X (lv' := [(2, .int r26), (0, .ref (q x0)), (1, .int x1)]) dX6_exact_53 rfl (by decide) rfl ?_
        refine j_aload_n X dX6_exact_54 1 rfl rfl ?_
        refine j_iload_n X dX6_exact_55 2 rfl rfl ?_
        obtain ⟨h30, hf31⟩ := chk_of hf29; clear hf29
        obtain ⟨r32, σ33, h34, hf35⟩ := bc_of hf31; clear hf31
        refine j_callV0 X [.int x1] [] (c_X6_lowOf l D cs q x0 x1 σ27 _ _ h34) mk_X6_lowOf mv_X6_lowOf ml_X6_245 h30 rfl (by decide) ⟨rfl, rfl⟩ ⟨Nat.le_of_ble_eq_true rfl, Nat.le_of_ble_eq_true rfl⟩ rfl (Nat.le_of_ble_eq_true rfl) ⟨Nat.le_of_ble_eq_true rfl, Nat.le_of_ble_eq_true rfl⟩ dX6_exact_56 rfl (st' := [.long r32]) rfl ?_
        obtain ⟨er, es⟩ := rt_of hf35
        subst er
        exact j_retl X hr hlk (Nat.le_of_ble_eq_true rfl) (Nat.le_of_ble_eq_true rfl) rfl es.symm rfl dX6_exact_59
      · have hf23 := br_n hf0 c21; clear hf0
        refine j_aload_n X dX6_exact_32 0 rfl rfl ?_
        refine j_iload_n X dX6_exact_33 2 rfl rfl ?_
        refine j_aload_n X dX6_exact_34 0 rfl rfl ?_
        refine j_iload_n X dX6_exact_35 2 rfl rfl ?_
        obtain ⟨h36, hf37⟩ := chk_of hf23; clear hf23
        obtain ⟨r38, σ39, h40, hf41⟩ := bc_of hf37; clear hf37
        refine j_callV0 X [.int x2] [.int x2, .ref (q x0)] (c_X6_valueOf l D cs q x0 x2 τ _ _ h40) mk_X6_valueOf mv_X6_valueOf ml_X6_115 h36 rfl (by decide) ⟨rfl, rfl⟩ ⟨Nat.le_of_ble_eq_true rfl, Nat.le_of_ble_eq_true rfl⟩ rfl (Nat.le_of_ble_eq_true rfl) ⟨Nat.le_of_ble_eq_true rfl, Nat.le_of_ble_eq_true rfl⟩ dX6_exact_36 rfl (st' := [.int r38, .int x2, .ref (q x0)]) rfl ?_
        obtain ⟨h42, hf43⟩ := chk_of hf41; clear hf41
        obtain ⟨r44, σ45, h46, hf47⟩ := bc_of hf43; clear hf43
        refine j_callV0 X [.int x2, .int r38] [] (c_X6_laysPoint l D cs q x0 x2 r38 σ39 _ _ h46) mk_X6_laysPoint mv_X6_laysPoint ml_X6_264 h42 rfl (by decide) ⟨rfl, rfl⟩ ⟨Nat.le_of_ble_eq_true rfl, Nat.le_of_ble_eq_true rfl⟩ rfl (Nat.le_of_ble_eq_true rfl) ⟨Nat.le_of_ble_eq_true rfl, Nat.le_of_ble_eq_true rfl⟩ dX6_exact_39 rfl (st' := []) rfl ?_
        obtain ⟨v48, ev48⟩ : ∃ y : Int32, y = x2 + (1 : Int32) := ⟨_, rfl⟩
        replace hf47 := lt_of hf47 v48 ev48
        refine j_iinc X (v := v48) (lv' := [(2, .int v48), (0, .ref (q x0)), (1, .int x1)]) dX6_exact_42 2 rfl (by rw [ev48]; rfl) (by decide) rfl ?_
        refine j_goto X (tgt := 26) dX6_exact_45 (by decide) ?_
        refine j_lvsub [1, 2, 0] (lv' := [(0, .ref (q x0)), (1, .int x1), (2, .int v48)]) rfl ?_
        exact ih x0 x1 v48 σ45 hf47
  refine j_aload_n X dX6_exact_0 0 rfl rfl ?_
  refine j_iload_n X dX6_exact_1 1 rfl rfl ?_
  obtain ⟨h1, hf2⟩ := chk_of hf0; clear hf0
  obtain ⟨r3, σ4, h5, hf6⟩ := bc_of hf2; clear hf2
  refine j_callV0 X [.int a1] [] (c_X6_isFormula l D cs q a0 a1 σ _ _ h5) mk_X6_isFormula mv_X6_isFormula ml_X6_180 h1 rfl (by decide) ⟨rfl, rfl⟩ ⟨Nat.le_of_ble_eq_true rfl, Nat.le_of_ble_eq_true rfl⟩ rfl (Nat.le_of_ble_eq_true rfl) ⟨Nat.le_of_ble_eq_true rfl, Nat.le_of_ble_eq_true rfl⟩ dX6_exact_2 rfl (st' := [.int r3]) rfl ?_
  refine j_if_ne X (tgt := 12) dX6_exact_5 (by decide) (fun c7 => ?_) (fun c7 => ?_)
  · have hf8 := br_n hf6 c7; clear hf6
    refine j_aload_n X dX6_exact_12 0 rfl rfl ?_
    refine j_iload_n X dX6_exact_13 1 rfl rfl ?_
    obtain ⟨h10, hf11⟩ := chk_of hf8; clear hf8
    obtain ⟨r12, σ13, h14, hf15⟩ := bc_of hf11; clear hf11
    refine j_callV0 X [.int a1] [] (c_X6_spansNow l D cs q a0 a1 σ4 _ _ h14) mk_X6_spansNow mv_X6_spansNow ml_X6_254 h10 rfl (by decide) ⟨rfl, rfl⟩ ⟨Nat.le_of_ble_eq_true rfl, Nat.le_of_ble_eq_true rfl⟩ rfl (Nat.le_of_ble_eq_true rfl) ⟨Nat.le_of_ble_eq_true rfl, Nat.le_of_ble_eq_true rfl⟩ dX6_exact_14 rfl (st' := [.int r12]) rfl ?_
    refine j_if_ne X (tgt := 24) dX6_exact_17 (by decide) (fun c16 => ?_) (fun c16 => ?_)
    · have hf17 := br_n hf15 c16; clear hf15
      refine j_iconst X (v := 0) dX6_exact_24 (by decide) ?_
      refine j_nmi (fun v19 ev19 => ?_)
      replace hf17 := lt_of hf17 v19 ev19
      refine j_istore_n X (lv' := [(2, .int v19), (0, .ref (q a0)), (1, .int a1)]) dX6_exact_25 rfl (by decide) rfl ?_
      refine j_lvsub [1, 2, 0] (lv' := [(0, .ref (q a0)), (1, .int a1), (2, .int v19)]) rfl ?_
      exact L26  1000 a0 a1 v19 σ13 hf17
    · have hf18 := br_y hf15 c16; clear hf15
      refine j_ldc2 X k_X6_239 dX6_exact_20 ?_
      obtain ⟨er, es⟩ := rt_of hf18
      subst er
      exact j_retl X hr hlk (Nat.le_of_ble_eq_true rfl) (Nat.le_of_ble_eq_true rfl) rfl es.symm rfl dX6_exact_23
  · have hf9 := br_y hf6 c7; clear hf6
    refine j_ldc2 X k_X6_198 dX6_exact_8 ?_
    obtain ⟨er, es⟩ := rt_of hf9
    subst er
    exact j_retl X hr hlk (Nat.le_of_ble_eq_true rfl) (Nat.le_of_ble_eq_true rfl) rfl es.symm rfl dX6_exact_11
abbrev rm_X6_next : Room := { frames := 0, cells := 0, slots := 0, locals := 0 }
set_option maxHeartbeats 4000000 in
set_option maxRecDepth 100000 in
theorem c_X6_next (l : Launch) (D : va_G) (cs : Nat → ClassId) (q : Nat → Nat) (a0 : Nat) (σ σ0 : HS) (r0 : Int32) (hf0 : f_X6_next a0 σ = some (r0, σ0)) : MT l yX6_next (Cond.code yX6_next cX6_next 1 (some .int) :: lw_g) rm_X6_next D cs q σ σ0 [.ref (q a0)] (fun z => z = q) (fun _ => some (.int r0)) 0 0 := by
  unfold f_X6_next at hf0
  refine MT_of (cc := cX6_next) (lv0 := [(0, .ref (q a0))]) (by decide) (Nat.le_of_ble_eq_true rfl) rfl (fun p e s m args below meth c A X hr hlk hin => ?_)
  refine j_aload_n X dX6_next_0 0 rfl rfl ?_
  obtain ⟨h1, hf2⟩ := chk_of hf0; clear hf0
  refine j_geti X fd_X6_131 h1 dX6_next_1 (fun v3 ev3 => ?_)
  replace hf2 := lt_of hf2 v3 ev3
  refine j_aload_n X dX6_next_4 0 rfl rfl ?_
  refine j_geti X fd_X6_128 h1 dX6_next_5 (fun v5 ev5 => ?_)
  replace hf2 := lt_of hf2 v5 ev5
  refine j_icmp_ge X (tgt := 23) dX6_next_8 (by decide) (fun c7 => ?_) (fun c7 => ?_)
  · have hf8 := br_y hf2 c7; clear hf2
    refine j_iconst X (v := 0) dX6_next_23 (by decide) ?_
    obtain ⟨er, es⟩ := rt_of hf8
    subst er
    exact j_reti X hr hlk (Nat.le_of_ble_eq_true rfl) (Nat.le_of_ble_eq_true rfl) rfl es.symm rfl dX6_next_24
  · have hf9 := br_n hf2 c7; clear hf2
    refine j_aload_n X dX6_next_11 0 rfl rfl ?_
    obtain ⟨i10, h11, hf12⟩ := bd_of hf9; clear hf9
    refine j_getr X fd_X6_48 h1 h11 dX6_next_12 ?_
    refine j_aload_n X dX6_next_15 0 rfl rfl ?_
    refine j_geti X fd_X6_131 h1 dX6_next_16 (fun v13 ev13 => ?_)
    replace hf12 := lt_of hf12 v13 ev13
    obtain ⟨h15, hf16⟩ := chk_of hf12; clear hf12
    refine j_iald X h15 dX6_next_19 (fun v17 ev17 => ?_)
    replace hf16 := lt_of hf16 v17 ev17
    refine j_goto X (tgt := 24) dX6_next_20 (by decide) ?_
    obtain ⟨er, es⟩ := rt_of hf16
    subst er
    exact j_reti X hr hlk (Nat.le_of_ble_eq_true rfl) (Nat.le_of_ble_eq_true rfl) rfl es.symm rfl dX6_next_24
abbrev rm_X6_wrong : Room := { frames := 0, cells := 0, slots := 0, locals := 0 }
set_option maxHeartbeats 4000000 in
set_option maxRecDepth 100000 in
theorem c_X6_wrong (l : Launch) (D : va_G) (cs : Nat → ClassId) (q : Nat → Nat) (a0 : Nat) (σ σ0 : HS) (r0 : Int32) (hf0 : f_X6_wrong a0 σ = some (r0, σ0)) : MT l yX6_wrong (Cond.code yX6_wrong cX6_wrong 1 (some .int) :: lw_g) rm_X6_wrong D cs q σ σ0 [.ref (q a0)] (fun z => z = q) (fun _ => some (.int r0)) 0 0 := by
  unfold f_X6_wrong at hf0
  refine MT_of (cc := cX6_wrong) (lv0 := [(0, .ref (q a0))]) (by decide) (Nat.le_of_ble_eq_true rfl) rfl (fun p e s m args below meth c A X hr hlk hin => ?_)
  refine j_aload_n X dX6_wrong_0 0 rfl rfl ?_
  refine j_iconst X (v := 0) dX6_wrong_1 (by decide) ?_
  obtain ⟨h1, hf2⟩ := chk_of hf0; clear hf0
  refine j_putz X fp_X6_138 h1 (Or.inl rfl) dX6_wrong_2 (fun σ3 eσ3 => ?_)
  replace hf2 := lt_of hf2 σ3 eσ3
  have h5 : isO σ3 6 a0 := by rw [eσ3]; exact h1
  refine j_iconst X (v := 0) dX6_wrong_5 (by decide) ?_
  obtain ⟨er, es⟩ := rt_of hf2
  subst er
  exact j_reti X hr hlk (Nat.le_of_ble_eq_true rfl) (Nat.le_of_ble_eq_true rfl) rfl es.symm rfl dX6_wrong_6
abbrev rg_MP (n : Nat) : Room := { frames := 2 + n, cells := 0, slots := 0, locals := 64 * (2 + n) }
set_option maxHeartbeats 4000000 in
set_option maxRecDepth 100000 in
theorem cg_MP (l : Launch) (D : va_G) (cs : Nat → ClassId) (q : Nat → Nat) : ∀ ng : Nat, (∀ (a0 : Nat) (σ σ0 : HS) (r0 : Int32), g_MP ng 0 a0 σ = some (r0, σ0) → MT l yX6_sums (Cond.code yX6_sums cX6_sums 5 (some .int) :: lw_g) (rg_MP ng) D cs q σ σ0 [.ref (q a0)] (fun z => z = q) (fun _ => some (.int r0)) 0 0) ∧ (∀ (a0 : Nat) (σ σ0 : HS) (r0 : Int32), g_MP ng 1 a0 σ = some (r0, σ0) → MT l yX6_products (Cond.code yX6_products cX6_products 4 (some .int) :: lw_g) (rg_MP ng) D cs q σ σ0 [.ref (q a0)] (fun z => z = q) (fun _ => some (.int r0)) 0 0) ∧ (∀ (a0 : Nat) (σ σ0 : HS) (r0 : Int32), g_MP ng 2 a0 σ = some (r0, σ0) → MT l yX6_factor (Cond.code yX6_factor cX6_factor 4 (some .int) :: lw_g) (rg_MP ng) D cs q σ σ0 [.ref (q a0)] (fun z => z = q) (fun _ => some (.int r0)) 0 0) ∧ (∀ (a0 : Nat) (σ σ0 : HS) (r0 : Int32), g_MP ng 3 a0 σ = some (r0, σ0) → MT l yX6_opened (Cond.code yX6_opened cX6_opened 4 (some .int) :: lw_g) (rg_MP ng) D cs q σ σ0 [.ref (q a0)] (fun z => z = q) (fun _ => some (.int r0)) 0 0) := by
  intro ng
  induction ng with
  | zero => exact ⟨(fun _ _ _ _ h => (by have h9 : (none : Option (Int32 × HS)) = some _ := h; cases h9)), (fun _ _ _ _ h => (by have h9 : (none : Option (Int32 × HS)) = some _ := h; cases h9)), (fun _ _ _ _ h => (by have h9 : (none : Option (Int32 × HS)) = some _ := h; cases h9)), (fun _ _ _ _ h => (by have h9 : (none : Option (Int32 × HS)) = some _ := h; cases h9))⟩
  | succ ng ihg =>
    refine ⟨?_, ?_, ?_, ?_⟩
    · intro a0 σ σ0 r0 hf0
      replace hf0 : b_X6_sums (g_MP ng) a0 σ = some (r0, σ0) := hf0
      unfold b_X6_sums at hf0
      refine MT_of (cc := cX6_sums) (lv0 := [(0, .ref (q a0))]) (by decide) (Nat.le_of_ble_eq_true rfl) rfl (fun p e s m args below meth c A X hr hlk hin => ?_)
      have L5 : ∀ (nk : Nat) (x0 : Nat) (x1 : Int32) (τ : HS), lp_X6_sums_5 (g_MP ng)  nk x0 x1 τ = some (r0, σ0) → J p l e (rg_MP (ng + 1)) s m args below meth c 5 D cs A s.heap 0 0 (MQ below (hQ D cs (fun z => z = q) (fun _ => some (.int r0)) σ0 A) args s 0 0 A) q τ [(0, .ref (q x0)), (1, .int x1)] 5 [] := by
        intro nk
        induction nk with
        | zero => intro x0 x1 τ hf0; have hf1 : (none : Option (Int32 × HS)) = some (r0, σ0) := hf0; cases hf1
        | succ nk ih =>
          intro x0 x1 τ hf0
          replace hf0 : lp_X6_sums_5_b (g_MP ng)  (lp_X6_sums_5 (g_MP ng)  nk) x0 x1 τ = some (r0, σ0) := hf0
          unfold lp_X6_sums_5_b at hf0
          refine j_aload_n X dX6_sums_5 0 rfl rfl ?_
          obtain ⟨h7, hf8⟩ := chk_of hf0; clear hf0
          refine j_geti X fd_X6_138 h7 dX6_sums_6 (fun v9 ev9 => ?_)
          replace hf8 := lt_of hf8 v9 ev9
          refine j_if_eq X (tgt := 86) dX6_sums_9 (by decide) (fun c11 => ?_) (fun c11 => ?_)
          · have hf12 := br_y hf8 c11; clear hf8
            refine j_iload_n X dX6_sums_86 1 rfl rfl ?_
            obtain ⟨er, es⟩ := rt_of hf12
            subst er
            exact j_reti X hr hlk (Nat.le_of_ble_eq_true rfl) (Nat.le_of_ble_eq_true rfl) rfl es.symm rfl dX6_sums_87
          · have hf13 := br_n hf8 c11; clear hf8
            refine j_aload_n X dX6_sums_12 0 rfl rfl ?_
            obtain ⟨r14, σ15, h16, hf17⟩ := bc_of hf13; clear hf13
            refine j_callV0 X [] [] (c_X6_next l D cs q x0 τ _ _ h16) mk_X6_next mv_X6_next ml_X6_142 h7 rfl (by decide) ⟨rfl, rfl⟩ ⟨by dsimp only [rg_MP, rm_X6_next]; omega, by dsimp only [rg_MP, rm_X6_next]; omega⟩ rfl (Nat.le_of_ble_eq_true rfl) ⟨Nat.zero_le _, Nat.zero_le _⟩ dX6_sums_13 rfl (st' := [.int r14]) rfl ?_
            refine j_bipush X (v := 43) dX6_sums_16 (by decide) ?_
            refine j_icmp_eq X (tgt := 30) dX6_sums_18 (by decide) (fun c18 => ?_) (fun c18 => ?_)
            · have hf19 := br_y hf17 c18; clear hf17
              refine j_aload_n X dX6_sums_30 0 rfl rfl ?_
              obtain ⟨h21, hf22⟩ := chk_of hf19; clear hf19
              refine j_geti X fd_X6_131 h21 dX6_sums_31 (fun v23 ev23 => ?_)
              replace hf22 := lt_of hf22 v23 ev23
              refine j_istore_n X (lv' := [(2, .int v23), (0, .ref (q x0)), (1, .int x1)]) dX6_sums_34 rfl (by decide) rfl ?_
              refine j_aload_n X dX6_sums_35 1 rfl rfl ?_
              obtain ⟨r25, σ26, h27, hf28⟩ := bc_of hf22; clear hf22
              refine j_callV0 X [] [] (c_X6_next l D cs q x0 σ15 _ _ h27) mk_X6_next mv_X6_next ml_X6_142 h21 rfl (by decide) ⟨rfl, rfl⟩ ⟨by dsimp only [rg_MP, rm_X6_next]; omega, by dsimp only [rg_MP, rm_X6_next]; omega⟩ rfl (Nat.le_of_ble_eq_true rfl) ⟨Nat.zero_le _, Nat.zero_le _⟩ dX6_sums_36 rfl (st' := [.int r25]) rfl ?_
              refine j_bipush X (v := 43) dX6_sums_39 (by decide) ?_
              refine j_icmp_ne X (tgt := 48) dX6_sums_41 (by decide) (fun c29 => ?_) (fun c29 => ?_)
              · have hf30 := br_n hf28 c29; clear hf28
                refine j_iconst X (v := 4) dX6_sums_48 (by decide) ?_
                refine j_nmi (fun v32 ev32 => ?_)
                replace hf30 := lt_of hf30 v32 ev32
                refine j_istore_n X (lv' := [(3, .int v32), (2, .int v23), (0, .ref (q x0)), (1, .int x1)]) dX6_sums_49 rfl (by decide) rfl ?_
                refine j_aload_n X dX6_sums_50 2 rfl rfl ?_
                refine j_dup X dX6_sums_51 rfl ?_
                obtain ⟨h34, hf35⟩ := chk_of hf30; clear hf30
                refine j_geti X fd_X6_131 h34 dX6_sums_52 (fun v36 ev36 => ?_)
                replace hf35 := lt_of hf35 v36 ev36
                refine j_iconst X (v := 1) dX6_sums_55 (by decide) ?_
                refine j_iadd X dX6_sums_56 ?_
                refine j_puti X fp_X6_131 h34 dX6_sums_57 (fun σ38 eσ38 => ?_)
                replace hf35 := lt_of hf35 σ38 eσ38
                have h40 : isO σ38 6 x0 := by rw [eσ38]; exact h34
                refine j_aload_n X dX6_sums_60 2 rfl rfl ?_
                obtain ⟨r41, σ42, h43, hf44⟩ := bc_of hf35; clear hf35
                refine j_callV0 X [] [] (ihg.2.1 x0 σ38 _ _ h43) mk_X6_products mv_X6_products ml_X6_165 h40 rfl (by decide) ⟨rfl, rfl⟩ ⟨by dsimp only [rg_MP]; omega, by dsimp only [rg_MP]; omega⟩ rfl (Nat.le_of_ble_eq_true rfl) ⟨Nat.zero_le _, Nat.zero_le _⟩ dX6_sums_61 rfl (st' := [.int r41]) rfl ?_
                refine j_istore X (lv' := [(4, .int r41), (3, .int v32), (2, .int v23), (0, .ref (q x0)), (1, .int x1)]) dX6_sums_64 (by decide) rfl ?_
                refine j_aload_n X dX6_sums_66 3 rfl rfl ?_
                obtain ⟨h45, hf46⟩ := chk_of hf44; clear hf44
                refine j_geti X fd_X6_138 h45 dX6_sums_67 (fun v47 ev47 => ?_)
                replace hf46 := lt_of hf46 v47 ev47
                refine j_if_eq X (tgt := 83) dX6_sums_70 (by decide) (fun c49 => ?_) (fun c49 => ?_)
                · have hf50 := br_y hf46 c49; clear hf46
                  refine j_goto X (tgt := 5) dX6_sums_83 (by decide) ?_
                  refine j_lvsub [3, 4] (lv' := [(0, .ref (q x0)), (1, .int x1)]) rfl ?_
                  exact ih x0 x1 σ42 hf50
                · have hf51 := br_n hf46 c49; clear hf46
                  refine j_aload_n X dX6_sums_73 3 rfl rfl ?_
                  refine j_iload_n X dX6_sums_74 1 rfl rfl ?_
                  refine j_iload_n X dX6_sums_75 4 rfl rfl ?_
                  refine j_iload X dX6_sums_76 0 rfl ?_
                  refine j_iload_n X dX6_sums_78 2 rfl rfl ?_
                  obtain ⟨r52, σ53, h54, hf55⟩ := bc_of hf51; clear hf51
                  refine j_callV0 X [.int v32, .int x1, .int r41, .int v23] [] (c_X6_comes l D cs q x0 v32 x1 r41 v23 σ42 _ _ h54) mk_X6_comes mv_X6_comes ml_X6_158 h45 rfl (by decide) ⟨rfl, rfl⟩ ⟨by dsimp only [rg_MP, rm_X6_comes]; omega, by dsimp only [rg_MP, rm_X6_comes]; omega⟩ rfl (Nat.le_of_ble_eq_true rfl) ⟨Nat.zero_le _, Nat.zero_le _⟩ dX6_sums_79 rfl (st' := [.int r52]) rfl ?_
                  refine j_istore_n X (lv' := [(1, .int r52), (4, .int r41), (3, .int v32), (2, .int v23), (0, .ref (q x0))]) dX6_sums_82 rfl (by decide) rfl ?_
                  refine j_goto X (tgt := 5) dX6_sums_83 (by decide) ?_
                  refine j_lvsub [4, 0] (lv' := [(0, .ref (q x0)), (1, .int r52)]) rfl ?_
                  exact ih x0 r52 σ53 hf55
              · have hf31 := br_y hf28 c29; clear hf28
                refine j_iconst X (v := 3) dX6_sums_44 (by decide) ?_
                refine j_goto X (tgt := 49) dX6_sums_45 (by decide) ?_
                refine j_nmi (fun v56 ev56 => ?_)
                replace hf31 := lt_of hf31 v56 ev56
                refine j_istore_n X (lv' := [(3, .int v56), (2, .int v23), (0, .ref (q x0)), (1, .int x1)]) dX6_sums_49 rfl (by decide) rfl ?_
                refine j_aload_n X dX6_sums_50 2 rfl rfl ?_
                refine j_dup X dX6_sums_51 rfl ?_
                obtain ⟨h58, hf59⟩ := chk_of hf31; clear hf31
                refine j_geti X fd_X6_131 h58 dX6_sums_52 (fun v60 ev60 => ?_)
                replace hf59 := lt_of hf59 v60 ev60
                refine j_iconst X (v := 1) dX6_sums_55 (by decide) ?_
                refine j_iadd X dX6_sums_56 ?_
                refine j_puti X fp_X6_131 h58 dX6_sums_57 (fun σ62 eσ62 => ?_)
                replace hf59 := lt_of hf59 σ62 eσ62
                have h64 : isO σ62 6 x0 := by rw [eσ62]; exact h58
                refine j_aload_n X dX6_sums_60 2 rfl rfl ?_
                obtain ⟨r65, σ66, h67, hf68⟩ := bc_of hf59; clear hf59
                refine j_callV0 X [] [] (ihg.2.1 x0 σ62 _ _ h67) mk_X6_products mv_X6_products ml_X6_165 h64 rfl (by decide) ⟨rfl, rfl⟩ ⟨by dsimp only [rg_MP]; omega, by dsimp only [rg_MP]; omega⟩ rfl (Nat.le_of_ble_eq_true rfl) ⟨Nat.zero_le _, Nat.zero_le _⟩ dX6_sums_61 rfl (st' := [.int r65]) rfl ?_
                refine j_istore X (lv' := [(4, .int r65), (3, .int v56), (2, .int v23), (0, .ref (q x0)), (1, .int x1)]) dX6_sums_64 (by decide) rfl ?_
                refine j_aload_n X dX6_sums_66 3 rfl rfl ?_
                obtain ⟨h69, hf70⟩ := chk_of hf68; clear hf68
                refine j_geti X fd_X6_138 h69 dX6_sums_67 (fun v71 ev71 => ?_)
                replace hf70 := lt_of hf70 v71 ev71
                refine j_if_eq X (tgt := 83) dX6_sums_70 (by decide) (fun c73 => ?_) (fun c73 => ?_)
                · have hf74 := br_y hf70 c73; clear hf70
                  refine j_goto X (tgt := 5) dX6_sums_83 (by decide) ?_
                  refine j_lvsub [3, 4] (lv' := [(0, .ref (q x0)), (1, .int x1)]) rfl ?_
                  exact ih x0 x1 σ66 hf74
                · have hf75 := br_n hf70 c73; clear hf70
                  refine j_aload_n X dX6_sums_73 3 rfl rfl ?_
                  refine j_iload_n X dX6_sums_74 1 rfl rfl ?_
                  refine j_iload_n X dX6_sums_75 4 rfl rfl ?_
                  refine j_iload X dX6_sums_76 0 rfl ?_
                  refine j_iload_n X dX6_sums_78 2 rfl rfl ?_
                  obtain ⟨r76, σ77, h78, hf79⟩ := bc_of hf75; clear hf75
                  refine j_callV0 X [.int v56, .int x1, .int r65, .int v23] [] (c_X6_comes l D cs q x0 v56 x1 r65 v23 σ66 _ _ h78) mk_X6_comes mv_X6_comes ml_X6_158 h69 rfl (by decide) ⟨rfl, rfl⟩ ⟨by dsimp only [rg_MP, rm_X6_comes]; omega, by dsimp only [rg_MP, rm_X6_comes]; omega⟩ rfl (Nat.le_of_ble_eq_true rfl) ⟨Nat.zero_le _, Nat.zero_le _⟩ dX6_sums_79 rfl (st' := [.int r76]) rfl ?_
                  refine j_istore_n X (lv' := [(1, .int r76), (4, .int r65), (3, .int v56), (2, .int v23), (0, .ref (q x0))]) dX6_sums_82 rfl (by decide) rfl ?_
                  refine j_goto X (tgt := 5) dX6_sums_83 (by decide) ?_
                  refine j_lvsub [4, 0] (lv' := [(0, .ref (q x0)), (1, .int r76)]) rfl ?_
                  exact ih x0 r76 σ77 hf79
            · have hf20 := br_n hf17 c18; clear hf17
              refine j_aload_n X dX6_sums_21 0 rfl rfl ?_
              obtain ⟨h80, hf81⟩ := chk_of hf20; clear hf20
              obtain ⟨r82, σ83, h84, hf85⟩ := bc_of hf81; clear hf81
              refine j_callV0 X [] [] (c_X6_next l D cs q x0 σ15 _ _ h84) mk_X6_next mv_X6_next ml_X6_142 h80 rfl (by decide) ⟨rfl, rfl⟩ ⟨by dsimp only [rg_MP, rm_X6_next]; omega, by dsimp only [rg_MP, rm_X6_next]; omega⟩ rfl (Nat.le_of_ble_eq_true rfl) ⟨Nat.zero_le _, Nat.zero_le _⟩ dX6_sums_22 rfl (st' := [.int r82]) rfl ?_
              refine j_bipush X (v := 45) dX6_sums_25 (by decide) ?_
              refine j_icmp_ne X (tgt := 86) dX6_sums_27 (by decide) (fun c86 => ?_) (fun c86 => ?_)
              · have hf87 := br_n hf85 c86; clear hf85
                refine j_iload_n X dX6_sums_86 1 rfl rfl ?_
                obtain ⟨er, es⟩ := rt_of hf87
                subst er
                exact j_reti X hr hlk (Nat.le_of_ble_eq_true rfl) (Nat.le_of_ble_eq_true rfl) rfl es.symm rfl dX6_sums_87
              · have hf88 := br_y hf85 c86; clear hf85
                refine j_aload_n X dX6_sums_30 0 rfl rfl ?_
                obtain ⟨h89, hf90⟩ := chk_of hf88; clear hf88
                refine j_geti X fd_X6_131 h89 dX6_sums_31 (fun v91 ev91 => ?_)
                replace hf90 := lt_of hf90 v91 ev91
                refine j_istore_n X (lv' := [(2, .int v91), (0, .ref (q x0)), (1, .int x1)]) dX6_sums_34 rfl (by decide) rfl ?_
                refine j_aload_n X dX6_sums_35 1 rfl rfl ?_
                obtain ⟨r93, σ94, h95, hf96⟩ := bc_of hf90; clear hf90
                refine j_callV0 X [] [] (c_X6_next l D cs q x0 σ83 _ _ h95) mk_X6_next mv_X6_next ml_X6_142 h89 rfl (by decide) ⟨rfl, rfl⟩ ⟨by dsimp only [rg_MP, rm_X6_next]; omega, by dsimp only [rg_MP, rm_X6_next]; omega⟩ rfl (Nat.le_of_ble_eq_true rfl) ⟨Nat.zero_le _, Nat.zero_le _⟩ dX6_sums_36 rfl (st' := [.int r93]) rfl ?_
                refine j_bipush X (v := 43) dX6_sums_39 (by decide) ?_
                refine j_icmp_ne X (tgt := 48) dX6_sums_41 (by decide) (fun c97 => ?_) (fun c97 => ?_)
                · have hf98 := br_n hf96 c97; clear hf96
                  refine j_iconst X (v := 4) dX6_sums_48 (by decide) ?_
                  refine j_nmi (fun v100 ev100 => ?_)
                  replace hf98 := lt_of hf98 v100 ev100
                  refine j_istore_n X (lv' := [(3, .int v100), (2, .int v91), (0, .ref (q x0)), (1, .int x1)]) dX6_sums_49 rfl (by decide) rfl ?_
                  refine j_aload_n X dX6_sums_50 2 rfl rfl ?_
                  refine j_dup X dX6_sums_51 rfl ?_
                  obtain ⟨h102, hf103⟩ := chk_of hf98; clear hf98
                  refine j_geti X fd_X6_131 h102 dX6_sums_52 (fun v104 ev104 => ?_)
                  replace hf103 := lt_of hf103 v104 ev104
                  refine j_iconst X (v := 1) dX6_sums_55 (by decide) ?_
                  refine j_iadd X dX6_sums_56 ?_
                  refine j_puti X fp_X6_131 h102 dX6_sums_57 (fun σ106 eσ106 => ?_)
                  replace hf103 := lt_of hf103 σ106 eσ106
                  have h108 : isO σ106 6 x0 := by rw [eσ106]; exact h102
                  refine j_aload_n X dX6_sums_60 2 rfl rfl ?_
                  obtain ⟨r109, σ110, h111, hf112⟩ := bc_of hf103; clear hf103
                  refine j_callV0 X [] [] (ihg.2.1 x0 σ106 _ _ h111) mk_X6_products mv_X6_products ml_X6_165 h108 rfl (by decide) ⟨rfl, rfl⟩ ⟨by dsimp only [rg_MP]; omega, by dsimp only [rg_MP]; omega⟩ rfl (Nat.le_of_ble_eq_true rfl) ⟨Nat.zero_le _, Nat.zero_le _⟩ dX6_sums_61 rfl (st' := [.int r109]) rfl ?_
                  refine j_istore X (lv' := [(4, .int r109), (3, .int v100), (2, .int v91), (0, .ref (q x0)), (1, .int x1)]) dX6_sums_64 (by decide) rfl ?_
                  refine j_aload_n X dX6_sums_66 3 rfl rfl ?_
                  obtain ⟨h113, hf114⟩ := chk_of hf112; clear hf112
                  refine j_geti X fd_X6_138 h113 dX6_sums_67 (fun v115 ev115 => ?_)
                  replace hf114 := lt_of hf114 v115 ev115
                  refine j_if_eq X (tgt := 83) dX6_sums_70 (by decide) (fun c117 => ?_) (fun c117 => ?_)
                  · have hf118 := br_y hf114 c117; clear hf114
                    refine j_goto X (tgt := 5) dX6_sums_83 (by decide) ?_
                    refine j_lvsub [3, 4] (lv' := [(0, .ref (q x0)), (1, .int x1)]) rfl ?_
                    exact ih x0 x1 σ110 hf118
                  · have hf119 := br_n hf114 c117; clear hf114
                    refine j_aload_n X dX6_sums_73 3 rfl rfl ?_
                    refine j_iload_n X dX6_sums_74 1 rfl rfl ?_
                    refine j_iload_n X dX6_sums_75 4 rfl rfl ?_
                    refine j_iload X dX6_sums_76 0 rfl ?_
                    refine j_iload_n X dX6_sums_78 2 rfl rfl ?_
                    obtain ⟨r120, σ121, h122, hf123⟩ := bc_of hf119; clear hf119
                    refine j_callV0 X [.int v100, .int x1, .int r109, .int v91] [] (c_X6_comes l D cs q x0 v100 x1 r109 v91 σ110 _ _ h122) mk_X6_comes mv_X6_comes ml_X6_158 h113 rfl (by decide) ⟨rfl, rfl⟩ ⟨by dsimp only [rg_MP, rm_X6_comes]; omega, by dsimp only [rg_MP, rm_X6_comes]; omega⟩ rfl (Nat.le_of_ble_eq_true rfl) ⟨Nat.zero_le _, Nat.zero_le _⟩ dX6_sums_79 rfl (st' := [.int r120]) rfl ?_
                    refine j_istore_n X (lv' := [(1, .int r120), (4, .int r109), (3, .int v100), (2, .int v91), (0, .ref (q x0))]) dX6_sums_82 rfl (by decide) rfl ?_
                    refine j_goto X (tgt := 5) dX6_sums_83 (by decide) ?_
                    refine j_lvsub [4, 0] (lv' := [(0, .ref (q x0)), (1, .int r120)]) rfl ?_
                    exact ih x0 r120 σ121 hf123
                · have hf99 := br_y hf96 c97; clear hf96
                  refine j_iconst X (v := 3) dX6_sums_44 (by decide) ?_
                  refine j_goto X (tgt := 49) dX6_sums_45 (by decide) ?_
                  refine j_nmi (fun v124 ev124 => ?_)
                  replace hf99 := lt_of hf99 v124 ev124
                  refine j_istore_n X (lv' := [(3, .int v124), (2, .int v91), (0, .ref (q x0)), (1, .int x1)]) dX6_sums_49 rfl (by decide) rfl ?_
                  refine j_aload_n X dX6_sums_50 2 rfl rfl ?_
                  refine j_dup X dX6_sums_51 rfl ?_
                  obtain ⟨h126, hf127⟩ := chk_of hf99; clear hf99
                  refine j_geti X fd_X6_131 h126 dX6_sums_52 (fun v128 ev128 => ?_)
                  replace hf127 := lt_of hf127 v128 ev128
                  refine j_iconst X (v := 1) dX6_sums_55 (by decide) ?_
                  refine j_iadd X dX6_sums_56 ?_
                  refine j_puti X fp_X6_131 h126 dX6_sums_57 (fun σ130 eσ130 => ?_)
                  replace hf127 := lt_of hf127 σ130 eσ130
                  have h132 : isO σ130 6 x0 := by rw [eσ130]; exact h126
                  refine j_aload_n X dX6_sums_60 2 rfl rfl ?_
                  obtain ⟨r133, σ134, h135, hf136⟩ := bc_of hf127; clear hf127
                  refine j_callV0 X [] [] (ihg.2.1 x0 σ130 _ _ h135) mk_X6_products mv_X6_products ml_X6_165 h132 rfl (by decide) ⟨rfl, rfl⟩ ⟨by dsimp only [rg_MP]; omega, by dsimp only [rg_MP]; omega⟩ rfl (Nat.le_of_ble_eq_true rfl) ⟨Nat.zero_le _, Nat.zero_le _⟩ dX6_sums_61 rfl (st' := [.int r133]) rfl ?_
                  refine j_istore X (lv' := [(4, .int r133), (3, .int v124), (2, .int v91), (0, .ref (q x0)), (1, .int x1)]) dX6_sums_64 (by decide) rfl ?_
                  refine j_aload_n X dX6_sums_66 3 rfl rfl ?_
                  obtain ⟨h137, hf138⟩ := chk_of hf136; clear hf136
                  refine j_geti X fd_X6_138 h137 dX6_sums_67 (fun v139 ev139 => ?_)
                  replace hf138 := lt_of hf138 v139 ev139
                  refine j_if_eq X (tgt := 83) dX6_sums_70 (by decide) (fun c141 => ?_) (fun c141 => ?_)
                  · have hf142 := br_y hf138 c141; clear hf138
                    refine j_goto X (tgt := 5) dX6_sums_83 (by decide) ?_
                    refine j_lvsub [3, 4] (lv' := [(0, .ref (q x0)), (1, .int x1)]) rfl ?_
                    exact ih x0 x1 σ134 hf142
                  · have hf143 := br_n hf138 c141; clear hf138
                    refine j_aload_n X dX6_sums_73 3 rfl rfl ?_
                    refine j_iload_n X dX6_sums_74 1 rfl rfl ?_
                    refine j_iload_n X dX6_sums_75 4 rfl rfl ?_
                    refine j_iload X dX6_sums_76 0 rfl ?_
                    refine j_iload_n X dX6_sums_78 2 rfl rfl ?_
                    obtain ⟨r144, σ145, h146, hf147⟩ := bc_of hf143; clear hf143
                    refine j_callV0 X [.int v124, .int x1, .int r133, .int v91] [] (c_X6_comes l D cs q x0 v124 x1 r133 v91 σ134 _ _ h146) mk_X6_comes mv_X6_comes ml_X6_158 h137 rfl (by decide) ⟨rfl, rfl⟩ ⟨by dsimp only [rg_MP, rm_X6_comes]; omega, by dsimp only [rg_MP, rm_X6_comes]; omega⟩ rfl (Nat.le_of_ble_eq_true rfl) ⟨Nat.zero_le _, Nat.zero_le _⟩ dX6_sums_79 rfl (st' := [.int r144]) rfl ?_
                    refine j_istore_n X (lv' := [(1, .int r144), (4, .int r133), (3, .int v124), (2, .int v91), (0, .ref (q x0))]) dX6_sums_82 rfl (by decide) rfl ?_
                    refine j_goto X (tgt := 5) dX6_sums_83 (by decide) ?_
                    refine j_lvsub [4, 0] (lv' := [(0, .ref (q x0)), (1, .int r144)]) rfl ?_
                    exact ih x0 r144 σ145 hf147
      refine j_aload_n X dX6_sums_0 0 rfl rfl ?_
      obtain ⟨h1, hf2⟩ := chk_of hf0; clear hf0
      obtain ⟨r3, σ4, h5, hf6⟩ := bc_of hf2; clear hf2
      refine j_callV0 X [] [] (ihg.2.1 a0 σ _ _ h5) mk_X6_products mv_X6_products ml_X6_165 h1 rfl (by decide) ⟨rfl, rfl⟩ ⟨by dsimp only [rg_MP]; omega, by dsimp only [rg_MP]; omega⟩ rfl (Nat.le_of_ble_eq_true rfl) ⟨Nat.zero_le _, Nat.zero_le _⟩ dX6_sums_1 rfl (st' := [.int r3]) rfl ?_
      refine j_istore_n X (lv' := [(1, .int r3), (0, .ref (q a0))]) dX6_sums_4 rfl (by decide) rfl ?_
      refine j_lvsub [1, 0] (lv' := [(0, .ref (q a0)), (1, .int r3)]) rfl ?_
      exact L5  1000 a0 r3 σ4 hf6
    · intro a0 σ σ0 r0 hf0
      replace hf0 : b_X6_products (g_MP ng) a0 σ = some (r0, σ0) := hf0
      unfold b_X6_products at hf0
      refine MT_of (cc := cX6_products) (lv0 := [(0, .ref (q a0))]) (by decide) (Nat.le_of_ble_eq_true rfl) rfl (fun p e s m args below meth c A X hr hlk hin => ?_)
      have L5 : ∀ (nk : Nat) (x0 : Nat) (x1 : Int32) (τ : HS), lp_X6_products_5 (g_MP ng)  nk x0 x1 τ = some (r0, σ0) → J p l e (rg_MP (ng + 1)) s m args below meth c 4 D cs A s.heap 0 0 (MQ below (hQ D cs (fun z => z = q) (fun _ => some (.int r0)) σ0 A) args s 0 0 A) q τ [(0, .ref (q x0)), (1, .int x1)] 5 [] := by
        intro nk
        induction nk with
        | zero => intro x0 x1 τ hf0; have hf1 : (none : Option (Int32 × HS)) = some (r0, σ0) := hf0; cases hf1
        | succ nk ih =>
          intro x0 x1 τ hf0
          replace hf0 : lp_X6_products_5_b (g_MP ng)  (lp_X6_products_5 (g_MP ng)  nk) x0 x1 τ = some (r0, σ0) := hf0
          unfold lp_X6_products_5_b at hf0
          refine j_aload_n X dX6_products_5 0 rfl rfl ?_
          obtain ⟨h7, hf8⟩ := chk_of hf0; clear hf0
          refine j_geti X fd_X6_138 h7 dX6_products_6 (fun v9 ev9 => ?_)
          replace hf8 := lt_of hf8 v9 ev9
          refine j_if_eq X (tgt := 60) dX6_products_9 (by decide) (fun c11 => ?_) (fun c11 => ?_)
          · have hf12 := br_y hf8 c11; clear hf8
            refine j_iload_n X dX6_products_60 1 rfl rfl ?_
            obtain ⟨er, es⟩ := rt_of hf12
            subst er
            exact j_reti X hr hlk (Nat.le_of_ble_eq_true rfl) (Nat.le_of_ble_eq_true rfl) rfl es.symm rfl dX6_products_61
          · have hf13 := br_n hf8 c11; clear hf8
            refine j_aload_n X dX6_products_12 0 rfl rfl ?_
            obtain ⟨r14, σ15, h16, hf17⟩ := bc_of hf13; clear hf13
            refine j_callV0 X [] [] (c_X6_next l D cs q x0 τ _ _ h16) mk_X6_next mv_X6_next ml_X6_142 h7 rfl (by decide) ⟨rfl, rfl⟩ ⟨by dsimp only [rg_MP, rm_X6_next]; omega, by dsimp only [rg_MP, rm_X6_next]; omega⟩ rfl (Nat.le_of_ble_eq_true rfl) ⟨Nat.zero_le _, Nat.zero_le _⟩ dX6_products_13 rfl (st' := [.int r14]) rfl ?_
            refine j_bipush X (v := 42) dX6_products_16 (by decide) ?_
            refine j_icmp_ne X (tgt := 60) dX6_products_18 (by decide) (fun c18 => ?_) (fun c18 => ?_)
            · have hf19 := br_n hf17 c18; clear hf17
              refine j_iload_n X dX6_products_60 1 rfl rfl ?_
              obtain ⟨er, es⟩ := rt_of hf19
              subst er
              exact j_reti X hr hlk (Nat.le_of_ble_eq_true rfl) (Nat.le_of_ble_eq_true rfl) rfl es.symm rfl dX6_products_61
            · have hf20 := br_y hf17 c18; clear hf17
              refine j_aload_n X dX6_products_21 0 rfl rfl ?_
              obtain ⟨h21, hf22⟩ := chk_of hf20; clear hf20
              refine j_geti X fd_X6_131 h21 dX6_products_22 (fun v23 ev23 => ?_)
              replace hf22 := lt_of hf22 v23 ev23
              refine j_istore_n X (lv' := [(2, .int v23), (0, .ref (q x0)), (1, .int x1)]) dX6_products_25 rfl (by decide) rfl ?_
              refine j_aload_n X dX6_products_26 1 rfl rfl ?_
              refine j_dup X dX6_products_27 rfl ?_
              refine j_geti X fd_X6_131 h21 dX6_products_28 (fun v25 ev25 => ?_)
              replace hf22 := lt_of hf22 v25 ev25
              refine j_iconst X (v := 1) dX6_products_31 (by decide) ?_
              refine j_iadd X dX6_products_32 ?_
              refine j_puti X fp_X6_131 h21 dX6_products_33 (fun σ27 eσ27 => ?_)
              replace hf22 := lt_of hf22 σ27 eσ27
              have h29 : isO σ27 6 x0 := by rw [eσ27]; exact h21
              refine j_aload_n X dX6_products_36 1 rfl rfl ?_
              obtain ⟨r30, σ31, h32, hf33⟩ := bc_of hf22; clear hf22
              refine j_callV0 X [] [] (ihg.2.2.1 x0 σ27 _ _ h32) mk_X6_factor mv_X6_factor ml_X6_152 h29 rfl (by decide) ⟨rfl, rfl⟩ ⟨by dsimp only [rg_MP]; omega, by dsimp only [rg_MP]; omega⟩ rfl (Nat.le_of_ble_eq_true rfl) ⟨Nat.zero_le _, Nat.zero_le _⟩ dX6_products_37 rfl (st' := [.int r30]) rfl ?_
              refine j_istore_n X (lv' := [(3, .int r30), (2, .int v23), (0, .ref (q x0)), (1, .int x1)]) dX6_products_40 rfl (by decide) rfl ?_
              refine j_aload_n X dX6_products_41 2 rfl rfl ?_
              obtain ⟨h34, hf35⟩ := chk_of hf33; clear hf33
              refine j_geti X fd_X6_138 h34 dX6_products_42 (fun v36 ev36 => ?_)
              replace hf35 := lt_of hf35 v36 ev36
              refine j_if_eq X (tgt := 57) dX6_products_45 (by decide) (fun c38 => ?_) (fun c38 => ?_)
              · have hf39 := br_y hf35 c38; clear hf35
                refine j_goto X (tgt := 5) dX6_products_57 (by decide) ?_
                refine j_lvsub [2, 3] (lv' := [(0, .ref (q x0)), (1, .int x1)]) rfl ?_
                exact ih x0 x1 σ31 hf39
              · have hf40 := br_n hf35 c38; clear hf35
                refine j_aload_n X dX6_products_48 2 rfl rfl ?_
                refine j_iconst X (v := 5) dX6_products_49 (by decide) ?_
                refine j_iload_n X dX6_products_50 3 rfl rfl ?_
                refine j_iload_n X dX6_products_51 0 rfl rfl ?_
                refine j_iload_n X dX6_products_52 1 rfl rfl ?_
                obtain ⟨r41, σ42, h43, hf44⟩ := bc_of hf40; clear hf40
                refine j_callV0 X [.int (5 : Int32), .int x1, .int r30, .int v23] [] (c_X6_comes l D cs q x0 (5 : Int32) x1 r30 v23 σ31 _ _ h43) mk_X6_comes mv_X6_comes ml_X6_158 h34 rfl (by decide) ⟨rfl, rfl⟩ ⟨by dsimp only [rg_MP, rm_X6_comes]; omega, by dsimp only [rg_MP, rm_X6_comes]; omega⟩ rfl (Nat.le_of_ble_eq_true rfl) ⟨Nat.zero_le _, Nat.zero_le _⟩ dX6_products_53 rfl (st' := [.int r41]) rfl ?_
                refine j_istore_n X (lv' := [(1, .int r41), (3, .int r30), (2, .int v23), (0, .ref (q x0))]) dX6_products_56 rfl (by decide) rfl ?_
                refine j_goto X (tgt := 5) dX6_products_57 (by decide) ?_
                refine j_lvsub [3, 0] (lv' := [(0, .ref (q x0)), (1, .int r41)]) rfl ?_
                exact ih x0 r41 σ42 hf44
      refine j_aload_n X dX6_products_0 0 rfl rfl ?_
      obtain ⟨h1, hf2⟩ := chk_of hf0; clear hf0
      obtain ⟨r3, σ4, h5, hf6⟩ := bc_of hf2; clear hf2
      refine j_callV0 X [] [] (ihg.2.2.1 a0 σ _ _ h5) mk_X6_factor mv_X6_factor ml_X6_152 h1 rfl (by decide) ⟨rfl, rfl⟩ ⟨by dsimp only [rg_MP]; omega, by dsimp only [rg_MP]; omega⟩ rfl (Nat.le_of_ble_eq_true rfl) ⟨Nat.zero_le _, Nat.zero_le _⟩ dX6_products_1 rfl (st' := [.int r3]) rfl ?_
      refine j_istore_n X (lv' := [(1, .int r3), (0, .ref (q a0))]) dX6_products_4 rfl (by decide) rfl ?_
      refine j_lvsub [1, 0] (lv' := [(0, .ref (q a0)), (1, .int r3)]) rfl ?_
      exact L5  1000 a0 r3 σ4 hf6
    · intro a0 σ σ0 r0 hf0
      replace hf0 : b_X6_factor (g_MP ng) a0 σ = some (r0, σ0) := hf0
      unfold b_X6_factor at hf0
      refine MT_of (cc := cX6_factor) (lv0 := [(0, .ref (q a0))]) (by decide) (Nat.le_of_ble_eq_true rfl) rfl (fun p e s m args below meth c A X hr hlk hin => ?_)
      have L85 : ∀ (nk : Nat) (x0 : Nat) (x1 : Int32) (x2 : Int32) (x3 : Int32) (τ : HS), lp_X6_factor_85 (g_MP ng)  nk x0 x1 x2 x3 τ = some (r0, σ0) → J p l e (rg_MP (ng + 1)) s m args below meth c 4 D cs A s.heap 0 0 (MQ below (hQ D cs (fun z => z = q) (fun _ => some (.int r0)) σ0 A) args s 0 0 A) q τ [(0, .ref (q x0)), (1, .int x1), (2, .int x2), (3, .int x3)] 85 [] := by
        intro nk
        induction nk with
        | zero => intro x0 x1 x2 x3 τ hf0; have hf1 : (none : Option (Int32 × HS)) = some (r0, σ0) := hf0; cases hf1
        | succ nk ih =>
          intro x0 x1 x2 x3 τ hf0
          replace hf0 : lp_X6_factor_85_b (g_MP ng)  (lp_X6_factor_85 (g_MP ng)  nk) x0 x1 x2 x3 τ = some (r0, σ0) := hf0
          unfold lp_X6_factor_85_b at hf0
          refine j_aload_n X dX6_factor_85 0 rfl rfl ?_
          obtain ⟨h40, hf41⟩ := chk_of hf0; clear hf0
          refine j_geti X fd_X6_131 h40 dX6_factor_86 (fun v42 ev42 => ?_)
          replace hf41 := lt_of hf41 v42 ev42
          refine j_iload_n X dX6_factor_89 2 rfl rfl ?_
          refine j_isub X dX6_factor_90 ?_
          refine j_iconst X (v := 4) dX6_factor_91 (by decide) ?_
          refine j_icmp_ge X (tgt := 139) dX6_factor_92 (by decide) (fun c44 => ?_) (fun c44 => ?_)
          · have hf45 := br_y hf41 c44; clear hf41
            refine j_aload_n X dX6_factor_139 0 rfl rfl ?_
            refine j_iconst X (v := 1) dX6_factor_140 (by decide) ?_
            refine j_iload_n X dX6_factor_141 3 rfl rfl ?_
            refine j_iconst X (v := 0) dX6_factor_142 (by decide) ?_
            refine j_iload_n X dX6_factor_143 2 rfl rfl ?_
            obtain ⟨r47, σ48, h49, hf50⟩ := bc_of hf45; clear hf45
            refine j_callV0 X [.int (1 : Int32), .int x3, .int (0 : Int32), .int x2] [] (c_X6_comes l D cs q x0 (1 : Int32) x3 (0 : Int32) x2 τ _ _ h49) mk_X6_comes mv_X6_comes ml_X6_158 h40 rfl (by decide) ⟨rfl, rfl⟩ ⟨by dsimp only [rg_MP, rm_X6_comes]; omega, by dsimp only [rg_MP, rm_X6_comes]; omega⟩ rfl (Nat.le_of_ble_eq_true rfl) ⟨Nat.zero_le _, Nat.zero_le _⟩ dX6_factor_144 rfl (st' := [.int r47]) rfl ?_
            obtain ⟨er, es⟩ := rt_of hf50
            subst er
            exact j_reti X hr hlk (Nat.le_of_ble_eq_true rfl) (Nat.le_of_ble_eq_true rfl) rfl es.symm rfl dX6_factor_147
          · have hf46 := br_n hf41 c44; clear hf41
            refine j_aload_n X dX6_factor_95 0 rfl rfl ?_
            obtain ⟨r51, σ52, h53, hf54⟩ := bc_of hf46; clear hf46
            refine j_callV0 X [] [] (c_X6_next l D cs q x0 τ _ _ h53) mk_X6_next mv_X6_next ml_X6_142 h40 rfl (by decide) ⟨rfl, rfl⟩ ⟨by dsimp only [rg_MP, rm_X6_next]; omega, by dsimp only [rg_MP, rm_X6_next]; omega⟩ rfl (Nat.le_of_ble_eq_true rfl) ⟨Nat.zero_le _, Nat.zero_le _⟩ dX6_factor_96 rfl (st' := [.int r51]) rfl ?_
            refine j_bipush X (v := 48) dX6_factor_99 (by decide) ?_
            refine j_icmp_lt X (tgt := 139) dX6_factor_101 (by decide) (fun c55 => ?_) (fun c55 => ?_)
            · have hf56 := br_y hf54 c55; clear hf54
              refine j_aload_n X dX6_factor_139 0 rfl rfl ?_
              refine j_iconst X (v := 1) dX6_factor_140 (by decide) ?_
              refine j_iload_n X dX6_factor_141 3 rfl rfl ?_
              refine j_iconst X (v := 0) dX6_factor_142 (by decide) ?_
              refine j_iload_n X dX6_factor_143 2 rfl rfl ?_
              obtain ⟨h58, hf59⟩ := chk_of hf56; clear hf56
              obtain ⟨r60, σ61, h62, hf63⟩ := bc_of hf59; clear hf59
              refine j_callV0 X [.int (1 : Int32), .int x3, .int (0 : Int32), .int x2] [] (c_X6_comes l D cs q x0 (1 : Int32) x3 (0 : Int32) x2 σ52 _ _ h62) mk_X6_comes mv_X6_comes ml_X6_158 h58 rfl (by decide) ⟨rfl, rfl⟩ ⟨by dsimp only [rg_MP, rm_X6_comes]; omega, by dsimp only [rg_MP, rm_X6_comes]; omega⟩ rfl (Nat.le_of_ble_eq_true rfl) ⟨Nat.zero_le _, Nat.zero_le _⟩ dX6_factor_144 rfl (st' := [.int r60]) rfl ?_
              obtain ⟨er, es⟩ := rt_of hf63
              subst er
              exact j_reti X hr hlk (Nat.le_of_ble_eq_true rfl) (Nat.le_of_ble_eq_true rfl) rfl es.symm rfl dX6_factor_147
            · have hf57 := br_n hf54 c55; clear hf54
              refine j_aload_n X dX6_factor_104 0 rfl rfl ?_
              obtain ⟨h64, hf65⟩ := chk_of hf57; clear hf57
              obtain ⟨r66, σ67, h68, hf69⟩ := bc_of hf65; clear hf65
              refine j_callV0 X [] [] (c_X6_next l D cs q x0 σ52 _ _ h68) mk_X6_next mv_X6_next ml_X6_142 h64 rfl (by decide) ⟨rfl, rfl⟩ ⟨by dsimp only [rg_MP, rm_X6_next]; omega, by dsimp only [rg_MP, rm_X6_next]; omega⟩ rfl (Nat.le_of_ble_eq_true rfl) ⟨Nat.zero_le _, Nat.zero_le _⟩ dX6_factor_105 rfl (st' := [.int r66]) rfl ?_
              refine j_bipush X (v := 57) dX6_factor_108 (by decide) ?_
              refine j_icmp_gt X (tgt := 139) dX6_factor_110 (by decide) (fun c70 => ?_) (fun c70 => ?_)
              · have hf71 := br_y hf69 c70; clear hf69
                refine j_aload_n X dX6_factor_139 0 rfl rfl ?_
                refine j_iconst X (v := 1) dX6_factor_140 (by decide) ?_
                refine j_iload_n X dX6_factor_141 3 rfl rfl ?_
                refine j_iconst X (v := 0) dX6_factor_142 (by decide) ?_
                refine j_iload_n X dX6_factor_143 2 rfl rfl ?_
                obtain ⟨h73, hf74⟩ := chk_of hf71; clear hf71
                obtain ⟨r75, σ76, h77, hf78⟩ := bc_of hf74; clear hf74
                refine j_callV0 X [.int (1 : Int32), .int x3, .int (0 : Int32), .int x2] [] (c_X6_comes l D cs q x0 (1 : Int32) x3 (0 : Int32) x2 σ67 _ _ h77) mk_X6_comes mv_X6_comes ml_X6_158 h73 rfl (by decide) ⟨rfl, rfl⟩ ⟨by dsimp only [rg_MP, rm_X6_comes]; omega, by dsimp only [rg_MP, rm_X6_comes]; omega⟩ rfl (Nat.le_of_ble_eq_true rfl) ⟨Nat.zero_le _, Nat.zero_le _⟩ dX6_factor_144 rfl (st' := [.int r75]) rfl ?_
                obtain ⟨er, es⟩ := rt_of hf78
                subst er
                exact j_reti X hr hlk (Nat.le_of_ble_eq_true rfl) (Nat.le_of_ble_eq_true rfl) rfl es.symm rfl dX6_factor_147
              · have hf72 := br_n hf69 c70; clear hf69
                refine j_bipush X (v := 10) dX6_factor_113 (by decide) ?_
                refine j_iload_n X dX6_factor_115 3 rfl rfl ?_
                refine j_imul X dX6_factor_116 ?_
                refine j_aload_n X dX6_factor_117 0 rfl rfl ?_
                obtain ⟨h79, hf80⟩ := chk_of hf72; clear hf72
                obtain ⟨r81, σ82, h83, hf84⟩ := bc_of hf80; clear hf80
                refine j_callV0 X [] [.int ((10 : Int32) * x3)] (c_X6_next l D cs q x0 σ67 _ _ h83) mk_X6_next mv_X6_next ml_X6_142 h79 rfl (by decide) ⟨rfl, rfl⟩ ⟨by dsimp only [rg_MP, rm_X6_next]; omega, by dsimp only [rg_MP, rm_X6_next]; omega⟩ rfl (Nat.le_of_ble_eq_true rfl) ⟨Nat.zero_le _, Nat.zero_le _⟩ dX6_factor_118 rfl (st' := [.int r81, .int ((10 : Int32) * x3)]) rfl ?_
                refine j_iadd X dX6_factor_121 ?_
                refine j_bipush X (v := 48) dX6_factor_122 (by decide) ?_
                refine j_isub X dX6_factor_124 ?_
                refine j_nmi (fun v85 ev85 => ?_)
                replace hf84 := lt_of hf84 v85 ev85
                refine j_istore_n X (lv' := [(3, .int v85), (0, .ref (q x0)), (1, .int x1), (2, .int x2)]) dX6_factor_125 rfl (by decide) rfl ?_
                refine j_aload_n X dX6_factor_126 1 rfl rfl ?_
                refine j_dup X dX6_factor_127 rfl ?_
                obtain ⟨h87, hf88⟩ := chk_of hf84; clear hf84
                refine j_geti X fd_X6_131 h87 dX6_factor_128 (fun v89 ev89 => ?_)
                replace hf88 := lt_of hf88 v89 ev89
                refine j_iconst X (v := 1) dX6_factor_131 (by decide) ?_
                refine j_iadd X dX6_factor_132 ?_
                refine j_puti X fp_X6_131 h87 dX6_factor_133 (fun σ91 eσ91 => ?_)
                replace hf88 := lt_of hf88 σ91 eσ91
                have h93 : isO σ91 6 x0 := by rw [eσ91]; exact h87
                refine j_goto X (tgt := 85) dX6_factor_136 (by decide) ?_
                refine j_lvsub [1, 2, 3, 0] (lv' := [(0, .ref (q x0)), (1, .int x1), (2, .int x2), (3, .int v85)]) rfl ?_
                exact ih x0 x1 x2 v85 σ91 hf88
      refine j_aload_n X dX6_factor_0 0 rfl rfl ?_
      obtain ⟨h1, hf2⟩ := chk_of hf0; clear hf0
      obtain ⟨r3, σ4, h5, hf6⟩ := bc_of hf2; clear hf2
      refine j_callV0 X [] [] (c_X6_next l D cs q a0 σ _ _ h5) mk_X6_next mv_X6_next ml_X6_142 h1 rfl (by decide) ⟨rfl, rfl⟩ ⟨by dsimp only [rg_MP, rm_X6_next]; omega, by dsimp only [rg_MP, rm_X6_next]; omega⟩ rfl (Nat.le_of_ble_eq_true rfl) ⟨Nat.zero_le _, Nat.zero_le _⟩ dX6_factor_1 rfl (st' := [.int r3]) rfl ?_
      refine j_istore_n X (lv' := [(1, .int r3), (0, .ref (q a0))]) dX6_factor_4 rfl (by decide) rfl ?_
      refine j_iload_n X dX6_factor_5 0 rfl rfl ?_
      refine j_bipush X (v := 40) dX6_factor_6 (by decide) ?_
      refine j_icmp_eq X (tgt := 17) dX6_factor_8 (by decide) (fun c7 => ?_) (fun c7 => ?_)
      · have hf8 := br_y hf6 c7; clear hf6
        refine j_aload_n X dX6_factor_17 1 rfl rfl ?_
        obtain ⟨h10, hf11⟩ := chk_of hf8; clear hf8
        obtain ⟨r12, σ13, h14, hf15⟩ := bc_of hf11; clear hf11
        refine j_callV0 X [] [] (ihg.2.2.2 a0 σ4 _ _ h14) mk_X6_opened mv_X6_opened ml_X6_162 h10 rfl (by decide) ⟨rfl, rfl⟩ ⟨by dsimp only [rg_MP]; omega, by dsimp only [rg_MP]; omega⟩ rfl (Nat.le_of_ble_eq_true rfl) ⟨Nat.zero_le _, Nat.zero_le _⟩ dX6_factor_18 rfl (st' := [.int r12]) rfl ?_
        obtain ⟨er, es⟩ := rt_of hf15
        subst er
        exact j_reti X hr hlk (Nat.le_of_ble_eq_true rfl) (Nat.le_of_ble_eq_true rfl) rfl es.symm rfl dX6_factor_21
      · have hf9 := br_n hf6 c7; clear hf6
        refine j_iload_n X dX6_factor_11 0 rfl rfl ?_
        refine j_bipush X (v := 45) dX6_factor_12 (by decide) ?_
        refine j_icmp_ne X (tgt := 22) dX6_factor_14 (by decide) (fun c16 => ?_) (fun c16 => ?_)
        · have hf17 := br_n hf9 c16; clear hf9
          refine j_iload_n X dX6_factor_22 0 rfl rfl ?_
          refine j_bipush X (v := 97) dX6_factor_23 (by decide) ?_
          refine j_icmp_lt X (tgt := 61) dX6_factor_25 (by decide) (fun c19 => ?_) (fun c19 => ?_)
          · have hf20 := br_y hf17 c19; clear hf17
            refine j_iload_n X dX6_factor_61 0 rfl rfl ?_
            refine j_bipush X (v := 48) dX6_factor_62 (by decide) ?_
            refine j_icmp_lt X (tgt := 73) dX6_factor_64 (by decide) (fun c22 => ?_) (fun c22 => ?_)
            · have hf23 := br_y hf20 c22; clear hf20
              refine j_aload_n X dX6_factor_73 1 rfl rfl ?_
              obtain ⟨h25, hf26⟩ := chk_of hf23; clear hf23
              obtain ⟨r27, σ28, h29, hf30⟩ := bc_of hf26; clear hf26
              refine j_callV0 X [] [] (c_X6_wrong l D cs q a0 σ4 _ _ h29) mk_X6_wrong mv_X6_wrong ml_X6_149 h25 rfl (by decide) ⟨rfl, rfl⟩ ⟨by dsimp only [rg_MP, rm_X6_wrong]; omega, by dsimp only [rg_MP, rm_X6_wrong]; omega⟩ rfl (Nat.le_of_ble_eq_true rfl) ⟨Nat.zero_le _, Nat.zero_le _⟩ dX6_factor_74 rfl (st' := [.int r27]) rfl ?_
              obtain ⟨er, es⟩ := rt_of hf30
              subst er
              exact j_reti X hr hlk (Nat.le_of_ble_eq_true rfl) (Nat.le_of_ble_eq_true rfl) rfl es.symm rfl dX6_factor_77
            · have hf24 := br_n hf20 c22; clear hf20
              refine j_iload_n X dX6_factor_67 0 rfl rfl ?_
              refine j_bipush X (v := 57) dX6_factor_68 (by decide) ?_
              refine j_icmp_le X (tgt := 78) dX6_factor_70 (by decide) (fun c31 => ?_) (fun c31 => ?_)
              · have hf32 := br_y hf24 c31; clear hf24
                refine j_aload_n X dX6_factor_78 1 rfl rfl ?_
                obtain ⟨h34, hf35⟩ := chk_of hf32; clear hf32
                refine j_geti X fd_X6_131 h34 dX6_factor_79 (fun v36 ev36 => ?_)
                replace hf35 := lt_of hf35 v36 ev36
                refine j_istore_n X (lv' := [(2, .int v36), (1, .int r3), (0, .ref (q a0))]) dX6_factor_82 rfl (by decide) rfl ?_
                refine j_iconst X (v := 0) dX6_factor_83 (by decide) ?_
                refine j_nmi (fun v38 ev38 => ?_)
                replace hf35 := lt_of hf35 v38 ev38
                refine j_istore_n X (lv' := [(3, .int v38), (2, .int v36), (1, .int r3), (0, .ref (q a0))]) dX6_factor_84 rfl (by decide) rfl ?_
                refine j_lvsub [3, 2, 1, 0] (lv' := [(0, .ref (q a0)), (1, .int r3), (2, .int v36), (3, .int v38)]) rfl ?_
                exact L85  1000 a0 r3 v36 v38 σ4 hf35
              · have hf33 := br_n hf24 c31; clear hf24
                refine j_aload_n X dX6_factor_73 1 rfl rfl ?_
                obtain ⟨h94, hf95⟩ := chk_of hf33; clear hf33
                obtain ⟨r96, σ97, h98, hf99⟩ := bc_of hf95; clear hf95
                refine j_callV0 X [] [] (c_X6_wrong l D cs q a0 σ4 _ _ h98) mk_X6_wrong mv_X6_wrong ml_X6_149 h94 rfl (by decide) ⟨rfl, rfl⟩ ⟨by dsimp only [rg_MP, rm_X6_wrong]; omega, by dsimp only [rg_MP, rm_X6_wrong]; omega⟩ rfl (Nat.le_of_ble_eq_true rfl) ⟨Nat.zero_le _, Nat.zero_le _⟩ dX6_factor_74 rfl (st' := [.int r96]) rfl ?_
                obtain ⟨er, es⟩ := rt_of hf99
                subst er
                exact j_reti X hr hlk (Nat.le_of_ble_eq_true rfl) (Nat.le_of_ble_eq_true rfl) rfl es.symm rfl dX6_factor_77
          · have hf21 := br_n hf17 c19; clear hf17
            refine j_iload_n X dX6_factor_28 0 rfl rfl ?_
            refine j_bipush X (v := 102) dX6_factor_29 (by decide) ?_
            refine j_icmp_gt X (tgt := 61) dX6_factor_31 (by decide) (fun c100 => ?_) (fun c100 => ?_)
            · have hf101 := br_y hf21 c100; clear hf21
              refine j_iload_n X dX6_factor_61 0 rfl rfl ?_
              refine j_bipush X (v := 48) dX6_factor_62 (by decide) ?_
              refine j_icmp_lt X (tgt := 73) dX6_factor_64 (by decide) (fun c103 => ?_) (fun c103 => ?_)
              · have hf104 := br_y hf101 c103; clear hf101
                refine j_aload_n X dX6_factor_73 1 rfl rfl ?_
                obtain ⟨h106, hf107⟩ := chk_of hf104; clear hf104
                obtain ⟨r108, σ109, h110, hf111⟩ := bc_of hf107; clear hf107
                refine j_callV0 X [] [] (c_X6_wrong l D cs q a0 σ4 _ _ h110) mk_X6_wrong mv_X6_wrong ml_X6_149 h106 rfl (by decide) ⟨rfl, rfl⟩ ⟨by dsimp only [rg_MP, rm_X6_wrong]; omega, by dsimp only [rg_MP, rm_X6_wrong]; omega⟩ rfl (Nat.le_of_ble_eq_true rfl) ⟨Nat.zero_le _, Nat.zero_le _⟩ dX6_factor_74 rfl (st' := [.int r108]) rfl ?_
                obtain ⟨er, es⟩ := rt_of hf111
                subst er
                exact j_reti X hr hlk (Nat.le_of_ble_eq_true rfl) (Nat.le_of_ble_eq_true rfl) rfl es.symm rfl dX6_factor_77
              · have hf105 := br_n hf101 c103; clear hf101
                refine j_iload_n X dX6_factor_67 0 rfl rfl ?_
                refine j_bipush X (v := 57) dX6_factor_68 (by decide) ?_
                refine j_icmp_le X (tgt := 78) dX6_factor_70 (by decide) (fun c112 => ?_) (fun c112 => ?_)
                · have hf113 := br_y hf105 c112; clear hf105
                  refine j_aload_n X dX6_factor_78 1 rfl rfl ?_
                  obtain ⟨h115, hf116⟩ := chk_of hf113; clear hf113
                  refine j_geti X fd_X6_131 h115 dX6_factor_79 (fun v117 ev117 => ?_)
                  replace hf116 := lt_of hf116 v117 ev117
                  refine j_istore_n X (lv' := [(2, .int v117), (1, .int r3), (0, .ref (q a0))]) dX6_factor_82 rfl (by decide) rfl ?_
                  refine j_iconst X (v := 0) dX6_factor_83 (by decide) ?_
                  refine j_nmi (fun v119 ev119 => ?_)
                  replace hf116 := lt_of hf116 v119 ev119
                  refine j_istore_n X (lv' := [(3, .int v119), (2, .int v117), (1, .int r3), (0, .ref (q a0))]) dX6_factor_84 rfl (by decide) rfl ?_
                  refine j_lvsub [3, 2, 1, 0] (lv' := [(0, .ref (q a0)), (1, .int r3), (2, .int v117), (3, .int v119)]) rfl ?_
                  exact L85  1000 a0 r3 v117 v119 σ4 hf116
                · have hf114 := br_n hf105 c112; clear hf105
                  refine j_aload_n X dX6_factor_73 1 rfl rfl ?_
                  obtain ⟨h121, hf122⟩ := chk_of hf114; clear hf114
                  obtain ⟨r123, σ124, h125, hf126⟩ := bc_of hf122; clear hf122
                  refine j_callV0 X [] [] (c_X6_wrong l D cs q a0 σ4 _ _ h125) mk_X6_wrong mv_X6_wrong ml_X6_149 h121 rfl (by decide) ⟨rfl, rfl⟩ ⟨by dsimp only [rg_MP, rm_X6_wrong]; omega, by dsimp only [rg_MP, rm_X6_wrong]; omega⟩ rfl (Nat.le_of_ble_eq_true rfl) ⟨Nat.zero_le _, Nat.zero_le _⟩ dX6_factor_74 rfl (st' := [.int r123]) rfl ?_
                  obtain ⟨er, es⟩ := rt_of hf126
                  subst er
                  exact j_reti X hr hlk (Nat.le_of_ble_eq_true rfl) (Nat.le_of_ble_eq_true rfl) rfl es.symm rfl dX6_factor_77
            · have hf102 := br_n hf21 c100; clear hf21
              refine j_aload_n X dX6_factor_34 1 rfl rfl ?_
              refine j_dup X dX6_factor_35 rfl ?_
              obtain ⟨h127, hf128⟩ := chk_of hf102; clear hf102
              refine j_geti X fd_X6_131 h127 dX6_factor_36 (fun v129 ev129 => ?_)
              replace hf128 := lt_of hf128 v129 ev129
              refine j_iconst X (v := 1) dX6_factor_39 (by decide) ?_
              refine j_iadd X dX6_factor_40 ?_
              refine j_puti X fp_X6_131 h127 dX6_factor_41 (fun σ131 eσ131 => ?_)
              replace hf128 := lt_of hf128 σ131 eσ131
              have h133 : isO σ131 6 a0 := by rw [eσ131]; exact h127
              refine j_aload_n X dX6_factor_44 1 rfl rfl ?_
              refine j_iconst X (v := 0) dX6_factor_45 (by decide) ?_
              refine j_iload_n X dX6_factor_46 0 rfl rfl ?_
              refine j_bipush X (v := 97) dX6_factor_47 (by decide) ?_
              refine j_isub X dX6_factor_49 ?_
              refine j_iconst X (v := 0) dX6_factor_50 (by decide) ?_
              refine j_aload_n X dX6_factor_51 1 rfl rfl ?_
              refine j_geti X fd_X6_131 h133 dX6_factor_52 (fun v134 ev134 => ?_)
              replace hf128 := lt_of hf128 v134 ev134
              refine j_iconst X (v := 1) dX6_factor_55 (by decide) ?_
              refine j_isub X dX6_factor_56 ?_
              obtain ⟨r136, σ137, h138, hf139⟩ := bc_of hf128; clear hf128
              refine j_callV0 X [.int (0 : Int32), .int (r3 - (97 : Int32)), .int (0 : Int32), .int (v134 - (1 : Int32))] [] (c_X6_comes l D cs q a0 (0 : Int32) (r3 - (97 : Int32)) (0 : Int32) (v134 - (1 : Int32)) σ131 _ _ h138) mk_X6_comes mv_X6_comes ml_X6_158 h133 rfl (by decide) ⟨rfl, rfl⟩ ⟨by dsimp only [rg_MP, rm_X6_comes]; omega, by dsimp only [rg_MP, rm_X6_comes]; omega⟩ rfl (Nat.le_of_ble_eq_true rfl) ⟨Nat.zero_le _, Nat.zero_le _⟩ dX6_factor_57 rfl (st' := [.int r136]) rfl ?_
              obtain ⟨er, es⟩ := rt_of hf139
              subst er
              exact j_reti X hr hlk (Nat.le_of_ble_eq_true rfl) (Nat.le_of_ble_eq_true rfl) rfl es.symm rfl dX6_factor_60
        · have hf18 := br_y hf9 c16; clear hf9
          refine j_aload_n X dX6_factor_17 1 rfl rfl ?_
          obtain ⟨h140, hf141⟩ := chk_of hf18; clear hf18
          obtain ⟨r142, σ143, h144, hf145⟩ := bc_of hf141; clear hf141
          refine j_callV0 X [] [] (ihg.2.2.2 a0 σ4 _ _ h144) mk_X6_opened mv_X6_opened ml_X6_162 h140 rfl (by decide) ⟨rfl, rfl⟩ ⟨by dsimp only [rg_MP]; omega, by dsimp only [rg_MP]; omega⟩ rfl (Nat.le_of_ble_eq_true rfl) ⟨Nat.zero_le _, Nat.zero_le _⟩ dX6_factor_18 rfl (st' := [.int r142]) rfl ?_
          obtain ⟨er, es⟩ := rt_of hf145
          subst er
          exact j_reti X hr hlk (Nat.le_of_ble_eq_true rfl) (Nat.le_of_ble_eq_true rfl) rfl es.symm rfl dX6_factor_21
    · intro a0 σ σ0 r0 hf0
      replace hf0 : b_X6_opened (g_MP ng) a0 σ = some (r0, σ0) := hf0
      unfold b_X6_opened at hf0
      refine MT_of (cc := cX6_opened) (lv0 := [(0, .ref (q a0))]) (by decide) (Nat.le_of_ble_eq_true rfl) rfl (fun p e s m args below meth c A X hr hlk hin => ?_)
      refine j_aload_n X dX6_opened_0 0 rfl rfl ?_
      obtain ⟨h1, hf2⟩ := chk_of hf0; clear hf0
      refine j_geti X fd_X6_131 h1 dX6_opened_1 (fun v3 ev3 => ?_)
      replace hf2 := lt_of hf2 v3 ev3
      refine j_istore_n X (lv' := [(1, .int v3), (0, .ref (q a0))]) dX6_opened_4 rfl (by decide) rfl ?_
      refine j_aload_n X dX6_opened_5 1 rfl rfl ?_
      obtain ⟨r5, σ6, h7, hf8⟩ := bc_of hf2; clear hf2
      refine j_callV0 X [] [] (c_X6_next l D cs q a0 σ _ _ h7) mk_X6_next mv_X6_next ml_X6_142 h1 rfl (by decide) ⟨rfl, rfl⟩ ⟨by dsimp only [rg_MP, rm_X6_next]; omega, by dsimp only [rg_MP, rm_X6_next]; omega⟩ rfl (Nat.le_of_ble_eq_true rfl) ⟨Nat.zero_le _, Nat.zero_le _⟩ dX6_opened_6 rfl (st' := [.int r5]) rfl ?_
      refine j_bipush X (v := 45) dX6_opened_9 (by decide) ?_
      refine j_icmp_ne X (tgt := 18) dX6_opened_11 (by decide) (fun c9 => ?_) (fun c9 => ?_)
      · have hf10 := br_n hf8 c9; clear hf8
        refine j_iconst X (v := 0) dX6_opened_18 (by decide) ?_
        refine j_nmi (fun v12 ev12 => ?_)
        replace hf10 := lt_of hf10 v12 ev12
        refine j_istore_n X (lv' := [(2, .int v12), (1, .int v3), (0, .ref (q a0))]) dX6_opened_19 rfl (by decide) rfl ?_
        refine j_aload_n X dX6_opened_20 2 rfl rfl ?_
        obtain ⟨h14, hf15⟩ := chk_of hf10; clear hf10
        refine j_geti X fd_X6_146 h14 dX6_opened_21 (fun v16 ev16 => ?_)
        replace hf15 := lt_of hf15 v16 ev16
        refine j_bipush X (v := 6) dX6_opened_24 (by decide) ?_
        refine j_icmp_ne X (tgt := 34) dX6_opened_26 (by decide) (fun c18 => ?_) (fun c18 => ?_)
        · have hf19 := br_n hf15 c18; clear hf15
          refine j_aload_n X dX6_opened_34 2 rfl rfl ?_
          refine j_dup X dX6_opened_35 rfl ?_
          refine j_geti X fd_X6_146 h14 dX6_opened_36 (fun v21 ev21 => ?_)
          replace hf19 := lt_of hf19 v21 ev21
          refine j_iconst X (v := 1) dX6_opened_39 (by decide) ?_
          refine j_iadd X dX6_opened_40 ?_
          refine j_puti X fp_X6_146 h14 dX6_opened_41 (fun σ23 eσ23 => ?_)
          replace hf19 := lt_of hf19 σ23 eσ23
          have h25 : isO σ23 6 a0 := by rw [eσ23]; exact h14
          refine j_aload_n X dX6_opened_44 2 rfl rfl ?_
          refine j_dup X dX6_opened_45 rfl ?_
          refine j_geti X fd_X6_131 h25 dX6_opened_46 (fun v26 ev26 => ?_)
          replace hf19 := lt_of hf19 v26 ev26
          refine j_iconst X (v := 1) dX6_opened_49 (by decide) ?_
          refine j_iadd X dX6_opened_50 ?_
          refine j_puti X fp_X6_131 h25 dX6_opened_51 (fun σ28 eσ28 => ?_)
          replace hf19 := lt_of hf19 σ28 eσ28
          have h30 : isO σ28 6 a0 := by rw [eσ28]; exact h25
          refine j_iload_n X dX6_opened_54 0 rfl rfl ?_
          refine j_if_eq X (tgt := 65) dX6_opened_55 (by decide) (fun c31 => ?_) (fun c31 => ?_)
          · have hf32 := br_y hf19 c31; clear hf19
            refine j_aload_n X dX6_opened_65 2 rfl rfl ?_
            obtain ⟨r34, σ35, h36, hf37⟩ := bc_of hf32; clear hf32
            refine j_callV0 X [] [] (ihg.1 a0 σ28 _ _ h36) mk_X6_sums mv_X6_sums ml_X6_155 h30 rfl (by decide) ⟨rfl, rfl⟩ ⟨by dsimp only [rg_MP]; omega, by dsimp only [rg_MP]; omega⟩ rfl (Nat.le_of_ble_eq_true rfl) ⟨Nat.zero_le _, Nat.zero_le _⟩ dX6_opened_66 rfl (st' := [.int r34]) rfl ?_
            refine j_istore_n X (lv' := [(3, .int r34), (2, .int v12), (1, .int v3), (0, .ref (q a0))]) dX6_opened_69 rfl (by decide) rfl ?_
            refine j_aload_n X dX6_opened_70 3 rfl rfl ?_
            obtain ⟨h38, hf39⟩ := chk_of hf37; clear hf37
            refine j_geti X fd_X6_138 h38 dX6_opened_71 (fun v40 ev40 => ?_)
            replace hf39 := lt_of hf39 v40 ev40
            refine j_if_ne X (tgt := 79) dX6_opened_74 (by decide) (fun c42 => ?_) (fun c42 => ?_)
            · have hf43 := br_n hf39 c42; clear hf39
              refine j_aload_n X dX6_opened_79 3 rfl rfl ?_
              refine j_dup X dX6_opened_80 rfl ?_
              refine j_geti X fd_X6_146 h38 dX6_opened_81 (fun v45 ev45 => ?_)
              replace hf43 := lt_of hf43 v45 ev45
              refine j_iconst X (v := 1) dX6_opened_84 (by decide) ?_
              refine j_isub X dX6_opened_85 ?_
              refine j_puti X fp_X6_146 h38 dX6_opened_86 (fun σ47 eσ47 => ?_)
              replace hf43 := lt_of hf43 σ47 eσ47
              have h49 : isO σ47 6 a0 := by rw [eσ47]; exact h38
              refine j_iload_n X dX6_opened_89 1 rfl rfl ?_
              refine j_if_eq X (tgt := 102) dX6_opened_90 (by decide) (fun c50 => ?_) (fun c50 => ?_)
              · have hf51 := br_y hf43 c50; clear hf43
                refine j_aload_n X dX6_opened_102 3 rfl rfl ?_
                obtain ⟨r53, σ54, h55, hf56⟩ := bc_of hf51; clear hf51
                refine j_callV0 X [] [] (c_X6_next l D cs q a0 σ47 _ _ h55) mk_X6_next mv_X6_next ml_X6_142 h49 rfl (by decide) ⟨rfl, rfl⟩ ⟨by dsimp only [rg_MP, rm_X6_next]; omega, by dsimp only [rg_MP, rm_X6_next]; omega⟩ rfl (Nat.le_of_ble_eq_true rfl) ⟨Nat.zero_le _, Nat.zero_le _⟩ dX6_opened_103 rfl (st' := [.int r53]) rfl ?_
                refine j_bipush X (v := 41) dX6_opened_106 (by decide) ?_
                refine j_icmp_eq X (tgt := 116) dX6_opened_108 (by decide) (fun c57 => ?_) (fun c57 => ?_)
                · have hf58 := br_y hf56 c57; clear hf56
                  refine j_aload_n X dX6_opened_116 3 rfl rfl ?_
                  refine j_dup X dX6_opened_117 rfl ?_
                  obtain ⟨h60, hf61⟩ := chk_of hf58; clear hf58
                  refine j_geti X fd_X6_131 h60 dX6_opened_118 (fun v62 ev62 => ?_)
                  replace hf61 := lt_of hf61 v62 ev62
                  refine j_iconst X (v := 1) dX6_opened_121 (by decide) ?_
                  refine j_iadd X dX6_opened_122 ?_
                  refine j_puti X fp_X6_131 h60 dX6_opened_123 (fun σ64 eσ64 => ?_)
                  replace hf61 := lt_of hf61 σ64 eσ64
                  have h66 : isO σ64 6 a0 := by rw [eσ64]; exact h60
                  refine j_iload_n X dX6_opened_126 0 rfl rfl ?_
                  obtain ⟨er, es⟩ := rt_of hf61
                  subst er
                  exact j_reti X hr hlk (Nat.le_of_ble_eq_true rfl) (Nat.le_of_ble_eq_true rfl) rfl es.symm rfl dX6_opened_127
                · have hf59 := br_n hf56 c57; clear hf56
                  refine j_aload_n X dX6_opened_111 3 rfl rfl ?_
                  obtain ⟨h67, hf68⟩ := chk_of hf59; clear hf59
                  obtain ⟨r69, σ70, h71, hf72⟩ := bc_of hf68; clear hf68
                  refine j_callV0 X [] [] (c_X6_wrong l D cs q a0 σ54 _ _ h71) mk_X6_wrong mv_X6_wrong ml_X6_149 h67 rfl (by decide) ⟨rfl, rfl⟩ ⟨by dsimp only [rg_MP, rm_X6_wrong]; omega, by dsimp only [rg_MP, rm_X6_wrong]; omega⟩ rfl (Nat.le_of_ble_eq_true rfl) ⟨Nat.zero_le _, Nat.zero_le _⟩ dX6_opened_112 rfl (st' := [.int r69]) rfl ?_
                  obtain ⟨er, es⟩ := rt_of hf72
                  subst er
                  exact j_reti X hr hlk (Nat.le_of_ble_eq_true rfl) (Nat.le_of_ble_eq_true rfl) rfl es.symm rfl dX6_opened_115
              · have hf52 := br_n hf43 c50; clear hf43
                refine j_aload_n X dX6_opened_93 3 rfl rfl ?_
                refine j_iconst X (v := 2) dX6_opened_94 (by decide) ?_
                refine j_iload_n X dX6_opened_95 0 rfl rfl ?_
                refine j_iconst X (v := 0) dX6_opened_96 (by decide) ?_
                refine j_iload_n X dX6_opened_97 2 rfl rfl ?_
                obtain ⟨r73, σ74, h75, hf76⟩ := bc_of hf52; clear hf52
                refine j_callV0 X [.int (2 : Int32), .int r34, .int (0 : Int32), .int v3] [] (c_X6_comes l D cs q a0 (2 : Int32) r34 (0 : Int32) v3 σ47 _ _ h75) mk_X6_comes mv_X6_comes ml_X6_158 h49 rfl (by decide) ⟨rfl, rfl⟩ ⟨by dsimp only [rg_MP, rm_X6_comes]; omega, by dsimp only [rg_MP, rm_X6_comes]; omega⟩ rfl (Nat.le_of_ble_eq_true rfl) ⟨Nat.zero_le _, Nat.zero_le _⟩ dX6_opened_98 rfl (st' := [.int r73]) rfl ?_
                obtain ⟨er, es⟩ := rt_of hf76
                subst er
                exact j_reti X hr hlk (Nat.le_of_ble_eq_true rfl) (Nat.le_of_ble_eq_true rfl) rfl es.symm rfl dX6_opened_101
            · have hf44 := br_y hf39 c42; clear hf39
              refine j_iload_n X dX6_opened_77 0 rfl rfl ?_
              obtain ⟨er, es⟩ := rt_of hf44
              subst er
              exact j_reti X hr hlk (Nat.le_of_ble_eq_true rfl) (Nat.le_of_ble_eq_true rfl) rfl es.symm rfl dX6_opened_78
          · have hf33 := br_n hf19 c31; clear hf19
            refine j_aload_n X dX6_opened_58 2 rfl rfl ?_
            obtain ⟨r77, σ78, h79, hf80⟩ := bc_of hf33; clear hf33
            refine j_callV0 X [] [] (ihg.2.2.1 a0 σ28 _ _ h79) mk_X6_factor mv_X6_factor ml_X6_152 h30 rfl (by decide) ⟨rfl, rfl⟩ ⟨by dsimp only [rg_MP]; omega, by dsimp only [rg_MP]; omega⟩ rfl (Nat.le_of_ble_eq_true rfl) ⟨Nat.zero_le _, Nat.zero_le _⟩ dX6_opened_59 rfl (st' := [.int r77]) rfl ?_
            refine j_goto X (tgt := 69) dX6_opened_62 (by decide) ?_
            refine j_istore_n X (lv' := [(3, .int r77), (2, .int v12), (1, .int v3), (0, .ref (q a0))]) dX6_opened_69 rfl (by decide) rfl ?_
            refine j_aload_n X dX6_opened_70 3 rfl rfl ?_
            obtain ⟨h81, hf82⟩ := chk_of hf80; clear hf80
            refine j_geti X fd_X6_138 h81 dX6_opened_71 (fun v83 ev83 => ?_)
            replace hf82 := lt_of hf82 v83 ev83
            refine j_if_ne X (tgt := 79) dX6_opened_74 (by decide) (fun c85 => ?_) (fun c85 => ?_)
            · have hf86 := br_n hf82 c85; clear hf82
              refine j_aload_n X dX6_opened_79 3 rfl rfl ?_
              refine j_dup X dX6_opened_80 rfl ?_
              refine j_geti X fd_X6_146 h81 dX6_opened_81 (fun v88 ev88 => ?_)
              replace hf86 := lt_of hf86 v88 ev88
              refine j_iconst X (v := 1) dX6_opened_84 (by decide) ?_
              refine j_isub X dX6_opened_85 ?_
              refine j_puti X fp_X6_146 h81 dX6_opened_86 (fun σ90 eσ90 => ?_)
              replace hf86 := lt_of hf86 σ90 eσ90
              have h92 : isO σ90 6 a0 := by rw [eσ90]; exact h81
              refine j_iload_n X dX6_opened_89 1 rfl rfl ?_
              refine j_if_eq X (tgt := 102) dX6_opened_90 (by decide) (fun c93 => ?_) (fun c93 => ?_)
              · have hf94 := br_y hf86 c93; clear hf86
                refine j_aload_n X dX6_opened_102 3 rfl rfl ?_
                obtain ⟨r96, σ97, h98, hf99⟩ := bc_of hf94; clear hf94
                refine j_callV0 X [] [] (c_X6_next l D cs q a0 σ90 _ _ h98) mk_X6_next mv_X6_next ml_X6_142 h92 rfl (by decide) ⟨rfl, rfl⟩ ⟨by dsimp only [rg_MP, rm_X6_next]; omega, by dsimp only [rg_MP, rm_X6_next]; omega⟩ rfl (Nat.le_of_ble_eq_true rfl) ⟨Nat.zero_le _, Nat.zero_le _⟩ dX6_opened_103 rfl (st' := [.int r96]) rfl ?_
                refine j_bipush X (v := 41) dX6_opened_106 (by decide) ?_
                refine j_icmp_eq X (tgt := 116) dX6_opened_108 (by decide) (fun c100 => ?_) (fun c100 => ?_)
                · have hf101 := br_y hf99 c100; clear hf99
                  refine j_aload_n X dX6_opened_116 3 rfl rfl ?_
                  refine j_dup X dX6_opened_117 rfl ?_
                  obtain ⟨h103, hf104⟩ := chk_of hf101; clear hf101
                  refine j_geti X fd_X6_131 h103 dX6_opened_118 (fun v105 ev105 => ?_)
                  replace hf104 := lt_of hf104 v105 ev105
                  refine j_iconst X (v := 1) dX6_opened_121 (by decide) ?_
                  refine j_iadd X dX6_opened_122 ?_
                  refine j_puti X fp_X6_131 h103 dX6_opened_123 (fun σ107 eσ107 => ?_)
                  replace hf104 := lt_of hf104 σ107 eσ107
                  have h109 : isO σ107 6 a0 := by rw [eσ107]; exact h103
                  refine j_iload_n X dX6_opened_126 0 rfl rfl ?_
                  obtain ⟨er, es⟩ := rt_of hf104
                  subst er
                  exact j_reti X hr hlk (Nat.le_of_ble_eq_true rfl) (Nat.le_of_ble_eq_true rfl) rfl es.symm rfl dX6_opened_127
                · have hf102 := br_n hf99 c100; clear hf99
                  refine j_aload_n X dX6_opened_111 3 rfl rfl ?_
                  obtain ⟨h110, hf111⟩ := chk_of hf102; clear hf102
                  obtain ⟨r112, σ113, h114, hf115⟩ := bc_of hf111; clear hf111
                  refine j_callV0 X [] [] (c_X6_wrong l D cs q a0 σ97 _ _ h114) mk_X6_wrong mv_X6_wrong ml_X6_149 h110 rfl (by decide) ⟨rfl, rfl⟩ ⟨by dsimp only [rg_MP, rm_X6_wrong]; omega, by dsimp only [rg_MP, rm_X6_wrong]; omega⟩ rfl (Nat.le_of_ble_eq_true rfl) ⟨Nat.zero_le _, Nat.zero_le _⟩ dX6_opened_112 rfl (st' := [.int r112]) rfl ?_
                  obtain ⟨er, es⟩ := rt_of hf115
                  subst er
                  exact j_reti X hr hlk (Nat.le_of_ble_eq_true rfl) (Nat.le_of_ble_eq_true rfl) rfl es.symm rfl dX6_opened_115
              · have hf95 := br_n hf86 c93; clear hf86
                refine j_aload_n X dX6_opened_93 3 rfl rfl ?_
                refine j_iconst X (v := 2) dX6_opened_94 (by decide) ?_
                refine j_iload_n X dX6_opened_95 0 rfl rfl ?_
                refine j_iconst X (v := 0) dX6_opened_96 (by decide) ?_
                refine j_iload_n X dX6_opened_97 2 rfl rfl ?_
                obtain ⟨r116, σ117, h118, hf119⟩ := bc_of hf95; clear hf95
                refine j_callV0 X [.int (2 : Int32), .int r77, .int (0 : Int32), .int v3] [] (c_X6_comes l D cs q a0 (2 : Int32) r77 (0 : Int32) v3 σ90 _ _ h118) mk_X6_comes mv_X6_comes ml_X6_158 h92 rfl (by decide) ⟨rfl, rfl⟩ ⟨by dsimp only [rg_MP, rm_X6_comes]; omega, by dsimp only [rg_MP, rm_X6_comes]; omega⟩ rfl (Nat.le_of_ble_eq_true rfl) ⟨Nat.zero_le _, Nat.zero_le _⟩ dX6_opened_98 rfl (st' := [.int r116]) rfl ?_
                obtain ⟨er, es⟩ := rt_of hf119
                subst er
                exact j_reti X hr hlk (Nat.le_of_ble_eq_true rfl) (Nat.le_of_ble_eq_true rfl) rfl es.symm rfl dX6_opened_101
            · have hf87 := br_y hf82 c85; clear hf82
              refine j_iload_n X dX6_opened_77 0 rfl rfl ?_
              obtain ⟨er, es⟩ := rt_of hf87
              subst er
              exact j_reti X hr hlk (Nat.le_of_ble_eq_true rfl) (Nat.le_of_ble_eq_true rfl) rfl es.symm rfl dX6_opened_78
        · have hf20 := br_y hf15 c18; clear hf15
          refine j_aload_n X dX6_opened_29 2 rfl rfl ?_
          obtain ⟨r120, σ121, h122, hf123⟩ := bc_of hf20; clear hf20
          refine j_callV0 X [] [] (c_X6_wrong l D cs q a0 σ6 _ _ h122) mk_X6_wrong mv_X6_wrong ml_X6_149 h14 rfl (by decide) ⟨rfl, rfl⟩ ⟨by dsimp only [rg_MP, rm_X6_wrong]; omega, by dsimp only [rg_MP, rm_X6_wrong]; omega⟩ rfl (Nat.le_of_ble_eq_true rfl) ⟨Nat.zero_le _, Nat.zero_le _⟩ dX6_opened_30 rfl (st' := [.int r120]) rfl ?_
          obtain ⟨er, es⟩ := rt_of hf123
          subst er
          exact j_reti X hr hlk (Nat.le_of_ble_eq_true rfl) (Nat.le_of_ble_eq_true rfl) rfl es.symm rfl dX6_opened_33
      · have hf11 := br_y hf8 c9; clear hf8
        refine j_iconst X (v := 1) dX6_opened_14 (by decide) ?_
        refine j_goto X (tgt := 19) dX6_opened_15 (by decide) ?_
        refine j_nmi (fun v124 ev124 => ?_)
        replace hf11 := lt_of hf11 v124 ev124
        refine j_istore_n X (lv' := [(2, .int v124), (1, .int v3), (0, .ref (q a0))]) dX6_opened_19 rfl (by decide) rfl ?_
        refine j_aload_n X dX6_opened_20 2 rfl rfl ?_
        obtain ⟨h126, hf127⟩ := chk_of hf11; clear hf11
        refine j_geti X fd_X6_146 h126 dX6_opened_21 (fun v128 ev128 => ?_)
        replace hf127 := lt_of hf127 v128 ev128
        refine j_bipush X (v := 6) dX6_opened_24 (by decide) ?_
        refine j_icmp_ne X (tgt := 34) dX6_opened_26 (by decide) (fun c130 => ?_) (fun c130 => ?_)
        · have hf131 := br_n hf127 c130; clear hf127
          refine j_aload_n X dX6_opened_34 2 rfl rfl ?_
          refine j_dup X dX6_opened_35 rfl ?_
          refine j_geti X fd_X6_146 h126 dX6_opened_36 (fun v133 ev133 => ?_)
          replace hf131 := lt_of hf131 v133 ev133
          refine j_iconst X (v := 1) dX6_opened_39 (by decide) ?_
          refine j_iadd X dX6_opened_40 ?_
          refine j_puti X fp_X6_146 h126 dX6_opened_41 (fun σ135 eσ135 => ?_)
          replace hf131 := lt_of hf131 σ135 eσ135
          have h137 : isO σ135 6 a0 := by rw [eσ135]; exact h126
          refine j_aload_n X dX6_opened_44 2 rfl rfl ?_
          refine j_dup X dX6_opened_45 rfl ?_
          refine j_geti X fd_X6_131 h137 dX6_opened_46 (fun v138 ev138 => ?_)
          replace hf131 := lt_of hf131 v138 ev138
          refine j_iconst X (v := 1) dX6_opened_49 (by decide) ?_
          refine j_iadd X dX6_opened_50 ?_
          refine j_puti X fp_X6_131 h137 dX6_opened_51 (fun σ140 eσ140 => ?_)
          replace hf131 := lt_of hf131 σ140 eσ140
          have h142 : isO σ140 6 a0 := by rw [eσ140]; exact h137
          refine j_iload_n X dX6_opened_54 0 rfl rfl ?_
          refine j_if_eq X (tgt := 65) dX6_opened_55 (by decide) (fun c143 => ?_) (fun c143 => ?_)
          · have hf144 := br_y hf131 c143; clear hf131
            refine j_aload_n X dX6_opened_65 2 rfl rfl ?_
            obtain ⟨r146, σ147, h148, hf149⟩ := bc_of hf144; clear hf144
            refine j_callV0 X [] [] (ihg.1 a0 σ140 _ _ h148) mk_X6_sums mv_X6_sums ml_X6_155 h142 rfl (by decide) ⟨rfl, rfl⟩ ⟨by dsimp only [rg_MP]; omega, by dsimp only [rg_MP]; omega⟩ rfl (Nat.le_of_ble_eq_true rfl) ⟨Nat.zero_le _, Nat.zero_le _⟩ dX6_opened_66 rfl (st' := [.int r146]) rfl ?_
            refine j_istore_n X (lv' := [(3, .int r146), (2, .int v124), (1, .int v3), (0, .ref (q a0))]) dX6_opened_69 rfl (by decide) rfl ?_
            refine j_aload_n X dX6_opened_70 3 rfl rfl ?_
            obtain ⟨h150, hf151⟩ := chk_of hf149; clear hf149
            refine j_geti X fd_X6_138 h150 dX6_opened_71 (fun v152 ev152 => ?_)
            replace hf151 := lt_of hf151 v152 ev152
            refine j_if_ne X (tgt := 79) dX6_opened_74 (by decide) (fun c154 => ?_) (fun c154 => ?_)
            · have hf155 := br_n hf151 c154; clear hf151
              refine j_aload_n X dX6_opened_79 3 rfl rfl ?_
              refine j_dup X dX6_opened_80 rfl ?_
              refine j_geti X fd_X6_146 h150 dX6_opened_81 (fun v157 ev157 => ?_)
              replace hf155 := lt_of hf155 v157 ev157
              refine j_iconst X (v := 1) dX6_opened_84 (by decide) ?_
              refine j_isub X dX6_opened_85 ?_
              refine j_puti X fp_X6_146 h150 dX6_opened_86 (fun σ159 eσ159 => ?_)
              replace hf155 := lt_of hf155 σ159 eσ159
              have h161 : isO σ159 6 a0 := by rw [eσ159]; exact h150
              refine j_iload_n X dX6_opened_89 1 rfl rfl ?_
              refine j_if_eq X (tgt := 102) dX6_opened_90 (by decide) (fun c162 => ?_) (fun c162 => ?_)
              · have hf163 := br_y hf155 c162; clear hf155
                refine j_aload_n X dX6_opened_102 3 rfl rfl ?_
                obtain ⟨r165, σ166, h167, hf168⟩ := bc_of hf163; clear hf163
                refine j_callV0 X [] [] (c_X6_next l D cs q a0 σ159 _ _ h167) mk_X6_next mv_X6_next ml_X6_142 h161 rfl (by decide) ⟨rfl, rfl⟩ ⟨by dsimp only [rg_MP, rm_X6_next]; omega, by dsimp only [rg_MP, rm_X6_next]; omega⟩ rfl (Nat.le_of_ble_eq_true rfl) ⟨Nat.zero_le _, Nat.zero_le _⟩ dX6_opened_103 rfl (st' := [.int r165]) rfl ?_
                refine j_bipush X (v := 41) dX6_opened_106 (by decide) ?_
                refine j_icmp_eq X (tgt := 116) dX6_opened_108 (by decide) (fun c169 => ?_) (fun c169 => ?_)
                · have hf170 := br_y hf168 c169; clear hf168
                  refine j_aload_n X dX6_opened_116 3 rfl rfl ?_
                  refine j_dup X dX6_opened_117 rfl ?_
                  obtain ⟨h172, hf173⟩ := chk_of hf170; clear hf170
                  refine j_geti X fd_X6_131 h172 dX6_opened_118 (fun v174 ev174 => ?_)
                  replace hf173 := lt_of hf173 v174 ev174
                  refine j_iconst X (v := 1) dX6_opened_121 (by decide) ?_
                  refine j_iadd X dX6_opened_122 ?_
                  refine j_puti X fp_X6_131 h172 dX6_opened_123 (fun σ176 eσ176 => ?_)
                  replace hf173 := lt_of hf173 σ176 eσ176
                  have h178 : isO σ176 6 a0 := by rw [eσ176]; exact h172
                  refine j_iload_n X dX6_opened_126 0 rfl rfl ?_
                  obtain ⟨er, es⟩ := rt_of hf173
                  subst er
                  exact j_reti X hr hlk (Nat.le_of_ble_eq_true rfl) (Nat.le_of_ble_eq_true rfl) rfl es.symm rfl dX6_opened_127
                · have hf171 := br_n hf168 c169; clear hf168
                  refine j_aload_n X dX6_opened_111 3 rfl rfl ?_
                  obtain ⟨h179, hf180⟩ := chk_of hf171; clear hf171
                  obtain ⟨r181, σ182, h183, hf184⟩ := bc_of hf180; clear hf180
                  refine j_callV0 X [] [] (c_X6_wrong l D cs q a0 σ166 _ _ h183) mk_X6_wrong mv_X6_wrong ml_X6_149 h179 rfl (by decide) ⟨rfl, rfl⟩ ⟨by dsimp only [rg_MP, rm_X6_wrong]; omega, by dsimp only [rg_MP, rm_X6_wrong]; omega⟩ rfl (Nat.le_of_ble_eq_true rfl) ⟨Nat.zero_le _, Nat.zero_le _⟩ dX6_opened_112 rfl (st' := [.int r181]) rfl ?_
                  obtain ⟨er, es⟩ := rt_of hf184
                  subst er
                  exact j_reti X hr hlk (Nat.le_of_ble_eq_true rfl) (Nat.le_of_ble_eq_true rfl) rfl es.symm rfl dX6_opened_115
              · have hf164 := br_n hf155 c162; clear hf155
                refine j_aload_n X dX6_opened_93 3 rfl rfl ?_
                refine j_iconst X (v := 2) dX6_opened_94 (by decide) ?_
                refine j_iload_n X dX6_opened_95 0 rfl rfl ?_
                refine j_iconst X (v := 0) dX6_opened_96 (by decide) ?_
                refine j_iload_n X dX6_opened_97 2 rfl rfl ?_
                obtain ⟨r185, σ186, h187, hf188⟩ := bc_of hf164; clear hf164
                refine j_callV0 X [.int (2 : Int32), .int r146, .int (0 : Int32), .int v3] [] (c_X6_comes l D cs q a0 (2 : Int32) r146 (0 : Int32) v3 σ159 _ _ h187) mk_X6_comes mv_X6_comes ml_X6_158 h161 rfl (by decide) ⟨rfl, rfl⟩ ⟨by dsimp only [rg_MP, rm_X6_comes]; omega, by dsimp only [rg_MP, rm_X6_comes]; omega⟩ rfl (Nat.le_of_ble_eq_true rfl) ⟨Nat.zero_le _, Nat.zero_le _⟩ dX6_opened_98 rfl (st' := [.int r185]) rfl ?_
                obtain ⟨er, es⟩ := rt_of hf188
                subst er
                exact j_reti X hr hlk (Nat.le_of_ble_eq_true rfl) (Nat.le_of_ble_eq_true rfl) rfl es.symm rfl dX6_opened_101
            · have hf156 := br_y hf151 c154; clear hf151
              refine j_iload_n X dX6_opened_77 0 rfl rfl ?_
              obtain ⟨er, es⟩ := rt_of hf156
              subst er
              exact j_reti X hr hlk (Nat.le_of_ble_eq_true rfl) (Nat.le_of_ble_eq_true rfl) rfl es.symm rfl dX6_opened_78
          · have hf145 := br_n hf131 c143; clear hf131
            refine j_aload_n X dX6_opened_58 2 rfl rfl ?_
            obtain ⟨r189, σ190, h191, hf192⟩ := bc_of hf145; clear hf145
            refine j_callV0 X [] [] (ihg.2.2.1 a0 σ140 _ _ h191) mk_X6_factor mv_X6_factor ml_X6_152 h142 rfl (by decide) ⟨rfl, rfl⟩ ⟨by dsimp only [rg_MP]; omega, by dsimp only [rg_MP]; omega⟩ rfl (Nat.le_of_ble_eq_true rfl) ⟨Nat.zero_le _, Nat.zero_le _⟩ dX6_opened_59 rfl (st' := [.int r189]) rfl ?_
            refine j_goto X (tgt := 69) dX6_opened_62 (by decide) ?_
            refine j_istore_n X (lv' := [(3, .int r189), (2, .int v124), (1, .int v3), (0, .ref (q a0))]) dX6_opened_69 rfl (by decide) rfl ?_
            refine j_aload_n X dX6_opened_70 3 rfl rfl ?_
            obtain ⟨h193, hf194⟩ := chk_of hf192; clear hf192
            refine j_geti X fd_X6_138 h193 dX6_opened_71 (fun v195 ev195 => ?_)
            replace hf194 := lt_of hf194 v195 ev195
            refine j_if_ne X (tgt := 79) dX6_opened_74 (by decide) (fun c197 => ?_) (fun c197 => ?_)
            · have hf198 := br_n hf194 c197; clear hf194
              refine j_aload_n X dX6_opened_79 3 rfl rfl ?_
              refine j_dup X dX6_opened_80 rfl ?_
              refine j_geti X fd_X6_146 h193 dX6_opened_81 (fun v200 ev200 => ?_)
              replace hf198 := lt_of hf198 v200 ev200
              refine j_iconst X (v := 1) dX6_opened_84 (by decide) ?_
              refine j_isub X dX6_opened_85 ?_
              refine j_puti X fp_X6_146 h193 dX6_opened_86 (fun σ202 eσ202 => ?_)
              replace hf198 := lt_of hf198 σ202 eσ202
              have h204 : isO σ202 6 a0 := by rw [eσ202]; exact h193
              refine j_iload_n X dX6_opened_89 1 rfl rfl ?_
              refine j_if_eq X (tgt := 102) dX6_opened_90 (by decide) (fun c205 => ?_) (fun c205 => ?_)
              · have hf206 := br_y hf198 c205; clear hf198
                refine j_aload_n X dX6_opened_102 3 rfl rfl ?_
                obtain ⟨r208, σ209, h210, hf211⟩ := bc_of hf206; clear hf206
                refine j_callV0 X [] [] (c_X6_next l D cs q a0 σ202 _ _ h210) mk_X6_next mv_X6_next ml_X6_142 h204 rfl (by decide) ⟨rfl, rfl⟩ ⟨by dsimp only [rg_MP, rm_X6_next]; omega, by dsimp only [rg_MP, rm_X6_next]; omega⟩ rfl (Nat.le_of_ble_eq_true rfl) ⟨Nat.zero_le _, Nat.zero_le _⟩ dX6_opened_103 rfl (st' := [.int r208]) rfl ?_
                refine j_bipush X (v := 41) dX6_opened_106 (by decide) ?_
                refine j_icmp_eq X (tgt := 116) dX6_opened_108 (by decide) (fun c212 => ?_) (fun c212 => ?_)
                · have hf213 := br_y hf211 c212; clear hf211
                  refine j_aload_n X dX6_opened_116 3 rfl rfl ?_
                  refine j_dup X dX6_opened_117 rfl ?_
                  obtain ⟨h215, hf216⟩ := chk_of hf213; clear hf213
                  refine j_geti X fd_X6_131 h215 dX6_opened_118 (fun v217 ev217 => ?_)
                  replace hf216 := lt_of hf216 v217 ev217
                  refine j_iconst X (v := 1) dX6_opened_121 (by decide) ?_
                  refine j_iadd X dX6_opened_122 ?_
                  refine j_puti X fp_X6_131 h215 dX6_opened_123 (fun σ219 eσ219 => ?_)
                  replace hf216 := lt_of hf216 σ219 eσ219
                  have h221 : isO σ219 6 a0 := by rw [eσ219]; exact h215
                  refine j_iload_n X dX6_opened_126 0 rfl rfl ?_
                  obtain ⟨er, es⟩ := rt_of hf216
                  subst er
                  exact j_reti X hr hlk (Nat.le_of_ble_eq_true rfl) (Nat.le_of_ble_eq_true rfl) rfl es.symm rfl dX6_opened_127
                · have hf214 := br_n hf211 c212; clear hf211
                  refine j_aload_n X dX6_opened_111 3 rfl rfl ?_
                  obtain ⟨h222, hf223⟩ := chk_of hf214; clear hf214
                  obtain ⟨r224, σ225, h226, hf227⟩ := bc_of hf223; clear hf223
                  refine j_callV0 X [] [] (c_X6_wrong l D cs q a0 σ209 _ _ h226) mk_X6_wrong mv_X6_wrong ml_X6_149 h222 rfl (by decide) ⟨rfl, rfl⟩ ⟨by dsimp only [rg_MP, rm_X6_wrong]; omega, by dsimp only [rg_MP, rm_X6_wrong]; omega⟩ rfl (Nat.le_of_ble_eq_true rfl) ⟨Nat.zero_le _, Nat.zero_le _⟩ dX6_opened_112 rfl (st' := [.int r224]) rfl ?_
                  obtain ⟨er, es⟩ := rt_of hf227
                  subst er
                  exact j_reti X hr hlk (Nat.le_of_ble_eq_true rfl) (Nat.le_of_ble_eq_true rfl) rfl es.symm rfl dX6_opened_115
              · have hf207 := br_n hf198 c205; clear hf198
                refine j_aload_n X dX6_opened_93 3 rfl rfl ?_
                refine j_iconst X (v := 2) dX6_opened_94 (by decide) ?_
                refine j_iload_n X dX6_opened_95 0 rfl rfl ?_
                refine j_iconst X (v := 0) dX6_opened_96 (by decide) ?_
                refine j_iload_n X dX6_opened_97 2 rfl rfl ?_
                obtain ⟨r228, σ229, h230, hf231⟩ := bc_of hf207; clear hf207
                refine j_callV0 X [.int (2 : Int32), .int r189, .int (0 : Int32), .int v3] [] (c_X6_comes l D cs q a0 (2 : Int32) r189 (0 : Int32) v3 σ202 _ _ h230) mk_X6_comes mv_X6_comes ml_X6_158 h204 rfl (by decide) ⟨rfl, rfl⟩ ⟨by dsimp only [rg_MP, rm_X6_comes]; omega, by dsimp only [rg_MP, rm_X6_comes]; omega⟩ rfl (Nat.le_of_ble_eq_true rfl) ⟨Nat.zero_le _, Nat.zero_le _⟩ dX6_opened_98 rfl (st' := [.int r228]) rfl ?_
                obtain ⟨er, es⟩ := rt_of hf231
                subst er
                exact j_reti X hr hlk (Nat.le_of_ble_eq_true rfl) (Nat.le_of_ble_eq_true rfl) rfl es.symm rfl dX6_opened_101
            · have hf199 := br_y hf194 c197; clear hf194
              refine j_iload_n X dX6_opened_77 0 rfl rfl ?_
              obtain ⟨er, es⟩ := rt_of hf199
              subst er
              exact j_reti X hr hlk (Nat.le_of_ble_eq_true rfl) (Nat.le_of_ble_eq_true rfl) rfl es.symm rfl dX6_opened_78
        · have hf132 := br_y hf127 c130; clear hf127
          refine j_aload_n X dX6_opened_29 2 rfl rfl ?_
          obtain ⟨r232, σ233, h234, hf235⟩ := bc_of hf132; clear hf132
          refine j_callV0 X [] [] (c_X6_wrong l D cs q a0 σ6 _ _ h234) mk_X6_wrong mv_X6_wrong ml_X6_149 h126 rfl (by decide) ⟨rfl, rfl⟩ ⟨by dsimp only [rg_MP, rm_X6_wrong]; omega, by dsimp only [rg_MP, rm_X6_wrong]; omega⟩ rfl (Nat.le_of_ble_eq_true rfl) ⟨Nat.zero_le _, Nat.zero_le _⟩ dX6_opened_30 rfl (st' := [.int r232]) rfl ?_
          obtain ⟨er, es⟩ := rt_of hf235
          subst er
          exact j_reti X hr hlk (Nat.le_of_ble_eq_true rfl) (Nat.le_of_ble_eq_true rfl) rfl es.symm rfl dX6_opened_33
abbrev rm_X6_sums : Room := rg_MP 60
theorem c_X6_sums (l : Launch) (D : va_G) (cs : Nat → ClassId) (q : Nat → Nat) (a0 : Nat) (σ σ0 : HS) (r0 : Int32) (hf0 : f_X6_sums a0 σ = some (r0, σ0)) : MT l yX6_sums (Cond.code yX6_sums cX6_sums 5 (some .int) :: lw_g) rm_X6_sums D cs q σ σ0 [.ref (q a0)] (fun z => z = q) (fun _ => some (.int r0)) 0 0 := (cg_MP l D cs q 60).1 a0 σ σ0 r0 hf0
abbrev rm_X6_products : Room := rg_MP 60
theorem c_X6_products (l : Launch) (D : va_G) (cs : Nat → ClassId) (q : Nat → Nat) (a0 : Nat) (σ σ0 : HS) (r0 : Int32) (hf0 : f_X6_products a0 σ = some (r0, σ0)) : MT l yX6_products (Cond.code yX6_products cX6_products 4 (some .int) :: lw_g) rm_X6_products D cs q σ σ0 [.ref (q a0)] (fun z => z = q) (fun _ => some (.int r0)) 0 0 := (cg_MP l D cs q 60).2.1 a0 σ σ0 r0 hf0
abbrev rm_X6_factor : Room := rg_MP 60
theorem c_X6_factor (l : Launch) (D : va_G) (cs : Nat → ClassId) (q : Nat → Nat) (a0 : Nat) (σ σ0 : HS) (r0 : Int32) (hf0 : f_X6_factor a0 σ = some (r0, σ0)) : MT l yX6_factor (Cond.code yX6_factor cX6_factor 4 (some .int) :: lw_g) rm_X6_factor D cs q σ σ0 [.ref (q a0)] (fun z => z = q) (fun _ => some (.int r0)) 0 0 := (cg_MP l D cs q 60).2.2.1 a0 σ σ0 r0 hf0
abbrev rm_X6_opened : Room := rg_MP 60
theorem c_X6_opened (l : Launch) (D : va_G) (cs : Nat → ClassId) (q : Nat → Nat) (a0 : Nat) (σ σ0 : HS) (r0 : Int32) (hf0 : f_X6_opened a0 σ = some (r0, σ0)) : MT l yX6_opened (Cond.code yX6_opened cX6_opened 4 (some .int) :: lw_g) rm_X6_opened D cs q σ σ0 [.ref (q a0)] (fun z => z = q) (fun _ => some (.int r0)) 0 0 := (cg_MP l D cs q 60).2.2.2 a0 σ σ0 r0 hf0
