abbrev rm_X6_isIn : Room := { frames := 0, cells := 0, slots := 0, locals := 0 }
set_option maxHeartbeats 4000000 in
set_option maxRecDepth 100000 in
theorem c_X6_isIn (l : Launch) (D : va_G) (cs : Nat → ClassId) (q : Nat → Nat) (a0 : Int64) (a2 : Int64) (a4 : Int64) (σ σ0 : HS) (r0 : Int32) (hf0 : f_X6_isIn a0 a2 a4 σ = some (r0, σ0)) : MT l yX6_isIn (Cond.code yX6_isIn cX6_isIn 6 (some .boolean) :: lw_g) rm_X6_isIn D cs q σ σ0 [.long a0, .long a2, .long a4] (fun z => z = q) (fun _ => some (.int r0)) 0 0 := by
  unfold f_X6_isIn at hf0
  refine MT_of (cc := cX6_isIn) (lv0 := [(0, .long a0), (2, .long a2), (4, .long a4)]) (by decide) (Nat.le_of_ble_eq_true rfl) rfl (fun p e s m args below meth c A X hr hlk hin => ?_)
  refine j_lload_n X dX6_isIn_0 0 rfl rfl ?_
  refine j_lload_n X dX6_isIn_1 1 rfl rfl ?_
  refine j_lcmp X dX6_isIn_2 ?_
  refine j_if_lt X (tgt := 17) dX6_isIn_3 (by decide) (fun c1 => ?_) (fun c1 => ?_)
  · have hf2 := br_y hf0 c1; clear hf0
    refine j_iconst X (v := 0) dX6_isIn_17 (by decide) ?_
    obtain ⟨er, es⟩ := rt_of hf2
    subst er
    exact j_retz X hr hlk (Nat.le_of_ble_eq_true rfl) (Nat.le_of_ble_eq_true rfl) rfl es.symm rfl (Or.inl rfl) dX6_isIn_18
  · have hf3 := br_n hf0 c1; clear hf0
    refine j_lload_n X dX6_isIn_6 0 rfl rfl ?_
    refine j_lload X dX6_isIn_7 2 rfl ?_
    refine j_lcmp X dX6_isIn_9 ?_
    refine j_if_gt X (tgt := 17) dX6_isIn_10 (by decide) (fun c4 => ?_) (fun c4 => ?_)
    · have hf5 := br_y hf3 c4; clear hf3
      refine j_iconst X (v := 0) dX6_isIn_17 (by decide) ?_
      obtain ⟨er, es⟩ := rt_of hf5
      subst er
      exact j_retz X hr hlk (Nat.le_of_ble_eq_true rfl) (Nat.le_of_ble_eq_true rfl) rfl es.symm rfl (Or.inl rfl) dX6_isIn_18
    · have hf6 := br_n hf3 c4; clear hf3
      refine j_iconst X (v := 1) dX6_isIn_13 (by decide) ?_
      refine j_goto X (tgt := 18) dX6_isIn_14 (by decide) ?_
      obtain ⟨er, es⟩ := rt_of hf6
      subst er
      exact j_retz X hr hlk (Nat.le_of_ble_eq_true rfl) (Nat.le_of_ble_eq_true rfl) rfl es.symm rfl (Or.inr rfl) dX6_isIn_18
abbrev rm_X6_isFormula : Room := { frames := 1, cells := 0, slots := 0, locals := 64 }
set_option maxHeartbeats 4000000 in
set_option maxRecDepth 100000 in
theorem c_X6_isFormula (l : Launch) (D : va_G) (cs : Nat → ClassId) (q : Nat → Nat) (a0 : Nat) (a1 : Int32) (σ σ0 : HS) (r0 : Int32) (hf0 : f_X6_isFormula a0 a1 σ = some (r0, σ0)) : MT l yX6_isFormula (Cond.code yX6_isFormula cX6_isFormula 2 (some .boolean) :: lw_g) rm_X6_isFormula D cs q σ σ0 [.ref (q a0), .int a1] (fun z => z = q) (fun _ => some (.int r0)) 0 0 := by
  unfold f_X6_isFormula at hf0
  refine MT_of (cc := cX6_isFormula) (lv0 := [(0, .ref (q a0)), (1, .int a1)]) (by decide) (Nat.le_of_ble_eq_true rfl) rfl (fun p e s m args below meth c A X hr hlk hin => ?_)
  refine j_iload_n X dX6_isFormula_0 1 rfl rfl ?_
  refine j_i2l X dX6_isFormula_1 ?_
  refine j_lconst X (v := 0) dX6_isFormula_2 (by decide) ?_
  refine j_aload_n X dX6_isFormula_3 0 rfl rfl ?_
  obtain ⟨h1, hf2⟩ := chk_of hf0; clear hf0
  refine j_geti X fd_X6_122 h1 dX6_isFormula_4 (fun v3 ev3 => ?_)
  replace hf2 := lt_of hf2 v3 ev3
  refine j_iconst X (v := 1) dX6_isFormula_7 (by decide) ?_
  refine j_isub X dX6_isFormula_8 ?_
  refine j_i2l X dX6_isFormula_9 ?_
  obtain ⟨r5, σ6, h7, hf8⟩ := bc_of hf2; clear hf2
  refine j_callS0 X [.long (a1).toInt64, .long (0 : Int64), .long ((v3 - (1 : Int32))).toInt64] [] (c_X6_isIn l D cs q (a1).toInt64 (0 : Int64) ((v3 - (1 : Int32))).toInt64 σ _ _ h7) mk_X6_isIn ms_X6_isIn ml_X6_97 ⟨rfl, rfl⟩ ⟨Nat.le_of_ble_eq_true rfl, Nat.le_of_ble_eq_true rfl⟩ rfl (Nat.le_of_ble_eq_true rfl) ⟨Nat.le_of_ble_eq_true rfl, Nat.le_of_ble_eq_true rfl⟩ dX6_isFormula_10 rfl (st' := [.int r5]) rfl ?_
  obtain ⟨h9, hf10⟩ := chk_of hf8; clear hf8
  obtain ⟨er, es⟩ := rt_of hf10
  subst er
  exact j_retz X hr hlk (Nat.le_of_ble_eq_true rfl) (Nat.le_of_ble_eq_true rfl) rfl es.symm rfl h9 dX6_isFormula_13
abbrev rm_X6_valueOf : Room := { frames := 0, cells := 0, slots := 0, locals := 0 }
set_option maxHeartbeats 4000000 in
set_option maxRecDepth 100000 in
theorem c_X6_valueOf (l : Launch) (D : va_G) (cs : Nat → ClassId) (q : Nat → Nat) (a0 : Nat) (a1 : Int32) (σ σ0 : HS) (r0 : Int32) (hf0 : f_X6_valueOf a0 a1 σ = some (r0, σ0)) : MT l yX6_valueOf (Cond.code yX6_valueOf cX6_valueOf 2 (some .int) :: lw_g) rm_X6_valueOf D cs q σ σ0 [.ref (q a0), .int a1] (fun z => z = q) (fun _ => some (.int r0)) 0 0 := by
  unfold f_X6_valueOf at hf0
  refine MT_of (cc := cX6_valueOf) (lv0 := [(0, .ref (q a0)), (1, .int a1)]) (by decide) (Nat.le_of_ble_eq_true rfl) rfl (fun p e s m args below meth c A X hr hlk hin => ?_)
  refine j_aload_n X dX6_valueOf_0 0 rfl rfl ?_
  obtain ⟨h1, hf2⟩ := chk_of hf0; clear hf0
  obtain ⟨i3, h4, hf5⟩ := bd_of hf2; clear hf2
  refine j_getr X fd_X6_11 h1 h4 dX6_valueOf_1 ?_
  refine j_iconst X (v := 3) dX6_valueOf_4 (by decide) ?_
  refine j_iload_n X dX6_valueOf_5 1 rfl rfl ?_
  refine j_imul X dX6_valueOf_6 ?_
  obtain ⟨h6, hf7⟩ := chk_of hf5; clear hf5
  refine j_iald X h6 dX6_valueOf_7 (fun v8 ev8 => ?_)
  replace hf7 := lt_of hf7 v8 ev8
  obtain ⟨er, es⟩ := rt_of hf7
  subst er
  exact j_reti X hr hlk (Nat.le_of_ble_eq_true rfl) (Nat.le_of_ble_eq_true rfl) rfl es.symm rfl dX6_valueOf_8
abbrev rm_X6_spanOf : Room := { frames := 0, cells := 0, slots := 0, locals := 0 }
set_option maxHeartbeats 4000000 in
set_option maxRecDepth 100000 in
theorem c_X6_spanOf (l : Launch) (D : va_G) (cs : Nat → ClassId) (q : Nat → Nat) (a0 : Nat) (a1 : Int32) (σ σ0 : HS) (r0 : Int32) (hf0 : f_X6_spanOf a0 a1 σ = some (r0, σ0)) : MT l yX6_spanOf (Cond.code yX6_spanOf cX6_spanOf 2 (some .int) :: lw_g) rm_X6_spanOf D cs q σ σ0 [.ref (q a0), .int a1] (fun z => z = q) (fun _ => some (.int r0)) 0 0 := by
  unfold f_X6_spanOf at hf0
  refine MT_of (cc := cX6_spanOf) (lv0 := [(0, .ref (q a0)), (1, .int a1)]) (by decide) (Nat.le_of_ble_eq_true rfl) rfl (fun p e s m args below meth c A X hr hlk hin => ?_)
  refine j_aload_n X dX6_spanOf_0 0 rfl rfl ?_
  obtain ⟨h1, hf2⟩ := chk_of hf0; clear hf0
  obtain ⟨i3, h4, hf5⟩ := bd_of hf2; clear hf2
  refine j_getr X fd_X6_11 h1 h4 dX6_spanOf_1 ?_
  refine j_iconst X (v := 3) dX6_spanOf_4 (by decide) ?_
  refine j_iload_n X dX6_spanOf_5 1 rfl rfl ?_
  refine j_imul X dX6_spanOf_6 ?_
  refine j_iconst X (v := 1) dX6_spanOf_7 (by decide) ?_
  refine j_iadd X dX6_spanOf_8 ?_
  obtain ⟨h6, hf7⟩ := chk_of hf5; clear hf5
  refine j_iald X h6 dX6_spanOf_9 (fun v8 ev8 => ?_)
  replace hf7 := lt_of hf7 v8 ev8
  obtain ⟨er, es⟩ := rt_of hf7
  subst er
  exact j_reti X hr hlk (Nat.le_of_ble_eq_true rfl) (Nat.le_of_ble_eq_true rfl) rfl es.symm rfl dX6_spanOf_10
abbrev rm_X6_lays : Room := { frames := 0, cells := 0, slots := 0, locals := 0 }
set_option maxHeartbeats 4000000 in
set_option maxRecDepth 100000 in
theorem c_X6_lays (l : Launch) (D : va_G) (cs : Nat → ClassId) (q : Nat → Nat) (a0 : Nat) (a1 : Int32) (a2 : Int32) (a3 : Int32) (σ σ0 : HS) (r0 : Unit) (hf0 : f_X6_lays a0 a1 a2 a3 σ = some (r0, σ0)) : MT l yX6_lays (Cond.code yX6_lays cX6_lays 4 none :: lw_g) rm_X6_lays D cs q σ σ0 [.ref (q a0), .int a1, .int a2, .int a3] (fun z => z = q) (fun _ => none) 0 0 := by
  unfold f_X6_lays at hf0
  refine MT_of (cc := cX6_lays) (lv0 := [(0, .ref (q a0)), (1, .int a1), (2, .int a2), (3, .int a3)]) (by decide) (Nat.le_of_ble_eq_true rfl) rfl (fun p e s m args below meth c A X hr hlk hin => ?_)
  refine j_aload_n X dX6_lays_0 0 rfl rfl ?_
  obtain ⟨h1, hf2⟩ := chk_of hf0; clear hf0
  obtain ⟨i3, h4, hf5⟩ := bd_of hf2; clear hf2
  refine j_getr X fd_X6_51 h1 h4 dX6_lays_1 ?_
  refine j_iload_n X dX6_lays_4 1 rfl rfl ?_
  refine j_iload_n X dX6_lays_5 2 rfl rfl ?_
  obtain ⟨h6, hf7⟩ := chk_of hf5; clear hf5
  refine j_iast X h6 dX6_lays_6 (fun σ8 eσ8 => ?_)
  replace hf7 := lt_of hf7 σ8 eσ8
  have h10 : isO σ8 6 a0 := by rw [eσ8]; exact h1
  refine j_aload_n X dX6_lays_7 0 rfl rfl ?_
  obtain ⟨i11, h12, hf13⟩ := bd_of hf7; clear hf7
  refine j_getr X fd_X6_54 h10 h12 dX6_lays_8 ?_
  refine j_iload_n X dX6_lays_11 1 rfl rfl ?_
  refine j_iload_n X dX6_lays_12 3 rfl rfl ?_
  obtain ⟨h14, hf15⟩ := chk_of hf13; clear hf13
  refine j_iast X h14 dX6_lays_13 (fun σ16 eσ16 => ?_)
  replace hf15 := lt_of hf15 σ16 eσ16
  have h18 : isO σ16 6 a0 := by rw [eσ16]; exact h10
  obtain ⟨er, es⟩ := rt_of hf15
  exact j_retv X hr hlk (Nat.le_of_ble_eq_true rfl) (Nat.le_of_ble_eq_true rfl) rfl es.symm rfl dX6_lays_14
abbrev rm_X6_laysBox : Room := { frames := 1, cells := 0, slots := 0, locals := 64 }
set_option maxHeartbeats 4000000 in
set_option maxRecDepth 100000 in
theorem c_X6_laysBox (l : Launch) (D : va_G) (cs : Nat → ClassId) (q : Nat → Nat) (a0 : Nat) (σ σ0 : HS) (r0 : Unit) (hf0 : f_X6_laysBox a0 σ = some (r0, σ0)) : MT l yX6_laysBox (Cond.code yX6_laysBox cX6_laysBox 2 none :: lw_g) rm_X6_laysBox D cs q σ σ0 [.ref (q a0)] (fun z => z = q) (fun _ => none) 0 0 := by
  unfold f_X6_laysBox at hf0
  refine MT_of (cc := cX6_laysBox) (lv0 := [(0, .ref (q a0))]) (by decide) (Nat.le_of_ble_eq_true rfl) rfl (fun p e s m args below meth c A X hr hlk hin => ?_)
  have L2 : ∀ (nk : Nat) (x0 : Nat) (x1 : Int32) (τ : HS), lp_X6_laysBox_2  nk x0 x1 τ = some (r0, σ0) → J p l e rm_X6_laysBox s m args below meth c 2 D cs A s.heap 0 0 (MQ below (hQ D cs (fun z => z = q) (fun _ => none) σ0 A) args s 0 0 A) q τ [(0, .ref (q x0)), (1, .int x1)] 2 [] := by
    intro nk
    induction nk with
    | zero => intro x0 x1 τ hf0; have hf1 : (none : Option (Unit × HS)) = some (r0, σ0) := hf0; cases hf1
    | succ nk ih =>
      intro x0 x1 τ hf0
      replace hf0 : lp_X6_laysBox_2_b  (lp_X6_laysBox_2  nk) x0 x1 τ = some (r0, σ0) := hf0
      unfold lp_X6_laysBox_2_b at hf0
      refine j_iload_n X dX6_laysBox_2 1 rfl rfl ?_
      refine j_bipush X (v := 6) dX6_laysBox_3 (by decide) ?_
      refine j_icmp_ge X (tgt := 41) dX6_laysBox_5 (by decide) (fun c3 => ?_) (fun c3 => ?_)
      · have hf4 := br_y hf0 c3; clear hf0
        obtain ⟨er, es⟩ := rt_of hf4
        exact j_retv X hr hlk (Nat.le_of_ble_eq_true rfl) (Nat.le_of_ble_eq_true rfl) rfl es.symm rfl dX6_laysBox_41
      · have hf5 := br_n hf0 c3; clear hf0
        refine j_aload_n X dX6_laysBox_8 0 rfl rfl ?_
        refine j_iload_n X dX6_laysBox_9 1 rfl rfl ?_
        refine j_aload_n X dX6_laysBox_10 0 rfl rfl ?_
        refine j_iload_n X dX6_laysBox_11 1 rfl rfl ?_
        obtain ⟨h6, hf7⟩ := chk_of hf5; clear hf5
        obtain ⟨r8, σ9, h10, hf11⟩ := bc_of hf7; clear hf7
        refine j_callV0 X [.int x1] [.int x1, .ref (q x0)] (c_X6_valueOf l D cs q x0 x1 τ _ _ h10) mk_X6_valueOf mv_X6_valueOf ml_X6_115 h6 rfl (by decide) ⟨rfl, rfl⟩ ⟨Nat.le_of_ble_eq_true rfl, Nat.le_of_ble_eq_true rfl⟩ rfl (Nat.le_of_ble_eq_true rfl) ⟨Nat.le_of_ble_eq_true rfl, Nat.le_of_ble_eq_true rfl⟩ dX6_laysBox_12 rfl (st' := [.int r8, .int x1, .ref (q x0)]) rfl ?_
        refine j_aload_n X dX6_laysBox_15 0 rfl rfl ?_
        refine j_iload_n X dX6_laysBox_16 1 rfl rfl ?_
        obtain ⟨h12, hf13⟩ := chk_of hf11; clear hf11
        obtain ⟨r14, σ15, h16, hf17⟩ := bc_of hf13; clear hf13
        refine j_callV0 X [.int x1] [.int r8, .int x1, .ref (q x0)] (c_X6_spanOf l D cs q x0 x1 σ9 _ _ h16) mk_X6_spanOf mv_X6_spanOf ml_X6_119 h12 rfl (by decide) ⟨rfl, rfl⟩ ⟨Nat.le_of_ble_eq_true rfl, Nat.le_of_ble_eq_true rfl⟩ rfl (Nat.le_of_ble_eq_true rfl) ⟨Nat.le_of_ble_eq_true rfl, Nat.le_of_ble_eq_true rfl⟩ dX6_laysBox_17 rfl (st' := [.int r14, .int r8, .int x1, .ref (q x0)]) rfl ?_
        refine j_isub X dX6_laysBox_20 ?_
        refine j_aload_n X dX6_laysBox_21 0 rfl rfl ?_
        refine j_iload_n X dX6_laysBox_22 1 rfl rfl ?_
        obtain ⟨h18, hf19⟩ := chk_of hf17; clear hf17
        obtain ⟨r20, σ21, h22, hf23⟩ := bc_of hf19; clear hf19
        refine j_callV0 X [.int x1] [.int (r8 - r14), .int x1, .ref (q x0)] (c_X6_valueOf l D cs q x0 x1 σ15 _ _ h22) mk_X6_valueOf mv_X6_valueOf ml_X6_115 h18 rfl (by decide) ⟨rfl, rfl⟩ ⟨Nat.le_of_ble_eq_true rfl, Nat.le_of_ble_eq_true rfl⟩ rfl (Nat.le_of_ble_eq_true rfl) ⟨Nat.le_of_ble_eq_true rfl, Nat.le_of_ble_eq_true rfl⟩ dX6_laysBox_23 rfl (st' := [.int r20, .int (r8 - r14), .int x1, .ref (q x0)]) rfl ?_
        refine j_aload_n X dX6_laysBox_26 0 rfl rfl ?_
        refine j_iload_n X dX6_laysBox_27 1 rfl rfl ?_
        obtain ⟨h24, hf25⟩ := chk_of hf23; clear hf23
        obtain ⟨r26, σ27, h28, hf29⟩ := bc_of hf25; clear hf25
        refine j_callV0 X [.int x1] [.int r20, .int (r8 - r14), .int x1, .ref (q x0)] (c_X6_spanOf l D cs q x0 x1 σ21 _ _ h28) mk_X6_spanOf mv_X6_spanOf ml_X6_119 h24 rfl (by decide) ⟨rfl, rfl⟩ ⟨Nat.le_of_ble_eq_true rfl, Nat.le_of_ble_eq_true rfl⟩ rfl (Nat.le_of_ble_eq_true rfl) ⟨Nat.le_of_ble_eq_true rfl, Nat.le_of_ble_eq_true rfl⟩ dX6_laysBox_28 rfl (st' := [.int r26, .int r20, .int (r8 - r14), .int x1, .ref (q x0)]) rfl ?_
        refine j_iadd X dX6_laysBox_31 ?_
        obtain ⟨h30, hf31⟩ := chk_of hf29; clear hf29
        obtain ⟨r32, σ33, h34, hf35⟩ := bc_of hf31; clear hf31
        refine j_callV0 X [.int x1, .int (r8 - r14), .int (r20 + r26)] [] (c_X6_lays l D cs q x0 x1 (r8 - r14) (r20 + r26) σ27 _ _ h34) mk_X6_lays mv_X6_lays ml_X6_200 h30 rfl (by decide) ⟨rfl, rfl⟩ ⟨Nat.le_of_ble_eq_true rfl, Nat.le_of_ble_eq_true rfl⟩ rfl (Nat.le_of_ble_eq_true rfl) ⟨Nat.le_of_ble_eq_true rfl, Nat.le_of_ble_eq_true rfl⟩ dX6_laysBox_32 rfl (st' := []) rfl ?_
        obtain ⟨v36, ev36⟩ : ∃ y : Int32, y = x1 + (1 : Int32) := ⟨_, rfl⟩
        replace hf35 := lt_of hf35 v36 ev36
        refine j_iinc X (v := v36) (lv' := [(1, .int v36), (0, .ref (q x0))]) dX6_laysBox_35 1 rfl (by rw [ev36]; rfl) (by decide) rfl ?_
        refine j_goto X (tgt := 2) dX6_laysBox_38 (by decide) ?_
        refine j_lvsub [1, 0] (lv' := [(0, .ref (q x0)), (1, .int v36)]) rfl ?_
        exact ih x0 v36 σ33 hf35
  refine j_iconst X (v := 0) dX6_laysBox_0 (by decide) ?_
  refine j_nmi (fun v1 ev1 => ?_)
  replace hf0 := lt_of hf0 v1 ev1
  refine j_istore_n X (lv' := [(1, .int v1), (0, .ref (q a0))]) dX6_laysBox_1 rfl (by decide) rfl ?_
  refine j_lvsub [1, 0] (lv' := [(0, .ref (q a0)), (1, .int v1)]) rfl ?_
  exact L2  1000 a0 v1 σ hf0
abbrev rm_X6_at : Room := { frames := 0, cells := 0, slots := 0, locals := 0 }
set_option maxHeartbeats 4000000 in
set_option maxRecDepth 100000 in
theorem c_X6_at (l : Launch) (D : va_G) (cs : Nat → ClassId) (q : Nat → Nat) (a0 : Int32) (a1 : Int32) (σ σ0 : HS) (r0 : Int32) (hf0 : f_X6_at a0 a1 σ = some (r0, σ0)) : MT l yX6_at (Cond.code yX6_at cX6_at 2 (some .int) :: lw_g) rm_X6_at D cs q σ σ0 [.int a0, .int a1] (fun z => z = q) (fun _ => some (.int r0)) 0 0 := by
  unfold f_X6_at at hf0
  refine MT_of (cc := cX6_at) (lv0 := [(0, .int a0), (1, .int a1)]) (by decide) (Nat.le_of_ble_eq_true rfl) rfl (fun p e s m args below meth c A X hr hlk hin => ?_)
  refine j_bipush X (v := 60) dX6_at_0 (by decide) ?_
  refine j_iload_n X dX6_at_2 0 rfl rfl ?_
  refine j_imul X dX6_at_3 ?_
  refine j_iload_n X dX6_at_4 1 rfl rfl ?_
  refine j_iadd X dX6_at_5 ?_
  obtain ⟨er, es⟩ := rt_of hf0
  subst er
  exact j_reti X hr hlk (Nat.le_of_ble_eq_true rfl) (Nat.le_of_ble_eq_true rfl) rfl es.symm rfl dX6_at_6
abbrev rm_X6_less : Room := { frames := 0, cells := 0, slots := 0, locals := 0 }
set_option maxHeartbeats 4000000 in
set_option maxRecDepth 100000 in
theorem c_X6_less (l : Launch) (D : va_G) (cs : Nat → ClassId) (q : Nat → Nat) (a0 : Nat) (a1 : Int64) (a3 : Int64) (σ σ0 : HS) (r0 : Int64) (hf0 : f_X6_less a0 a1 a3 σ = some (r0, σ0)) : MT l yX6_less (Cond.code yX6_less cX6_less 7 (some .long) :: lw_g) rm_X6_less D cs q σ σ0 [.ref (q a0), .long a1, .long a3] (fun z => z = q) (fun _ => some (.long r0)) 0 0 := by
  unfold f_X6_less at hf0
  refine MT_of (cc := cX6_less) (lv0 := [(0, .ref (q a0)), (1, .long a1), (3, .long a3)]) (by decide) (Nat.le_of_ble_eq_true rfl) rfl (fun p e s m args below meth c A X hr hlk hin => ?_)
  refine j_lload_n X dX6_less_0 1 rfl rfl ?_
  refine j_lload_n X dX6_less_1 2 rfl rfl ?_
  refine j_lsub X dX6_less_2 ?_
  refine j_nml (fun v1 ev1 => ?_)
  replace hf0 := lt_of hf0 v1 ev1
  refine j_lstore X (lv' := [(5, .long v1), (0, .ref (q a0)), (1, .long a1), (3, .long a3)]) dX6_less_3 (by decide) rfl ?_
  refine j_aload_n X dX6_less_5 1 rfl rfl ?_
  refine j_dup X dX6_less_6 rfl ?_
  obtain ⟨h3, hf4⟩ := chk_of hf0; clear hf0
  refine j_geti X fd_X6_193 h3 dX6_less_7 (fun v5 ev5 => ?_)
  replace hf4 := lt_of hf4 v5 ev5
  refine j_lload_n X dX6_less_10 2 rfl rfl ?_
  refine j_lconst X (v := 0) dX6_less_11 (by decide) ?_
  refine j_lcmp X dX6_less_12 ?_
  refine j_if_lt X (tgt := 29) dX6_less_13 (by decide) (fun c7 => ?_) (fun c7 => ?_)
  · have hf8 := br_y hf4 c7; clear hf4
    refine j_lload_n X dX6_less_29 2 rfl rfl ?_
    refine j_lconst X (v := 0) dX6_less_30 (by decide) ?_
    refine j_lcmp X dX6_less_31 ?_
    refine j_if_ge X (tgt := 52) dX6_less_32 (by decide) (fun c10 => ?_) (fun c10 => ?_)
    · have hf11 := br_y hf8 c10; clear hf8
      refine j_iconst X (v := 0) dX6_less_52 (by decide) ?_
      refine j_ior X dX6_less_53 ?_
      obtain ⟨h14, hf15⟩ := chk_of hf11; clear hf11
      refine j_putz X fp_X6_193 h3 h14 dX6_less_54 (fun σ13 eσ13 => ?_)
      replace hf15 := lt_of hf15 σ13 eσ13
      have h17 : isO σ13 6 a0 := by rw [eσ13]; exact h3
      refine j_lload X dX6_less_57 0 rfl ?_
      obtain ⟨er, es⟩ := rt_of hf15
      subst er
      exact j_retl X hr hlk (Nat.le_of_ble_eq_true rfl) (Nat.le_of_ble_eq_true rfl) rfl es.symm rfl dX6_less_59
    · have hf12 := br_n hf8 c10; clear hf8
      refine j_lload_n X dX6_less_35 3 rfl rfl ?_
      refine j_lconst X (v := 0) dX6_less_36 (by decide) ?_
      refine j_lcmp X dX6_less_37 ?_
      refine j_if_lt X (tgt := 52) dX6_less_38 (by decide) (fun c18 => ?_) (fun c18 => ?_)
      · have hf19 := br_y hf12 c18; clear hf12
        refine j_iconst X (v := 0) dX6_less_52 (by decide) ?_
        refine j_ior X dX6_less_53 ?_
        obtain ⟨h22, hf23⟩ := chk_of hf19; clear hf19
        refine j_putz X fp_X6_193 h3 h22 dX6_less_54 (fun σ21 eσ21 => ?_)
        replace hf23 := lt_of hf23 σ21 eσ21
        have h25 : isO σ21 6 a0 := by rw [eσ21]; exact h3
        refine j_lload X dX6_less_57 0 rfl ?_
        obtain ⟨er, es⟩ := rt_of hf23
        subst er
        exact j_retl X hr hlk (Nat.le_of_ble_eq_true rfl) (Nat.le_of_ble_eq_true rfl) rfl es.symm rfl dX6_less_59
      · have hf20 := br_n hf12 c18; clear hf12
        refine j_lload X dX6_less_41 0 rfl ?_
        refine j_lconst X (v := 0) dX6_less_43 (by decide) ?_
        refine j_lcmp X dX6_less_44 ?_
        refine j_if_lt X (tgt := 52) dX6_less_45 (by decide) (fun c26 => ?_) (fun c26 => ?_)
        · have hf27 := br_y hf20 c26; clear hf20
          refine j_iconst X (v := 0) dX6_less_52 (by decide) ?_
          refine j_ior X dX6_less_53 ?_
          obtain ⟨h30, hf31⟩ := chk_of hf27; clear hf27
          refine j_putz X fp_X6_193 h3 h30 dX6_less_54 (fun σ29 eσ29 => ?_)
          replace hf31 := lt_of hf31 σ29 eσ29
          have h33 : isO σ29 6 a0 := by rw [eσ29]; exact h3
          refine j_lload X dX6_less_57 0 rfl ?_
          obtain ⟨er, es⟩ := rt_of hf31
          subst er
          exact j_retl X hr hlk (Nat.le_of_ble_eq_true rfl) (Nat.le_of_ble_eq_true rfl) rfl es.symm rfl dX6_less_59
        · have hf28 := br_n hf20 c26; clear hf20
          refine j_iconst X (v := 1) dX6_less_48 (by decide) ?_
          refine j_goto X (tgt := 53) dX6_less_49 (by decide) ?_
          refine j_ior X dX6_less_53 ?_
          obtain ⟨h35, hf36⟩ := chk_of hf28; clear hf28
          refine j_putz X fp_X6_193 h3 h35 dX6_less_54 (fun σ34 eσ34 => ?_)
          replace hf36 := lt_of hf36 σ34 eσ34
          have h38 : isO σ34 6 a0 := by rw [eσ34]; exact h3
          refine j_lload X dX6_less_57 0 rfl ?_
          obtain ⟨er, es⟩ := rt_of hf36
          subst er
          exact j_retl X hr hlk (Nat.le_of_ble_eq_true rfl) (Nat.le_of_ble_eq_true rfl) rfl es.symm rfl dX6_less_59
  · have hf9 := br_n hf4 c7; clear hf4
    refine j_lload_n X dX6_less_16 3 rfl rfl ?_
    refine j_lconst X (v := 0) dX6_less_17 (by decide) ?_
    refine j_lcmp X dX6_less_18 ?_
    refine j_if_ge X (tgt := 29) dX6_less_19 (by decide) (fun c39 => ?_) (fun c39 => ?_)
    · have hf40 := br_y hf9 c39; clear hf9
      refine j_lload_n X dX6_less_29 2 rfl rfl ?_
      refine j_lconst X (v := 0) dX6_less_30 (by decide) ?_
      refine j_lcmp X dX6_less_31 ?_
      refine j_if_ge X (tgt := 52) dX6_less_32 (by decide) (fun c42 => ?_) (fun c42 => ?_)
      · have hf43 := br_y hf40 c42; clear hf40
        refine j_iconst X (v := 0) dX6_less_52 (by decide) ?_
        refine j_ior X dX6_less_53 ?_
        obtain ⟨h46, hf47⟩ := chk_of hf43; clear hf43
        refine j_putz X fp_X6_193 h3 h46 dX6_less_54 (fun σ45 eσ45 => ?_)
        replace hf47 := lt_of hf47 σ45 eσ45
        have h49 : isO σ45 6 a0 := by rw [eσ45]; exact h3
        refine j_lload X dX6_less_57 0 rfl ?_
        obtain ⟨er, es⟩ := rt_of hf47
        subst er
        exact j_retl X hr hlk (Nat.le_of_ble_eq_true rfl) (Nat.le_of_ble_eq_true rfl) rfl es.symm rfl dX6_less_59
      · have hf44 := br_n hf40 c42; clear hf40
        refine j_lload_n X dX6_less_35 3 rfl rfl ?_
        refine j_lconst X (v := 0) dX6_less_36 (by decide) ?_
        refine j_lcmp X dX6_less_37 ?_
        refine j_if_lt X (tgt := 52) dX6_less_38 (by decide) (fun c50 => ?_) (fun c50 => ?_)
        · have hf51 := br_y hf44 c50; clear hf44
          refine j_iconst X (v := 0) dX6_less_52 (by decide) ?_
          refine j_ior X dX6_less_53 ?_
          obtain ⟨h54, hf55⟩ := chk_of hf51; clear hf51
          refine j_putz X fp_X6_193 h3 h54 dX6_less_54 (fun σ53 eσ53 => ?_)
          replace hf55 := lt_of hf55 σ53 eσ53
          have h57 : isO σ53 6 a0 := by rw [eσ53]; exact h3
          refine j_lload X dX6_less_57 0 rfl ?_
          obtain ⟨er, es⟩ := rt_of hf55
          subst er
          exact j_retl X hr hlk (Nat.le_of_ble_eq_true rfl) (Nat.le_of_ble_eq_true rfl) rfl es.symm rfl dX6_less_59
        · have hf52 := br_n hf44 c50; clear hf44
          refine j_lload X dX6_less_41 0 rfl ?_
          refine j_lconst X (v := 0) dX6_less_43 (by decide) ?_
          refine j_lcmp X dX6_less_44 ?_
          refine j_if_lt X (tgt := 52) dX6_less_45 (by decide) (fun c58 => ?_) (fun c58 => ?_)
          · have hf59 := br_y hf52 c58; clear hf52
            refine j_iconst X (v := 0) dX6_less_52 (by decide) ?_
            refine j_ior X dX6_less_53 ?_
            obtain ⟨h62, hf63⟩ := chk_of hf59; clear hf59
            refine j_putz X fp_X6_193 h3 h62 dX6_less_54 (fun σ61 eσ61 => ?_)
            replace hf63 := lt_of hf63 σ61 eσ61
            have h65 : isO σ61 6 a0 := by rw [eσ61]; exact h3
            refine j_lload X dX6_less_57 0 rfl ?_
            obtain ⟨er, es⟩ := rt_of hf63
            subst er
            exact j_retl X hr hlk (Nat.le_of_ble_eq_true rfl) (Nat.le_of_ble_eq_true rfl) rfl es.symm rfl dX6_less_59
          · have hf60 := br_n hf52 c58; clear hf52
            refine j_iconst X (v := 1) dX6_less_48 (by decide) ?_
            refine j_goto X (tgt := 53) dX6_less_49 (by decide) ?_
            refine j_ior X dX6_less_53 ?_
            obtain ⟨h67, hf68⟩ := chk_of hf60; clear hf60
            refine j_putz X fp_X6_193 h3 h67 dX6_less_54 (fun σ66 eσ66 => ?_)
            replace hf68 := lt_of hf68 σ66 eσ66
            have h70 : isO σ66 6 a0 := by rw [eσ66]; exact h3
            refine j_lload X dX6_less_57 0 rfl ?_
            obtain ⟨er, es⟩ := rt_of hf68
            subst er
            exact j_retl X hr hlk (Nat.le_of_ble_eq_true rfl) (Nat.le_of_ble_eq_true rfl) rfl es.symm rfl dX6_less_59
    · have hf41 := br_n hf9 c39; clear hf9
      refine j_lload X dX6_less_22 0 rfl ?_
      refine j_lconst X (v := 0) dX6_less_24 (by decide) ?_
      refine j_lcmp X dX6_less_25 ?_
      refine j_if_lt X (tgt := 48) dX6_less_26 (by decide) (fun c71 => ?_) (fun c71 => ?_)
      · have hf72 := br_y hf41 c71; clear hf41
        refine j_iconst X (v := 1) dX6_less_48 (by decide) ?_
        refine j_goto X (tgt := 53) dX6_less_49 (by decide) ?_
        refine j_ior X dX6_less_53 ?_
        obtain ⟨h75, hf76⟩ := chk_of hf72; clear hf72
        refine j_putz X fp_X6_193 h3 h75 dX6_less_54 (fun σ74 eσ74 => ?_)
        replace hf76 := lt_of hf76 σ74 eσ74
        have h78 : isO σ74 6 a0 := by rw [eσ74]; exact h3
        refine j_lload X dX6_less_57 0 rfl ?_
        obtain ⟨er, es⟩ := rt_of hf76
        subst er
        exact j_retl X hr hlk (Nat.le_of_ble_eq_true rfl) (Nat.le_of_ble_eq_true rfl) rfl es.symm rfl dX6_less_59
      · have hf73 := br_n hf41 c71; clear hf41
        refine j_lload_n X dX6_less_29 2 rfl rfl ?_
        refine j_lconst X (v := 0) dX6_less_30 (by decide) ?_
        refine j_lcmp X dX6_less_31 ?_
        refine j_if_ge X (tgt := 52) dX6_less_32 (by decide) (fun c79 => ?_) (fun c79 => ?_)
        · have hf80 := br_y hf73 c79; clear hf73
          refine j_iconst X (v := 0) dX6_less_52 (by decide) ?_
          refine j_ior X dX6_less_53 ?_
          obtain ⟨h83, hf84⟩ := chk_of hf80; clear hf80
          refine j_putz X fp_X6_193 h3 h83 dX6_less_54 (fun σ82 eσ82 => ?_)
          replace hf84 := lt_of hf84 σ82 eσ82
          have h86 : isO σ82 6 a0 := by rw [eσ82]; exact h3
          refine j_lload X dX6_less_57 0 rfl ?_
          obtain ⟨er, es⟩ := rt_of hf84
          subst er
          exact j_retl X hr hlk (Nat.le_of_ble_eq_true rfl) (Nat.le_of_ble_eq_true rfl) rfl es.symm rfl dX6_less_59
        · have hf81 := br_n hf73 c79; clear hf73
          refine j_lload_n X dX6_less_35 3 rfl rfl ?_
          refine j_lconst X (v := 0) dX6_less_36 (by decide) ?_
          refine j_lcmp X dX6_less_37 ?_
          refine j_if_lt X (tgt := 52) dX6_less_38 (by decide) (fun c87 => ?_) (fun c87 => ?_)
          · have hf88 := br_y hf81 c87; clear hf81
            refine j_iconst X (v := 0) dX6_less_52 (by decide) ?_
            refine j_ior X dX6_less_53 ?_
            obtain ⟨h91, hf92⟩ := chk_of hf88; clear hf88
            refine j_putz X fp_X6_193 h3 h91 dX6_less_54 (fun σ90 eσ90 => ?_)
            replace hf92 := lt_of hf92 σ90 eσ90
            have h94 : isO σ90 6 a0 := by rw [eσ90]; exact h3
            refine j_lload X dX6_less_57 0 rfl ?_
            obtain ⟨er, es⟩ := rt_of hf92
            subst er
            exact j_retl X hr hlk (Nat.le_of_ble_eq_true rfl) (Nat.le_of_ble_eq_true rfl) rfl es.symm rfl dX6_less_59
          · have hf89 := br_n hf81 c87; clear hf81
            refine j_lload X dX6_less_41 0 rfl ?_
            refine j_lconst X (v := 0) dX6_less_43 (by decide) ?_
            refine j_lcmp X dX6_less_44 ?_
            refine j_if_lt X (tgt := 52) dX6_less_45 (by decide) (fun c95 => ?_) (fun c95 => ?_)
            · have hf96 := br_y hf89 c95; clear hf89
              refine j_iconst X (v := 0) dX6_less_52 (by decide) ?_
              refine j_ior X dX6_less_53 ?_
              obtain ⟨h99, hf100⟩ := chk_of hf96; clear hf96
              refine j_putz X fp_X6_193 h3 h99 dX6_less_54 (fun σ98 eσ98 => ?_)
              replace hf100 := lt_of hf100 σ98 eσ98
              have h102 : isO σ98 6 a0 := by rw [eσ98]; exact h3
              refine j_lload X dX6_less_57 0 rfl ?_
              obtain ⟨er, es⟩ := rt_of hf100
              subst er
              exact j_retl X hr hlk (Nat.le_of_ble_eq_true rfl) (Nat.le_of_ble_eq_true rfl) rfl es.symm rfl dX6_less_59
            · have hf97 := br_n hf89 c95; clear hf89
              refine j_iconst X (v := 1) dX6_less_48 (by decide) ?_
              refine j_goto X (tgt := 53) dX6_less_49 (by decide) ?_
              refine j_ior X dX6_less_53 ?_
              obtain ⟨h104, hf105⟩ := chk_of hf97; clear hf97
              refine j_putz X fp_X6_193 h3 h104 dX6_less_54 (fun σ103 eσ103 => ?_)
              replace hf105 := lt_of hf105 σ103 eσ103
              have h107 : isO σ103 6 a0 := by rw [eσ103]; exact h3
              refine j_lload X dX6_less_57 0 rfl ?_
              obtain ⟨er, es⟩ := rt_of hf105
              subst er
              exact j_retl X hr hlk (Nat.le_of_ble_eq_true rfl) (Nat.le_of_ble_eq_true rfl) rfl es.symm rfl dX6_less_59
abbrev rm_X6_sum : Room := { frames := 0, cells := 0, slots := 0, locals := 0 }
set_option maxHeartbeats 4000000 in
set_option maxRecDepth 100000 in
theorem c_X6_sum (l : Launch) (D : va_G) (cs : Nat → ClassId) (q : Nat → Nat) (a0 : Nat) (a1 : Int64) (a3 : Int64) (σ σ0 : HS) (r0 : Int64) (hf0 : f_X6_sum a0 a1 a3 σ = some (r0, σ0)) : MT l yX6_sum (Cond.code yX6_sum cX6_sum 7 (some .long) :: lw_g) rm_X6_sum D cs q σ σ0 [.ref (q a0), .long a1, .long a3] (fun z => z = q) (fun _ => some (.long r0)) 0 0 := by
  unfold f_X6_sum at hf0
  refine MT_of (cc := cX6_sum) (lv0 := [(0, .ref (q a0)), (1, .long a1), (3, .long a3)]) (by decide) (Nat.le_of_ble_eq_true rfl) rfl (fun p e s m args below meth c A X hr hlk hin => ?_)
  refine j_lload_n X dX6_sum_0 1 rfl rfl ?_
  refine j_lload_n X dX6_sum_1 2 rfl rfl ?_
  refine j_ladd X dX6_sum_2 ?_
  refine j_nml (fun v1 ev1 => ?_)
  replace hf0 := lt_of hf0 v1 ev1
  refine j_lstore X (lv' := [(5, .long v1), (0, .ref (q a0)), (1, .long a1), (3, .long a3)]) dX6_sum_3 (by decide) rfl ?_
  refine j_aload_n X dX6_sum_5 1 rfl rfl ?_
  refine j_dup X dX6_sum_6 rfl ?_
  obtain ⟨h3, hf4⟩ := chk_of hf0; clear hf0
  refine j_geti X fd_X6_193 h3 dX6_sum_7 (fun v5 ev5 => ?_)
  replace hf4 := lt_of hf4 v5 ev5
  refine j_lload_n X dX6_sum_10 2 rfl rfl ?_
  refine j_lconst X (v := 0) dX6_sum_11 (by decide) ?_
  refine j_lcmp X dX6_sum_12 ?_
  refine j_if_lt X (tgt := 29) dX6_sum_13 (by decide) (fun c7 => ?_) (fun c7 => ?_)
  · have hf8 := br_y hf4 c7; clear hf4
    refine j_lload_n X dX6_sum_29 2 rfl rfl ?_
    refine j_lconst X (v := 0) dX6_sum_30 (by decide) ?_
    refine j_lcmp X dX6_sum_31 ?_
    refine j_if_ge X (tgt := 52) dX6_sum_32 (by decide) (fun c10 => ?_) (fun c10 => ?_)
    · have hf11 := br_y hf8 c10; clear hf8
      refine j_iconst X (v := 0) dX6_sum_52 (by decide) ?_
      refine j_ior X dX6_sum_53 ?_
      obtain ⟨h14, hf15⟩ := chk_of hf11; clear hf11
      refine j_putz X fp_X6_193 h3 h14 dX6_sum_54 (fun σ13 eσ13 => ?_)
      replace hf15 := lt_of hf15 σ13 eσ13
      have h17 : isO σ13 6 a0 := by rw [eσ13]; exact h3
      refine j_lload X dX6_sum_57 0 rfl ?_
      obtain ⟨er, es⟩ := rt_of hf15
      subst er
      exact j_retl X hr hlk (Nat.le_of_ble_eq_true rfl) (Nat.le_of_ble_eq_true rfl) rfl es.symm rfl dX6_sum_59
    · have hf12 := br_n hf8 c10; clear hf8
      refine j_lload_n X dX6_sum_35 3 rfl rfl ?_
      refine j_lconst X (v := 0) dX6_sum_36 (by decide) ?_
      refine j_lcmp X dX6_sum_37 ?_
      refine j_if_ge X (tgt := 52) dX6_sum_38 (by decide) (fun c18 => ?_) (fun c18 => ?_)
      · have hf19 := br_y hf12 c18; clear hf12
        refine j_iconst X (v := 0) dX6_sum_52 (by decide) ?_
        refine j_ior X dX6_sum_53 ?_
        obtain ⟨h22, hf23⟩ := chk_of hf19; clear hf19
        refine j_putz X fp_X6_193 h3 h22 dX6_sum_54 (fun σ21 eσ21 => ?_)
        replace hf23 := lt_of hf23 σ21 eσ21
        have h25 : isO σ21 6 a0 := by rw [eσ21]; exact h3
        refine j_lload X dX6_sum_57 0 rfl ?_
        obtain ⟨er, es⟩ := rt_of hf23
        subst er
        exact j_retl X hr hlk (Nat.le_of_ble_eq_true rfl) (Nat.le_of_ble_eq_true rfl) rfl es.symm rfl dX6_sum_59
      · have hf20 := br_n hf12 c18; clear hf12
        refine j_lload X dX6_sum_41 0 rfl ?_
        refine j_lconst X (v := 0) dX6_sum_43 (by decide) ?_
        refine j_lcmp X dX6_sum_44 ?_
        refine j_if_lt X (tgt := 52) dX6_sum_45 (by decide) (fun c26 => ?_) (fun c26 => ?_)
        · have hf27 := br_y hf20 c26; clear hf20
          refine j_iconst X (v := 0) dX6_sum_52 (by decide) ?_
          refine j_ior X dX6_sum_53 ?_
          obtain ⟨h30, hf31⟩ := chk_of hf27; clear hf27
          refine j_putz X fp_X6_193 h3 h30 dX6_sum_54 (fun σ29 eσ29 => ?_)
          replace hf31 := lt_of hf31 σ29 eσ29
          have h33 : isO σ29 6 a0 := by rw [eσ29]; exact h3
          refine j_lload X dX6_sum_57 0 rfl ?_
          obtain ⟨er, es⟩ := rt_of hf31
          subst er
          exact j_retl X hr hlk (Nat.le_of_ble_eq_true rfl) (Nat.le_of_ble_eq_true rfl) rfl es.symm rfl dX6_sum_59
        · have hf28 := br_n hf20 c26; clear hf20
          refine j_iconst X (v := 1) dX6_sum_48 (by decide) ?_
          refine j_goto X (tgt := 53) dX6_sum_49 (by decide) ?_
          refine j_ior X dX6_sum_53 ?_
          obtain ⟨h35, hf36⟩ := chk_of hf28; clear hf28
          refine j_putz X fp_X6_193 h3 h35 dX6_sum_54 (fun σ34 eσ34 => ?_)
          replace hf36 := lt_of hf36 σ34 eσ34
          have h38 : isO σ34 6 a0 := by rw [eσ34]; exact h3
          refine j_lload X dX6_sum_57 0 rfl ?_
          obtain ⟨er, es⟩ := rt_of hf36
          subst er
          exact j_retl X hr hlk (Nat.le_of_ble_eq_true rfl) (Nat.le_of_ble_eq_true rfl) rfl es.symm rfl dX6_sum_59
  · have hf9 := br_n hf4 c7; clear hf4
    refine j_lload_n X dX6_sum_16 3 rfl rfl ?_
    refine j_lconst X (v := 0) dX6_sum_17 (by decide) ?_
    refine j_lcmp X dX6_sum_18 ?_
    refine j_if_lt X (tgt := 29) dX6_sum_19 (by decide) (fun c39 => ?_) (fun c39 => ?_)
    · have hf40 := br_y hf9 c39; clear hf9
      refine j_lload_n X dX6_sum_29 2 rfl rfl ?_
      refine j_lconst X (v := 0) dX6_sum_30 (by decide) ?_
      refine j_lcmp X dX6_sum_31 ?_
      refine j_if_ge X (tgt := 52) dX6_sum_32 (by decide) (fun c42 => ?_) (fun c42 => ?_)
      · have hf43 := br_y hf40 c42; clear hf40
        refine j_iconst X (v := 0) dX6_sum_52 (by decide) ?_
        refine j_ior X dX6_sum_53 ?_
        obtain ⟨h46, hf47⟩ := chk_of hf43; clear hf43
        refine j_putz X fp_X6_193 h3 h46 dX6_sum_54 (fun σ45 eσ45 => ?_)
        replace hf47 := lt_of hf47 σ45 eσ45
        have h49 : isO σ45 6 a0 := by rw [eσ45]; exact h3
        refine j_lload X dX6_sum_57 0 rfl ?_
        obtain ⟨er, es⟩ := rt_of hf47
        subst er
        exact j_retl X hr hlk (Nat.le_of_ble_eq_true rfl) (Nat.le_of_ble_eq_true rfl) rfl es.symm rfl dX6_sum_59
      · have hf44 := br_n hf40 c42; clear hf40
        refine j_lload_n X dX6_sum_35 3 rfl rfl ?_
        refine j_lconst X (v := 0) dX6_sum_36 (by decide) ?_
        refine j_lcmp X dX6_sum_37 ?_
        refine j_if_ge X (tgt := 52) dX6_sum_38 (by decide) (fun c50 => ?_) (fun c50 => ?_)
        · have hf51 := br_y hf44 c50; clear hf44
          refine j_iconst X (v := 0) dX6_sum_52 (by decide) ?_
          refine j_ior X dX6_sum_53 ?_
          obtain ⟨h54, hf55⟩ := chk_of hf51; clear hf51
          refine j_putz X fp_X6_193 h3 h54 dX6_sum_54 (fun σ53 eσ53 => ?_)
          replace hf55 := lt_of hf55 σ53 eσ53
          have h57 : isO σ53 6 a0 := by rw [eσ53]; exact h3
          refine j_lload X dX6_sum_57 0 rfl ?_
          obtain ⟨er, es⟩ := rt_of hf55
          subst er
          exact j_retl X hr hlk (Nat.le_of_ble_eq_true rfl) (Nat.le_of_ble_eq_true rfl) rfl es.symm rfl dX6_sum_59
        · have hf52 := br_n hf44 c50; clear hf44
          refine j_lload X dX6_sum_41 0 rfl ?_
          refine j_lconst X (v := 0) dX6_sum_43 (by decide) ?_
          refine j_lcmp X dX6_sum_44 ?_
          refine j_if_lt X (tgt := 52) dX6_sum_45 (by decide) (fun c58 => ?_) (fun c58 => ?_)
          · have hf59 := br_y hf52 c58; clear hf52
            refine j_iconst X (v := 0) dX6_sum_52 (by decide) ?_
            refine j_ior X dX6_sum_53 ?_
            obtain ⟨h62, hf63⟩ := chk_of hf59; clear hf59
            refine j_putz X fp_X6_193 h3 h62 dX6_sum_54 (fun σ61 eσ61 => ?_)
            replace hf63 := lt_of hf63 σ61 eσ61
            have h65 : isO σ61 6 a0 := by rw [eσ61]; exact h3
            refine j_lload X dX6_sum_57 0 rfl ?_
            obtain ⟨er, es⟩ := rt_of hf63
            subst er
            exact j_retl X hr hlk (Nat.le_of_ble_eq_true rfl) (Nat.le_of_ble_eq_true rfl) rfl es.symm rfl dX6_sum_59
          · have hf60 := br_n hf52 c58; clear hf52
            refine j_iconst X (v := 1) dX6_sum_48 (by decide) ?_
            refine j_goto X (tgt := 53) dX6_sum_49 (by decide) ?_
            refine j_ior X dX6_sum_53 ?_
            obtain ⟨h67, hf68⟩ := chk_of hf60; clear hf60
            refine j_putz X fp_X6_193 h3 h67 dX6_sum_54 (fun σ66 eσ66 => ?_)
            replace hf68 := lt_of hf68 σ66 eσ66
            have h70 : isO σ66 6 a0 := by rw [eσ66]; exact h3
            refine j_lload X dX6_sum_57 0 rfl ?_
            obtain ⟨er, es⟩ := rt_of hf68
            subst er
            exact j_retl X hr hlk (Nat.le_of_ble_eq_true rfl) (Nat.le_of_ble_eq_true rfl) rfl es.symm rfl dX6_sum_59
    · have hf41 := br_n hf9 c39; clear hf9
      refine j_lload X dX6_sum_22 0 rfl ?_
      refine j_lconst X (v := 0) dX6_sum_24 (by decide) ?_
      refine j_lcmp X dX6_sum_25 ?_
      refine j_if_lt X (tgt := 48) dX6_sum_26 (by decide) (fun c71 => ?_) (fun c71 => ?_)
      · have hf72 := br_y hf41 c71; clear hf41
        refine j_iconst X (v := 1) dX6_sum_48 (by decide) ?_
        refine j_goto X (tgt := 53) dX6_sum_49 (by decide) ?_
        refine j_ior X dX6_sum_53 ?_
        obtain ⟨h75, hf76⟩ := chk_of hf72; clear hf72
        refine j_putz X fp_X6_193 h3 h75 dX6_sum_54 (fun σ74 eσ74 => ?_)
        replace hf76 := lt_of hf76 σ74 eσ74
        have h78 : isO σ74 6 a0 := by rw [eσ74]; exact h3
        refine j_lload X dX6_sum_57 0 rfl ?_
        obtain ⟨er, es⟩ := rt_of hf76
        subst er
        exact j_retl X hr hlk (Nat.le_of_ble_eq_true rfl) (Nat.le_of_ble_eq_true rfl) rfl es.symm rfl dX6_sum_59
      · have hf73 := br_n hf41 c71; clear hf41
        refine j_lload_n X dX6_sum_29 2 rfl rfl ?_
        refine j_lconst X (v := 0) dX6_sum_30 (by decide) ?_
        refine j_lcmp X dX6_sum_31 ?_
        refine j_if_ge X (tgt := 52) dX6_sum_32 (by decide) (fun c79 => ?_) (fun c79 => ?_)
        · have hf80 := br_y hf73 c79; clear hf73
          refine j_iconst X (v := 0) dX6_sum_52 (by decide) ?_
          refine j_ior X dX6_sum_53 ?_
          obtain ⟨h83, hf84⟩ := chk_of hf80; clear hf80
          refine j_putz X fp_X6_193 h3 h83 dX6_sum_54 (fun σ82 eσ82 => ?_)
          replace hf84 := lt_of hf84 σ82 eσ82
          have h86 : isO σ82 6 a0 := by rw [eσ82]; exact h3
          refine j_lload X dX6_sum_57 0 rfl ?_
          obtain ⟨er, es⟩ := rt_of hf84
          subst er
          exact j_retl X hr hlk (Nat.le_of_ble_eq_true rfl) (Nat.le_of_ble_eq_true rfl) rfl es.symm rfl dX6_sum_59
        · have hf81 := br_n hf73 c79; clear hf73
          refine j_lload_n X dX6_sum_35 3 rfl rfl ?_
          refine j_lconst X (v := 0) dX6_sum_36 (by decide) ?_
          refine j_lcmp X dX6_sum_37 ?_
          refine j_if_ge X (tgt := 52) dX6_sum_38 (by decide) (fun c87 => ?_) (fun c87 => ?_)
          · have hf88 := br_y hf81 c87; clear hf81
            refine j_iconst X (v := 0) dX6_sum_52 (by decide) ?_
            refine j_ior X dX6_sum_53 ?_
            obtain ⟨h91, hf92⟩ := chk_of hf88; clear hf88
            refine j_putz X fp_X6_193 h3 h91 dX6_sum_54 (fun σ90 eσ90 => ?_)
            replace hf92 := lt_of hf92 σ90 eσ90
            have h94 : isO σ90 6 a0 := by rw [eσ90]; exact h3
            refine j_lload X dX6_sum_57 0 rfl ?_
            obtain ⟨er, es⟩ := rt_of hf92
            subst er
            exact j_retl X hr hlk (Nat.le_of_ble_eq_true rfl) (Nat.le_of_ble_eq_true rfl) rfl es.symm rfl dX6_sum_59
          · have hf89 := br_n hf81 c87; clear hf81
            refine j_lload X dX6_sum_41 0 rfl ?_
            refine j_lconst X (v := 0) dX6_sum_43 (by decide) ?_
            refine j_lcmp X dX6_sum_44 ?_
            refine j_if_lt X (tgt := 52) dX6_sum_45 (by decide) (fun c95 => ?_) (fun c95 => ?_)
            · have hf96 := br_y hf89 c95; clear hf89
              refine j_iconst X (v := 0) dX6_sum_52 (by decide) ?_
              refine j_ior X dX6_sum_53 ?_
              obtain ⟨h99, hf100⟩ := chk_of hf96; clear hf96
              refine j_putz X fp_X6_193 h3 h99 dX6_sum_54 (fun σ98 eσ98 => ?_)
              replace hf100 := lt_of hf100 σ98 eσ98
              have h102 : isO σ98 6 a0 := by rw [eσ98]; exact h3
              refine j_lload X dX6_sum_57 0 rfl ?_
              obtain ⟨er, es⟩ := rt_of hf100
              subst er
              exact j_retl X hr hlk (Nat.le_of_ble_eq_true rfl) (Nat.le_of_ble_eq_true rfl) rfl es.symm rfl dX6_sum_59
            · have hf97 := br_n hf89 c95; clear hf89
              refine j_iconst X (v := 1) dX6_sum_48 (by decide) ?_
              refine j_goto X (tgt := 53) dX6_sum_49 (by decide) ?_
              refine j_ior X dX6_sum_53 ?_
              obtain ⟨h104, hf105⟩ := chk_of hf97; clear hf97
              refine j_putz X fp_X6_193 h3 h104 dX6_sum_54 (fun σ103 eσ103 => ?_)
              replace hf105 := lt_of hf105 σ103 eσ103
              have h107 : isO σ103 6 a0 := by rw [eσ103]; exact h3
              refine j_lload X dX6_sum_57 0 rfl ?_
              obtain ⟨er, es⟩ := rt_of hf105
              subst er
              exact j_retl X hr hlk (Nat.le_of_ble_eq_true rfl) (Nat.le_of_ble_eq_true rfl) rfl es.symm rfl dX6_sum_59
abbrev rm_X6_product : Room := { frames := 0, cells := 0, slots := 0, locals := 0 }
set_option maxHeartbeats 4000000 in
set_option maxRecDepth 100000 in
theorem c_X6_product (l : Launch) (D : va_G) (cs : Nat → ClassId) (q : Nat → Nat) (a0 : Nat) (a1 : Int64) (a3 : Int64) (σ σ0 : HS) (r0 : Int64) (hf0 : f_X6_product a0 a1 a3 σ = some (r0, σ0)) : MT l yX6_product (Cond.code yX6_product cX6_product 7 (some .long) :: lw_g) rm_X6_product D cs q σ σ0 [.ref (q a0), .long a1, .long a3] (fun z => z = q) (fun _ => some (.long r0)) 0 0 := by
  unfold f_X6_product at hf0
  refine MT_of (cc := cX6_product) (lv0 := [(0, .ref (q a0)), (1, .long a1), (3, .long a3)]) (by decide) (Nat.le_of_ble_eq_true rfl) rfl (fun p e s m args below meth c A X hr hlk hin => ?_)
  refine j_lload_n X dX6_product_0 1 rfl rfl ?_
  refine j_lload_n X dX6_product_1 2 rfl rfl ?_
  refine j_lmul X dX6_product_2 ?_
  refine j_nml (fun v1 ev1 => ?_)
  replace hf0 := lt_of hf0 v1 ev1
  refine j_lstore X (lv' := [(5, .long v1), (0, .ref (q a0)), (1, .long a1), (3, .long a3)]) dX6_product_3 (by decide) rfl ?_
  refine j_aload_n X dX6_product_5 1 rfl rfl ?_
  refine j_dup X dX6_product_6 rfl ?_
  obtain ⟨h3, hf4⟩ := chk_of hf0; clear hf0
  refine j_geti X fd_X6_193 h3 dX6_product_7 (fun v5 ev5 => ?_)
  replace hf4 := lt_of hf4 v5 ev5
  refine j_lload_n X dX6_product_10 2 rfl rfl ?_
  refine j_lconst X (v := 0) dX6_product_11 (by decide) ?_
  refine j_lcmp X dX6_product_12 ?_
  refine j_if_eq X (tgt := 45) dX6_product_13 (by decide) (fun c7 => ?_) (fun c7 => ?_)
  · have hf8 := br_y hf4 c7; clear hf4
    refine j_iconst X (v := 0) dX6_product_45 (by decide) ?_
    refine j_ior X dX6_product_46 ?_
    obtain ⟨h11, hf12⟩ := chk_of hf8; clear hf8
    refine j_putz X fp_X6_193 h3 h11 dX6_product_47 (fun σ10 eσ10 => ?_)
    replace hf12 := lt_of hf12 σ10 eσ10
    have h14 : isO σ10 6 a0 := by rw [eσ10]; exact h3
    refine j_lload X dX6_product_50 0 rfl ?_
    obtain ⟨er, es⟩ := rt_of hf12
    subst er
    exact j_retl X hr hlk (Nat.le_of_ble_eq_true rfl) (Nat.le_of_ble_eq_true rfl) rfl es.symm rfl dX6_product_52
  · have hf9 := br_n hf4 c7; clear hf4
    refine j_lload X dX6_product_16 0 rfl ?_
    refine j_lload_n X dX6_product_18 2 rfl rfl ?_
    obtain ⟨h15, hf16⟩ := chk_of hf9; clear hf9
    refine j_ldiv X dX6_product_19 h15 ?_
    refine j_lload_n X dX6_product_20 3 rfl rfl ?_
    refine j_lcmp X dX6_product_21 ?_
    refine j_if_ne X (tgt := 41) dX6_product_22 (by decide) (fun c17 => ?_) (fun c17 => ?_)
    · have hf18 := br_n hf16 c17; clear hf16
      refine j_iconst X (v := 1) dX6_product_41 (by decide) ?_
      refine j_goto X (tgt := 46) dX6_product_42 (by decide) ?_
      refine j_ior X dX6_product_46 ?_
      obtain ⟨h21, hf22⟩ := chk_of hf18; clear hf18
      refine j_putz X fp_X6_193 h3 h21 dX6_product_47 (fun σ20 eσ20 => ?_)
      replace hf22 := lt_of hf22 σ20 eσ20
      have h24 : isO σ20 6 a0 := by rw [eσ20]; exact h3
      refine j_lload X dX6_product_50 0 rfl ?_
      obtain ⟨er, es⟩ := rt_of hf22
      subst er
      exact j_retl X hr hlk (Nat.le_of_ble_eq_true rfl) (Nat.le_of_ble_eq_true rfl) rfl es.symm rfl dX6_product_52
    · have hf19 := br_y hf16 c17; clear hf16
      refine j_lload_n X dX6_product_25 2 rfl rfl ?_
      refine j_ldc2 X k_X6_196 dX6_product_26 ?_
      refine j_lcmp X dX6_product_29 ?_
      refine j_if_ne X (tgt := 45) dX6_product_30 (by decide) (fun c25 => ?_) (fun c25 => ?_)
      · have hf26 := br_n hf19 c25; clear hf19
        refine j_iconst X (v := 0) dX6_product_45 (by decide) ?_
        refine j_ior X dX6_product_46 ?_
        obtain ⟨h29, hf30⟩ := chk_of hf26; clear hf26
        refine j_putz X fp_X6_193 h3 h29 dX6_product_47 (fun σ28 eσ28 => ?_)
        replace hf30 := lt_of hf30 σ28 eσ28
        have h32 : isO σ28 6 a0 := by rw [eσ28]; exact h3
        refine j_lload X dX6_product_50 0 rfl ?_
        obtain ⟨er, es⟩ := rt_of hf30
        subst er
        exact j_retl X hr hlk (Nat.le_of_ble_eq_true rfl) (Nat.le_of_ble_eq_true rfl) rfl es.symm rfl dX6_product_52
      · have hf27 := br_y hf19 c25; clear hf19
        refine j_lload_n X dX6_product_33 3 rfl rfl ?_
        refine j_ldc2 X k_X6_198 dX6_product_34 ?_
        refine j_lcmp X dX6_product_37 ?_
        refine j_if_ne X (tgt := 45) dX6_product_38 (by decide) (fun c33 => ?_) (fun c33 => ?_)
        · have hf34 := br_n hf27 c33; clear hf27
          refine j_iconst X (v := 0) dX6_product_45 (by decide) ?_
          refine j_ior X dX6_product_46 ?_
          obtain ⟨h37, hf38⟩ := chk_of hf34; clear hf34
          refine j_putz X fp_X6_193 h3 h37 dX6_product_47 (fun σ36 eσ36 => ?_)
          replace hf38 := lt_of hf38 σ36 eσ36
          have h40 : isO σ36 6 a0 := by rw [eσ36]; exact h3
          refine j_lload X dX6_product_50 0 rfl ?_
          obtain ⟨er, es⟩ := rt_of hf38
          subst er
          exact j_retl X hr hlk (Nat.le_of_ble_eq_true rfl) (Nat.le_of_ble_eq_true rfl) rfl es.symm rfl dX6_product_52
        · have hf35 := br_y hf27 c33; clear hf27
          refine j_iconst X (v := 1) dX6_product_41 (by decide) ?_
          refine j_goto X (tgt := 46) dX6_product_42 (by decide) ?_
          refine j_ior X dX6_product_46 ?_
          obtain ⟨h42, hf43⟩ := chk_of hf35; clear hf35
          refine j_putz X fp_X6_193 h3 h42 dX6_product_47 (fun σ41 eσ41 => ?_)
          replace hf43 := lt_of hf43 σ41 eσ41
          have h45 : isO σ41 6 a0 := by rw [eσ41]; exact h3
          refine j_lload X dX6_product_50 0 rfl ?_
          obtain ⟨er, es⟩ := rt_of hf43
          subst er
          exact j_retl X hr hlk (Nat.le_of_ble_eq_true rfl) (Nat.le_of_ble_eq_true rfl) rfl es.symm rfl dX6_product_52
abbrev rm_X6_products_ : Room := { frames := 1, cells := 0, slots := 0, locals := 64 }
set_option maxHeartbeats 4000000 in
set_option maxRecDepth 100000 in
theorem c_X6_products_ (l : Launch) (D : va_G) (cs : Nat → ClassId) (q : Nat → Nat) (a0 : Nat) (a1 : Int64) (a3 : Int64) (a5 : Int64) (a7 : Int64) (σ σ0 : HS) (r0 : Unit) (hf0 : f_X6_products_ a0 a1 a3 a5 a7 σ = some (r0, σ0)) : MT l yX6_products_ (Cond.code yX6_products_ cX6_products_ 17 none :: lw_g) rm_X6_products_ D cs q σ σ0 [.ref (q a0), .long a1, .long a3, .long a5, .long a7] (fun z => z = q) (fun _ => none) 0 0 := by
  unfold f_X6_products_ at hf0
  refine MT_of (cc := cX6_products_) (lv0 := [(0, .ref (q a0)), (1, .long a1), (3, .long a3), (5, .long a5), (7, .long a7)]) (by decide) (Nat.le_of_ble_eq_true rfl) rfl (fun p e s m args below meth c A X hr hlk hin => ?_)
  refine j_aload_n X dX6_products__0 0 rfl rfl ?_
  refine j_lload_n X dX6_products__1 1 rfl rfl ?_
  refine j_lload X dX6_products__2 3 rfl ?_
  obtain ⟨h1, hf2⟩ := chk_of hf0; clear hf0
  obtain ⟨r3, σ4, h5, hf6⟩ := bc_of hf2; clear hf2
  refine j_callV0 X [.long a1, .long a5] [] (c_X6_product l D cs q a0 a1 a5 σ _ _ h5) mk_X6_product mv_X6_product ml_X6_204 h1 rfl (by decide) ⟨rfl, rfl⟩ ⟨Nat.le_of_ble_eq_true rfl, Nat.le_of_ble_eq_true rfl⟩ rfl (Nat.le_of_ble_eq_true rfl) ⟨Nat.le_of_ble_eq_true rfl, Nat.le_of_ble_eq_true rfl⟩ dX6_products__4 rfl (st' := [.long r3]) rfl ?_
  refine j_lstore X (lv' := [(9, .long r3), (0, .ref (q a0)), (1, .long a1), (3, .long a3), (5, .long a5), (7, .long a7)]) dX6_products__7 (by decide) rfl ?_
  refine j_aload_n X dX6_products__9 1 rfl rfl ?_
  refine j_lload_n X dX6_products__10 2 rfl rfl ?_
  refine j_lload X dX6_products__11 5 rfl ?_
  obtain ⟨h7, hf8⟩ := chk_of hf6; clear hf6
  obtain ⟨r9, σ10, h11, hf12⟩ := bc_of hf8; clear hf8
  refine j_callV0 X [.long a1, .long a7] [] (c_X6_product l D cs q a0 a1 a7 σ4 _ _ h11) mk_X6_product mv_X6_product ml_X6_204 h7 rfl (by decide) ⟨rfl, rfl⟩ ⟨Nat.le_of_ble_eq_true rfl, Nat.le_of_ble_eq_true rfl⟩ rfl (Nat.le_of_ble_eq_true rfl) ⟨Nat.le_of_ble_eq_true rfl, Nat.le_of_ble_eq_true rfl⟩ dX6_products__13 rfl (st' := [.long r9]) rfl ?_
  refine j_lstore X (lv' := [(11, .long r9), (9, .long r3), (0, .ref (q a0)), (1, .long a1), (3, .long a3), (5, .long a5), (7, .long a7)]) dX6_products__16 (by decide) rfl ?_
  refine j_aload_n X dX6_products__18 2 rfl rfl ?_
  refine j_lload_n X dX6_products__19 4 rfl rfl ?_
  refine j_lload X dX6_products__20 5 rfl ?_
  obtain ⟨h13, hf14⟩ := chk_of hf12; clear hf12
  obtain ⟨r15, σ16, h17, hf18⟩ := bc_of hf14; clear hf14
  refine j_callV0 X [.long a3, .long a5] [] (c_X6_product l D cs q a0 a3 a5 σ10 _ _ h17) mk_X6_product mv_X6_product ml_X6_204 h13 rfl (by decide) ⟨rfl, rfl⟩ ⟨Nat.le_of_ble_eq_true rfl, Nat.le_of_ble_eq_true rfl⟩ rfl (Nat.le_of_ble_eq_true rfl) ⟨Nat.le_of_ble_eq_true rfl, Nat.le_of_ble_eq_true rfl⟩ dX6_products__22 rfl (st' := [.long r15]) rfl ?_
  refine j_lstore X (lv' := [(13, .long r15), (11, .long r9), (9, .long r3), (0, .ref (q a0)), (1, .long a1), (3, .long a3), (5, .long a5), (7, .long a7)]) dX6_products__25 (by decide) rfl ?_
  refine j_aload_n X dX6_products__27 3 rfl rfl ?_
  refine j_lload_n X dX6_products__28 5 rfl rfl ?_
  refine j_lload X dX6_products__29 7 rfl ?_
  obtain ⟨h19, hf20⟩ := chk_of hf18; clear hf18
  obtain ⟨r21, σ22, h23, hf24⟩ := bc_of hf20; clear hf20
  refine j_callV0 X [.long a3, .long a7] [] (c_X6_product l D cs q a0 a3 a7 σ16 _ _ h23) mk_X6_product mv_X6_product ml_X6_204 h19 rfl (by decide) ⟨rfl, rfl⟩ ⟨Nat.le_of_ble_eq_true rfl, Nat.le_of_ble_eq_true rfl⟩ rfl (Nat.le_of_ble_eq_true rfl) ⟨Nat.le_of_ble_eq_true rfl, Nat.le_of_ble_eq_true rfl⟩ dX6_products__31 rfl (st' := [.long r21]) rfl ?_
  refine j_lstore X (lv' := [(15, .long r21), (13, .long r15), (11, .long r9), (9, .long r3), (0, .ref (q a0)), (1, .long a1), (3, .long a3), (5, .long a5), (7, .long a7)]) dX6_products__34 (by decide) rfl ?_
  refine j_aload_n X dX6_products__36 4 rfl rfl ?_
  refine j_lload X dX6_products__37 3 rfl ?_
  refine j_lload X dX6_products__39 2 rfl ?_
  refine j_mmin_long X ml_X6_208 (Nat.le_of_ble_eq_true rfl) (Nat.le_of_ble_eq_true rfl) (Nat.le_of_ble_eq_true rfl) (Nat.le_of_ble_eq_true rfl) dX6_products__41 (fun v25 ev25 => ?_)
  replace hf24 := lt_of hf24 v25 ev25
  refine j_lload X dX6_products__44 1 rfl ?_
  refine j_lload X dX6_products__46 0 rfl ?_
  refine j_mmin_long X ml_X6_208 (Nat.le_of_ble_eq_true rfl) (Nat.le_of_ble_eq_true rfl) (Nat.le_of_ble_eq_true rfl) (Nat.le_of_ble_eq_true rfl) dX6_products__48 (fun v27 ev27 => ?_)
  replace hf24 := lt_of hf24 v27 ev27
  refine j_mmin_long X ml_X6_208 (Nat.le_of_ble_eq_true rfl) (Nat.le_of_ble_eq_true rfl) (Nat.le_of_ble_eq_true rfl) (Nat.le_of_ble_eq_true rfl) dX6_products__51 (fun v29 ev29 => ?_)
  replace hf24 := lt_of hf24 v29 ev29
  obtain ⟨h31, hf32⟩ := chk_of hf24; clear hf24
  refine j_putl X fp_X6_211 h31 dX6_products__54 (fun σ33 eσ33 => ?_)
  replace hf32 := lt_of hf32 σ33 eσ33
  have h35 : isO σ33 6 a0 := by rw [eσ33]; exact h31
  refine j_aload_n X dX6_products__57 4 rfl rfl ?_
  refine j_lload X dX6_products__58 3 rfl ?_
  refine j_lload X dX6_products__60 2 rfl ?_
  refine j_mmax_long X ml_X6_215 (Nat.le_of_ble_eq_true rfl) (Nat.le_of_ble_eq_true rfl) (Nat.le_of_ble_eq_true rfl) (Nat.le_of_ble_eq_true rfl) dX6_products__62 (fun v36 ev36 => ?_)
  replace hf32 := lt_of hf32 v36 ev36
  refine j_lload X dX6_products__65 1 rfl ?_
  refine j_lload X dX6_products__67 0 rfl ?_
  refine j_mmax_long X ml_X6_215 (Nat.le_of_ble_eq_true rfl) (Nat.le_of_ble_eq_true rfl) (Nat.le_of_ble_eq_true rfl) (Nat.le_of_ble_eq_true rfl) dX6_products__69 (fun v38 ev38 => ?_)
  replace hf32 := lt_of hf32 v38 ev38
  refine j_mmax_long X ml_X6_215 (Nat.le_of_ble_eq_true rfl) (Nat.le_of_ble_eq_true rfl) (Nat.le_of_ble_eq_true rfl) (Nat.le_of_ble_eq_true rfl) dX6_products__72 (fun v40 ev40 => ?_)
  replace hf32 := lt_of hf32 v40 ev40
  refine j_putl X fp_X6_217 h35 dX6_products__75 (fun σ42 eσ42 => ?_)
  replace hf32 := lt_of hf32 σ42 eσ42
  have h44 : isO σ42 6 a0 := by rw [eσ42]; exact h35
  obtain ⟨er, es⟩ := rt_of hf32
  exact j_retv X hr hlk (Nat.le_of_ble_eq_true rfl) (Nat.le_of_ble_eq_true rfl) rfl es.symm rfl dX6_products__78
abbrev rm_X6_joins : Room := { frames := 2, cells := 0, slots := 0, locals := 128 }
set_option maxHeartbeats 4000000 in
set_option maxRecDepth 100000 in
theorem c_X6_joins (l : Launch) (D : va_G) (cs : Nat → ClassId) (q : Nat → Nat) (a0 : Nat) (a1 : Int32) (a2 : Int32) (a3 : Int32) (a4 : Int32) (σ σ0 : HS) (r0 : Unit) (hf0 : f_X6_joins a0 a1 a2 a3 a4 σ = some (r0, σ0)) : MT l yX6_joins (Cond.code yX6_joins cX6_joins 5 none :: lw_g) rm_X6_joins D cs q σ σ0 [.ref (q a0), .int a1, .int a2, .int a3, .int a4] (fun z => z = q) (fun _ => none) 0 0 := by
  unfold f_X6_joins at hf0
  refine MT_of (cc := cX6_joins) (lv0 := [(0, .ref (q a0)), (1, .int a1), (2, .int a2), (3, .int a3), (4, .int a4)]) (by decide) (Nat.le_of_ble_eq_true rfl) rfl (fun p e s m args below meth c A X hr hlk hin => ?_)
  refine j_iload_n X dX6_joins_0 1 rfl rfl ?_
  by_cases c1 : a1 = (2 : Int32)
  · have hf2 := br_y hf0 c1; clear hf0
    refine j_tabIn X (v := 2) (tgt := 28) dX6_joins_1 c1 (by decide) (by decide) rfl (by decide) ?_
    refine j_aload_n X dX6_joins_28 0 rfl rfl ?_
    obtain ⟨h4, hf5⟩ := chk_of hf2; clear hf2
    obtain ⟨i6, h7, hf8⟩ := bd_of hf5; clear hf5
    refine j_getr X fd_X6_57 h4 h7 dX6_joins_29 ?_
    refine j_iload_n X dX6_joins_32 2 rfl rfl ?_
    refine j_aload_n X dX6_joins_33 0 rfl rfl ?_
    refine j_lconst X (v := 0) dX6_joins_34 (by decide) ?_
    refine j_aload_n X dX6_joins_35 0 rfl rfl ?_
    obtain ⟨i9, h10, hf11⟩ := bd_of hf8; clear hf8
    refine j_getr X fd_X6_61 h4 h10 dX6_joins_36 ?_
    refine j_iload_n X dX6_joins_39 3 rfl rfl ?_
    obtain ⟨h12, hf13⟩ := chk_of hf11; clear hf11
    refine j_lald X h12 dX6_joins_40 (fun v14 ev14 => ?_)
    replace hf13 := lt_of hf13 v14 ev14
    obtain ⟨r16, σ17, h18, hf19⟩ := bc_of hf13; clear hf13
    refine j_callV0 X [.long (0 : Int64), .long v14] [.int a2, .ref (q i6)] (c_X6_less l D cs q a0 (0 : Int64) v14 σ _ _ h18) mk_X6_less mv_X6_less ml_X6_220 h4 rfl (by decide) ⟨rfl, rfl⟩ ⟨Nat.le_of_ble_eq_true rfl, Nat.le_of_ble_eq_true rfl⟩ rfl (Nat.le_of_ble_eq_true rfl) ⟨Nat.le_of_ble_eq_true rfl, Nat.le_of_ble_eq_true rfl⟩ dX6_joins_41 rfl (st' := [.long r16, .int a2, .ref (q i6)]) rfl ?_
    obtain ⟨h20, hf21⟩ := chk_of hf19; clear hf19
    refine j_last X h20 dX6_joins_44 (fun σ22 eσ22 => ?_)
    replace hf21 := lt_of hf21 σ22 eσ22
    refine j_aload_n X dX6_joins_45 0 rfl rfl ?_
    obtain ⟨h24, hf25⟩ := chk_of hf21; clear hf21
    obtain ⟨i26, h27, hf28⟩ := bd_of hf25; clear hf25
    refine j_getr X fd_X6_61 h24 h27 dX6_joins_46 ?_
    refine j_iload_n X dX6_joins_49 2 rfl rfl ?_
    refine j_aload_n X dX6_joins_50 0 rfl rfl ?_
    refine j_lconst X (v := 0) dX6_joins_51 (by decide) ?_
    refine j_aload_n X dX6_joins_52 0 rfl rfl ?_
    obtain ⟨i29, h30, hf31⟩ := bd_of hf28; clear hf28
    refine j_getr X fd_X6_57 h24 h30 dX6_joins_53 ?_
    refine j_iload_n X dX6_joins_56 3 rfl rfl ?_
    obtain ⟨h32, hf33⟩ := chk_of hf31; clear hf31
    refine j_lald X h32 dX6_joins_57 (fun v34 ev34 => ?_)
    replace hf33 := lt_of hf33 v34 ev34
    obtain ⟨r36, σ37, h38, hf39⟩ := bc_of hf33; clear hf33
    refine j_callV0 X [.long (0 : Int64), .long v34] [.int a2, .ref (q i26)] (c_X6_less l D cs q a0 (0 : Int64) v34 σ22 _ _ h38) mk_X6_less mv_X6_less ml_X6_220 h24 rfl (by decide) ⟨rfl, rfl⟩ ⟨Nat.le_of_ble_eq_true rfl, Nat.le_of_ble_eq_true rfl⟩ rfl (Nat.le_of_ble_eq_true rfl) ⟨Nat.le_of_ble_eq_true rfl, Nat.le_of_ble_eq_true rfl⟩ dX6_joins_58 rfl (st' := [.long r36, .int a2, .ref (q i26)]) rfl ?_
    obtain ⟨h40, hf41⟩ := chk_of hf39; clear hf39
    refine j_last X h40 dX6_joins_61 (fun σ42 eσ42 => ?_)
    replace hf41 := lt_of hf41 σ42 eσ42
    obtain ⟨er, es⟩ := rt_of hf41
    exact j_retv X hr hlk (Nat.le_of_ble_eq_true rfl) (Nat.le_of_ble_eq_true rfl) rfl es.symm rfl dX6_joins_62
  · have hf3 := br_n hf0 c1; clear hf0
    by_cases c44 : a1 = (3 : Int32)
    · have hf45 := br_y hf3 c44; clear hf3
      refine j_tabIn X (v := 3) (tgt := 63) dX6_joins_1 c44 (by decide) (by decide) rfl (by decide) ?_
      refine j_aload_n X dX6_joins_63 0 rfl rfl ?_
      obtain ⟨h47, hf48⟩ := chk_of hf45; clear hf45
      obtain ⟨i49, h50, hf51⟩ := bd_of hf48; clear hf48
      refine j_getr X fd_X6_57 h47 h50 dX6_joins_64 ?_
      refine j_iload_n X dX6_joins_67 2 rfl rfl ?_
      refine j_aload_n X dX6_joins_68 0 rfl rfl ?_
      refine j_aload_n X dX6_joins_69 0 rfl rfl ?_
      refine j_getr X fd_X6_57 h47 h50 dX6_joins_70 ?_
      refine j_iload_n X dX6_joins_73 3 rfl rfl ?_
      obtain ⟨h55, hf56⟩ := chk_of hf51; clear hf51
      refine j_lald X h55 dX6_joins_74 (fun v57 ev57 => ?_)
      replace hf56 := lt_of hf56 v57 ev57
      refine j_aload_n X dX6_joins_75 0 rfl rfl ?_
      refine j_getr X fd_X6_57 h47 h50 dX6_joins_76 ?_
      refine j_iload X dX6_joins_79 4 rfl ?_
      obtain ⟨h62, hf63⟩ := chk_of hf56; clear hf56
      refine j_lald X h62 dX6_joins_81 (fun v64 ev64 => ?_)
      replace hf63 := lt_of hf63 v64 ev64
      obtain ⟨r66, σ67, h68, hf69⟩ := bc_of hf63; clear hf63
      refine j_callV0 X [.long v57, .long v64] [.int a2, .ref (q i49)] (c_X6_sum l D cs q a0 v57 v64 σ _ _ h68) mk_X6_sum mv_X6_sum ml_X6_223 h47 rfl (by decide) ⟨rfl, rfl⟩ ⟨Nat.le_of_ble_eq_true rfl, Nat.le_of_ble_eq_true rfl⟩ rfl (Nat.le_of_ble_eq_true rfl) ⟨Nat.le_of_ble_eq_true rfl, Nat.le_of_ble_eq_true rfl⟩ dX6_joins_82 rfl (st' := [.long r66, .int a2, .ref (q i49)]) rfl ?_
      obtain ⟨h70, hf71⟩ := chk_of hf69; clear hf69
      refine j_last X h70 dX6_joins_85 (fun σ72 eσ72 => ?_)
      replace hf71 := lt_of hf71 σ72 eσ72
      refine j_aload_n X dX6_joins_86 0 rfl rfl ?_
      obtain ⟨h74, hf75⟩ := chk_of hf71; clear hf71
      obtain ⟨i76, h77, hf78⟩ := bd_of hf75; clear hf75
      refine j_getr X fd_X6_61 h74 h77 dX6_joins_87 ?_
      refine j_iload_n X dX6_joins_90 2 rfl rfl ?_
      refine j_aload_n X dX6_joins_91 0 rfl rfl ?_
      refine j_aload_n X dX6_joins_92 0 rfl rfl ?_
      refine j_getr X fd_X6_61 h74 h77 dX6_joins_93 ?_
      refine j_iload_n X dX6_joins_96 3 rfl rfl ?_
      obtain ⟨h82, hf83⟩ := chk_of hf78; clear hf78
      refine j_lald X h82 dX6_joins_97 (fun v84 ev84 => ?_)
      replace hf83 := lt_of hf83 v84 ev84
      refine j_aload_n X dX6_joins_98 0 rfl rfl ?_
      refine j_getr X fd_X6_61 h74 h77 dX6_joins_99 ?_
      refine j_iload X dX6_joins_102 4 rfl ?_
      obtain ⟨h89, hf90⟩ := chk_of hf83; clear hf83
      refine j_lald X h89 dX6_joins_104 (fun v91 ev91 => ?_)
      replace hf90 := lt_of hf90 v91 ev91
      obtain ⟨r93, σ94, h95, hf96⟩ := bc_of hf90; clear hf90
      refine j_callV0 X [.long v84, .long v91] [.int a2, .ref (q i76)] (c_X6_sum l D cs q a0 v84 v91 σ72 _ _ h95) mk_X6_sum mv_X6_sum ml_X6_223 h74 rfl (by decide) ⟨rfl, rfl⟩ ⟨Nat.le_of_ble_eq_true rfl, Nat.le_of_ble_eq_true rfl⟩ rfl (Nat.le_of_ble_eq_true rfl) ⟨Nat.le_of_ble_eq_true rfl, Nat.le_of_ble_eq_true rfl⟩ dX6_joins_105 rfl (st' := [.long r93, .int a2, .ref (q i76)]) rfl ?_
      obtain ⟨h97, hf98⟩ := chk_of hf96; clear hf96
      refine j_last X h97 dX6_joins_108 (fun σ99 eσ99 => ?_)
      replace hf98 := lt_of hf98 σ99 eσ99
      obtain ⟨er, es⟩ := rt_of hf98
      exact j_retv X hr hlk (Nat.le_of_ble_eq_true rfl) (Nat.le_of_ble_eq_true rfl) rfl es.symm rfl dX6_joins_109
    · have hf46 := br_n hf3 c44; clear hf3
      by_cases c101 : a1 = (4 : Int32)
      · have hf102 := br_y hf46 c101; clear hf46
        refine j_tabIn X (v := 4) (tgt := 110) dX6_joins_1 c101 (by decide) (by decide) rfl (by decide) ?_
        refine j_aload_n X dX6_joins_110 0 rfl rfl ?_
        obtain ⟨h104, hf105⟩ := chk_of hf102; clear hf102
        obtain ⟨i106, h107, hf108⟩ := bd_of hf105; clear hf105
        refine j_getr X fd_X6_57 h104 h107 dX6_joins_111 ?_
        refine j_iload_n X dX6_joins_114 2 rfl rfl ?_
        refine j_aload_n X dX6_joins_115 0 rfl rfl ?_
        refine j_aload_n X dX6_joins_116 0 rfl rfl ?_
        refine j_getr X fd_X6_57 h104 h107 dX6_joins_117 ?_
        refine j_iload_n X dX6_joins_120 3 rfl rfl ?_
        obtain ⟨h112, hf113⟩ := chk_of hf108; clear hf108
        refine j_lald X h112 dX6_joins_121 (fun v114 ev114 => ?_)
        replace hf113 := lt_of hf113 v114 ev114
        refine j_aload_n X dX6_joins_122 0 rfl rfl ?_
        obtain ⟨i116, h117, hf118⟩ := bd_of hf113; clear hf113
        refine j_getr X fd_X6_61 h104 h117 dX6_joins_123 ?_
        refine j_iload X dX6_joins_126 4 rfl ?_
        obtain ⟨h119, hf120⟩ := chk_of hf118; clear hf118
        refine j_lald X h119 dX6_joins_128 (fun v121 ev121 => ?_)
        replace hf120 := lt_of hf120 v121 ev121
        obtain ⟨r123, σ124, h125, hf126⟩ := bc_of hf120; clear hf120
        refine j_callV0 X [.long v114, .long v121] [.int a2, .ref (q i106)] (c_X6_less l D cs q a0 v114 v121 σ _ _ h125) mk_X6_less mv_X6_less ml_X6_220 h104 rfl (by decide) ⟨rfl, rfl⟩ ⟨Nat.le_of_ble_eq_true rfl, Nat.le_of_ble_eq_true rfl⟩ rfl (Nat.le_of_ble_eq_true rfl) ⟨Nat.le_of_ble_eq_true rfl, Nat.le_of_ble_eq_true rfl⟩ dX6_joins_129 rfl (st' := [.long r123, .int a2, .ref (q i106)]) rfl ?_
        obtain ⟨h127, hf128⟩ := chk_of hf126; clear hf126
        refine j_last X h127 dX6_joins_132 (fun σ129 eσ129 => ?_)
        replace hf128 := lt_of hf128 σ129 eσ129
        refine j_aload_n X dX6_joins_133 0 rfl rfl ?_
        obtain ⟨h131, hf132⟩ := chk_of hf128; clear hf128
        obtain ⟨i133, h134, hf135⟩ := bd_of hf132; clear hf132
        refine j_getr X fd_X6_61 h131 h134 dX6_joins_134 ?_
        refine j_iload_n X dX6_joins_137 2 rfl rfl ?_
        refine j_aload_n X dX6_joins_138 0 rfl rfl ?_
        refine j_aload_n X dX6_joins_139 0 rfl rfl ?_
        refine j_getr X fd_X6_61 h131 h134 dX6_joins_140 ?_
        refine j_iload_n X dX6_joins_143 3 rfl rfl ?_
        obtain ⟨h139, hf140⟩ := chk_of hf135; clear hf135
        refine j_lald X h139 dX6_joins_144 (fun v141 ev141 => ?_)
        replace hf140 := lt_of hf140 v141 ev141
        refine j_aload_n X dX6_joins_145 0 rfl rfl ?_
        obtain ⟨i143, h144, hf145⟩ := bd_of hf140; clear hf140
        refine j_getr X fd_X6_57 h131 h144 dX6_joins_146 ?_
        refine j_iload X dX6_joins_149 4 rfl ?_
        obtain ⟨h146, hf147⟩ := chk_of hf145; clear hf145
        refine j_lald X h146 dX6_joins_151 (fun v148 ev148 => ?_)
        replace hf147 := lt_of hf147 v148 ev148
        obtain ⟨r150, σ151, h152, hf153⟩ := bc_of hf147; clear hf147
        refine j_callV0 X [.long v141, .long v148] [.int a2, .ref (q i133)] (c_X6_less l D cs q a0 v141 v148 σ129 _ _ h152) mk_X6_less mv_X6_less ml_X6_220 h131 rfl (by decide) ⟨rfl, rfl⟩ ⟨Nat.le_of_ble_eq_true rfl, Nat.le_of_ble_eq_true rfl⟩ rfl (Nat.le_of_ble_eq_true rfl) ⟨Nat.le_of_ble_eq_true rfl, Nat.le_of_ble_eq_true rfl⟩ dX6_joins_152 rfl (st' := [.long r150, .int a2, .ref (q i133)]) rfl ?_
        obtain ⟨h154, hf155⟩ := chk_of hf153; clear hf153
        refine j_last X h154 dX6_joins_155 (fun σ156 eσ156 => ?_)
        replace hf155 := lt_of hf155 σ156 eσ156
        obtain ⟨er, es⟩ := rt_of hf155
        exact j_retv X hr hlk (Nat.le_of_ble_eq_true rfl) (Nat.le_of_ble_eq_true rfl) rfl es.symm rfl dX6_joins_156
      · have hf103 := br_n hf46 c101; clear hf46
        refine j_tabOut X (tgt := 157) dX6_joins_1 (by have z2 := lv_neT c1 (show ((2 : Int32)).toInt = 2 from rfl); have z3 := lv_neT c44 (show ((3 : Int32)).toInt = 3 from rfl); have z4 := lv_neT c101 (show ((4 : Int32)).toInt = 4 from rfl); omega) (by decide) ?_
        refine j_aload_n X dX6_joins_157 0 rfl rfl ?_
        refine j_aload_n X dX6_joins_158 0 rfl rfl ?_
        obtain ⟨h158, hf159⟩ := chk_of hf103; clear hf103
        obtain ⟨i160, h161, hf162⟩ := bd_of hf159; clear hf159
        refine j_getr X fd_X6_57 h158 h161 dX6_joins_159 ?_
        refine j_iload_n X dX6_joins_162 3 rfl rfl ?_
        obtain ⟨h163, hf164⟩ := chk_of hf162; clear hf162
        refine j_lald X h163 dX6_joins_163 (fun v165 ev165 => ?_)
        replace hf164 := lt_of hf164 v165 ev165
        refine j_aload_n X dX6_joins_164 0 rfl rfl ?_
        obtain ⟨i167, h168, hf169⟩ := bd_of hf164; clear hf164
        refine j_getr X fd_X6_61 h158 h168 dX6_joins_165 ?_
        refine j_iload_n X dX6_joins_168 3 rfl rfl ?_
        obtain ⟨h170, hf171⟩ := chk_of hf169; clear hf169
        refine j_lald X h170 dX6_joins_169 (fun v172 ev172 => ?_)
        replace hf171 := lt_of hf171 v172 ev172
        refine j_aload_n X dX6_joins_170 0 rfl rfl ?_
        refine j_getr X fd_X6_57 h158 h161 dX6_joins_171 ?_
        refine j_iload X dX6_joins_174 4 rfl ?_
        obtain ⟨h177, hf178⟩ := chk_of hf171; clear hf171
        refine j_lald X h177 dX6_joins_176 (fun v179 ev179 => ?_)
        replace hf178 := lt_of hf178 v179 ev179
        refine j_aload_n X dX6_joins_177 0 rfl rfl ?_
        refine j_getr X fd_X6_61 h158 h168 dX6_joins_178 ?_
        refine j_iload X dX6_joins_181 4 rfl ?_
        obtain ⟨h184, hf185⟩ := chk_of hf178; clear hf178
        refine j_lald X h184 dX6_joins_183 (fun v186 ev186 => ?_)
        replace hf185 := lt_of hf185 v186 ev186
        obtain ⟨r188, σ189, h190, hf191⟩ := bc_of hf185; clear hf185
        refine j_callV0 X [.long v165, .long v172, .long v179, .long v186] [] (c_X6_products_ l D cs q a0 v165 v172 v179 v186 σ _ _ h190) mk_X6_products_ mv_X6_products_ ml_X6_226 h158 rfl (by decide) ⟨rfl, rfl⟩ ⟨Nat.le_of_ble_eq_true rfl, Nat.le_of_ble_eq_true rfl⟩ rfl (Nat.le_of_ble_eq_true rfl) ⟨Nat.le_of_ble_eq_true rfl, Nat.le_of_ble_eq_true rfl⟩ dX6_joins_184 rfl (st' := []) rfl ?_
        refine j_aload_n X dX6_joins_187 0 rfl rfl ?_
        obtain ⟨h192, hf193⟩ := chk_of hf191; clear hf191
        obtain ⟨i194, h195, hf196⟩ := bd_of hf193; clear hf193
        refine j_getr X fd_X6_57 h192 h195 dX6_joins_188 ?_
        refine j_iload_n X dX6_joins_191 2 rfl rfl ?_
        refine j_aload_n X dX6_joins_192 0 rfl rfl ?_
        refine j_getl X fd_X6_211 h192 dX6_joins_193 (fun v197 ev197 => ?_)
        replace hf196 := lt_of hf196 v197 ev197
        obtain ⟨h199, hf200⟩ := chk_of hf196; clear hf196
        refine j_last X h199 dX6_joins_196 (fun σ201 eσ201 => ?_)
        replace hf200 := lt_of hf200 σ201 eσ201
        have h203 : isO σ201 6 a0 := by rw [eσ201]; exact h192
        refine j_aload_n X dX6_joins_197 0 rfl rfl ?_
        obtain ⟨i204, h205, hf206⟩ := bd_of hf200; clear hf200
        refine j_getr X fd_X6_61 h203 h205 dX6_joins_198 ?_
        refine j_iload_n X dX6_joins_201 2 rfl rfl ?_
        refine j_aload_n X dX6_joins_202 0 rfl rfl ?_
        refine j_getl X fd_X6_217 h203 dX6_joins_203 (fun v207 ev207 => ?_)
        replace hf206 := lt_of hf206 v207 ev207
        obtain ⟨h209, hf210⟩ := chk_of hf206; clear hf206
        refine j_last X h209 dX6_joins_206 (fun σ211 eσ211 => ?_)
        replace hf210 := lt_of hf210 σ211 eσ211
        have h213 : isO σ211 6 a0 := by rw [eσ211]; exact h203
        obtain ⟨er, es⟩ := rt_of hf210
        exact j_retv X hr hlk (Nat.le_of_ble_eq_true rfl) (Nat.le_of_ble_eq_true rfl) rfl es.symm rfl dX6_joins_207
abbrev rm_X6_rootOf : Room := { frames := 0, cells := 0, slots := 0, locals := 0 }
set_option maxHeartbeats 4000000 in
set_option maxRecDepth 100000 in
theorem c_X6_rootOf (l : Launch) (D : va_G) (cs : Nat → ClassId) (q : Nat → Nat) (a0 : Nat) (a1 : Int32) (σ σ0 : HS) (r0 : Int32) (hf0 : f_X6_rootOf a0 a1 σ = some (r0, σ0)) : MT l yX6_rootOf (Cond.code yX6_rootOf cX6_rootOf 2 (some .int) :: lw_g) rm_X6_rootOf D cs q σ σ0 [.ref (q a0), .int a1] (fun z => z = q) (fun _ => some (.int r0)) 0 0 := by
  unfold f_X6_rootOf at hf0
  refine MT_of (cc := cX6_rootOf) (lv0 := [(0, .ref (q a0)), (1, .int a1)]) (by decide) (Nat.le_of_ble_eq_true rfl) rfl (fun p e s m args below meth c A X hr hlk hin => ?_)
  refine j_aload_n X dX6_rootOf_0 0 rfl rfl ?_
  obtain ⟨h1, hf2⟩ := chk_of hf0; clear hf0
  obtain ⟨i3, h4, hf5⟩ := bd_of hf2; clear hf2
  refine j_getr X fd_X6_30 h1 h4 dX6_rootOf_1 ?_
  refine j_iload_n X dX6_rootOf_4 1 rfl rfl ?_
  obtain ⟨h6, hf7⟩ := chk_of hf5; clear hf5
  refine j_iald X h6 dX6_rootOf_5 (fun v8 ev8 => ?_)
  replace hf7 := lt_of hf7 v8 ev8
  refine j_iconst X (v := 1) dX6_rootOf_6 (by decide) ?_
  refine j_isub X dX6_rootOf_7 ?_
  obtain ⟨er, es⟩ := rt_of hf7
  subst er
  exact j_reti X hr hlk (Nat.le_of_ble_eq_true rfl) (Nat.le_of_ble_eq_true rfl) rfl es.symm rfl dX6_rootOf_8
abbrev rm_X6_spans : Room := { frames := 3, cells := 0, slots := 0, locals := 192 }
set_option maxHeartbeats 4000000 in
set_option maxRecDepth 100000 in
theorem c_X6_spans (l : Launch) (D : va_G) (cs : Nat → ClassId) (q : Nat → Nat) (a0 : Nat) (a1 : Int32) (σ σ0 : HS) (r0 : Int32) (hf0 : f_X6_spans a0 a1 σ = some (r0, σ0)) : MT l yX6_spans (Cond.code yX6_spans cX6_spans 4 (some .boolean) :: lw_g) rm_X6_spans D cs q σ σ0 [.ref (q a0), .int a1] (fun z => z = q) (fun _ => some (.int r0)) 0 0 := by
  unfold f_X6_spans at hf0
  refine MT_of (cc := cX6_spans) (lv0 := [(0, .ref (q a0)), (1, .int a1)]) (by decide) (Nat.le_of_ble_eq_true rfl) rfl (fun p e s m args below meth c A X hr hlk hin => ?_)
  have L2 : ∀ (nk : Nat) (x0 : Nat) (x1 : Int32) (x2 : Int32) (τ : HS), lp_X6_spans_2  nk x0 x1 x2 τ = some (r0, σ0) → J p l e rm_X6_spans s m args below meth c 4 D cs A s.heap 0 0 (MQ below (hQ D cs (fun z => z = q) (fun _ => some (.int r0)) σ0 A) args s 0 0 A) q τ [(0, .ref (q x0)), (1, .int x1), (2, .int x2)] 2 [] := by
    intro nk
    induction nk with
    | zero => intro x0 x1 x2 τ hf0; have hf1 : (none : Option (Int32 × HS)) = some (r0, σ0) := hf0; cases hf1
    | succ nk ih =>
      intro x0 x1 x2 τ hf0
      replace hf0 : lp_X6_spans_2_b  (lp_X6_spans_2  nk) x0 x1 x2 τ = some (r0, σ0) := hf0
      unfold lp_X6_spans_2_b at hf0
      refine j_iload_n X dX6_spans_2 2 rfl rfl ?_
      refine j_aload_n X dX6_spans_3 0 rfl rfl ?_
      obtain ⟨h3, hf4⟩ := chk_of hf0; clear hf0
      obtain ⟨i5, h6, hf7⟩ := bd_of hf4; clear hf4
      refine j_getr X fd_X6_30 h3 h6 dX6_spans_4 ?_
      refine j_iload_n X dX6_spans_7 1 rfl rfl ?_
      obtain ⟨h8, hf9⟩ := chk_of hf7; clear hf7
      refine j_iald X h8 dX6_spans_8 (fun v10 ev10 => ?_)
      replace hf9 := lt_of hf9 v10 ev10
      refine j_icmp_ge X (tgt := 201) dX6_spans_9 (by decide) (fun c12 => ?_) (fun c12 => ?_)
      · have hf13 := br_y hf9 c12; clear hf9
        refine j_aload_n X dX6_spans_201 0 rfl rfl ?_
        obtain ⟨i15, h16, hf17⟩ := bd_of hf13; clear hf13
        refine j_getr X fd_X6_64 h3 h16 dX6_spans_202 ?_
        refine j_aload_n X dX6_spans_205 0 rfl rfl ?_
        refine j_iload_n X dX6_spans_206 1 rfl rfl ?_
        obtain ⟨r18, σ19, h20, hf21⟩ := bc_of hf17; clear hf17
        refine j_callV0 X [.int x1] [.ref (q i15)] (c_X6_rootOf l D cs q x0 x1 τ _ _ h20) mk_X6_rootOf mv_X6_rootOf ml_X6_190 h3 rfl (by decide) ⟨rfl, rfl⟩ ⟨Nat.le_of_ble_eq_true rfl, Nat.le_of_ble_eq_true rfl⟩ rfl (Nat.le_of_ble_eq_true rfl) ⟨Nat.le_of_ble_eq_true rfl, Nat.le_of_ble_eq_true rfl⟩ dX6_spans_207 rfl (st' := [.int r18, .ref (q i15)]) rfl ?_
        obtain ⟨h22, hf23⟩ := chk_of hf21; clear hf21
        refine j_zald X h22 dX6_spans_210 (fun v24 ev24 => ?_)
        replace hf23 := lt_of hf23 v24 ev24
        refine j_if_ne X (tgt := 218) dX6_spans_211 (by decide) (fun c26 => ?_) (fun c26 => ?_)
        · have hf27 := br_n hf23 c26; clear hf23
          refine j_iconst X (v := 0) dX6_spans_218 (by decide) ?_
          obtain ⟨er, es⟩ := rt_of hf27
          subst er
          exact j_retz X hr hlk (Nat.le_of_ble_eq_true rfl) (Nat.le_of_ble_eq_true rfl) rfl es.symm rfl (Or.inl rfl) dX6_spans_219
        · have hf28 := br_y hf23 c26; clear hf23
          refine j_iconst X (v := 1) dX6_spans_214 (by decide) ?_
          refine j_goto X (tgt := 219) dX6_spans_215 (by decide) ?_
          obtain ⟨er, es⟩ := rt_of hf28
          subst er
          exact j_retz X hr hlk (Nat.le_of_ble_eq_true rfl) (Nat.le_of_ble_eq_true rfl) rfl es.symm rfl (Or.inr rfl) dX6_spans_219
      · have hf14 := br_n hf9 c12; clear hf9
        refine j_iload_n X dX6_spans_12 1 rfl rfl ?_
        refine j_iload_n X dX6_spans_13 2 rfl rfl ?_
        obtain ⟨r29, σ30, h31, hf32⟩ := bc_of hf14; clear hf14
        refine j_callS0 X [.int x1, .int x2] [] (c_X6_at l D cs q x1 x2 τ _ _ h31) mk_X6_at ms_X6_at ml_X6_134 ⟨rfl, rfl⟩ ⟨Nat.le_of_ble_eq_true rfl, Nat.le_of_ble_eq_true rfl⟩ rfl (Nat.le_of_ble_eq_true rfl) ⟨Nat.le_of_ble_eq_true rfl, Nat.le_of_ble_eq_true rfl⟩ dX6_spans_14 rfl (st' := [.int r29]) rfl ?_
        refine j_istore_n X (lv' := [(3, .int r29), (0, .ref (q x0)), (1, .int x1), (2, .int x2)]) dX6_spans_17 rfl (by decide) rfl ?_
        refine j_aload_n X dX6_spans_18 1 rfl rfl ?_
        refine j_iconst X (v := 0) dX6_spans_19 (by decide) ?_
        obtain ⟨h33, hf34⟩ := chk_of hf32; clear hf32
        refine j_putz X fp_X6_193 h33 (Or.inl rfl) dX6_spans_20 (fun σ35 eσ35 => ?_)
        replace hf34 := lt_of hf34 σ35 eσ35
        have h37 : isO σ35 6 x0 := by rw [eσ35]; exact h33
        refine j_aload_n X dX6_spans_23 1 rfl rfl ?_
        obtain ⟨i38, h39, hf40⟩ := bd_of hf34; clear hf34
        refine j_getr X fd_X6_18 h37 h39 dX6_spans_24 ?_
        refine j_iload_n X dX6_spans_27 0 rfl rfl ?_
        obtain ⟨h41, hf42⟩ := chk_of hf40; clear hf40
        refine j_iald X h41 dX6_spans_28 (fun v43 ev43 => ?_)
        replace hf42 := lt_of hf42 v43 ev43
        refine j_if_ne X (tgt := 71) dX6_spans_29 (by decide) (fun c45 => ?_) (fun c45 => ?_)
        · have hf46 := br_n hf42 c45; clear hf42
          refine j_aload_n X dX6_spans_71 1 rfl rfl ?_
          refine j_getr X fd_X6_18 h37 h39 dX6_spans_72 ?_
          refine j_iload_n X dX6_spans_75 0 rfl rfl ?_
          obtain ⟨h51, hf52⟩ := chk_of hf46; clear hf46
          refine j_iald X h51 dX6_spans_76 (fun v53 ev53 => ?_)
          replace hf52 := lt_of hf52 v53 ev53
          refine j_iconst X (v := 1) dX6_spans_77 (by decide) ?_
          refine j_icmp_ne X (tgt := 110) dX6_spans_78 (by decide) (fun c55 => ?_) (fun c55 => ?_)
          · have hf56 := br_n hf52 c55; clear hf52
            refine j_aload_n X dX6_spans_110 1 rfl rfl ?_
            refine j_aload_n X dX6_spans_111 1 rfl rfl ?_
            refine j_getr X fd_X6_18 h37 h39 dX6_spans_112 ?_
            refine j_iload_n X dX6_spans_115 0 rfl rfl ?_
            obtain ⟨h61, hf62⟩ := chk_of hf56; clear hf56
            refine j_iald X h61 dX6_spans_116 (fun v63 ev63 => ?_)
            replace hf62 := lt_of hf62 v63 ev63
            refine j_iload_n X dX6_spans_117 3 rfl rfl ?_
            refine j_aload_n X dX6_spans_118 1 rfl rfl ?_
            obtain ⟨i65, h66, hf67⟩ := bd_of hf62; clear hf62
            refine j_getr X fd_X6_21 h37 h66 dX6_spans_119 ?_
            refine j_iload_n X dX6_spans_122 0 rfl rfl ?_
            obtain ⟨h68, hf69⟩ := chk_of hf67; clear hf67
            refine j_iald X h68 dX6_spans_123 (fun v70 ev70 => ?_)
            replace hf69 := lt_of hf69 v70 ev70
            refine j_aload_n X dX6_spans_124 1 rfl rfl ?_
            obtain ⟨i72, h73, hf74⟩ := bd_of hf69; clear hf69
            refine j_getr X fd_X6_24 h37 h73 dX6_spans_125 ?_
            refine j_iload_n X dX6_spans_128 0 rfl rfl ?_
            obtain ⟨h75, hf76⟩ := chk_of hf74; clear hf74
            refine j_iald X h75 dX6_spans_129 (fun v77 ev77 => ?_)
            replace hf76 := lt_of hf76 v77 ev77
            obtain ⟨r79, σ80, h81, hf82⟩ := bc_of hf76; clear hf76
            refine j_callV0 X [.int v63, .int x2, .int v70, .int v77] [] (c_X6_joins l D cs q x0 v63 x2 v70 v77 σ35 _ _ h81) mk_X6_joins mv_X6_joins ml_X6_229 h37 rfl (by decide) ⟨rfl, rfl⟩ ⟨Nat.le_of_ble_eq_true rfl, Nat.le_of_ble_eq_true rfl⟩ rfl (Nat.le_of_ble_eq_true rfl) ⟨Nat.le_of_ble_eq_true rfl, Nat.le_of_ble_eq_true rfl⟩ dX6_spans_130 rfl (st' := []) rfl ?_
            refine j_aload_n X dX6_spans_133 1 rfl rfl ?_
            refine j_dup X dX6_spans_134 rfl ?_
            obtain ⟨h83, hf84⟩ := chk_of hf82; clear hf82
            refine j_geti X fd_X6_193 h83 dX6_spans_135 (fun v85 ev85 => ?_)
            replace hf84 := lt_of hf84 v85 ev85
            refine j_aload_n X dX6_spans_138 1 rfl rfl ?_
            obtain ⟨i87, h88, hf89⟩ := bd_of hf84; clear hf84
            refine j_getr X fd_X6_64 h83 h88 dX6_spans_139 ?_
            refine j_aload_n X dX6_spans_142 1 rfl rfl ?_
            obtain ⟨i90, h91, hf92⟩ := bd_of hf89; clear hf89
            refine j_getr X fd_X6_21 h83 h91 dX6_spans_143 ?_
            refine j_iload_n X dX6_spans_146 0 rfl rfl ?_
            obtain ⟨h93, hf94⟩ := chk_of hf92; clear hf92
            refine j_iald X h93 dX6_spans_147 (fun v95 ev95 => ?_)
            replace hf94 := lt_of hf94 v95 ev95
            obtain ⟨h97, hf98⟩ := chk_of hf94; clear hf94
            refine j_zald X h97 dX6_spans_148 (fun v99 ev99 => ?_)
            replace hf98 := lt_of hf98 v99 ev99
            refine j_if_ne X (tgt := 176) dX6_spans_149 (by decide) (fun c101 => ?_) (fun c101 => ?_)
            · have hf102 := br_n hf98 c101; clear hf98
              refine j_iconst X (v := 1) dX6_spans_176 (by decide) ?_
              refine j_goto X (tgt := 181) dX6_spans_177 (by decide) ?_
              refine j_ior X dX6_spans_181 ?_
              obtain ⟨h105, hf106⟩ := chk_of hf102; clear hf102
              refine j_putz X fp_X6_193 h83 h105 dX6_spans_182 (fun σ104 eσ104 => ?_)
              replace hf106 := lt_of hf106 σ104 eσ104
              have h108 : isO σ104 6 x0 := by rw [eσ104]; exact h83
              refine j_aload_n X dX6_spans_185 1 rfl rfl ?_
              obtain ⟨i109, h110, hf111⟩ := bd_of hf106; clear hf106
              refine j_getr X fd_X6_64 h108 h110 dX6_spans_186 ?_
              refine j_iload_n X dX6_spans_189 3 rfl rfl ?_
              refine j_aload_n X dX6_spans_190 1 rfl rfl ?_
              refine j_geti X fd_X6_193 h108 dX6_spans_191 (fun v112 ev112 => ?_)
              replace hf111 := lt_of hf111 v112 ev112
              obtain ⟨h114, hf115⟩ := chk_of hf111; clear hf111
              obtain ⟨h116, hf117⟩ := chk_of hf115; clear hf115
              refine j_zast X h114 h116 dX6_spans_194 (fun σ118 eσ118 => ?_)
              replace hf117 := lt_of hf117 σ118 eσ118
              have h120 : isO σ118 6 x0 := by rw [eσ118]; exact h108
              obtain ⟨v121, ev121⟩ : ∃ y : Int32, y = x2 + (1 : Int32) := ⟨_, rfl⟩
              replace hf117 := lt_of hf117 v121 ev121
              refine j_iinc X (v := v121) (lv' := [(2, .int v121), (3, .int r29), (0, .ref (q x0)), (1, .int x1)]) dX6_spans_195 3 rfl (by rw [ev121]; rfl) (by decide) rfl ?_
              refine j_goto X (tgt := 2) dX6_spans_198 (by decide) ?_
              refine j_lvsub [2, 3, 0] (lv' := [(0, .ref (q x0)), (1, .int x1), (2, .int v121)]) rfl ?_
              exact ih x0 x1 v121 σ118 hf117
            · have hf103 := br_y hf98 c101; clear hf98
              refine j_aload_n X dX6_spans_152 1 rfl rfl ?_
              obtain ⟨i123, h124, hf125⟩ := bd_of hf103; clear hf103
              refine j_getr X fd_X6_18 h83 h124 dX6_spans_153 ?_
              refine j_iload_n X dX6_spans_156 0 rfl rfl ?_
              obtain ⟨h126, hf127⟩ := chk_of hf125; clear hf125
              refine j_iald X h126 dX6_spans_157 (fun v128 ev128 => ?_)
              replace hf127 := lt_of hf127 v128 ev128
              refine j_iconst X (v := 2) dX6_spans_158 (by decide) ?_
              refine j_icmp_eq X (tgt := 180) dX6_spans_159 (by decide) (fun c130 => ?_) (fun c130 => ?_)
              · have hf131 := br_y hf127 c130; clear hf127
                refine j_iconst X (v := 0) dX6_spans_180 (by decide) ?_
                refine j_ior X dX6_spans_181 ?_
                obtain ⟨h134, hf135⟩ := chk_of hf131; clear hf131
                refine j_putz X fp_X6_193 h83 h134 dX6_spans_182 (fun σ133 eσ133 => ?_)
                replace hf135 := lt_of hf135 σ133 eσ133
                have h137 : isO σ133 6 x0 := by rw [eσ133]; exact h83
                refine j_aload_n X dX6_spans_185 1 rfl rfl ?_
                obtain ⟨i138, h139, hf140⟩ := bd_of hf135; clear hf135
                refine j_getr X fd_X6_64 h137 h139 dX6_spans_186 ?_
                refine j_iload_n X dX6_spans_189 3 rfl rfl ?_
                refine j_aload_n X dX6_spans_190 1 rfl rfl ?_
                refine j_geti X fd_X6_193 h137 dX6_spans_191 (fun v141 ev141 => ?_)
                replace hf140 := lt_of hf140 v141 ev141
                obtain ⟨h143, hf144⟩ := chk_of hf140; clear hf140
                obtain ⟨h145, hf146⟩ := chk_of hf144; clear hf144
                refine j_zast X h143 h145 dX6_spans_194 (fun σ147 eσ147 => ?_)
                replace hf146 := lt_of hf146 σ147 eσ147
                have h149 : isO σ147 6 x0 := by rw [eσ147]; exact h137
                obtain ⟨v150, ev150⟩ : ∃ y : Int32, y = x2 + (1 : Int32) := ⟨_, rfl⟩
                replace hf146 := lt_of hf146 v150 ev150
                refine j_iinc X (v := v150) (lv' := [(2, .int v150), (3, .int r29), (0, .ref (q x0)), (1, .int x1)]) dX6_spans_195 3 rfl (by rw [ev150]; rfl) (by decide) rfl ?_
                refine j_goto X (tgt := 2) dX6_spans_198 (by decide) ?_
                refine j_lvsub [2, 3, 0] (lv' := [(0, .ref (q x0)), (1, .int x1), (2, .int v150)]) rfl ?_
                exact ih x0 x1 v150 σ147 hf146
              · have hf132 := br_n hf127 c130; clear hf127
                refine j_aload_n X dX6_spans_162 1 rfl rfl ?_
                refine j_getr X fd_X6_64 h83 h88 dX6_spans_163 ?_
                refine j_aload_n X dX6_spans_166 1 rfl rfl ?_
                obtain ⟨i155, h156, hf157⟩ := bd_of hf132; clear hf132
                refine j_getr X fd_X6_24 h83 h156 dX6_spans_167 ?_
                refine j_iload_n X dX6_spans_170 0 rfl rfl ?_
                obtain ⟨h158, hf159⟩ := chk_of hf157; clear hf157
                refine j_iald X h158 dX6_spans_171 (fun v160 ev160 => ?_)
                replace hf159 := lt_of hf159 v160 ev160
                obtain ⟨h162, hf163⟩ := chk_of hf159; clear hf159
                refine j_zald X h162 dX6_spans_172 (fun v164 ev164 => ?_)
                replace hf163 := lt_of hf163 v164 ev164
                refine j_if_eq X (tgt := 180) dX6_spans_173 (by decide) (fun c166 => ?_) (fun c166 => ?_)
                · have hf167 := br_y hf163 c166; clear hf163
                  refine j_iconst X (v := 0) dX6_spans_180 (by decide) ?_
                  refine j_ior X dX6_spans_181 ?_
                  obtain ⟨h170, hf171⟩ := chk_of hf167; clear hf167
                  refine j_putz X fp_X6_193 h83 h170 dX6_spans_182 (fun σ169 eσ169 => ?_)
                  replace hf171 := lt_of hf171 σ169 eσ169
                  have h173 : isO σ169 6 x0 := by rw [eσ169]; exact h83
                  refine j_aload_n X dX6_spans_185 1 rfl rfl ?_
                  obtain ⟨i174, h175, hf176⟩ := bd_of hf171; clear hf171
                  refine j_getr X fd_X6_64 h173 h175 dX6_spans_186 ?_
                  refine j_iload_n X dX6_spans_189 3 rfl rfl ?_
                  refine j_aload_n X dX6_spans_190 1 rfl rfl ?_
                  refine j_geti X fd_X6_193 h173 dX6_spans_191 (fun v177 ev177 => ?_)
                  replace hf176 := lt_of hf176 v177 ev177
                  obtain ⟨h179, hf180⟩ := chk_of hf176; clear hf176
                  obtain ⟨h181, hf182⟩ := chk_of hf180; clear hf180
                  refine j_zast X h179 h181 dX6_spans_194 (fun σ183 eσ183 => ?_)
                  replace hf182 := lt_of hf182 σ183 eσ183
                  have h185 : isO σ183 6 x0 := by rw [eσ183]; exact h173
                  obtain ⟨v186, ev186⟩ : ∃ y : Int32, y = x2 + (1 : Int32) := ⟨_, rfl⟩
                  replace hf182 := lt_of hf182 v186 ev186
                  refine j_iinc X (v := v186) (lv' := [(2, .int v186), (3, .int r29), (0, .ref (q x0)), (1, .int x1)]) dX6_spans_195 3 rfl (by rw [ev186]; rfl) (by decide) rfl ?_
                  refine j_goto X (tgt := 2) dX6_spans_198 (by decide) ?_
                  refine j_lvsub [2, 3, 0] (lv' := [(0, .ref (q x0)), (1, .int x1), (2, .int v186)]) rfl ?_
                  exact ih x0 x1 v186 σ183 hf182
                · have hf168 := br_n hf163 c166; clear hf163
                  refine j_iconst X (v := 1) dX6_spans_176 (by decide) ?_
                  refine j_goto X (tgt := 181) dX6_spans_177 (by decide) ?_
                  refine j_ior X dX6_spans_181 ?_
                  obtain ⟨h189, hf190⟩ := chk_of hf168; clear hf168
                  refine j_putz X fp_X6_193 h83 h189 dX6_spans_182 (fun σ188 eσ188 => ?_)
                  replace hf190 := lt_of hf190 σ188 eσ188
                  have h192 : isO σ188 6 x0 := by rw [eσ188]; exact h83
                  refine j_aload_n X dX6_spans_185 1 rfl rfl ?_
                  obtain ⟨i193, h194, hf195⟩ := bd_of hf190; clear hf190
                  refine j_getr X fd_X6_64 h192 h194 dX6_spans_186 ?_
                  refine j_iload_n X dX6_spans_189 3 rfl rfl ?_
                  refine j_aload_n X dX6_spans_190 1 rfl rfl ?_
                  refine j_geti X fd_X6_193 h192 dX6_spans_191 (fun v196 ev196 => ?_)
                  replace hf195 := lt_of hf195 v196 ev196
                  obtain ⟨h198, hf199⟩ := chk_of hf195; clear hf195
                  obtain ⟨h200, hf201⟩ := chk_of hf199; clear hf199
                  refine j_zast X h198 h200 dX6_spans_194 (fun σ202 eσ202 => ?_)
                  replace hf201 := lt_of hf201 σ202 eσ202
                  have h204 : isO σ202 6 x0 := by rw [eσ202]; exact h192
                  obtain ⟨v205, ev205⟩ : ∃ y : Int32, y = x2 + (1 : Int32) := ⟨_, rfl⟩
                  replace hf201 := lt_of hf201 v205 ev205
                  refine j_iinc X (v := v205) (lv' := [(2, .int v205), (3, .int r29), (0, .ref (q x0)), (1, .int x1)]) dX6_spans_195 3 rfl (by rw [ev205]; rfl) (by decide) rfl ?_
                  refine j_goto X (tgt := 2) dX6_spans_198 (by decide) ?_
                  refine j_lvsub [2, 3, 0] (lv' := [(0, .ref (q x0)), (1, .int x1), (2, .int v205)]) rfl ?_
                  exact ih x0 x1 v205 σ202 hf201
          · have hf57 := br_y hf52 c55; clear hf52
            refine j_aload_n X dX6_spans_81 1 rfl rfl ?_
            obtain ⟨i207, h208, hf209⟩ := bd_of hf57; clear hf57
            refine j_getr X fd_X6_57 h37 h208 dX6_spans_82 ?_
            refine j_iload_n X dX6_spans_85 3 rfl rfl ?_
            refine j_aload_n X dX6_spans_86 1 rfl rfl ?_
            obtain ⟨i210, h211, hf212⟩ := bd_of hf209; clear hf209
            refine j_getr X fd_X6_21 h37 h211 dX6_spans_87 ?_
            refine j_iload_n X dX6_spans_90 0 rfl rfl ?_
            obtain ⟨h213, hf214⟩ := chk_of hf212; clear hf212
            refine j_iald X h213 dX6_spans_91 (fun v215 ev215 => ?_)
            replace hf214 := lt_of hf214 v215 ev215
            refine j_i2l X dX6_spans_92 ?_
            obtain ⟨h217, hf218⟩ := chk_of hf214; clear hf214
            refine j_last X h217 dX6_spans_93 (fun σ219 eσ219 => ?_)
            replace hf218 := lt_of hf218 σ219 eσ219
            have h221 : isO σ219 6 x0 := by rw [eσ219]; exact h37
            refine j_aload_n X dX6_spans_94 1 rfl rfl ?_
            obtain ⟨i222, h223, hf224⟩ := bd_of hf218; clear hf218
            refine j_getr X fd_X6_61 h221 h223 dX6_spans_95 ?_
            refine j_iload_n X dX6_spans_98 3 rfl rfl ?_
            refine j_aload_n X dX6_spans_99 1 rfl rfl ?_
            obtain ⟨i225, h226, hf227⟩ := bd_of hf224; clear hf224
            refine j_getr X fd_X6_21 h221 h226 dX6_spans_100 ?_
            refine j_iload_n X dX6_spans_103 0 rfl rfl ?_
            obtain ⟨h228, hf229⟩ := chk_of hf227; clear hf227
            refine j_iald X h228 dX6_spans_104 (fun v230 ev230 => ?_)
            replace hf229 := lt_of hf229 v230 ev230
            refine j_i2l X dX6_spans_105 ?_
            obtain ⟨h232, hf233⟩ := chk_of hf229; clear hf229
            refine j_last X h232 dX6_spans_106 (fun σ234 eσ234 => ?_)
            replace hf233 := lt_of hf233 σ234 eσ234
            have h236 : isO σ234 6 x0 := by rw [eσ234]; exact h221
            refine j_goto X (tgt := 185) dX6_spans_107 (by decide) ?_
            refine j_aload_n X dX6_spans_185 1 rfl rfl ?_
            obtain ⟨i237, h238, hf239⟩ := bd_of hf233; clear hf233
            refine j_getr X fd_X6_64 h236 h238 dX6_spans_186 ?_
            refine j_iload_n X dX6_spans_189 3 rfl rfl ?_
            refine j_aload_n X dX6_spans_190 1 rfl rfl ?_
            refine j_geti X fd_X6_193 h236 dX6_spans_191 (fun v240 ev240 => ?_)
            replace hf239 := lt_of hf239 v240 ev240
            obtain ⟨h242, hf243⟩ := chk_of hf239; clear hf239
            obtain ⟨h244, hf245⟩ := chk_of hf243; clear hf243
            refine j_zast X h242 h244 dX6_spans_194 (fun σ246 eσ246 => ?_)
            replace hf245 := lt_of hf245 σ246 eσ246
            have h248 : isO σ246 6 x0 := by rw [eσ246]; exact h236
            obtain ⟨v249, ev249⟩ : ∃ y : Int32, y = x2 + (1 : Int32) := ⟨_, rfl⟩
            replace hf245 := lt_of hf245 v249 ev249
            refine j_iinc X (v := v249) (lv' := [(2, .int v249), (3, .int r29), (0, .ref (q x0)), (1, .int x1)]) dX6_spans_195 3 rfl (by rw [ev249]; rfl) (by decide) rfl ?_
            refine j_goto X (tgt := 2) dX6_spans_198 (by decide) ?_
            refine j_lvsub [2, 3, 0] (lv' := [(0, .ref (q x0)), (1, .int x1), (2, .int v249)]) rfl ?_
            exact ih x0 x1 v249 σ246 hf245
        · have hf47 := br_y hf42 c45; clear hf42
          refine j_aload_n X dX6_spans_32 1 rfl rfl ?_
          obtain ⟨i251, h252, hf253⟩ := bd_of hf47; clear hf47
          refine j_getr X fd_X6_57 h37 h252 dX6_spans_33 ?_
          refine j_iload_n X dX6_spans_36 3 rfl rfl ?_
          refine j_aload_n X dX6_spans_37 1 rfl rfl ?_
          obtain ⟨i254, h255, hf256⟩ := bd_of hf253; clear hf253
          refine j_getr X fd_X6_51 h37 h255 dX6_spans_38 ?_
          refine j_aload_n X dX6_spans_41 1 rfl rfl ?_
          obtain ⟨i257, h258, hf259⟩ := bd_of hf256; clear hf256
          refine j_getr X fd_X6_21 h37 h258 dX6_spans_42 ?_
          refine j_iload_n X dX6_spans_45 0 rfl rfl ?_
          obtain ⟨h260, hf261⟩ := chk_of hf259; clear hf259
          refine j_iald X h260 dX6_spans_46 (fun v262 ev262 => ?_)
          replace hf261 := lt_of hf261 v262 ev262
          obtain ⟨h264, hf265⟩ := chk_of hf261; clear hf261
          refine j_iald X h264 dX6_spans_47 (fun v266 ev266 => ?_)
          replace hf265 := lt_of hf265 v266 ev266
          refine j_i2l X dX6_spans_48 ?_
          obtain ⟨h268, hf269⟩ := chk_of hf265; clear hf265
          refine j_last X h268 dX6_spans_49 (fun σ270 eσ270 => ?_)
          replace hf269 := lt_of hf269 σ270 eσ270
          have h272 : isO σ270 6 x0 := by rw [eσ270]; exact h37
          refine j_aload_n X dX6_spans_50 1 rfl rfl ?_
          obtain ⟨i273, h274, hf275⟩ := bd_of hf269; clear hf269
          refine j_getr X fd_X6_61 h272 h274 dX6_spans_51 ?_
          refine j_iload_n X dX6_spans_54 3 rfl rfl ?_
          refine j_aload_n X dX6_spans_55 1 rfl rfl ?_
          obtain ⟨i276, h277, hf278⟩ := bd_of hf275; clear hf275
          refine j_getr X fd_X6_54 h272 h277 dX6_spans_56 ?_
          refine j_aload_n X dX6_spans_59 1 rfl rfl ?_
          obtain ⟨i279, h280, hf281⟩ := bd_of hf278; clear hf278
          refine j_getr X fd_X6_21 h272 h280 dX6_spans_60 ?_
          refine j_iload_n X dX6_spans_63 0 rfl rfl ?_
          obtain ⟨h282, hf283⟩ := chk_of hf281; clear hf281
          refine j_iald X h282 dX6_spans_64 (fun v284 ev284 => ?_)
          replace hf283 := lt_of hf283 v284 ev284
          obtain ⟨h286, hf287⟩ := chk_of hf283; clear hf283
          refine j_iald X h286 dX6_spans_65 (fun v288 ev288 => ?_)
          replace hf287 := lt_of hf287 v288 ev288
          refine j_i2l X dX6_spans_66 ?_
          obtain ⟨h290, hf291⟩ := chk_of hf287; clear hf287
          refine j_last X h290 dX6_spans_67 (fun σ292 eσ292 => ?_)
          replace hf291 := lt_of hf291 σ292 eσ292
          have h294 : isO σ292 6 x0 := by rw [eσ292]; exact h272
          refine j_goto X (tgt := 185) dX6_spans_68 (by decide) ?_
          refine j_aload_n X dX6_spans_185 1 rfl rfl ?_
          obtain ⟨i295, h296, hf297⟩ := bd_of hf291; clear hf291
          refine j_getr X fd_X6_64 h294 h296 dX6_spans_186 ?_
          refine j_iload_n X dX6_spans_189 3 rfl rfl ?_
          refine j_aload_n X dX6_spans_190 1 rfl rfl ?_
          refine j_geti X fd_X6_193 h294 dX6_spans_191 (fun v298 ev298 => ?_)
          replace hf297 := lt_of hf297 v298 ev298
          obtain ⟨h300, hf301⟩ := chk_of hf297; clear hf297
          obtain ⟨h302, hf303⟩ := chk_of hf301; clear hf301
          refine j_zast X h300 h302 dX6_spans_194 (fun σ304 eσ304 => ?_)
          replace hf303 := lt_of hf303 σ304 eσ304
          have h306 : isO σ304 6 x0 := by rw [eσ304]; exact h294
          obtain ⟨v307, ev307⟩ : ∃ y : Int32, y = x2 + (1 : Int32) := ⟨_, rfl⟩
          replace hf303 := lt_of hf303 v307 ev307
          refine j_iinc X (v := v307) (lv' := [(2, .int v307), (3, .int r29), (0, .ref (q x0)), (1, .int x1)]) dX6_spans_195 3 rfl (by rw [ev307]; rfl) (by decide) rfl ?_
          refine j_goto X (tgt := 2) dX6_spans_198 (by decide) ?_
          refine j_lvsub [2, 3, 0] (lv' := [(0, .ref (q x0)), (1, .int x1), (2, .int v307)]) rfl ?_
          exact ih x0 x1 v307 σ304 hf303
  refine j_iconst X (v := 0) dX6_spans_0 (by decide) ?_
  refine j_nmi (fun v1 ev1 => ?_)
  replace hf0 := lt_of hf0 v1 ev1
  refine j_istore_n X (lv' := [(2, .int v1), (0, .ref (q a0)), (1, .int a1)]) dX6_spans_1 rfl (by decide) rfl ?_
  refine j_lvsub [1, 2, 0] (lv' := [(0, .ref (q a0)), (1, .int a1), (2, .int v1)]) rfl ?_
  exact L2  1000 a0 a1 v1 σ hf0
abbrev rm_X6_highOf : Room := { frames := 1, cells := 0, slots := 0, locals := 64 }
set_option maxHeartbeats 4000000 in
set_option maxRecDepth 100000 in
theorem c_X6_highOf (l : Launch) (D : va_G) (cs : Nat → ClassId) (q : Nat → Nat) (a0 : Nat) (a1 : Int32) (σ σ0 : HS) (r0 : Int64) (hf0 : f_X6_highOf a0 a1 σ = some (r0, σ0)) : MT l yX6_highOf (Cond.code yX6_highOf cX6_highOf 2 (some .long) :: lw_g) rm_X6_highOf D cs q σ σ0 [.ref (q a0), .int a1] (fun z => z = q) (fun _ => some (.long r0)) 0 0 := by
  unfold f_X6_highOf at hf0
  refine MT_of (cc := cX6_highOf) (lv0 := [(0, .ref (q a0)), (1, .int a1)]) (by decide) (Nat.le_of_ble_eq_true rfl) rfl (fun p e s m args below meth c A X hr hlk hin => ?_)
  refine j_aload_n X dX6_highOf_0 0 rfl rfl ?_
  obtain ⟨h1, hf2⟩ := chk_of hf0; clear hf0
  obtain ⟨i3, h4, hf5⟩ := bd_of hf2; clear hf2
  refine j_getr X fd_X6_61 h1 h4 dX6_highOf_1 ?_
  refine j_aload_n X dX6_highOf_4 0 rfl rfl ?_
  refine j_iload_n X dX6_highOf_5 1 rfl rfl ?_
  obtain ⟨r6, σ7, h8, hf9⟩ := bc_of hf5; clear hf5
  refine j_callV0 X [.int a1] [.ref (q i3)] (c_X6_rootOf l D cs q a0 a1 σ _ _ h8) mk_X6_rootOf mv_X6_rootOf ml_X6_190 h1 rfl (by decide) ⟨rfl, rfl⟩ ⟨Nat.le_of_ble_eq_true rfl, Nat.le_of_ble_eq_true rfl⟩ rfl (Nat.le_of_ble_eq_true rfl) ⟨Nat.le_of_ble_eq_true rfl, Nat.le_of_ble_eq_true rfl⟩ dX6_highOf_6 rfl (st' := [.int r6, .ref (q i3)]) rfl ?_
  obtain ⟨h10, hf11⟩ := chk_of hf9; clear hf9
  refine j_lald X h10 dX6_highOf_9 (fun v12 ev12 => ?_)
  replace hf11 := lt_of hf11 v12 ev12
  obtain ⟨er, es⟩ := rt_of hf11
  subst er
  exact j_retl X hr hlk (Nat.le_of_ble_eq_true rfl) (Nat.le_of_ble_eq_true rfl) rfl es.symm rfl dX6_highOf_10
abbrev rm_X6_lowOf : Room := { frames := 1, cells := 0, slots := 0, locals := 64 }
set_option maxHeartbeats 4000000 in
set_option maxRecDepth 100000 in
theorem c_X6_lowOf (l : Launch) (D : va_G) (cs : Nat → ClassId) (q : Nat → Nat) (a0 : Nat) (a1 : Int32) (σ σ0 : HS) (r0 : Int64) (hf0 : f_X6_lowOf a0 a1 σ = some (r0, σ0)) : MT l yX6_lowOf (Cond.code yX6_lowOf cX6_lowOf 2 (some .long) :: lw_g) rm_X6_lowOf D cs q σ σ0 [.ref (q a0), .int a1] (fun z => z = q) (fun _ => some (.long r0)) 0 0 := by
  unfold f_X6_lowOf at hf0
  refine MT_of (cc := cX6_lowOf) (lv0 := [(0, .ref (q a0)), (1, .int a1)]) (by decide) (Nat.le_of_ble_eq_true rfl) rfl (fun p e s m args below meth c A X hr hlk hin => ?_)
  refine j_aload_n X dX6_lowOf_0 0 rfl rfl ?_
  obtain ⟨h1, hf2⟩ := chk_of hf0; clear hf0
  obtain ⟨i3, h4, hf5⟩ := bd_of hf2; clear hf2
  refine j_getr X fd_X6_57 h1 h4 dX6_lowOf_1 ?_
  refine j_aload_n X dX6_lowOf_4 0 rfl rfl ?_
  refine j_iload_n X dX6_lowOf_5 1 rfl rfl ?_
  obtain ⟨r6, σ7, h8, hf9⟩ := bc_of hf5; clear hf5
  refine j_callV0 X [.int a1] [.ref (q i3)] (c_X6_rootOf l D cs q a0 a1 σ _ _ h8) mk_X6_rootOf mv_X6_rootOf ml_X6_190 h1 rfl (by decide) ⟨rfl, rfl⟩ ⟨Nat.le_of_ble_eq_true rfl, Nat.le_of_ble_eq_true rfl⟩ rfl (Nat.le_of_ble_eq_true rfl) ⟨Nat.le_of_ble_eq_true rfl, Nat.le_of_ble_eq_true rfl⟩ dX6_lowOf_6 rfl (st' := [.int r6, .ref (q i3)]) rfl ?_
  obtain ⟨h10, hf11⟩ := chk_of hf9; clear hf9
  refine j_lald X h10 dX6_lowOf_9 (fun v12 ev12 => ?_)
  replace hf11 := lt_of hf11 v12 ev12
  obtain ⟨er, es⟩ := rt_of hf11
  subst er
  exact j_retl X hr hlk (Nat.le_of_ble_eq_true rfl) (Nat.le_of_ble_eq_true rfl) rfl es.symm rfl dX6_lowOf_10
abbrev rm_X6_widthBy : Room := { frames := 4, cells := 0, slots := 0, locals := 256 }
set_option maxHeartbeats 4000000 in
set_option maxRecDepth 100000 in
theorem c_X6_widthBy (l : Launch) (D : va_G) (cs : Nat → ClassId) (q : Nat → Nat) (a0 : Nat) (a1 : Int32) (σ σ0 : HS) (r0 : Int64) (hf0 : f_X6_widthBy a0 a1 σ = some (r0, σ0)) : MT l yX6_widthBy (Cond.code yX6_widthBy cX6_widthBy 4 (some .long) :: lw_g) rm_X6_widthBy D cs q σ σ0 [.ref (q a0), .int a1] (fun z => z = q) (fun _ => some (.long r0)) 0 0 := by
  unfold f_X6_widthBy at hf0
  refine MT_of (cc := cX6_widthBy) (lv0 := [(0, .ref (q a0)), (1, .int a1)]) (by decide) (Nat.le_of_ble_eq_true rfl) rfl (fun p e s m args below meth c A X hr hlk hin => ?_)
  refine j_aload_n X dX6_widthBy_0 0 rfl rfl ?_
  refine j_iload_n X dX6_widthBy_1 1 rfl rfl ?_
  obtain ⟨h1, hf2⟩ := chk_of hf0; clear hf0
  obtain ⟨r3, σ4, h5, hf6⟩ := bc_of hf2; clear hf2
  refine j_callV0 X [.int a1] [] (c_X6_spans l D cs q a0 a1 σ _ _ h5) mk_X6_spans mv_X6_spans ml_X6_236 h1 rfl (by decide) ⟨rfl, rfl⟩ ⟨Nat.le_of_ble_eq_true rfl, Nat.le_of_ble_eq_true rfl⟩ rfl (Nat.le_of_ble_eq_true rfl) ⟨Nat.le_of_ble_eq_true rfl, Nat.le_of_ble_eq_true rfl⟩ dX6_widthBy_2 rfl (st' := [.int r3]) rfl ?_
  refine j_if_ne X (tgt := 12) dX6_widthBy_5 (by decide) (fun c7 => ?_) (fun c7 => ?_)
  · have hf8 := br_n hf6 c7; clear hf6
    refine j_aload_n X dX6_widthBy_12 0 rfl rfl ?_
    refine j_iconst X (v := 0) dX6_widthBy_13 (by decide) ?_
    obtain ⟨h10, hf11⟩ := chk_of hf8; clear hf8
    refine j_putz X fp_X6_193 h10 (Or.inl rfl) dX6_widthBy_14 (fun σ12 eσ12 => ?_)
    replace hf11 := lt_of hf11 σ12 eσ12
    have h14 : isO σ12 6 a0 := by rw [eσ12]; exact h10
    refine j_aload_n X dX6_widthBy_17 0 rfl rfl ?_
    refine j_aload_n X dX6_widthBy_18 0 rfl rfl ?_
    refine j_iload_n X dX6_widthBy_19 1 rfl rfl ?_
    obtain ⟨r15, σ16, h17, hf18⟩ := bc_of hf11; clear hf11
    refine j_callV0 X [.int a1] [.ref (q a0)] (c_X6_highOf l D cs q a0 a1 σ12 _ _ h17) mk_X6_highOf mv_X6_highOf ml_X6_241 h14 rfl (by decide) ⟨rfl, rfl⟩ ⟨Nat.le_of_ble_eq_true rfl, Nat.le_of_ble_eq_true rfl⟩ rfl (Nat.le_of_ble_eq_true rfl) ⟨Nat.le_of_ble_eq_true rfl, Nat.le_of_ble_eq_true rfl⟩ dX6_widthBy_20 rfl (st' := [.long r15, .ref (q a0)]) rfl ?_
    refine j_aload_n X dX6_widthBy_23 0 rfl rfl ?_
    refine j_iload_n X dX6_widthBy_24 1 rfl rfl ?_
    obtain ⟨h19, hf20⟩ := chk_of hf18; clear hf18
    obtain ⟨r21, σ22, h23, hf24⟩ := bc_of hf20; clear hf20
    refine j_callV0 X [.int a1] [.long r15, .ref (q a0)] (c_X6_lowOf l D cs q a0 a1 σ16 _ _ h23) mk_X6_lowOf mv_X6_lowOf ml_X6_245 h19 rfl (by decide) ⟨rfl, rfl⟩ ⟨Nat.le_of_ble_eq_true rfl, Nat.le_of_ble_eq_true rfl⟩ rfl (Nat.le_of_ble_eq_true rfl) ⟨Nat.le_of_ble_eq_true rfl, Nat.le_of_ble_eq_true rfl⟩ dX6_widthBy_25 rfl (st' := [.long r21, .long r15, .ref (q a0)]) rfl ?_
    obtain ⟨h25, hf26⟩ := chk_of hf24; clear hf24
    obtain ⟨r27, σ28, h29, hf30⟩ := bc_of hf26; clear hf26
    refine j_callV0 X [.long r15, .long r21] [] (c_X6_less l D cs q a0 r15 r21 σ22 _ _ h29) mk_X6_less mv_X6_less ml_X6_220 h25 rfl (by decide) ⟨rfl, rfl⟩ ⟨Nat.le_of_ble_eq_true rfl, Nat.le_of_ble_eq_true rfl⟩ rfl (Nat.le_of_ble_eq_true rfl) ⟨Nat.le_of_ble_eq_true rfl, Nat.le_of_ble_eq_true rfl⟩ dX6_widthBy_28 rfl (st' := [.long r27]) rfl ?_
    refine j_lstore_n X (lv' := [(2, .long r27), (0, .ref (q a0)), (1, .int a1)]) dX6_widthBy_31 rfl (by decide) rfl ?_
    refine j_aload_n X dX6_widthBy_32 1 rfl rfl ?_
    obtain ⟨h31, hf32⟩ := chk_of hf30; clear hf30
    refine j_geti X fd_X6_193 h31 dX6_widthBy_33 (fun v33 ev33 => ?_)
    replace hf32 := lt_of hf32 v33 ev33
    refine j_if_eq X (tgt := 45) dX6_widthBy_36 (by decide) (fun c35 => ?_) (fun c35 => ?_)
    · have hf36 := br_y hf32 c35; clear hf32
      refine j_lload_n X dX6_widthBy_45 0 rfl rfl ?_
      obtain ⟨er, es⟩ := rt_of hf36
      subst er
      exact j_retl X hr hlk (Nat.le_of_ble_eq_true rfl) (Nat.le_of_ble_eq_true rfl) rfl es.symm rfl dX6_widthBy_46
    · have hf37 := br_n hf32 c35; clear hf32
      refine j_ldc2 X k_X6_239 dX6_widthBy_39 ?_
      refine j_goto X (tgt := 46) dX6_widthBy_42 (by decide) ?_
      obtain ⟨er, es⟩ := rt_of hf37
      subst er
      exact j_retl X hr hlk (Nat.le_of_ble_eq_true rfl) (Nat.le_of_ble_eq_true rfl) rfl es.symm rfl dX6_widthBy_46
  · have hf9 := br_y hf6 c7; clear hf6
    refine j_ldc2 X k_X6_239 dX6_widthBy_8 ?_
    obtain ⟨er, es⟩ := rt_of hf9
    subst er
    exact j_retl X hr hlk (Nat.le_of_ble_eq_true rfl) (Nat.le_of_ble_eq_true rfl) rfl es.symm rfl dX6_widthBy_11
abbrev rm_X6_widthNow : Room := { frames := 5, cells := 0, slots := 0, locals := 320 }
set_option maxHeartbeats 4000000 in
set_option maxRecDepth 100000 in
theorem c_X6_widthNow (l : Launch) (D : va_G) (cs : Nat → ClassId) (q : Nat → Nat) (a0 : Nat) (a1 : Int32) (σ σ0 : HS) (r0 : Int64) (hf0 : f_X6_widthNow a0 a1 σ = some (r0, σ0)) : MT l yX6_widthNow (Cond.code yX6_widthNow cX6_widthNow 2 (some .long) :: lw_g) rm_X6_widthNow D cs q σ σ0 [.ref (q a0), .int a1] (fun z => z = q) (fun _ => some (.long r0)) 0 0 := by
  unfold f_X6_widthNow at hf0
  refine MT_of (cc := cX6_widthNow) (lv0 := [(0, .ref (q a0)), (1, .int a1)]) (by decide) (Nat.le_of_ble_eq_true rfl) rfl (fun p e s m args below meth c A X hr hlk hin => ?_)
  refine j_aload_n X dX6_widthNow_0 0 rfl rfl ?_
  obtain ⟨h1, hf2⟩ := chk_of hf0; clear hf0
  obtain ⟨r3, σ4, h5, hf6⟩ := bc_of hf2; clear hf2
  refine j_callV0 X [] [] (c_X6_laysBox l D cs q a0 σ _ _ h5) mk_X6_laysBox mv_X6_laysBox ml_X6_233 h1 rfl (by decide) ⟨rfl, rfl⟩ ⟨Nat.le_of_ble_eq_true rfl, Nat.le_of_ble_eq_true rfl⟩ rfl (Nat.le_of_ble_eq_true rfl) ⟨Nat.le_of_ble_eq_true rfl, Nat.le_of_ble_eq_true rfl⟩ dX6_widthNow_1 rfl (st' := []) rfl ?_
  refine j_aload_n X dX6_widthNow_4 0 rfl rfl ?_
  refine j_iload_n X dX6_widthNow_5 1 rfl rfl ?_
  obtain ⟨h7, hf8⟩ := chk_of hf6; clear hf6
  obtain ⟨r9, σ10, h11, hf12⟩ := bc_of hf8; clear hf8
  refine j_callV0 X [.int a1] [] (c_X6_widthBy l D cs q a0 a1 σ4 _ _ h11) mk_X6_widthBy mv_X6_widthBy ml_X6_248 h7 rfl (by decide) ⟨rfl, rfl⟩ ⟨Nat.le_of_ble_eq_true rfl, Nat.le_of_ble_eq_true rfl⟩ rfl (Nat.le_of_ble_eq_true rfl) ⟨Nat.le_of_ble_eq_true rfl, Nat.le_of_ble_eq_true rfl⟩ dX6_widthNow_6 rfl (st' := [.long r9]) rfl ?_
  obtain ⟨er, es⟩ := rt_of hf12
  subst er
  exact j_retl X hr hlk (Nat.le_of_ble_eq_true rfl) (Nat.le_of_ble_eq_true rfl) rfl es.symm rfl dX6_widthNow_9
abbrev rm_X6_again : Room := { frames := 6, cells := 0, slots := 0, locals := 384 }
set_option maxHeartbeats 4000000 in
set_option maxRecDepth 100000 in
theorem c_X6_again (l : Launch) (D : va_G) (cs : Nat → ClassId) (q : Nat → Nat) (a0 : Nat) (a1 : Int32) (a2 : Int64) (a4 : Int32) (σ σ0 : HS) (r0 : Int32) (hf0 : f_X6_again a0 a1 a2 a4 σ = some (r0, σ0)) : MT l yX6_again (Cond.code yX6_again cX6_again 10 (some .int) :: lw_g) rm_X6_again D cs q σ σ0 [.ref (q a0), .int a1, .long a2, .int a4] (fun z => z = q) (fun _ => some (.int r0)) 0 0 := by
  unfold f_X6_again at hf0
  refine MT_of (cc := cX6_again) (lv0 := [(0, .ref (q a0)), (1, .int a1), (2, .long a2), (4, .int a4)]) (by decide) (Nat.le_of_ble_eq_true rfl) rfl (fun p e s m args below meth c A X hr hlk hin => ?_)
  have L63 : ∀ (K46 : Nat → Int32 → Int64 → Int32 → Int32 → Int32 → Int32 → HS → Option (Int32 × HS)) (hK46 : ∀ (x0 : Nat) (x1 : Int32) (x2 : Int64) (x4 : Int32) (x5 : Int32) (x6 : Int32) (x7 : Int32) (τ : HS), K46 x0 x1 x2 x4 x5 x6 x7 τ = some (r0, σ0) → J p l e rm_X6_again s m args below meth c 10 D cs A s.heap 0 0 (MQ below (hQ D cs (fun z => z = q) (fun _ => some (.int r0)) σ0 A) args s 0 0 A) q τ [(0, .ref (q x0)), (1, .int x1), (2, .long x2), (4, .int x4), (5, .int x5), (6, .int x6), (7, .int x7)] 46 []), ∀ (nk : Nat) (x0 : Nat) (x1 : Int32) (x2 : Int64) (x4 : Int32) (x5 : Int32) (x6 : Int32) (x7 : Int32) (x8 : Int32) (x9 : Int32) (τ : HS), lp_X6_again_63 K46 nk x0 x1 x2 x4 x5 x6 x7 x8 x9 τ = some (r0, σ0) → J p l e rm_X6_again s m args below meth c 10 D cs A s.heap 0 0 (MQ below (hQ D cs (fun z => z = q) (fun _ => some (.int r0)) σ0 A) args s 0 0 A) q τ [(0, .ref (q x0)), (1, .int x1), (2, .long x2), (4, .int x4), (5, .int x5), (6, .int x6), (7, .int x7), (8, .int x8), (9, .int x9)] 63 [] := by
    intro K46 hK46
    intro nk
    induction nk with
    | zero => intro x0 x1 x2 x4 x5 x6 x7 x8 x9 τ hf0; have hf1 : (none : Option (Int32 × HS)) = some (r0, σ0) := hf0; cases hf1
    | succ nk ih =>
      intro x0 x1 x2 x4 x5 x6 x7 x8 x9 τ hf0
      replace hf0 : lp_X6_again_63_b K46 (lp_X6_again_63 K46 nk) x0 x1 x2 x4 x5 x6 x7 x8 x9 τ = some (r0, σ0) := hf0
      unfold lp_X6_again_63_b at hf0
      refine j_iload X dX6_again_63 8 rfl ?_
      refine j_bipush X (v := 6) dX6_again_65 (by decide) ?_
      refine j_icmp_ge X (tgt := 139) dX6_again_67 (by decide) (fun c51 => ?_) (fun c51 => ?_)
      · have hf52 := br_y hf0 c51; clear hf0
        refine j_aload_n X dX6_again_139 0 rfl rfl ?_
        refine j_iload_n X dX6_again_140 1 rfl rfl ?_
        obtain ⟨h54, hf55⟩ := chk_of hf52; clear hf52
        obtain ⟨r56, σ57, h58, hf59⟩ := bc_of hf55; clear hf55
        refine j_callV0 X [.int x1] [] (c_X6_widthBy l D cs q x0 x1 τ _ _ h58) mk_X6_widthBy mv_X6_widthBy ml_X6_248 h54 rfl (by decide) ⟨rfl, rfl⟩ ⟨Nat.le_of_ble_eq_true rfl, Nat.le_of_ble_eq_true rfl⟩ rfl (Nat.le_of_ble_eq_true rfl) ⟨Nat.le_of_ble_eq_true rfl, Nat.le_of_ble_eq_true rfl⟩ dX6_again_141 rfl (st' := [.long r56]) rfl ?_
        refine j_lload_n X dX6_again_144 2 rfl rfl ?_
        refine j_lcmp X dX6_again_145 ?_
        refine j_if_gt X (tgt := 171) dX6_again_146 (by decide) (fun c60 => ?_) (fun c60 => ?_)
        · have hf61 := br_y hf59 c60; clear hf59
          obtain ⟨v63, ev63⟩ : ∃ y : Int32, y = x7 + (1 : Int32) := ⟨_, rfl⟩
          replace hf61 := lt_of hf61 v63 ev63
          refine j_iinc X (v := v63) (lv' := [(7, .int v63), (0, .ref (q x0)), (1, .int x1), (2, .long x2), (4, .int x4), (5, .int x5), (6, .int x6), (8, .int x8), (9, .int x9)]) dX6_again_171 6 rfl (by rw [ev63]; rfl) (by decide) rfl ?_
          refine j_goto X (tgt := 46) dX6_again_174 (by decide) ?_
          refine j_lvsub [1, 2, 3, 4, 5, 6, 0] (lv' := [(0, .ref (q x0)), (1, .int x1), (2, .long x2), (4, .int x4), (5, .int x5), (6, .int x6), (7, .int v63)]) rfl ?_
          exact hK46 x0 x1 x2 x4 x5 x6 v63 σ57 hf61
        · have hf62 := br_n hf59 c60; clear hf59
          refine j_iload X dX6_again_149 4 rfl ?_
          refine j_bipush X (v := -5) dX6_again_151 (by decide) ?_
          refine j_icmp_eq X (tgt := 163) dX6_again_153 (by decide) (fun c65 => ?_) (fun c65 => ?_)
          · have hf66 := br_y hf62 c65; clear hf62
            refine j_iload X dX6_again_163 6 rfl ?_
            refine j_istore X (lv' := [(5, .int x7), (0, .ref (q x0)), (1, .int x1), (2, .long x2), (4, .int x4), (6, .int x6), (7, .int x7), (8, .int x8), (9, .int x9)]) dX6_again_165 (by decide) rfl ?_
            refine j_iload X dX6_again_167 7 rfl ?_
            refine j_istore X (lv' := [(6, .int x8), (5, .int x7), (0, .ref (q x0)), (1, .int x1), (2, .long x2), (4, .int x4), (7, .int x7), (8, .int x8), (9, .int x9)]) dX6_again_169 (by decide) rfl ?_
            obtain ⟨v68, ev68⟩ : ∃ y : Int32, y = x7 + (1 : Int32) := ⟨_, rfl⟩
            replace hf66 := lt_of hf66 v68 ev68
            refine j_iinc X (v := v68) (lv' := [(7, .int v68), (6, .int x8), (5, .int x7), (0, .ref (q x0)), (1, .int x1), (2, .long x2), (4, .int x4), (8, .int x8), (9, .int x9)]) dX6_again_171 6 rfl (by rw [ev68]; rfl) (by decide) rfl ?_
            refine j_goto X (tgt := 46) dX6_again_174 (by decide) ?_
            refine j_lvsub [3, 4, 5, 6, 2, 1, 0] (lv' := [(0, .ref (q x0)), (1, .int x1), (2, .long x2), (4, .int x4), (5, .int x7), (6, .int x8), (7, .int v68)]) rfl ?_
            exact hK46 x0 x1 x2 x4 x7 x8 v68 σ57 hf66
          · have hf67 := br_n hf62 c65; clear hf62
            refine j_iload X dX6_again_156 7 rfl ?_
            refine j_iload X dX6_again_158 5 rfl ?_
            refine j_icmp_ge X (tgt := 171) dX6_again_160 (by decide) (fun c70 => ?_) (fun c70 => ?_)
            · have hf71 := br_y hf67 c70; clear hf67
              obtain ⟨v73, ev73⟩ : ∃ y : Int32, y = x7 + (1 : Int32) := ⟨_, rfl⟩
              replace hf71 := lt_of hf71 v73 ev73
              refine j_iinc X (v := v73) (lv' := [(7, .int v73), (0, .ref (q x0)), (1, .int x1), (2, .long x2), (4, .int x4), (5, .int x5), (6, .int x6), (8, .int x8), (9, .int x9)]) dX6_again_171 6 rfl (by rw [ev73]; rfl) (by decide) rfl ?_
              refine j_goto X (tgt := 46) dX6_again_174 (by decide) ?_
              refine j_lvsub [1, 2, 3, 4, 5, 6, 0] (lv' := [(0, .ref (q x0)), (1, .int x1), (2, .long x2), (4, .int x4), (5, .int x5), (6, .int x6), (7, .int v73)]) rfl ?_
              exact hK46 x0 x1 x2 x4 x5 x6 v73 σ57 hf71
            · have hf72 := br_n hf67 c70; clear hf67
              refine j_iload X dX6_again_163 6 rfl ?_
              refine j_istore X (lv' := [(5, .int x7), (0, .ref (q x0)), (1, .int x1), (2, .long x2), (4, .int x4), (6, .int x6), (7, .int x7), (8, .int x8), (9, .int x9)]) dX6_again_165 (by decide) rfl ?_
              refine j_iload X dX6_again_167 7 rfl ?_
              refine j_istore X (lv' := [(6, .int x8), (5, .int x7), (0, .ref (q x0)), (1, .int x1), (2, .long x2), (4, .int x4), (7, .int x7), (8, .int x8), (9, .int x9)]) dX6_again_169 (by decide) rfl ?_
              obtain ⟨v75, ev75⟩ : ∃ y : Int32, y = x7 + (1 : Int32) := ⟨_, rfl⟩
              replace hf72 := lt_of hf72 v75 ev75
              refine j_iinc X (v := v75) (lv' := [(7, .int v75), (6, .int x8), (5, .int x7), (0, .ref (q x0)), (1, .int x1), (2, .long x2), (4, .int x4), (8, .int x8), (9, .int x9)]) dX6_again_171 6 rfl (by rw [ev75]; rfl) (by decide) rfl ?_
              refine j_goto X (tgt := 46) dX6_again_174 (by decide) ?_
              refine j_lvsub [3, 4, 5, 6, 2, 1, 0] (lv' := [(0, .ref (q x0)), (1, .int x1), (2, .long x2), (4, .int x4), (5, .int x7), (6, .int x8), (7, .int v75)]) rfl ?_
              exact hK46 x0 x1 x2 x4 x7 x8 v75 σ57 hf72
      · have hf53 := br_n hf0 c51; clear hf0
        refine j_iload X dX6_again_70 6 rfl ?_
        refine j_iload X dX6_again_72 8 rfl ?_
        refine j_ishr X dX6_again_74 ?_
        refine j_iconst X (v := 1) dX6_again_75 (by decide) ?_
        refine j_iand X dX6_again_76 ?_
        refine j_iconst X (v := 1) dX6_again_77 (by decide) ?_
        refine j_icmp_ne X (tgt := 133) dX6_again_78 (by decide) (fun c77 => ?_) (fun c77 => ?_)
        · have hf78 := br_n hf53 c77; clear hf53
          obtain ⟨v80, ev80⟩ : ∃ y : Int32, y = x9 + (1 : Int32) := ⟨_, rfl⟩
          replace hf78 := lt_of hf78 v80 ev80
          refine j_iinc X (v := v80) (lv' := [(9, .int v80), (0, .ref (q x0)), (1, .int x1), (2, .long x2), (4, .int x4), (5, .int x5), (6, .int x6), (7, .int x7), (8, .int x8)]) dX6_again_133 8 rfl (by rw [ev80]; rfl) (by decide) rfl ?_
          refine j_goto X (tgt := 63) dX6_again_136 (by decide) ?_
          refine j_lvsub [1, 2, 3, 4, 5, 6, 7, 8, 0] (lv' := [(0, .ref (q x0)), (1, .int x1), (2, .long x2), (4, .int x4), (5, .int x5), (6, .int x6), (7, .int x7), (8, .int x8), (9, .int v80)]) rfl ?_
          exact ih x0 x1 x2 x4 x5 x6 x7 x8 v80 τ hf78
        · have hf79 := br_y hf53 c77; clear hf53
          refine j_iload X dX6_again_81 7 rfl ?_
          refine j_aload_n X dX6_again_83 0 rfl rfl ?_
          obtain ⟨h82, hf83⟩ := chk_of hf79; clear hf79
          obtain ⟨i84, h85, hf86⟩ := bd_of hf83; clear hf83
          refine j_getr X fd_X6_11 h82 h85 dX6_again_84 ?_
          refine j_iconst X (v := 3) dX6_again_87 (by decide) ?_
          refine j_iload X dX6_again_88 8 rfl ?_
          refine j_imul X dX6_again_90 ?_
          refine j_iconst X (v := 2) dX6_again_91 (by decide) ?_
          refine j_iadd X dX6_again_92 ?_
          obtain ⟨h87, hf88⟩ := chk_of hf86; clear hf86
          refine j_iald X h87 dX6_again_93 (fun v89 ev89 => ?_)
          replace hf88 := lt_of hf88 v89 ev89
          refine j_iadd X dX6_again_94 ?_
          refine j_nmi (fun v91 ev91 => ?_)
          replace hf88 := lt_of hf88 v91 ev91
          refine j_istore X (lv' := [(8, .int v91), (0, .ref (q x0)), (1, .int x1), (2, .long x2), (4, .int x4), (5, .int x5), (6, .int x6), (7, .int x7), (9, .int x9)]) dX6_again_95 (by decide) rfl ?_
          refine j_aload_n X dX6_again_97 1 rfl rfl ?_
          refine j_iload X dX6_again_98 8 rfl ?_
          refine j_aload_n X dX6_again_100 1 rfl rfl ?_
          refine j_iload X dX6_again_101 8 rfl ?_
          obtain ⟨r93, σ94, h95, hf96⟩ := bc_of hf88; clear hf88
          refine j_callV0 X [.int x9] [.int x9, .ref (q x0)] (c_X6_valueOf l D cs q x0 x9 τ _ _ h95) mk_X6_valueOf mv_X6_valueOf ml_X6_115 h82 rfl (by decide) ⟨rfl, rfl⟩ ⟨Nat.le_of_ble_eq_true rfl, Nat.le_of_ble_eq_true rfl⟩ rfl (Nat.le_of_ble_eq_true rfl) ⟨Nat.le_of_ble_eq_true rfl, Nat.le_of_ble_eq_true rfl⟩ dX6_again_103 rfl (st' := [.int r93, .int x9, .ref (q x0)]) rfl ?_
          refine j_aload_n X dX6_again_106 1 rfl rfl ?_
          refine j_iload X dX6_again_107 8 rfl ?_
          obtain ⟨h97, hf98⟩ := chk_of hf96; clear hf96
          obtain ⟨r99, σ100, h101, hf102⟩ := bc_of hf98; clear hf98
          refine j_callV0 X [.int x9] [.int r93, .int x9, .ref (q x0)] (c_X6_spanOf l D cs q x0 x9 σ94 _ _ h101) mk_X6_spanOf mv_X6_spanOf ml_X6_119 h97 rfl (by decide) ⟨rfl, rfl⟩ ⟨Nat.le_of_ble_eq_true rfl, Nat.le_of_ble_eq_true rfl⟩ rfl (Nat.le_of_ble_eq_true rfl) ⟨Nat.le_of_ble_eq_true rfl, Nat.le_of_ble_eq_true rfl⟩ dX6_again_109 rfl (st' := [.int r99, .int r93, .int x9, .ref (q x0)]) rfl ?_
          refine j_iconst X (v := 2) dX6_again_112 (by decide) ?_
          refine j_idiv X dX6_again_113 (by decide) ?_
          refine j_isub X dX6_again_114 ?_
          refine j_aload_n X dX6_again_115 1 rfl rfl ?_
          refine j_iload X dX6_again_116 8 rfl ?_
          obtain ⟨h103, hf104⟩ := chk_of hf102; clear hf102
          obtain ⟨r105, σ106, h107, hf108⟩ := bc_of hf104; clear hf104
          refine j_callV0 X [.int x9] [.int (r93 - (r99 / (2 : Int32))), .int x9, .ref (q x0)] (c_X6_valueOf l D cs q x0 x9 σ100 _ _ h107) mk_X6_valueOf mv_X6_valueOf ml_X6_115 h103 rfl (by decide) ⟨rfl, rfl⟩ ⟨Nat.le_of_ble_eq_true rfl, Nat.le_of_ble_eq_true rfl⟩ rfl (Nat.le_of_ble_eq_true rfl) ⟨Nat.le_of_ble_eq_true rfl, Nat.le_of_ble_eq_true rfl⟩ dX6_again_118 rfl (st' := [.int r105, .int (r93 - (r99 / (2 : Int32))), .int x9, .ref (q x0)]) rfl ?_
          refine j_aload_n X dX6_again_121 1 rfl rfl ?_
          refine j_iload X dX6_again_122 8 rfl ?_
          obtain ⟨h109, hf110⟩ := chk_of hf108; clear hf108
          obtain ⟨r111, σ112, h113, hf114⟩ := bc_of hf110; clear hf110
          refine j_callV0 X [.int x9] [.int r105, .int (r93 - (r99 / (2 : Int32))), .int x9, .ref (q x0)] (c_X6_spanOf l D cs q x0 x9 σ106 _ _ h113) mk_X6_spanOf mv_X6_spanOf ml_X6_119 h109 rfl (by decide) ⟨rfl, rfl⟩ ⟨Nat.le_of_ble_eq_true rfl, Nat.le_of_ble_eq_true rfl⟩ rfl (Nat.le_of_ble_eq_true rfl) ⟨Nat.le_of_ble_eq_true rfl, Nat.le_of_ble_eq_true rfl⟩ dX6_again_124 rfl (st' := [.int r111, .int r105, .int (r93 - (r99 / (2 : Int32))), .int x9, .ref (q x0)]) rfl ?_
          refine j_iconst X (v := 2) dX6_again_127 (by decide) ?_
          refine j_idiv X dX6_again_128 (by decide) ?_
          refine j_iadd X dX6_again_129 ?_
          obtain ⟨h115, hf116⟩ := chk_of hf114; clear hf114
          obtain ⟨r117, σ118, h119, hf120⟩ := bc_of hf116; clear hf116
          refine j_callV0 X [.int x9, .int (r93 - (r99 / (2 : Int32))), .int (r105 + (r111 / (2 : Int32)))] [] (c_X6_lays l D cs q x0 x9 (r93 - (r99 / (2 : Int32))) (r105 + (r111 / (2 : Int32))) σ112 _ _ h119) mk_X6_lays mv_X6_lays ml_X6_200 h115 rfl (by decide) ⟨rfl, rfl⟩ ⟨Nat.le_of_ble_eq_true rfl, Nat.le_of_ble_eq_true rfl⟩ rfl (Nat.le_of_ble_eq_true rfl) ⟨Nat.le_of_ble_eq_true rfl, Nat.le_of_ble_eq_true rfl⟩ dX6_again_130 rfl (st' := []) rfl ?_
          obtain ⟨v121, ev121⟩ : ∃ y : Int32, y = x9 + (1 : Int32) := ⟨_, rfl⟩
          replace hf120 := lt_of hf120 v121 ev121
          refine j_iinc X (v := v121) (lv' := [(9, .int v121), (8, .int v91), (0, .ref (q x0)), (1, .int x1), (2, .long x2), (4, .int x4), (5, .int x5), (6, .int x6), (7, .int x7)]) dX6_again_133 8 rfl (by rw [ev121]; rfl) (by decide) rfl ?_
          refine j_goto X (tgt := 63) dX6_again_136 (by decide) ?_
          refine j_lvsub [2, 3, 4, 5, 6, 7, 8, 1, 0] (lv' := [(0, .ref (q x0)), (1, .int x1), (2, .long x2), (4, .int x4), (5, .int x5), (6, .int x6), (7, .int x7), (8, .int v91), (9, .int v121)]) rfl ?_
          exact ih x0 x1 x2 x4 x5 x6 x7 v91 v121 σ118 hf120
  have L46 : ∀ (nk : Nat) (x0 : Nat) (x1 : Int32) (x2 : Int64) (x4 : Int32) (x5 : Int32) (x6 : Int32) (x7 : Int32) (τ : HS), lp_X6_again_46  nk x0 x1 x2 x4 x5 x6 x7 τ = some (r0, σ0) → J p l e rm_X6_again s m args below meth c 10 D cs A s.heap 0 0 (MQ below (hQ D cs (fun z => z = q) (fun _ => some (.int r0)) σ0 A) args s 0 0 A) q τ [(0, .ref (q x0)), (1, .int x1), (2, .long x2), (4, .int x4), (5, .int x5), (6, .int x6), (7, .int x7)] 46 [] := by
    intro nk
    induction nk with
    | zero => intro x0 x1 x2 x4 x5 x6 x7 τ hf0; have hf1 : (none : Option (Int32 × HS)) = some (r0, σ0) := hf0; cases hf1
    | succ nk ih =>
      intro x0 x1 x2 x4 x5 x6 x7 τ hf0
      replace hf0 : lp_X6_again_46_b  (lp_X6_again_46  nk) x0 x1 x2 x4 x5 x6 x7 τ = some (r0, σ0) := hf0
      unfold lp_X6_again_46_b at hf0
      refine j_iload X dX6_again_46 6 rfl ?_
      refine j_bipush X (v := 64) dX6_again_48 (by decide) ?_
      refine j_icmp_ge X (tgt := 177) dX6_again_50 (by decide) (fun c32 => ?_) (fun c32 => ?_)
      · have hf33 := br_y hf0 c32; clear hf0
        refine j_iload X dX6_again_177 4 rfl ?_
        refine j_bipush X (v := -5) dX6_again_179 (by decide) ?_
        refine j_icmp_eq X (tgt := 189) dX6_again_181 (by decide) (fun c35 => ?_) (fun c35 => ?_)
        · have hf36 := br_y hf33 c35; clear hf33
          refine j_iload X dX6_again_189 4 rfl ?_
          refine j_goto X (tgt := 196) dX6_again_191 (by decide) ?_
          obtain ⟨er, es⟩ := rt_of hf36
          subst er
          exact j_reti X hr hlk (Nat.le_of_ble_eq_true rfl) (Nat.le_of_ble_eq_true rfl) rfl es.symm rfl dX6_again_196
        · have hf37 := br_n hf33 c35; clear hf33
          refine j_iload X dX6_again_184 3 rfl ?_
          refine j_if_ne X (tgt := 194) dX6_again_186 (by decide) (fun c38 => ?_) (fun c38 => ?_)
          · have hf39 := br_n hf37 c38; clear hf37
            refine j_iload X dX6_again_194 5 rfl ?_
            obtain ⟨er, es⟩ := rt_of hf39
            subst er
            exact j_reti X hr hlk (Nat.le_of_ble_eq_true rfl) (Nat.le_of_ble_eq_true rfl) rfl es.symm rfl dX6_again_196
          · have hf40 := br_y hf37 c38; clear hf37
            refine j_iload X dX6_again_189 4 rfl ?_
            refine j_goto X (tgt := 196) dX6_again_191 (by decide) ?_
            obtain ⟨er, es⟩ := rt_of hf40
            subst er
            exact j_reti X hr hlk (Nat.le_of_ble_eq_true rfl) (Nat.le_of_ble_eq_true rfl) rfl es.symm rfl dX6_again_196
      · have hf34 := br_n hf0 c32; clear hf0
        refine j_iconst X (v := 0) dX6_again_53 (by decide) ?_
        refine j_nmi (fun v41 ev41 => ?_)
        replace hf34 := lt_of hf34 v41 ev41
        refine j_istore X (lv' := [(8, .int v41), (0, .ref (q x0)), (1, .int x1), (2, .long x2), (4, .int x4), (5, .int x5), (6, .int x6), (7, .int x7)]) dX6_again_54 (by decide) rfl ?_
        refine j_aload_n X dX6_again_56 1 rfl rfl ?_
        obtain ⟨h43, hf44⟩ := chk_of hf34; clear hf34
        obtain ⟨r45, σ46, h47, hf48⟩ := bc_of hf44; clear hf44
        refine j_callV0 X [] [] (c_X6_laysBox l D cs q x0 τ _ _ h47) mk_X6_laysBox mv_X6_laysBox ml_X6_233 h43 rfl (by decide) ⟨rfl, rfl⟩ ⟨Nat.le_of_ble_eq_true rfl, Nat.le_of_ble_eq_true rfl⟩ rfl (Nat.le_of_ble_eq_true rfl) ⟨Nat.le_of_ble_eq_true rfl, Nat.le_of_ble_eq_true rfl⟩ dX6_again_57 rfl (st' := []) rfl ?_
        refine j_iconst X (v := 0) dX6_again_60 (by decide) ?_
        refine j_nmi (fun v49 ev49 => ?_)
        replace hf48 := lt_of hf48 v49 ev49
        refine j_istore X (lv' := [(9, .int v49), (8, .int v41), (0, .ref (q x0)), (1, .int x1), (2, .long x2), (4, .int x4), (5, .int x5), (6, .int x6), (7, .int x7)]) dX6_again_61 (by decide) rfl ?_
        refine j_lvsub [2, 3, 4, 5, 6, 7, 8, 1, 0] (lv' := [(0, .ref (q x0)), (1, .int x1), (2, .long x2), (4, .int x4), (5, .int x5), (6, .int x6), (7, .int x7), (8, .int v41), (9, .int v49)]) rfl ?_
        exact L63 _ (ih) 1000 x0 x1 x2 x4 x5 x6 x7 v41 v49 σ46 hf48
  refine j_aload_n X dX6_again_0 0 rfl rfl ?_
  refine j_iload_n X dX6_again_1 1 rfl rfl ?_
  obtain ⟨h1, hf2⟩ := chk_of hf0; clear hf0
  obtain ⟨r3, σ4, h5, hf6⟩ := bc_of hf2; clear hf2
  refine j_callV0 X [.int a1] [] (c_X6_isFormula l D cs q a0 a1 σ _ _ h5) mk_X6_isFormula mv_X6_isFormula ml_X6_180 h1 rfl (by decide) ⟨rfl, rfl⟩ ⟨Nat.le_of_ble_eq_true rfl, Nat.le_of_ble_eq_true rfl⟩ rfl (Nat.le_of_ble_eq_true rfl) ⟨Nat.le_of_ble_eq_true rfl, Nat.le_of_ble_eq_true rfl⟩ dX6_again_2 rfl (st' := [.int r3]) rfl ?_
  refine j_if_eq X (tgt := 19) dX6_again_5 (by decide) (fun c7 => ?_) (fun c7 => ?_)
  · have hf8 := br_y hf6 c7; clear hf6
    refine j_iconst X (v := -1) dX6_again_19 (by decide) ?_
    obtain ⟨er, es⟩ := rt_of hf8
    subst er
    exact j_reti X hr hlk (Nat.le_of_ble_eq_true rfl) (Nat.le_of_ble_eq_true rfl) rfl es.symm rfl dX6_again_20
  · have hf9 := br_n hf6 c7; clear hf6
    refine j_iload X dX6_again_8 3 rfl ?_
    refine j_i2l X dX6_again_10 ?_
    refine j_lconst X (v := 0) dX6_again_11 (by decide) ?_
    refine j_lconst X (v := 1) dX6_again_12 (by decide) ?_
    obtain ⟨r10, σ11, h12, hf13⟩ := bc_of hf9; clear hf9
    refine j_callS0 X [.long (a4).toInt64, .long (0 : Int64), .long (1 : Int64)] [] (c_X6_isIn l D cs q (a4).toInt64 (0 : Int64) (1 : Int64) σ4 _ _ h12) mk_X6_isIn ms_X6_isIn ml_X6_97 ⟨rfl, rfl⟩ ⟨Nat.le_of_ble_eq_true rfl, Nat.le_of_ble_eq_true rfl⟩ rfl (Nat.le_of_ble_eq_true rfl) ⟨Nat.le_of_ble_eq_true rfl, Nat.le_of_ble_eq_true rfl⟩ dX6_again_13 rfl (st' := [.int r10]) rfl ?_
    refine j_if_ne X (tgt := 21) dX6_again_16 (by decide) (fun c14 => ?_) (fun c14 => ?_)
    · have hf15 := br_n hf13 c14; clear hf13
      refine j_aload_n X dX6_again_21 0 rfl rfl ?_
      refine j_iload_n X dX6_again_22 1 rfl rfl ?_
      obtain ⟨h17, hf18⟩ := chk_of hf15; clear hf15
      obtain ⟨r19, σ20, h21, hf22⟩ := bc_of hf18; clear hf18
      refine j_callV0 X [.int a1] [] (c_X6_widthNow l D cs q a0 a1 σ11 _ _ h21) mk_X6_widthNow mv_X6_widthNow ml_X6_261 h17 rfl (by decide) ⟨rfl, rfl⟩ ⟨Nat.le_of_ble_eq_true rfl, Nat.le_of_ble_eq_true rfl⟩ rfl (Nat.le_of_ble_eq_true rfl) ⟨Nat.le_of_ble_eq_true rfl, Nat.le_of_ble_eq_true rfl⟩ dX6_again_23 rfl (st' := [.long r19]) rfl ?_
      refine j_ldc2 X k_X6_239 dX6_again_26 ?_
      refine j_lcmp X dX6_again_29 ?_
      refine j_if_ne X (tgt := 36) dX6_again_30 (by decide) (fun c23 => ?_) (fun c23 => ?_)
      · have hf24 := br_n hf22 c23; clear hf22
        refine j_bipush X (v := -5) dX6_again_36 (by decide) ?_
        refine j_nmi (fun v26 ev26 => ?_)
        replace hf24 := lt_of hf24 v26 ev26
        refine j_istore X (lv' := [(5, .int v26), (0, .ref (q a0)), (1, .int a1), (2, .long a2), (4, .int a4)]) dX6_again_38 (by decide) rfl ?_
        refine j_iconst X (v := 0) dX6_again_40 (by decide) ?_
        refine j_nmi (fun v28 ev28 => ?_)
        replace hf24 := lt_of hf24 v28 ev28
        refine j_istore X (lv' := [(6, .int v28), (5, .int v26), (0, .ref (q a0)), (1, .int a1), (2, .long a2), (4, .int a4)]) dX6_again_41 (by decide) rfl ?_
        refine j_iconst X (v := 0) dX6_again_43 (by decide) ?_
        refine j_nmi (fun v30 ev30 => ?_)
        replace hf24 := lt_of hf24 v30 ev30
        refine j_istore X (lv' := [(7, .int v30), (6, .int v28), (5, .int v26), (0, .ref (q a0)), (1, .int a1), (2, .long a2), (4, .int a4)]) dX6_again_44 (by decide) rfl ?_
        refine j_lvsub [3, 4, 5, 6, 2, 1, 0] (lv' := [(0, .ref (q a0)), (1, .int a1), (2, .long a2), (4, .int a4), (5, .int v26), (6, .int v28), (7, .int v30)]) rfl ?_
        exact L46  1000 a0 a1 a2 a4 v26 v28 v30 σ20 hf24
      · have hf25 := br_y hf22 c23; clear hf22
        refine j_bipush X (v := -6) dX6_again_33 (by decide) ?_
        obtain ⟨er, es⟩ := rt_of hf25
        subst er
        exact j_reti X hr hlk (Nat.le_of_ble_eq_true rfl) (Nat.le_of_ble_eq_true rfl) rfl es.symm rfl dX6_again_35
    · have hf16 := br_y hf13 c14; clear hf13
      refine j_iconst X (v := -1) dX6_again_19 (by decide) ?_
      obtain ⟨er, es⟩ := rt_of hf16
      subst er
      exact j_reti X hr hlk (Nat.le_of_ble_eq_true rfl) (Nat.le_of_ble_eq_true rfl) rfl es.symm rfl dX6_again_20
