theorem cat_rf (x : Option Nat) : (va_rf x).category = 1 := by cases x <;> rfl
abbrev rm_J7_fill_53178 : Room := { frames := 0, cells := 0, slots := 0, locals := 0 }
set_option maxHeartbeats 4000000 in
set_option maxRecDepth 100000 in
theorem c_J7_fill_53178 (l : Launch) (D : va_G) (cs : Nat → ClassId) (q : Nat → Nat) (a0 : Nat) (a1 : Int32) (σ σ0 : HS) (r0 : Unit) (hf0 : f_J7_fill_53178 a0 a1 σ = some (r0, σ0)) : MT l yJ7_fill_53178 (Cond.code yJ7_fill_53178 cJ7_fill_53178 4 none :: lw_g) rm_J7_fill_53178 D cs q σ σ0 [.ref (q a0), .int a1] (fun z => z = q) (fun _ => none) 0 0 := by
  unfold f_J7_fill_53178 at hf0
  refine MT_of (cc := cJ7_fill_53178) (lv0 := [(0, .ref (q a0)), (1, .int a1)]) (by decide) (Nat.le_of_ble_eq_true rfl) rfl (fun p e s m args below meth c A X hr hlk hin => ?_)
  have L5 : ∀ (nk : Nat) (x0 : Nat) (x1 : Int32) (x2 : Int32) (x3 : Int32) (τ : HS), lp_J7_fill_53178_5  nk x0 x1 x2 x3 τ = some (r0, σ0) → J p l e rm_J7_fill_53178 s m args below meth c 4 D cs A s.heap 0 0 (MQ below (hQ D cs (fun z => z = q) (fun _ => none) σ0 A) args s 0 0 A) q τ [(0, .ref (q x0)), (1, .int x1), (2, .int x2), (3, .int x3)] 5 [] := by
    intro nk
    induction nk with
    | zero => intro x0 x1 x2 x3 τ hf0; have hf1 : (none : Option (Unit × HS)) = some (r0, σ0) := hf0; cases hf1
    | succ nk ih =>
      intro x0 x1 x2 x3 τ hf0
      replace hf0 : lp_J7_fill_53178_5_b  (lp_J7_fill_53178_5  nk) x0 x1 x2 x3 τ = some (r0, σ0) := hf0
      unfold lp_J7_fill_53178_5_b at hf0
      refine j_iload_n X dJ7_fill_53178_5 2 rfl rfl ?_
      refine j_iload_n X dJ7_fill_53178_6 3 rfl rfl ?_
      refine j_icmp_ge X (tgt := 20) dJ7_fill_53178_7 (by decide) (fun c7 => ?_) (fun c7 => ?_)
      · have hf8 := br_y hf0 c7; clear hf0
        obtain ⟨er, es⟩ := rt_of hf8
        exact j_retv X hr hlk (Nat.le_of_ble_eq_true rfl) (Nat.le_of_ble_eq_true rfl) rfl es.symm rfl dJ7_fill_53178_20
      · have hf9 := br_n hf0 c7; clear hf0
        refine j_aload_n X dJ7_fill_53178_10 0 rfl rfl ?_
        refine j_iload_n X dJ7_fill_53178_11 2 rfl rfl ?_
        refine j_iload_n X dJ7_fill_53178_12 1 rfl rfl ?_
        obtain ⟨h10, hf11⟩ := chk_of hf9; clear hf9
        refine j_iast X h10 dJ7_fill_53178_13 (fun σ12 eσ12 => ?_)
        replace hf11 := lt_of hf11 σ12 eσ12
        obtain ⟨v14, ev14⟩ : ∃ y : Int32, y = x2 + (1 : Int32) := ⟨_, rfl⟩
        replace hf11 := lt_of hf11 v14 ev14
        refine j_iinc X (v := v14) (lv' := [(2, .int v14), (0, .ref (q x0)), (1, .int x1), (3, .int x3)]) dJ7_fill_53178_14 2 rfl (by rw [ev14]; rfl) (by decide) rfl ?_
        refine j_goto X (tgt := 5) dJ7_fill_53178_17 (by decide) ?_
        refine j_lvsub [1, 2, 0, 3] (lv' := [(0, .ref (q x0)), (1, .int x1), (2, .int v14), (3, .int x3)]) rfl ?_
        exact ih x0 x1 v14 x3 σ12 hf11
  refine j_iconst X (v := 0) dJ7_fill_53178_0 (by decide) ?_
  refine j_nmi (fun v1 ev1 => ?_)
  replace hf0 := lt_of hf0 v1 ev1
  refine j_istore_n X (lv' := [(2, .int v1), (0, .ref (q a0)), (1, .int a1)]) dJ7_fill_53178_1 rfl (by decide) rfl ?_
  refine j_aload_n X dJ7_fill_53178_2 1 rfl rfl ?_
  obtain ⟨h3, hf4⟩ := chk_of hf0; clear hf0
  refine j_alen X (Or.inl rfl) h3 dJ7_fill_53178_3 (fun v5 ev5 => ?_)
  replace hf4 := lt_of hf4 v5 ev5
  refine j_istore_n X (lv' := [(3, .int v5), (2, .int v1), (0, .ref (q a0)), (1, .int a1)]) dJ7_fill_53178_4 rfl (by decide) rfl ?_
  refine j_lvsub [2, 3, 1, 0] (lv' := [(0, .ref (q a0)), (1, .int a1), (2, .int v1), (3, .int v5)]) rfl ?_
  exact L5  1000 a0 a1 v1 v5 σ hf4
abbrev rm_J7_fill_d0a16 : Room := { frames := 0, cells := 0, slots := 0, locals := 0 }
set_option maxHeartbeats 4000000 in
set_option maxRecDepth 100000 in
theorem c_J7_fill_d0a16 (l : Launch) (D : va_G) (cs : Nat → ClassId) (q : Nat → Nat) (a0 : Nat) (a1 : Int64) (σ σ0 : HS) (r0 : Unit) (hf0 : f_J7_fill_d0a16 a0 a1 σ = some (r0, σ0)) : MT l yJ7_fill_d0a16 (Cond.code yJ7_fill_d0a16 cJ7_fill_d0a16 5 none :: lw_g) rm_J7_fill_d0a16 D cs q σ σ0 [.ref (q a0), .long a1] (fun z => z = q) (fun _ => none) 0 0 := by
  unfold f_J7_fill_d0a16 at hf0
  refine MT_of (cc := cJ7_fill_d0a16) (lv0 := [(0, .ref (q a0)), (1, .long a1)]) (by decide) (Nat.le_of_ble_eq_true rfl) rfl (fun p e s m args below meth c A X hr hlk hin => ?_)
  have L6 : ∀ (nk : Nat) (x0 : Nat) (x1 : Int64) (x3 : Int32) (x4 : Int32) (τ : HS), lp_J7_fill_d0a16_6  nk x0 x1 x3 x4 τ = some (r0, σ0) → J p l e rm_J7_fill_d0a16 s m args below meth c 5 D cs A s.heap 0 0 (MQ below (hQ D cs (fun z => z = q) (fun _ => none) σ0 A) args s 0 0 A) q τ [(0, .ref (q x0)), (1, .long x1), (3, .int x3), (4, .int x4)] 6 [] := by
    intro nk
    induction nk with
    | zero => intro x0 x1 x3 x4 τ hf0; have hf1 : (none : Option (Unit × HS)) = some (r0, σ0) := hf0; cases hf1
    | succ nk ih =>
      intro x0 x1 x3 x4 τ hf0
      replace hf0 : lp_J7_fill_d0a16_6_b  (lp_J7_fill_d0a16_6  nk) x0 x1 x3 x4 τ = some (r0, σ0) := hf0
      unfold lp_J7_fill_d0a16_6_b at hf0
      refine j_iload_n X dJ7_fill_d0a16_6 2 rfl rfl ?_
      refine j_iload X dJ7_fill_d0a16_7 3 rfl ?_
      refine j_icmp_ge X (tgt := 22) dJ7_fill_d0a16_9 (by decide) (fun c7 => ?_) (fun c7 => ?_)
      · have hf8 := br_y hf0 c7; clear hf0
        obtain ⟨er, es⟩ := rt_of hf8
        exact j_retv X hr hlk (Nat.le_of_ble_eq_true rfl) (Nat.le_of_ble_eq_true rfl) rfl es.symm rfl dJ7_fill_d0a16_22
      · have hf9 := br_n hf0 c7; clear hf0
        refine j_aload_n X dJ7_fill_d0a16_12 0 rfl rfl ?_
        refine j_iload_n X dJ7_fill_d0a16_13 2 rfl rfl ?_
        refine j_lload_n X dJ7_fill_d0a16_14 1 rfl rfl ?_
        obtain ⟨h10, hf11⟩ := chk_of hf9; clear hf9
        refine j_last X h10 dJ7_fill_d0a16_15 (fun σ12 eσ12 => ?_)
        replace hf11 := lt_of hf11 σ12 eσ12
        obtain ⟨v14, ev14⟩ : ∃ y : Int32, y = x3 + (1 : Int32) := ⟨_, rfl⟩
        replace hf11 := lt_of hf11 v14 ev14
        refine j_iinc X (v := v14) (lv' := [(3, .int v14), (0, .ref (q x0)), (1, .long x1), (4, .int x4)]) dJ7_fill_d0a16_16 2 rfl (by rw [ev14]; rfl) (by decide) rfl ?_
        refine j_goto X (tgt := 6) dJ7_fill_d0a16_19 (by decide) ?_
        refine j_lvsub [1, 2, 0, 3] (lv' := [(0, .ref (q x0)), (1, .long x1), (3, .int v14), (4, .int x4)]) rfl ?_
        exact ih x0 x1 v14 x4 σ12 hf11
  refine j_iconst X (v := 0) dJ7_fill_d0a16_0 (by decide) ?_
  refine j_nmi (fun v1 ev1 => ?_)
  replace hf0 := lt_of hf0 v1 ev1
  refine j_istore_n X (lv' := [(3, .int v1), (0, .ref (q a0)), (1, .long a1)]) dJ7_fill_d0a16_1 rfl (by decide) rfl ?_
  refine j_aload_n X dJ7_fill_d0a16_2 1 rfl rfl ?_
  obtain ⟨h3, hf4⟩ := chk_of hf0; clear hf0
  refine j_alen X (Or.inr rfl) h3 dJ7_fill_d0a16_3 (fun v5 ev5 => ?_)
  replace hf4 := lt_of hf4 v5 ev5
  refine j_istore X (lv' := [(4, .int v5), (3, .int v1), (0, .ref (q a0)), (1, .long a1)]) dJ7_fill_d0a16_4 (by decide) rfl ?_
  refine j_lvsub [2, 3, 1, 0] (lv' := [(0, .ref (q a0)), (1, .long a1), (3, .int v1), (4, .int v5)]) rfl ?_
  exact L6  1000 a0 a1 v1 v5 σ hf4
abbrev rm_X1_differenceFits : Room := { frames := 0, cells := 0, slots := 0, locals := 0 }
set_option maxHeartbeats 4000000 in
set_option maxRecDepth 100000 in
theorem c_X1_differenceFits (l : Launch) (D : va_G) (cs : Nat → ClassId) (q : Nat → Nat) (a0 : Int64) (a2 : Int64) (σ σ0 : HS) (r0 : Int32) (hf0 : f_X1_differenceFits a0 a2 σ = some (r0, σ0)) : MT l yX1_differenceFits (Cond.code yX1_differenceFits cX1_differenceFits 4 (some .boolean) :: lw_g) rm_X1_differenceFits D cs q σ σ0 [.long a0, .long a2] (fun z => z = q) (fun _ => some (.int r0)) 0 0 := by
  unfold f_X1_differenceFits at hf0
  refine MT_of (cc := cX1_differenceFits) (lv0 := [(0, .long a0), (2, .long a2)]) (by decide) (Nat.le_of_ble_eq_true rfl) rfl (fun p e s m args below meth c A X hr hlk hin => ?_)
  refine j_lload_n X dX1_differenceFits_0 1 rfl rfl ?_
  refine j_lconst X (v := 0) dX1_differenceFits_1 (by decide) ?_
  refine j_lcmp X dX1_differenceFits_2 ?_
  refine j_if_lt X (tgt := 24) dX1_differenceFits_3 (by decide) (fun c1 => ?_) (fun c1 => ?_)
  · have hf2 := br_y hf0 c1; clear hf0
    refine j_lload_n X dX1_differenceFits_24 0 rfl rfl ?_
    refine j_ldc2 X k_X1_43 dX1_differenceFits_25 ?_
    refine j_lload_n X dX1_differenceFits_28 1 rfl rfl ?_
    refine j_ladd X dX1_differenceFits_29 ?_
    refine j_lcmp X dX1_differenceFits_30 ?_
    refine j_if_gt X (tgt := 38) dX1_differenceFits_31 (by decide) (fun c4 => ?_) (fun c4 => ?_)
    · have hf5 := br_y hf2 c4; clear hf2
      refine j_iconst X (v := 0) dX1_differenceFits_38 (by decide) ?_
      obtain ⟨er, es⟩ := rt_of hf5
      subst er
      exact j_retz X hr hlk (Nat.le_of_ble_eq_true rfl) (Nat.le_of_ble_eq_true rfl) rfl es.symm rfl (Or.inl rfl) dX1_differenceFits_39
    · have hf6 := br_n hf2 c4; clear hf2
      refine j_iconst X (v := 1) dX1_differenceFits_34 (by decide) ?_
      refine j_goto X (tgt := 39) dX1_differenceFits_35 (by decide) ?_
      obtain ⟨er, es⟩ := rt_of hf6
      subst er
      exact j_retz X hr hlk (Nat.le_of_ble_eq_true rfl) (Nat.le_of_ble_eq_true rfl) rfl es.symm rfl (Or.inr rfl) dX1_differenceFits_39
  · have hf3 := br_n hf0 c1; clear hf0
    refine j_lload_n X dX1_differenceFits_6 0 rfl rfl ?_
    refine j_ldc2 X k_X1_22 dX1_differenceFits_7 ?_
    refine j_lload_n X dX1_differenceFits_10 1 rfl rfl ?_
    refine j_ladd X dX1_differenceFits_11 ?_
    refine j_lcmp X dX1_differenceFits_12 ?_
    refine j_if_lt X (tgt := 20) dX1_differenceFits_13 (by decide) (fun c7 => ?_) (fun c7 => ?_)
    · have hf8 := br_y hf3 c7; clear hf3
      refine j_iconst X (v := 0) dX1_differenceFits_20 (by decide) ?_
      refine j_goto X (tgt := 39) dX1_differenceFits_21 (by decide) ?_
      obtain ⟨er, es⟩ := rt_of hf8
      subst er
      exact j_retz X hr hlk (Nat.le_of_ble_eq_true rfl) (Nat.le_of_ble_eq_true rfl) rfl es.symm rfl (Or.inl rfl) dX1_differenceFits_39
    · have hf9 := br_n hf3 c7; clear hf3
      refine j_iconst X (v := 1) dX1_differenceFits_16 (by decide) ?_
      refine j_goto X (tgt := 39) dX1_differenceFits_17 (by decide) ?_
      obtain ⟨er, es⟩ := rt_of hf9
      subst er
      exact j_retz X hr hlk (Nat.le_of_ble_eq_true rfl) (Nat.le_of_ble_eq_true rfl) rfl es.symm rfl (Or.inr rfl) dX1_differenceFits_39
abbrev rm_X1_difference : Room := { frames := 1, cells := 0, slots := 0, locals := 64 }
set_option maxHeartbeats 4000000 in
set_option maxRecDepth 100000 in
theorem c_X1_difference (l : Launch) (D : va_G) (cs : Nat → ClassId) (q : Nat → Nat) (a0 : Nat) (a1 : Int32) (a2 : Nat) (a3 : Int32) (a4 : Nat) (a5 : Int32) (σ σ0 : HS) (r0 : Unit) (hf0 : f_X1_difference a0 a1 a2 a3 a4 a5 σ = some (r0, σ0)) : MT l yX1_difference (Cond.code yX1_difference cX1_difference 6 none :: lw_g) rm_X1_difference D cs q σ σ0 [.ref (q a0), .int a1, .ref (q a2), .int a3, .ref (q a4), .int a5] (fun z => z = q) (fun _ => none) 0 0 := by
  unfold f_X1_difference at hf0
  refine MT_of (cc := cX1_difference) (lv0 := [(0, .ref (q a0)), (1, .int a1), (2, .ref (q a2)), (3, .int a3), (4, .ref (q a4)), (5, .int a5)]) (by decide) (Nat.le_of_ble_eq_true rfl) rfl (fun p e s m args below meth c A X hr hlk hin => ?_)
  refine j_aload_n X dX1_difference_0 0 rfl rfl ?_
  obtain ⟨h1, hf2⟩ := chk_of hf0; clear hf0
  obtain ⟨i3, h4, hf5⟩ := bd_of hf2; clear hf2
  refine j_getr X fd_X1_16 h1 h4 dX1_difference_1 ?_
  refine j_iload_n X dX1_difference_4 1 rfl rfl ?_
  refine j_aload_n X dX1_difference_5 2 rfl rfl ?_
  obtain ⟨h6, hf7⟩ := chk_of hf5; clear hf5
  obtain ⟨i8, h9, hf10⟩ := bd_of hf7; clear hf7
  refine j_getr X fd_X1_16 h6 h9 dX1_difference_6 ?_
  refine j_iload_n X dX1_difference_9 3 rfl rfl ?_
  obtain ⟨h11, hf12⟩ := chk_of hf10; clear hf10
  refine j_zald X h11 dX1_difference_10 (fun v13 ev13 => ?_)
  replace hf12 := lt_of hf12 v13 ev13
  refine j_if_ne X (tgt := 65) dX1_difference_11 (by decide) (fun c15 => ?_) (fun c15 => ?_)
  · have hf16 := br_n hf12 c15; clear hf12
    refine j_iconst X (v := 1) dX1_difference_65 (by decide) ?_
    refine j_goto X (tgt := 70) dX1_difference_66 (by decide) ?_
    obtain ⟨h18, hf19⟩ := chk_of hf16; clear hf16
    refine j_zast X h18 (Or.inr rfl) dX1_difference_70 (fun σ20 eσ20 => ?_)
    replace hf19 := lt_of hf19 σ20 eσ20
    have h22 : isO σ20 1 a0 := by rw [eσ20]; exact h1
    have h23 : isO σ20 1 a2 := by rw [eσ20]; exact h6
    refine j_aload_n X dX1_difference_71 0 rfl rfl ?_
    obtain ⟨i24, h25, hf26⟩ := bd_of hf19; clear hf19
    refine j_getr X fd_X1_7 h22 h25 dX1_difference_72 ?_
    refine j_iload_n X dX1_difference_75 1 rfl rfl ?_
    refine j_aload_n X dX1_difference_76 2 rfl rfl ?_
    obtain ⟨i27, h28, hf29⟩ := bd_of hf26; clear hf26
    refine j_getr X fd_X1_7 h23 h28 dX1_difference_77 ?_
    refine j_iload_n X dX1_difference_80 3 rfl rfl ?_
    obtain ⟨h30, hf31⟩ := chk_of hf29; clear hf29
    refine j_lald X h30 dX1_difference_81 (fun v32 ev32 => ?_)
    replace hf31 := lt_of hf31 v32 ev32
    refine j_aload X dX1_difference_82 4 rfl ?_
    obtain ⟨h34, hf35⟩ := chk_of hf31; clear hf31
    obtain ⟨i36, h37, hf38⟩ := bd_of hf35; clear hf35
    refine j_getr X fd_X1_13 h34 h37 dX1_difference_84 ?_
    refine j_iload X dX1_difference_87 5 rfl ?_
    obtain ⟨h39, hf40⟩ := chk_of hf38; clear hf38
    refine j_lald X h39 dX1_difference_89 (fun v41 ev41 => ?_)
    replace hf40 := lt_of hf40 v41 ev41
    refine j_lsub X dX1_difference_90 ?_
    obtain ⟨h43, hf44⟩ := chk_of hf40; clear hf40
    refine j_last X h43 dX1_difference_91 (fun σ45 eσ45 => ?_)
    replace hf44 := lt_of hf44 σ45 eσ45
    have h47 : isO σ45 1 a0 := by rw [eσ45]; exact h22
    have h48 : isO σ45 1 a2 := by rw [eσ45]; exact h23
    have h49 : isO σ45 1 a4 := by rw [eσ45]; exact h34
    refine j_aload_n X dX1_difference_92 0 rfl rfl ?_
    obtain ⟨i50, h51, hf52⟩ := bd_of hf44; clear hf44
    refine j_getr X fd_X1_13 h47 h51 dX1_difference_93 ?_
    refine j_iload_n X dX1_difference_96 1 rfl rfl ?_
    refine j_aload_n X dX1_difference_97 2 rfl rfl ?_
    obtain ⟨i53, h54, hf55⟩ := bd_of hf52; clear hf52
    refine j_getr X fd_X1_13 h48 h54 dX1_difference_98 ?_
    refine j_iload_n X dX1_difference_101 3 rfl rfl ?_
    obtain ⟨h56, hf57⟩ := chk_of hf55; clear hf55
    refine j_lald X h56 dX1_difference_102 (fun v58 ev58 => ?_)
    replace hf57 := lt_of hf57 v58 ev58
    refine j_aload X dX1_difference_103 4 rfl ?_
    obtain ⟨i60, h61, hf62⟩ := bd_of hf57; clear hf57
    refine j_getr X fd_X1_7 h49 h61 dX1_difference_105 ?_
    refine j_iload X dX1_difference_108 5 rfl ?_
    obtain ⟨h63, hf64⟩ := chk_of hf62; clear hf62
    refine j_lald X h63 dX1_difference_110 (fun v65 ev65 => ?_)
    replace hf64 := lt_of hf64 v65 ev65
    refine j_lsub X dX1_difference_111 ?_
    obtain ⟨h67, hf68⟩ := chk_of hf64; clear hf64
    refine j_last X h67 dX1_difference_112 (fun σ69 eσ69 => ?_)
    replace hf68 := lt_of hf68 σ69 eσ69
    have h71 : isO σ69 1 a0 := by rw [eσ69]; exact h47
    have h72 : isO σ69 1 a2 := by rw [eσ69]; exact h48
    have h73 : isO σ69 1 a4 := by rw [eσ69]; exact h49
    obtain ⟨er, es⟩ := rt_of hf68
    exact j_retv X hr hlk (Nat.le_of_ble_eq_true rfl) (Nat.le_of_ble_eq_true rfl) rfl es.symm rfl dX1_difference_113
  · have hf17 := br_y hf12 c15; clear hf12
    refine j_aload X dX1_difference_14 4 rfl ?_
    obtain ⟨h74, hf75⟩ := chk_of hf17; clear hf17
    obtain ⟨i76, h77, hf78⟩ := bd_of hf75; clear hf75
    refine j_getr X fd_X1_16 h74 h77 dX1_difference_16 ?_
    refine j_iload X dX1_difference_19 5 rfl ?_
    obtain ⟨h79, hf80⟩ := chk_of hf78; clear hf78
    refine j_zald X h79 dX1_difference_21 (fun v81 ev81 => ?_)
    replace hf80 := lt_of hf80 v81 ev81
    refine j_if_ne X (tgt := 65) dX1_difference_22 (by decide) (fun c83 => ?_) (fun c83 => ?_)
    · have hf84 := br_n hf80 c83; clear hf80
      refine j_iconst X (v := 1) dX1_difference_65 (by decide) ?_
      refine j_goto X (tgt := 70) dX1_difference_66 (by decide) ?_
      obtain ⟨h86, hf87⟩ := chk_of hf84; clear hf84
      refine j_zast X h86 (Or.inr rfl) dX1_difference_70 (fun σ88 eσ88 => ?_)
      replace hf87 := lt_of hf87 σ88 eσ88
      have h90 : isO σ88 1 a0 := by rw [eσ88]; exact h1
      have h91 : isO σ88 1 a2 := by rw [eσ88]; exact h6
      have h92 : isO σ88 1 a4 := by rw [eσ88]; exact h74
      refine j_aload_n X dX1_difference_71 0 rfl rfl ?_
      obtain ⟨i93, h94, hf95⟩ := bd_of hf87; clear hf87
      refine j_getr X fd_X1_7 h90 h94 dX1_difference_72 ?_
      refine j_iload_n X dX1_difference_75 1 rfl rfl ?_
      refine j_aload_n X dX1_difference_76 2 rfl rfl ?_
      obtain ⟨i96, h97, hf98⟩ := bd_of hf95; clear hf95
      refine j_getr X fd_X1_7 h91 h97 dX1_difference_77 ?_
      refine j_iload_n X dX1_difference_80 3 rfl rfl ?_
      obtain ⟨h99, hf100⟩ := chk_of hf98; clear hf98
      refine j_lald X h99 dX1_difference_81 (fun v101 ev101 => ?_)
      replace hf100 := lt_of hf100 v101 ev101
      refine j_aload X dX1_difference_82 4 rfl ?_
      obtain ⟨i103, h104, hf105⟩ := bd_of hf100; clear hf100
      refine j_getr X fd_X1_13 h92 h104 dX1_difference_84 ?_
      refine j_iload X dX1_difference_87 5 rfl ?_
      obtain ⟨h106, hf107⟩ := chk_of hf105; clear hf105
      refine j_lald X h106 dX1_difference_89 (fun v108 ev108 => ?_)
      replace hf107 := lt_of hf107 v108 ev108
      refine j_lsub X dX1_difference_90 ?_
      obtain ⟨h110, hf111⟩ := chk_of hf107; clear hf107
      refine j_last X h110 dX1_difference_91 (fun σ112 eσ112 => ?_)
      replace hf111 := lt_of hf111 σ112 eσ112
      have h114 : isO σ112 1 a0 := by rw [eσ112]; exact h90
      have h115 : isO σ112 1 a2 := by rw [eσ112]; exact h91
      have h116 : isO σ112 1 a4 := by rw [eσ112]; exact h92
      refine j_aload_n X dX1_difference_92 0 rfl rfl ?_
      obtain ⟨i117, h118, hf119⟩ := bd_of hf111; clear hf111
      refine j_getr X fd_X1_13 h114 h118 dX1_difference_93 ?_
      refine j_iload_n X dX1_difference_96 1 rfl rfl ?_
      refine j_aload_n X dX1_difference_97 2 rfl rfl ?_
      obtain ⟨i120, h121, hf122⟩ := bd_of hf119; clear hf119
      refine j_getr X fd_X1_13 h115 h121 dX1_difference_98 ?_
      refine j_iload_n X dX1_difference_101 3 rfl rfl ?_
      obtain ⟨h123, hf124⟩ := chk_of hf122; clear hf122
      refine j_lald X h123 dX1_difference_102 (fun v125 ev125 => ?_)
      replace hf124 := lt_of hf124 v125 ev125
      refine j_aload X dX1_difference_103 4 rfl ?_
      obtain ⟨i127, h128, hf129⟩ := bd_of hf124; clear hf124
      refine j_getr X fd_X1_7 h116 h128 dX1_difference_105 ?_
      refine j_iload X dX1_difference_108 5 rfl ?_
      obtain ⟨h130, hf131⟩ := chk_of hf129; clear hf129
      refine j_lald X h130 dX1_difference_110 (fun v132 ev132 => ?_)
      replace hf131 := lt_of hf131 v132 ev132
      refine j_lsub X dX1_difference_111 ?_
      obtain ⟨h134, hf135⟩ := chk_of hf131; clear hf131
      refine j_last X h134 dX1_difference_112 (fun σ136 eσ136 => ?_)
      replace hf135 := lt_of hf135 σ136 eσ136
      have h138 : isO σ136 1 a0 := by rw [eσ136]; exact h114
      have h139 : isO σ136 1 a2 := by rw [eσ136]; exact h115
      have h140 : isO σ136 1 a4 := by rw [eσ136]; exact h116
      obtain ⟨er, es⟩ := rt_of hf135
      exact j_retv X hr hlk (Nat.le_of_ble_eq_true rfl) (Nat.le_of_ble_eq_true rfl) rfl es.symm rfl dX1_difference_113
    · have hf85 := br_y hf80 c83; clear hf80
      refine j_aload_n X dX1_difference_25 2 rfl rfl ?_
      obtain ⟨i141, h142, hf143⟩ := bd_of hf85; clear hf85
      refine j_getr X fd_X1_7 h6 h142 dX1_difference_26 ?_
      refine j_iload_n X dX1_difference_29 3 rfl rfl ?_
      obtain ⟨h144, hf145⟩ := chk_of hf143; clear hf143
      refine j_lald X h144 dX1_difference_30 (fun v146 ev146 => ?_)
      replace hf145 := lt_of hf145 v146 ev146
      refine j_aload X dX1_difference_31 4 rfl ?_
      obtain ⟨i148, h149, hf150⟩ := bd_of hf145; clear hf145
      refine j_getr X fd_X1_13 h74 h149 dX1_difference_33 ?_
      refine j_iload X dX1_difference_36 5 rfl ?_
      obtain ⟨h151, hf152⟩ := chk_of hf150; clear hf150
      refine j_lald X h151 dX1_difference_38 (fun v153 ev153 => ?_)
      replace hf152 := lt_of hf152 v153 ev153
      obtain ⟨r155, σ156, h157, hf158⟩ := bc_of hf152; clear hf152
      refine j_callS0 X [.long v146, .long v153] [.int a1, .ref (q i3)] (c_X1_differenceFits l D cs q v146 v153 σ _ _ h157) mk_X1_differenceFits ms_X1_differenceFits ml_X1_28 ⟨rfl, rfl⟩ ⟨Nat.le_of_ble_eq_true rfl, Nat.le_of_ble_eq_true rfl⟩ rfl (Nat.le_of_ble_eq_true rfl) ⟨Nat.le_of_ble_eq_true rfl, Nat.le_of_ble_eq_true rfl⟩ dX1_difference_39 rfl (st' := [.int r155, .int a1, .ref (q i3)]) rfl ?_
      refine j_if_eq X (tgt := 65) dX1_difference_42 (by decide) (fun c159 => ?_) (fun c159 => ?_)
      · have hf160 := br_y hf158 c159; clear hf158
        refine j_iconst X (v := 1) dX1_difference_65 (by decide) ?_
        refine j_goto X (tgt := 70) dX1_difference_66 (by decide) ?_
        obtain ⟨h162, hf163⟩ := chk_of hf160; clear hf160
        refine j_zast X h162 (Or.inr rfl) dX1_difference_70 (fun σ164 eσ164 => ?_)
        replace hf163 := lt_of hf163 σ164 eσ164
        refine j_aload_n X dX1_difference_71 0 rfl rfl ?_
        obtain ⟨h166, hf167⟩ := chk_of hf163; clear hf163
        obtain ⟨i168, h169, hf170⟩ := bd_of hf167; clear hf167
        refine j_getr X fd_X1_7 h166 h169 dX1_difference_72 ?_
        refine j_iload_n X dX1_difference_75 1 rfl rfl ?_
        refine j_aload_n X dX1_difference_76 2 rfl rfl ?_
        obtain ⟨h171, hf172⟩ := chk_of hf170; clear hf170
        obtain ⟨i173, h174, hf175⟩ := bd_of hf172; clear hf172
        refine j_getr X fd_X1_7 h171 h174 dX1_difference_77 ?_
        refine j_iload_n X dX1_difference_80 3 rfl rfl ?_
        obtain ⟨h176, hf177⟩ := chk_of hf175; clear hf175
        refine j_lald X h176 dX1_difference_81 (fun v178 ev178 => ?_)
        replace hf177 := lt_of hf177 v178 ev178
        refine j_aload X dX1_difference_82 4 rfl ?_
        obtain ⟨h180, hf181⟩ := chk_of hf177; clear hf177
        obtain ⟨i182, h183, hf184⟩ := bd_of hf181; clear hf181
        refine j_getr X fd_X1_13 h180 h183 dX1_difference_84 ?_
        refine j_iload X dX1_difference_87 5 rfl ?_
        obtain ⟨h185, hf186⟩ := chk_of hf184; clear hf184
        refine j_lald X h185 dX1_difference_89 (fun v187 ev187 => ?_)
        replace hf186 := lt_of hf186 v187 ev187
        refine j_lsub X dX1_difference_90 ?_
        obtain ⟨h189, hf190⟩ := chk_of hf186; clear hf186
        refine j_last X h189 dX1_difference_91 (fun σ191 eσ191 => ?_)
        replace hf190 := lt_of hf190 σ191 eσ191
        have h193 : isO σ191 1 a0 := by rw [eσ191]; exact h166
        have h194 : isO σ191 1 a2 := by rw [eσ191]; exact h171
        have h195 : isO σ191 1 a4 := by rw [eσ191]; exact h180
        refine j_aload_n X dX1_difference_92 0 rfl rfl ?_
        obtain ⟨i196, h197, hf198⟩ := bd_of hf190; clear hf190
        refine j_getr X fd_X1_13 h193 h197 dX1_difference_93 ?_
        refine j_iload_n X dX1_difference_96 1 rfl rfl ?_
        refine j_aload_n X dX1_difference_97 2 rfl rfl ?_
        obtain ⟨i199, h200, hf201⟩ := bd_of hf198; clear hf198
        refine j_getr X fd_X1_13 h194 h200 dX1_difference_98 ?_
        refine j_iload_n X dX1_difference_101 3 rfl rfl ?_
        obtain ⟨h202, hf203⟩ := chk_of hf201; clear hf201
        refine j_lald X h202 dX1_difference_102 (fun v204 ev204 => ?_)
        replace hf203 := lt_of hf203 v204 ev204
        refine j_aload X dX1_difference_103 4 rfl ?_
        obtain ⟨i206, h207, hf208⟩ := bd_of hf203; clear hf203
        refine j_getr X fd_X1_7 h195 h207 dX1_difference_105 ?_
        refine j_iload X dX1_difference_108 5 rfl ?_
        obtain ⟨h209, hf210⟩ := chk_of hf208; clear hf208
        refine j_lald X h209 dX1_difference_110 (fun v211 ev211 => ?_)
        replace hf210 := lt_of hf210 v211 ev211
        refine j_lsub X dX1_difference_111 ?_
        obtain ⟨h213, hf214⟩ := chk_of hf210; clear hf210
        refine j_last X h213 dX1_difference_112 (fun σ215 eσ215 => ?_)
        replace hf214 := lt_of hf214 σ215 eσ215
        have h217 : isO σ215 1 a0 := by rw [eσ215]; exact h193
        have h218 : isO σ215 1 a2 := by rw [eσ215]; exact h194
        have h219 : isO σ215 1 a4 := by rw [eσ215]; exact h195
        obtain ⟨er, es⟩ := rt_of hf214
        exact j_retv X hr hlk (Nat.le_of_ble_eq_true rfl) (Nat.le_of_ble_eq_true rfl) rfl es.symm rfl dX1_difference_113
      · have hf161 := br_n hf158 c159; clear hf158
        refine j_aload_n X dX1_difference_45 2 rfl rfl ?_
        obtain ⟨h220, hf221⟩ := chk_of hf161; clear hf161
        obtain ⟨i222, h223, hf224⟩ := bd_of hf221; clear hf221
        refine j_getr X fd_X1_13 h220 h223 dX1_difference_46 ?_
        refine j_iload_n X dX1_difference_49 3 rfl rfl ?_
        obtain ⟨h225, hf226⟩ := chk_of hf224; clear hf224
        refine j_lald X h225 dX1_difference_50 (fun v227 ev227 => ?_)
        replace hf226 := lt_of hf226 v227 ev227
        refine j_aload X dX1_difference_51 4 rfl ?_
        obtain ⟨h229, hf230⟩ := chk_of hf226; clear hf226
        obtain ⟨i231, h232, hf233⟩ := bd_of hf230; clear hf230
        refine j_getr X fd_X1_7 h229 h232 dX1_difference_53 ?_
        refine j_iload X dX1_difference_56 5 rfl ?_
        obtain ⟨h234, hf235⟩ := chk_of hf233; clear hf233
        refine j_lald X h234 dX1_difference_58 (fun v236 ev236 => ?_)
        replace hf235 := lt_of hf235 v236 ev236
        obtain ⟨r238, σ239, h240, hf241⟩ := bc_of hf235; clear hf235
        refine j_callS0 X [.long v227, .long v236] [.int a1, .ref (q i3)] (c_X1_differenceFits l D cs q v227 v236 σ156 _ _ h240) mk_X1_differenceFits ms_X1_differenceFits ml_X1_28 ⟨rfl, rfl⟩ ⟨Nat.le_of_ble_eq_true rfl, Nat.le_of_ble_eq_true rfl⟩ rfl (Nat.le_of_ble_eq_true rfl) ⟨Nat.le_of_ble_eq_true rfl, Nat.le_of_ble_eq_true rfl⟩ dX1_difference_59 rfl (st' := [.int r238, .int a1, .ref (q i3)]) rfl ?_
        refine j_if_ne X (tgt := 69) dX1_difference_62 (by decide) (fun c242 => ?_) (fun c242 => ?_)
        · have hf243 := br_n hf241 c242; clear hf241
          refine j_iconst X (v := 0) dX1_difference_69 (by decide) ?_
          obtain ⟨h245, hf246⟩ := chk_of hf243; clear hf243
          refine j_zast X h245 (Or.inl rfl) dX1_difference_70 (fun σ247 eσ247 => ?_)
          replace hf246 := lt_of hf246 σ247 eσ247
          refine j_aload_n X dX1_difference_71 0 rfl rfl ?_
          obtain ⟨h249, hf250⟩ := chk_of hf246; clear hf246
          obtain ⟨i251, h252, hf253⟩ := bd_of hf250; clear hf250
          refine j_getr X fd_X1_7 h249 h252 dX1_difference_72 ?_
          refine j_iload_n X dX1_difference_75 1 rfl rfl ?_
          refine j_aload_n X dX1_difference_76 2 rfl rfl ?_
          obtain ⟨h254, hf255⟩ := chk_of hf253; clear hf253
          obtain ⟨i256, h257, hf258⟩ := bd_of hf255; clear hf255
          refine j_getr X fd_X1_7 h254 h257 dX1_difference_77 ?_
          refine j_iload_n X dX1_difference_80 3 rfl rfl ?_
          obtain ⟨h259, hf260⟩ := chk_of hf258; clear hf258
          refine j_lald X h259 dX1_difference_81 (fun v261 ev261 => ?_)
          replace hf260 := lt_of hf260 v261 ev261
          refine j_aload X dX1_difference_82 4 rfl ?_
          obtain ⟨h263, hf264⟩ := chk_of hf260; clear hf260
          obtain ⟨i265, h266, hf267⟩ := bd_of hf264; clear hf264
          refine j_getr X fd_X1_13 h263 h266 dX1_difference_84 ?_
          refine j_iload X dX1_difference_87 5 rfl ?_
          obtain ⟨h268, hf269⟩ := chk_of hf267; clear hf267
          refine j_lald X h268 dX1_difference_89 (fun v270 ev270 => ?_)
          replace hf269 := lt_of hf269 v270 ev270
          refine j_lsub X dX1_difference_90 ?_
          obtain ⟨h272, hf273⟩ := chk_of hf269; clear hf269
          refine j_last X h272 dX1_difference_91 (fun σ274 eσ274 => ?_)
          replace hf273 := lt_of hf273 σ274 eσ274
          have h276 : isO σ274 1 a0 := by rw [eσ274]; exact h249
          have h277 : isO σ274 1 a2 := by rw [eσ274]; exact h254
          have h278 : isO σ274 1 a4 := by rw [eσ274]; exact h263
          refine j_aload_n X dX1_difference_92 0 rfl rfl ?_
          obtain ⟨i279, h280, hf281⟩ := bd_of hf273; clear hf273
          refine j_getr X fd_X1_13 h276 h280 dX1_difference_93 ?_
          refine j_iload_n X dX1_difference_96 1 rfl rfl ?_
          refine j_aload_n X dX1_difference_97 2 rfl rfl ?_
          obtain ⟨i282, h283, hf284⟩ := bd_of hf281; clear hf281
          refine j_getr X fd_X1_13 h277 h283 dX1_difference_98 ?_
          refine j_iload_n X dX1_difference_101 3 rfl rfl ?_
          obtain ⟨h285, hf286⟩ := chk_of hf284; clear hf284
          refine j_lald X h285 dX1_difference_102 (fun v287 ev287 => ?_)
          replace hf286 := lt_of hf286 v287 ev287
          refine j_aload X dX1_difference_103 4 rfl ?_
          obtain ⟨i289, h290, hf291⟩ := bd_of hf286; clear hf286
          refine j_getr X fd_X1_7 h278 h290 dX1_difference_105 ?_
          refine j_iload X dX1_difference_108 5 rfl ?_
          obtain ⟨h292, hf293⟩ := chk_of hf291; clear hf291
          refine j_lald X h292 dX1_difference_110 (fun v294 ev294 => ?_)
          replace hf293 := lt_of hf293 v294 ev294
          refine j_lsub X dX1_difference_111 ?_
          obtain ⟨h296, hf297⟩ := chk_of hf293; clear hf293
          refine j_last X h296 dX1_difference_112 (fun σ298 eσ298 => ?_)
          replace hf297 := lt_of hf297 σ298 eσ298
          have h300 : isO σ298 1 a0 := by rw [eσ298]; exact h276
          have h301 : isO σ298 1 a2 := by rw [eσ298]; exact h277
          have h302 : isO σ298 1 a4 := by rw [eσ298]; exact h278
          obtain ⟨er, es⟩ := rt_of hf297
          exact j_retv X hr hlk (Nat.le_of_ble_eq_true rfl) (Nat.le_of_ble_eq_true rfl) rfl es.symm rfl dX1_difference_113
        · have hf244 := br_y hf241 c242; clear hf241
          refine j_iconst X (v := 1) dX1_difference_65 (by decide) ?_
          refine j_goto X (tgt := 70) dX1_difference_66 (by decide) ?_
          obtain ⟨h303, hf304⟩ := chk_of hf244; clear hf244
          refine j_zast X h303 (Or.inr rfl) dX1_difference_70 (fun σ305 eσ305 => ?_)
          replace hf304 := lt_of hf304 σ305 eσ305
          refine j_aload_n X dX1_difference_71 0 rfl rfl ?_
          obtain ⟨h307, hf308⟩ := chk_of hf304; clear hf304
          obtain ⟨i309, h310, hf311⟩ := bd_of hf308; clear hf308
          refine j_getr X fd_X1_7 h307 h310 dX1_difference_72 ?_
          refine j_iload_n X dX1_difference_75 1 rfl rfl ?_
          refine j_aload_n X dX1_difference_76 2 rfl rfl ?_
          obtain ⟨h312, hf313⟩ := chk_of hf311; clear hf311
          obtain ⟨i314, h315, hf316⟩ := bd_of hf313; clear hf313
          refine j_getr X fd_X1_7 h312 h315 dX1_difference_77 ?_
          refine j_iload_n X dX1_difference_80 3 rfl rfl ?_
          obtain ⟨h317, hf318⟩ := chk_of hf316; clear hf316
          refine j_lald X h317 dX1_difference_81 (fun v319 ev319 => ?_)
          replace hf318 := lt_of hf318 v319 ev319
          refine j_aload X dX1_difference_82 4 rfl ?_
          obtain ⟨h321, hf322⟩ := chk_of hf318; clear hf318
          obtain ⟨i323, h324, hf325⟩ := bd_of hf322; clear hf322
          refine j_getr X fd_X1_13 h321 h324 dX1_difference_84 ?_
          refine j_iload X dX1_difference_87 5 rfl ?_
          obtain ⟨h326, hf327⟩ := chk_of hf325; clear hf325
          refine j_lald X h326 dX1_difference_89 (fun v328 ev328 => ?_)
          replace hf327 := lt_of hf327 v328 ev328
          refine j_lsub X dX1_difference_90 ?_
          obtain ⟨h330, hf331⟩ := chk_of hf327; clear hf327
          refine j_last X h330 dX1_difference_91 (fun σ332 eσ332 => ?_)
          replace hf331 := lt_of hf331 σ332 eσ332
          have h334 : isO σ332 1 a0 := by rw [eσ332]; exact h307
          have h335 : isO σ332 1 a2 := by rw [eσ332]; exact h312
          have h336 : isO σ332 1 a4 := by rw [eσ332]; exact h321
          refine j_aload_n X dX1_difference_92 0 rfl rfl ?_
          obtain ⟨i337, h338, hf339⟩ := bd_of hf331; clear hf331
          refine j_getr X fd_X1_13 h334 h338 dX1_difference_93 ?_
          refine j_iload_n X dX1_difference_96 1 rfl rfl ?_
          refine j_aload_n X dX1_difference_97 2 rfl rfl ?_
          obtain ⟨i340, h341, hf342⟩ := bd_of hf339; clear hf339
          refine j_getr X fd_X1_13 h335 h341 dX1_difference_98 ?_
          refine j_iload_n X dX1_difference_101 3 rfl rfl ?_
          obtain ⟨h343, hf344⟩ := chk_of hf342; clear hf342
          refine j_lald X h343 dX1_difference_102 (fun v345 ev345 => ?_)
          replace hf344 := lt_of hf344 v345 ev345
          refine j_aload X dX1_difference_103 4 rfl ?_
          obtain ⟨i347, h348, hf349⟩ := bd_of hf344; clear hf344
          refine j_getr X fd_X1_7 h336 h348 dX1_difference_105 ?_
          refine j_iload X dX1_difference_108 5 rfl ?_
          obtain ⟨h350, hf351⟩ := chk_of hf349; clear hf349
          refine j_lald X h350 dX1_difference_110 (fun v352 ev352 => ?_)
          replace hf351 := lt_of hf351 v352 ev352
          refine j_lsub X dX1_difference_111 ?_
          obtain ⟨h354, hf355⟩ := chk_of hf351; clear hf351
          refine j_last X h354 dX1_difference_112 (fun σ356 eσ356 => ?_)
          replace hf355 := lt_of hf355 σ356 eσ356
          have h358 : isO σ356 1 a0 := by rw [eσ356]; exact h334
          have h359 : isO σ356 1 a2 := by rw [eσ356]; exact h335
          have h360 : isO σ356 1 a4 := by rw [eσ356]; exact h336
          obtain ⟨er, es⟩ := rt_of hf355
          exact j_retv X hr hlk (Nat.le_of_ble_eq_true rfl) (Nat.le_of_ble_eq_true rfl) rfl es.symm rfl dX1_difference_113
abbrev rm_X1_fromTo : Room := { frames := 0, cells := 0, slots := 0, locals := 0 }
set_option maxHeartbeats 4000000 in
set_option maxRecDepth 100000 in
theorem c_X1_fromTo (l : Launch) (D : va_G) (cs : Nat → ClassId) (q : Nat → Nat) (a0 : Nat) (a1 : Int32) (a2 : Int64) (a4 : Int64) (σ σ0 : HS) (r0 : Unit) (hf0 : f_X1_fromTo a0 a1 a2 a4 σ = some (r0, σ0)) : MT l yX1_fromTo (Cond.code yX1_fromTo cX1_fromTo 6 none :: lw_g) rm_X1_fromTo D cs q σ σ0 [.ref (q a0), .int a1, .long a2, .long a4] (fun z => z = q) (fun _ => none) 0 0 := by
  unfold f_X1_fromTo at hf0
  refine MT_of (cc := cX1_fromTo) (lv0 := [(0, .ref (q a0)), (1, .int a1), (2, .long a2), (4, .long a4)]) (by decide) (Nat.le_of_ble_eq_true rfl) rfl (fun p e s m args below meth c A X hr hlk hin => ?_)
  refine j_aload_n X dX1_fromTo_0 0 rfl rfl ?_
  obtain ⟨h1, hf2⟩ := chk_of hf0; clear hf0
  obtain ⟨i3, h4, hf5⟩ := bd_of hf2; clear hf2
  refine j_getr X fd_X1_7 h1 h4 dX1_fromTo_1 ?_
  refine j_iload_n X dX1_fromTo_4 1 rfl rfl ?_
  refine j_lload_n X dX1_fromTo_5 2 rfl rfl ?_
  obtain ⟨h6, hf7⟩ := chk_of hf5; clear hf5
  refine j_last X h6 dX1_fromTo_6 (fun σ8 eσ8 => ?_)
  replace hf7 := lt_of hf7 σ8 eσ8
  have h10 : isO σ8 1 a0 := by rw [eσ8]; exact h1
  refine j_aload_n X dX1_fromTo_7 0 rfl rfl ?_
  obtain ⟨i11, h12, hf13⟩ := bd_of hf7; clear hf7
  refine j_getr X fd_X1_13 h10 h12 dX1_fromTo_8 ?_
  refine j_iload_n X dX1_fromTo_11 1 rfl rfl ?_
  refine j_lload X dX1_fromTo_12 3 rfl ?_
  obtain ⟨h14, hf15⟩ := chk_of hf13; clear hf13
  refine j_last X h14 dX1_fromTo_14 (fun σ16 eσ16 => ?_)
  replace hf15 := lt_of hf15 σ16 eσ16
  have h18 : isO σ16 1 a0 := by rw [eσ16]; exact h10
  refine j_aload_n X dX1_fromTo_15 0 rfl rfl ?_
  obtain ⟨i19, h20, hf21⟩ := bd_of hf15; clear hf15
  refine j_getr X fd_X1_16 h18 h20 dX1_fromTo_16 ?_
  refine j_iload_n X dX1_fromTo_19 1 rfl rfl ?_
  refine j_iconst X (v := 0) dX1_fromTo_20 (by decide) ?_
  obtain ⟨h22, hf23⟩ := chk_of hf21; clear hf21
  refine j_zast X h22 (Or.inl rfl) dX1_fromTo_21 (fun σ24 eσ24 => ?_)
  replace hf23 := lt_of hf23 σ24 eσ24
  have h26 : isO σ24 1 a0 := by rw [eσ24]; exact h18
  obtain ⟨er, es⟩ := rt_of hf23
  exact j_retv X hr hlk (Nat.le_of_ble_eq_true rfl) (Nat.le_of_ble_eq_true rfl) rfl es.symm rfl dX1_fromTo_22
abbrev rm_X1_less : Room := { frames := 0, cells := 0, slots := 0, locals := 0 }
set_option maxHeartbeats 4000000 in
set_option maxRecDepth 100000 in
theorem c_X1_less (l : Launch) (D : va_G) (cs : Nat → ClassId) (q : Nat → Nat) (a0 : Nat) (a1 : Int32) (a2 : Nat) (a3 : Int32) (σ σ0 : HS) (r0 : Unit) (hf0 : f_X1_less a0 a1 a2 a3 σ = some (r0, σ0)) : MT l yX1_less (Cond.code yX1_less cX1_less 6 none :: lw_g) rm_X1_less D cs q σ σ0 [.ref (q a0), .int a1, .ref (q a2), .int a3] (fun z => z = q) (fun _ => none) 0 0 := by
  unfold f_X1_less at hf0
  refine MT_of (cc := cX1_less) (lv0 := [(0, .ref (q a0)), (1, .int a1), (2, .ref (q a2)), (3, .int a3)]) (by decide) (Nat.le_of_ble_eq_true rfl) rfl (fun p e s m args below meth c A X hr hlk hin => ?_)
  refine j_aload_n X dX1_less_0 0 rfl rfl ?_
  obtain ⟨h1, hf2⟩ := chk_of hf0; clear hf0
  obtain ⟨i3, h4, hf5⟩ := bd_of hf2; clear hf2
  refine j_getr X fd_X1_16 h1 h4 dX1_less_1 ?_
  refine j_iload_n X dX1_less_4 1 rfl rfl ?_
  refine j_aload_n X dX1_less_5 2 rfl rfl ?_
  obtain ⟨h6, hf7⟩ := chk_of hf5; clear hf5
  obtain ⟨i8, h9, hf10⟩ := bd_of hf7; clear hf7
  refine j_getr X fd_X1_16 h6 h9 dX1_less_6 ?_
  refine j_iload_n X dX1_less_9 3 rfl rfl ?_
  obtain ⟨h11, hf12⟩ := chk_of hf10; clear hf10
  refine j_zald X h11 dX1_less_10 (fun v13 ev13 => ?_)
  replace hf12 := lt_of hf12 v13 ev13
  refine j_if_ne X (tgt := 27) dX1_less_11 (by decide) (fun c15 => ?_) (fun c15 => ?_)
  · have hf16 := br_n hf12 c15; clear hf12
    refine j_iconst X (v := 1) dX1_less_27 (by decide) ?_
    refine j_goto X (tgt := 32) dX1_less_28 (by decide) ?_
    obtain ⟨h18, hf19⟩ := chk_of hf16; clear hf16
    refine j_zast X h18 (Or.inr rfl) dX1_less_32 (fun σ20 eσ20 => ?_)
    replace hf19 := lt_of hf19 σ20 eσ20
    have h22 : isO σ20 1 a0 := by rw [eσ20]; exact h1
    have h23 : isO σ20 1 a2 := by rw [eσ20]; exact h6
    refine j_aload_n X dX1_less_33 2 rfl rfl ?_
    obtain ⟨i24, h25, hf26⟩ := bd_of hf19; clear hf19
    refine j_getr X fd_X1_13 h23 h25 dX1_less_34 ?_
    refine j_iload_n X dX1_less_37 3 rfl rfl ?_
    obtain ⟨h27, hf28⟩ := chk_of hf26; clear hf26
    refine j_lald X h27 dX1_less_38 (fun v29 ev29 => ?_)
    replace hf28 := lt_of hf28 v29 ev29
    refine j_lneg X dX1_less_39 ?_
    refine j_nml (fun v31 ev31 => ?_)
    replace hf28 := lt_of hf28 v31 ev31
    refine j_lstore X (lv' := [(4, .long v31), (0, .ref (q a0)), (1, .int a1), (2, .ref (q a2)), (3, .int a3)]) dX1_less_40 (by decide) rfl ?_
    refine j_aload_n X dX1_less_42 1 rfl rfl ?_
    obtain ⟨i33, h34, hf35⟩ := bd_of hf28; clear hf28
    refine j_getr X fd_X1_13 h22 h34 dX1_less_43 ?_
    refine j_iload_n X dX1_less_46 2 rfl rfl ?_
    refine j_aload_n X dX1_less_47 3 rfl rfl ?_
    obtain ⟨i36, h37, hf38⟩ := bd_of hf35; clear hf35
    refine j_getr X fd_X1_7 h23 h37 dX1_less_48 ?_
    refine j_iload_n X dX1_less_51 4 rfl rfl ?_
    obtain ⟨h39, hf40⟩ := chk_of hf38; clear hf38
    refine j_lald X h39 dX1_less_52 (fun v41 ev41 => ?_)
    replace hf40 := lt_of hf40 v41 ev41
    refine j_lneg X dX1_less_53 ?_
    obtain ⟨h43, hf44⟩ := chk_of hf40; clear hf40
    refine j_last X h43 dX1_less_54 (fun σ45 eσ45 => ?_)
    replace hf44 := lt_of hf44 σ45 eσ45
    have h47 : isO σ45 1 a0 := by rw [eσ45]; exact h22
    have h48 : isO σ45 1 a2 := by rw [eσ45]; exact h23
    refine j_aload_n X dX1_less_55 1 rfl rfl ?_
    obtain ⟨i49, h50, hf51⟩ := bd_of hf44; clear hf44
    refine j_getr X fd_X1_7 h47 h50 dX1_less_56 ?_
    refine j_iload_n X dX1_less_59 2 rfl rfl ?_
    refine j_lload X dX1_less_60 0 rfl ?_
    obtain ⟨h52, hf53⟩ := chk_of hf51; clear hf51
    refine j_last X h52 dX1_less_62 (fun σ54 eσ54 => ?_)
    replace hf53 := lt_of hf53 σ54 eσ54
    have h56 : isO σ54 1 a0 := by rw [eσ54]; exact h47
    have h57 : isO σ54 1 a2 := by rw [eσ54]; exact h48
    obtain ⟨er, es⟩ := rt_of hf53
    exact j_retv X hr hlk (Nat.le_of_ble_eq_true rfl) (Nat.le_of_ble_eq_true rfl) rfl es.symm rfl dX1_less_63
  · have hf17 := br_y hf12 c15; clear hf12
    refine j_aload_n X dX1_less_14 2 rfl rfl ?_
    obtain ⟨i58, h59, hf60⟩ := bd_of hf17; clear hf17
    refine j_getr X fd_X1_7 h6 h59 dX1_less_15 ?_
    refine j_iload_n X dX1_less_18 3 rfl rfl ?_
    obtain ⟨h61, hf62⟩ := chk_of hf60; clear hf60
    refine j_lald X h61 dX1_less_19 (fun v63 ev63 => ?_)
    replace hf62 := lt_of hf62 v63 ev63
    refine j_ldc2 X k_X1_22 dX1_less_20 ?_
    refine j_lcmp X dX1_less_23 ?_
    refine j_if_ne X (tgt := 31) dX1_less_24 (by decide) (fun c65 => ?_) (fun c65 => ?_)
    · have hf66 := br_n hf62 c65; clear hf62
      refine j_iconst X (v := 0) dX1_less_31 (by decide) ?_
      obtain ⟨h68, hf69⟩ := chk_of hf66; clear hf66
      refine j_zast X h68 (Or.inl rfl) dX1_less_32 (fun σ70 eσ70 => ?_)
      replace hf69 := lt_of hf69 σ70 eσ70
      have h72 : isO σ70 1 a0 := by rw [eσ70]; exact h1
      have h73 : isO σ70 1 a2 := by rw [eσ70]; exact h6
      refine j_aload_n X dX1_less_33 2 rfl rfl ?_
      obtain ⟨i74, h75, hf76⟩ := bd_of hf69; clear hf69
      refine j_getr X fd_X1_13 h73 h75 dX1_less_34 ?_
      refine j_iload_n X dX1_less_37 3 rfl rfl ?_
      obtain ⟨h77, hf78⟩ := chk_of hf76; clear hf76
      refine j_lald X h77 dX1_less_38 (fun v79 ev79 => ?_)
      replace hf78 := lt_of hf78 v79 ev79
      refine j_lneg X dX1_less_39 ?_
      refine j_nml (fun v81 ev81 => ?_)
      replace hf78 := lt_of hf78 v81 ev81
      refine j_lstore X (lv' := [(4, .long v81), (0, .ref (q a0)), (1, .int a1), (2, .ref (q a2)), (3, .int a3)]) dX1_less_40 (by decide) rfl ?_
      refine j_aload_n X dX1_less_42 1 rfl rfl ?_
      obtain ⟨i83, h84, hf85⟩ := bd_of hf78; clear hf78
      refine j_getr X fd_X1_13 h72 h84 dX1_less_43 ?_
      refine j_iload_n X dX1_less_46 2 rfl rfl ?_
      refine j_aload_n X dX1_less_47 3 rfl rfl ?_
      obtain ⟨i86, h87, hf88⟩ := bd_of hf85; clear hf85
      refine j_getr X fd_X1_7 h73 h87 dX1_less_48 ?_
      refine j_iload_n X dX1_less_51 4 rfl rfl ?_
      obtain ⟨h89, hf90⟩ := chk_of hf88; clear hf88
      refine j_lald X h89 dX1_less_52 (fun v91 ev91 => ?_)
      replace hf90 := lt_of hf90 v91 ev91
      refine j_lneg X dX1_less_53 ?_
      obtain ⟨h93, hf94⟩ := chk_of hf90; clear hf90
      refine j_last X h93 dX1_less_54 (fun σ95 eσ95 => ?_)
      replace hf94 := lt_of hf94 σ95 eσ95
      have h97 : isO σ95 1 a0 := by rw [eσ95]; exact h72
      have h98 : isO σ95 1 a2 := by rw [eσ95]; exact h73
      refine j_aload_n X dX1_less_55 1 rfl rfl ?_
      obtain ⟨i99, h100, hf101⟩ := bd_of hf94; clear hf94
      refine j_getr X fd_X1_7 h97 h100 dX1_less_56 ?_
      refine j_iload_n X dX1_less_59 2 rfl rfl ?_
      refine j_lload X dX1_less_60 0 rfl ?_
      obtain ⟨h102, hf103⟩ := chk_of hf101; clear hf101
      refine j_last X h102 dX1_less_62 (fun σ104 eσ104 => ?_)
      replace hf103 := lt_of hf103 σ104 eσ104
      have h106 : isO σ104 1 a0 := by rw [eσ104]; exact h97
      have h107 : isO σ104 1 a2 := by rw [eσ104]; exact h98
      obtain ⟨er, es⟩ := rt_of hf103
      exact j_retv X hr hlk (Nat.le_of_ble_eq_true rfl) (Nat.le_of_ble_eq_true rfl) rfl es.symm rfl dX1_less_63
    · have hf67 := br_y hf62 c65; clear hf62
      refine j_iconst X (v := 1) dX1_less_27 (by decide) ?_
      refine j_goto X (tgt := 32) dX1_less_28 (by decide) ?_
      obtain ⟨h108, hf109⟩ := chk_of hf67; clear hf67
      refine j_zast X h108 (Or.inr rfl) dX1_less_32 (fun σ110 eσ110 => ?_)
      replace hf109 := lt_of hf109 σ110 eσ110
      have h112 : isO σ110 1 a0 := by rw [eσ110]; exact h1
      have h113 : isO σ110 1 a2 := by rw [eσ110]; exact h6
      refine j_aload_n X dX1_less_33 2 rfl rfl ?_
      obtain ⟨i114, h115, hf116⟩ := bd_of hf109; clear hf109
      refine j_getr X fd_X1_13 h113 h115 dX1_less_34 ?_
      refine j_iload_n X dX1_less_37 3 rfl rfl ?_
      obtain ⟨h117, hf118⟩ := chk_of hf116; clear hf116
      refine j_lald X h117 dX1_less_38 (fun v119 ev119 => ?_)
      replace hf118 := lt_of hf118 v119 ev119
      refine j_lneg X dX1_less_39 ?_
      refine j_nml (fun v121 ev121 => ?_)
      replace hf118 := lt_of hf118 v121 ev121
      refine j_lstore X (lv' := [(4, .long v121), (0, .ref (q a0)), (1, .int a1), (2, .ref (q a2)), (3, .int a3)]) dX1_less_40 (by decide) rfl ?_
      refine j_aload_n X dX1_less_42 1 rfl rfl ?_
      obtain ⟨i123, h124, hf125⟩ := bd_of hf118; clear hf118
      refine j_getr X fd_X1_13 h112 h124 dX1_less_43 ?_
      refine j_iload_n X dX1_less_46 2 rfl rfl ?_
      refine j_aload_n X dX1_less_47 3 rfl rfl ?_
      obtain ⟨i126, h127, hf128⟩ := bd_of hf125; clear hf125
      refine j_getr X fd_X1_7 h113 h127 dX1_less_48 ?_
      refine j_iload_n X dX1_less_51 4 rfl rfl ?_
      obtain ⟨h129, hf130⟩ := chk_of hf128; clear hf128
      refine j_lald X h129 dX1_less_52 (fun v131 ev131 => ?_)
      replace hf130 := lt_of hf130 v131 ev131
      refine j_lneg X dX1_less_53 ?_
      obtain ⟨h133, hf134⟩ := chk_of hf130; clear hf130
      refine j_last X h133 dX1_less_54 (fun σ135 eσ135 => ?_)
      replace hf134 := lt_of hf134 σ135 eσ135
      have h137 : isO σ135 1 a0 := by rw [eσ135]; exact h112
      have h138 : isO σ135 1 a2 := by rw [eσ135]; exact h113
      refine j_aload_n X dX1_less_55 1 rfl rfl ?_
      obtain ⟨i139, h140, hf141⟩ := bd_of hf134; clear hf134
      refine j_getr X fd_X1_7 h137 h140 dX1_less_56 ?_
      refine j_iload_n X dX1_less_59 2 rfl rfl ?_
      refine j_lload X dX1_less_60 0 rfl ?_
      obtain ⟨h142, hf143⟩ := chk_of hf141; clear hf141
      refine j_last X h142 dX1_less_62 (fun σ144 eσ144 => ?_)
      replace hf143 := lt_of hf143 σ144 eσ144
      have h146 : isO σ144 1 a0 := by rw [eσ144]; exact h137
      have h147 : isO σ144 1 a2 := by rw [eσ144]; exact h138
      obtain ⟨er, es⟩ := rt_of hf143
      exact j_retv X hr hlk (Nat.le_of_ble_eq_true rfl) (Nat.le_of_ble_eq_true rfl) rfl es.symm rfl dX1_less_63
abbrev rm_X1_productFits : Room := { frames := 0, cells := 0, slots := 0, locals := 0 }
set_option maxHeartbeats 4000000 in
set_option maxRecDepth 100000 in
theorem c_X1_productFits (l : Launch) (D : va_G) (cs : Nat → ClassId) (q : Nat → Nat) (a0 : Int64) (a2 : Int64) (σ σ0 : HS) (r0 : Int32) (hf0 : f_X1_productFits a0 a2 σ = some (r0, σ0)) : MT l yX1_productFits (Cond.code yX1_productFits cX1_productFits 5 (some .boolean) :: lw_g) rm_X1_productFits D cs q σ σ0 [.long a0, .long a2] (fun z => z = q) (fun _ => some (.int r0)) 0 0 := by
  unfold f_X1_productFits at hf0
  refine MT_of (cc := cX1_productFits) (lv0 := [(0, .long a0), (2, .long a2)]) (by decide) (Nat.le_of_ble_eq_true rfl) rfl (fun p e s m args below meth c A X hr hlk hin => ?_)
  refine j_lload_n X dX1_productFits_0 0 rfl rfl ?_
  refine j_lload_n X dX1_productFits_1 0 rfl rfl ?_
  refine j_l2i X dX1_productFits_2 ?_
  refine j_i2l X dX1_productFits_3 ?_
  refine j_lcmp X dX1_productFits_4 ?_
  refine j_if_ne X (tgt := 20) dX1_productFits_5 (by decide) (fun c1 => ?_) (fun c1 => ?_)
  · have hf2 := br_n hf0 c1; clear hf0
    refine j_iconst X (v := 0) dX1_productFits_20 (by decide) ?_
    refine j_nmi (fun v4 ev4 => ?_)
    replace hf2 := lt_of hf2 v4 ev4
    refine j_istore X (lv' := [(4, .int v4), (0, .long a0), (2, .long a2)]) dX1_productFits_21 (by decide) rfl ?_
    refine j_iload X dX1_productFits_23 0 rfl ?_
    refine j_if_ne X (tgt := 34) dX1_productFits_25 (by decide) (fun c6 => ?_) (fun c6 => ?_)
    · have hf7 := br_n hf2 c6; clear hf2
      refine j_iconst X (v := 1) dX1_productFits_34 (by decide) ?_
      obtain ⟨er, es⟩ := rt_of hf7
      subst er
      exact j_retz X hr hlk (Nat.le_of_ble_eq_true rfl) (Nat.le_of_ble_eq_true rfl) rfl es.symm rfl (Or.inr rfl) dX1_productFits_35
    · have hf8 := br_y hf2 c6; clear hf2
      refine j_lload_n X dX1_productFits_28 1 rfl rfl ?_
      refine j_lconst X (v := 0) dX1_productFits_29 (by decide) ?_
      refine j_lcmp X dX1_productFits_30 ?_
      refine j_if_ne X (tgt := 36) dX1_productFits_31 (by decide) (fun c9 => ?_) (fun c9 => ?_)
      · have hf10 := br_n hf8 c9; clear hf8
        refine j_lload_n X dX1_productFits_36 1 rfl rfl ?_
        refine j_ldc2 X k_X1_45 dX1_productFits_37 ?_
        refine j_lcmp X dX1_productFits_40 ?_
        refine j_if_ne X (tgt := 60) dX1_productFits_41 (by decide) (fun c12 => ?_) (fun c12 => ?_)
        · have hf13 := br_n hf10 c12; clear hf10
          refine j_lload_n X dX1_productFits_60 1 rfl rfl ?_
          refine j_lload_n X dX1_productFits_61 2 rfl rfl ?_
          refine j_lmul X dX1_productFits_62 ?_
          refine j_lload_n X dX1_productFits_63 1 rfl rfl ?_
          obtain ⟨h15, hf16⟩ := chk_of hf13; clear hf13
          refine j_ldiv X dX1_productFits_64 h15 ?_
          refine j_lload_n X dX1_productFits_65 2 rfl rfl ?_
          refine j_lcmp X dX1_productFits_66 ?_
          refine j_if_ne X (tgt := 74) dX1_productFits_67 (by decide) (fun c17 => ?_) (fun c17 => ?_)
          · have hf18 := br_n hf16 c17; clear hf16
            refine j_iconst X (v := 0) dX1_productFits_74 (by decide) ?_
            obtain ⟨er, es⟩ := rt_of hf18
            subst er
            exact j_retz X hr hlk (Nat.le_of_ble_eq_true rfl) (Nat.le_of_ble_eq_true rfl) rfl es.symm rfl (Or.inl rfl) dX1_productFits_75
          · have hf19 := br_y hf16 c17; clear hf16
            refine j_iconst X (v := 1) dX1_productFits_70 (by decide) ?_
            refine j_goto X (tgt := 75) dX1_productFits_71 (by decide) ?_
            obtain ⟨er, es⟩ := rt_of hf19
            subst er
            exact j_retz X hr hlk (Nat.le_of_ble_eq_true rfl) (Nat.le_of_ble_eq_true rfl) rfl es.symm rfl (Or.inr rfl) dX1_productFits_75
        · have hf14 := br_y hf10 c12; clear hf10
          refine j_lload_n X dX1_productFits_44 2 rfl rfl ?_
          refine j_ldc2 X k_X1_22 dX1_productFits_45 ?_
          refine j_lcmp X dX1_productFits_48 ?_
          refine j_if_eq X (tgt := 56) dX1_productFits_49 (by decide) (fun c20 => ?_) (fun c20 => ?_)
          · have hf21 := br_y hf14 c20; clear hf14
            refine j_iconst X (v := 0) dX1_productFits_56 (by decide) ?_
            refine j_goto X (tgt := 75) dX1_productFits_57 (by decide) ?_
            obtain ⟨er, es⟩ := rt_of hf21
            subst er
            exact j_retz X hr hlk (Nat.le_of_ble_eq_true rfl) (Nat.le_of_ble_eq_true rfl) rfl es.symm rfl (Or.inl rfl) dX1_productFits_75
          · have hf22 := br_n hf14 c20; clear hf14
            refine j_iconst X (v := 1) dX1_productFits_52 (by decide) ?_
            refine j_goto X (tgt := 75) dX1_productFits_53 (by decide) ?_
            obtain ⟨er, es⟩ := rt_of hf22
            subst er
            exact j_retz X hr hlk (Nat.le_of_ble_eq_true rfl) (Nat.le_of_ble_eq_true rfl) rfl es.symm rfl (Or.inr rfl) dX1_productFits_75
      · have hf11 := br_y hf8 c9; clear hf8
        refine j_iconst X (v := 1) dX1_productFits_34 (by decide) ?_
        obtain ⟨er, es⟩ := rt_of hf11
        subst er
        exact j_retz X hr hlk (Nat.le_of_ble_eq_true rfl) (Nat.le_of_ble_eq_true rfl) rfl es.symm rfl (Or.inr rfl) dX1_productFits_35
  · have hf3 := br_y hf0 c1; clear hf0
    refine j_lload_n X dX1_productFits_8 1 rfl rfl ?_
    refine j_lload_n X dX1_productFits_9 1 rfl rfl ?_
    refine j_l2i X dX1_productFits_10 ?_
    refine j_i2l X dX1_productFits_11 ?_
    refine j_lcmp X dX1_productFits_12 ?_
    refine j_if_ne X (tgt := 20) dX1_productFits_13 (by decide) (fun c23 => ?_) (fun c23 => ?_)
    · have hf24 := br_n hf3 c23; clear hf3
      refine j_iconst X (v := 0) dX1_productFits_20 (by decide) ?_
      refine j_nmi (fun v26 ev26 => ?_)
      replace hf24 := lt_of hf24 v26 ev26
      refine j_istore X (lv' := [(4, .int v26), (0, .long a0), (2, .long a2)]) dX1_productFits_21 (by decide) rfl ?_
      refine j_iload X dX1_productFits_23 0 rfl ?_
      refine j_if_ne X (tgt := 34) dX1_productFits_25 (by decide) (fun c28 => ?_) (fun c28 => ?_)
      · have hf29 := br_n hf24 c28; clear hf24
        refine j_iconst X (v := 1) dX1_productFits_34 (by decide) ?_
        obtain ⟨er, es⟩ := rt_of hf29
        subst er
        exact j_retz X hr hlk (Nat.le_of_ble_eq_true rfl) (Nat.le_of_ble_eq_true rfl) rfl es.symm rfl (Or.inr rfl) dX1_productFits_35
      · have hf30 := br_y hf24 c28; clear hf24
        refine j_lload_n X dX1_productFits_28 1 rfl rfl ?_
        refine j_lconst X (v := 0) dX1_productFits_29 (by decide) ?_
        refine j_lcmp X dX1_productFits_30 ?_
        refine j_if_ne X (tgt := 36) dX1_productFits_31 (by decide) (fun c31 => ?_) (fun c31 => ?_)
        · have hf32 := br_n hf30 c31; clear hf30
          refine j_lload_n X dX1_productFits_36 1 rfl rfl ?_
          refine j_ldc2 X k_X1_45 dX1_productFits_37 ?_
          refine j_lcmp X dX1_productFits_40 ?_
          refine j_if_ne X (tgt := 60) dX1_productFits_41 (by decide) (fun c34 => ?_) (fun c34 => ?_)
          · have hf35 := br_n hf32 c34; clear hf32
            refine j_lload_n X dX1_productFits_60 1 rfl rfl ?_
            refine j_lload_n X dX1_productFits_61 2 rfl rfl ?_
            refine j_lmul X dX1_productFits_62 ?_
            refine j_lload_n X dX1_productFits_63 1 rfl rfl ?_
            obtain ⟨h37, hf38⟩ := chk_of hf35; clear hf35
            refine j_ldiv X dX1_productFits_64 h37 ?_
            refine j_lload_n X dX1_productFits_65 2 rfl rfl ?_
            refine j_lcmp X dX1_productFits_66 ?_
            refine j_if_ne X (tgt := 74) dX1_productFits_67 (by decide) (fun c39 => ?_) (fun c39 => ?_)
            · have hf40 := br_n hf38 c39; clear hf38
              refine j_iconst X (v := 0) dX1_productFits_74 (by decide) ?_
              obtain ⟨er, es⟩ := rt_of hf40
              subst er
              exact j_retz X hr hlk (Nat.le_of_ble_eq_true rfl) (Nat.le_of_ble_eq_true rfl) rfl es.symm rfl (Or.inl rfl) dX1_productFits_75
            · have hf41 := br_y hf38 c39; clear hf38
              refine j_iconst X (v := 1) dX1_productFits_70 (by decide) ?_
              refine j_goto X (tgt := 75) dX1_productFits_71 (by decide) ?_
              obtain ⟨er, es⟩ := rt_of hf41
              subst er
              exact j_retz X hr hlk (Nat.le_of_ble_eq_true rfl) (Nat.le_of_ble_eq_true rfl) rfl es.symm rfl (Or.inr rfl) dX1_productFits_75
          · have hf36 := br_y hf32 c34; clear hf32
            refine j_lload_n X dX1_productFits_44 2 rfl rfl ?_
            refine j_ldc2 X k_X1_22 dX1_productFits_45 ?_
            refine j_lcmp X dX1_productFits_48 ?_
            refine j_if_eq X (tgt := 56) dX1_productFits_49 (by decide) (fun c42 => ?_) (fun c42 => ?_)
            · have hf43 := br_y hf36 c42; clear hf36
              refine j_iconst X (v := 0) dX1_productFits_56 (by decide) ?_
              refine j_goto X (tgt := 75) dX1_productFits_57 (by decide) ?_
              obtain ⟨er, es⟩ := rt_of hf43
              subst er
              exact j_retz X hr hlk (Nat.le_of_ble_eq_true rfl) (Nat.le_of_ble_eq_true rfl) rfl es.symm rfl (Or.inl rfl) dX1_productFits_75
            · have hf44 := br_n hf36 c42; clear hf36
              refine j_iconst X (v := 1) dX1_productFits_52 (by decide) ?_
              refine j_goto X (tgt := 75) dX1_productFits_53 (by decide) ?_
              obtain ⟨er, es⟩ := rt_of hf44
              subst er
              exact j_retz X hr hlk (Nat.le_of_ble_eq_true rfl) (Nat.le_of_ble_eq_true rfl) rfl es.symm rfl (Or.inr rfl) dX1_productFits_75
        · have hf33 := br_y hf30 c31; clear hf30
          refine j_iconst X (v := 1) dX1_productFits_34 (by decide) ?_
          obtain ⟨er, es⟩ := rt_of hf33
          subst er
          exact j_retz X hr hlk (Nat.le_of_ble_eq_true rfl) (Nat.le_of_ble_eq_true rfl) rfl es.symm rfl (Or.inr rfl) dX1_productFits_35
    · have hf25 := br_y hf3 c23; clear hf3
      refine j_iconst X (v := 1) dX1_productFits_16 (by decide) ?_
      refine j_goto X (tgt := 21) dX1_productFits_17 (by decide) ?_
      refine j_nmi (fun v45 ev45 => ?_)
      replace hf25 := lt_of hf25 v45 ev45
      refine j_istore X (lv' := [(4, .int v45), (0, .long a0), (2, .long a2)]) dX1_productFits_21 (by decide) rfl ?_
      refine j_iload X dX1_productFits_23 0 rfl ?_
      refine j_if_ne X (tgt := 34) dX1_productFits_25 (by decide) (fun c47 => ?_) (fun c47 => ?_)
      · have hf48 := br_n hf25 c47; clear hf25
        refine j_iconst X (v := 1) dX1_productFits_34 (by decide) ?_
        obtain ⟨er, es⟩ := rt_of hf48
        subst er
        exact j_retz X hr hlk (Nat.le_of_ble_eq_true rfl) (Nat.le_of_ble_eq_true rfl) rfl es.symm rfl (Or.inr rfl) dX1_productFits_35
      · have hf49 := br_y hf25 c47; clear hf25
        refine j_lload_n X dX1_productFits_28 1 rfl rfl ?_
        refine j_lconst X (v := 0) dX1_productFits_29 (by decide) ?_
        refine j_lcmp X dX1_productFits_30 ?_
        refine j_if_ne X (tgt := 36) dX1_productFits_31 (by decide) (fun c50 => ?_) (fun c50 => ?_)
        · have hf51 := br_n hf49 c50; clear hf49
          refine j_lload_n X dX1_productFits_36 1 rfl rfl ?_
          refine j_ldc2 X k_X1_45 dX1_productFits_37 ?_
          refine j_lcmp X dX1_productFits_40 ?_
          refine j_if_ne X (tgt := 60) dX1_productFits_41 (by decide) (fun c53 => ?_) (fun c53 => ?_)
          · have hf54 := br_n hf51 c53; clear hf51
            refine j_lload_n X dX1_productFits_60 1 rfl rfl ?_
            refine j_lload_n X dX1_productFits_61 2 rfl rfl ?_
            refine j_lmul X dX1_productFits_62 ?_
            refine j_lload_n X dX1_productFits_63 1 rfl rfl ?_
            obtain ⟨h56, hf57⟩ := chk_of hf54; clear hf54
            refine j_ldiv X dX1_productFits_64 h56 ?_
            refine j_lload_n X dX1_productFits_65 2 rfl rfl ?_
            refine j_lcmp X dX1_productFits_66 ?_
            refine j_if_ne X (tgt := 74) dX1_productFits_67 (by decide) (fun c58 => ?_) (fun c58 => ?_)
            · have hf59 := br_n hf57 c58; clear hf57
              refine j_iconst X (v := 0) dX1_productFits_74 (by decide) ?_
              obtain ⟨er, es⟩ := rt_of hf59
              subst er
              exact j_retz X hr hlk (Nat.le_of_ble_eq_true rfl) (Nat.le_of_ble_eq_true rfl) rfl es.symm rfl (Or.inl rfl) dX1_productFits_75
            · have hf60 := br_y hf57 c58; clear hf57
              refine j_iconst X (v := 1) dX1_productFits_70 (by decide) ?_
              refine j_goto X (tgt := 75) dX1_productFits_71 (by decide) ?_
              obtain ⟨er, es⟩ := rt_of hf60
              subst er
              exact j_retz X hr hlk (Nat.le_of_ble_eq_true rfl) (Nat.le_of_ble_eq_true rfl) rfl es.symm rfl (Or.inr rfl) dX1_productFits_75
          · have hf55 := br_y hf51 c53; clear hf51
            refine j_lload_n X dX1_productFits_44 2 rfl rfl ?_
            refine j_ldc2 X k_X1_22 dX1_productFits_45 ?_
            refine j_lcmp X dX1_productFits_48 ?_
            refine j_if_eq X (tgt := 56) dX1_productFits_49 (by decide) (fun c61 => ?_) (fun c61 => ?_)
            · have hf62 := br_y hf55 c61; clear hf55
              refine j_iconst X (v := 0) dX1_productFits_56 (by decide) ?_
              refine j_goto X (tgt := 75) dX1_productFits_57 (by decide) ?_
              obtain ⟨er, es⟩ := rt_of hf62
              subst er
              exact j_retz X hr hlk (Nat.le_of_ble_eq_true rfl) (Nat.le_of_ble_eq_true rfl) rfl es.symm rfl (Or.inl rfl) dX1_productFits_75
            · have hf63 := br_n hf55 c61; clear hf55
              refine j_iconst X (v := 1) dX1_productFits_52 (by decide) ?_
              refine j_goto X (tgt := 75) dX1_productFits_53 (by decide) ?_
              obtain ⟨er, es⟩ := rt_of hf63
              subst er
              exact j_retz X hr hlk (Nat.le_of_ble_eq_true rfl) (Nat.le_of_ble_eq_true rfl) rfl es.symm rfl (Or.inr rfl) dX1_productFits_75
        · have hf52 := br_y hf49 c50; clear hf49
          refine j_iconst X (v := 1) dX1_productFits_34 (by decide) ?_
          obtain ⟨er, es⟩ := rt_of hf52
          subst er
          exact j_retz X hr hlk (Nat.le_of_ble_eq_true rfl) (Nat.le_of_ble_eq_true rfl) rfl es.symm rfl (Or.inr rfl) dX1_productFits_35
abbrev rm_X1_product : Room := { frames := 1, cells := 0, slots := 0, locals := 64 }
set_option maxHeartbeats 4000000 in
set_option maxRecDepth 100000 in
theorem c_X1_product (l : Launch) (D : va_G) (cs : Nat → ClassId) (q : Nat → Nat) (a0 : Nat) (a1 : Int32) (a2 : Nat) (a3 : Int32) (a4 : Nat) (a5 : Int32) (σ σ0 : HS) (r0 : Unit) (hf0 : f_X1_product a0 a1 a2 a3 a4 a5 σ = some (r0, σ0)) : MT l yX1_product (Cond.code yX1_product cX1_product 14 none :: lw_g) rm_X1_product D cs q σ σ0 [.ref (q a0), .int a1, .ref (q a2), .int a3, .ref (q a4), .int a5] (fun z => z = q) (fun _ => none) 0 0 := by
  unfold f_X1_product at hf0
  refine MT_of (cc := cX1_product) (lv0 := [(0, .ref (q a0)), (1, .int a1), (2, .ref (q a2)), (3, .int a3), (4, .ref (q a4)), (5, .int a5)]) (by decide) (Nat.le_of_ble_eq_true rfl) rfl (fun p e s m args below meth c A X hr hlk hin => ?_)
  refine j_aload_n X dX1_product_0 2 rfl rfl ?_
  obtain ⟨h1, hf2⟩ := chk_of hf0; clear hf0
  obtain ⟨i3, h4, hf5⟩ := bd_of hf2; clear hf2
  refine j_getr X fd_X1_7 h1 h4 dX1_product_1 ?_
  refine j_iload_n X dX1_product_4 3 rfl rfl ?_
  obtain ⟨h6, hf7⟩ := chk_of hf5; clear hf5
  refine j_lald X h6 dX1_product_5 (fun v8 ev8 => ?_)
  replace hf7 := lt_of hf7 v8 ev8
  refine j_lstore X (lv' := [(6, .long v8), (0, .ref (q a0)), (1, .int a1), (2, .ref (q a2)), (3, .int a3), (4, .ref (q a4)), (5, .int a5)]) dX1_product_6 (by decide) rfl ?_
  refine j_aload_n X dX1_product_8 3 rfl rfl ?_
  obtain ⟨i10, h11, hf12⟩ := bd_of hf7; clear hf7
  refine j_getr X fd_X1_13 h1 h11 dX1_product_9 ?_
  refine j_iload_n X dX1_product_12 4 rfl rfl ?_
  obtain ⟨h13, hf14⟩ := chk_of hf12; clear hf12
  refine j_lald X h13 dX1_product_13 (fun v15 ev15 => ?_)
  replace hf14 := lt_of hf14 v15 ev15
  refine j_lstore X (lv' := [(8, .long v15), (6, .long v8), (0, .ref (q a0)), (1, .int a1), (2, .ref (q a2)), (3, .int a3), (4, .ref (q a4)), (5, .int a5)]) dX1_product_14 (by decide) rfl ?_
  refine j_aload X dX1_product_16 6 rfl ?_
  obtain ⟨h17, hf18⟩ := chk_of hf14; clear hf14
  obtain ⟨i19, h20, hf21⟩ := bd_of hf18; clear hf18
  refine j_getr X fd_X1_7 h17 h20 dX1_product_18 ?_
  refine j_iload X dX1_product_21 7 rfl ?_
  obtain ⟨h22, hf23⟩ := chk_of hf21; clear hf21
  refine j_lald X h22 dX1_product_23 (fun v24 ev24 => ?_)
  replace hf23 := lt_of hf23 v24 ev24
  refine j_lstore X (lv' := [(10, .long v24), (8, .long v15), (6, .long v8), (0, .ref (q a0)), (1, .int a1), (2, .ref (q a2)), (3, .int a3), (4, .ref (q a4)), (5, .int a5)]) dX1_product_24 (by decide) rfl ?_
  refine j_aload X dX1_product_26 7 rfl ?_
  obtain ⟨i26, h27, hf28⟩ := bd_of hf23; clear hf23
  refine j_getr X fd_X1_13 h17 h27 dX1_product_28 ?_
  refine j_iload X dX1_product_31 8 rfl ?_
  obtain ⟨h29, hf30⟩ := chk_of hf28; clear hf28
  refine j_lald X h29 dX1_product_33 (fun v31 ev31 => ?_)
  replace hf30 := lt_of hf30 v31 ev31
  refine j_lstore X (lv' := [(12, .long v31), (10, .long v24), (8, .long v15), (6, .long v8), (0, .ref (q a0)), (1, .int a1), (2, .ref (q a2)), (3, .int a3), (4, .ref (q a4)), (5, .int a5)]) dX1_product_34 (by decide) rfl ?_
  refine j_aload_n X dX1_product_36 4 rfl rfl ?_
  obtain ⟨h33, hf34⟩ := chk_of hf30; clear hf30
  obtain ⟨i35, h36, hf37⟩ := bd_of hf34; clear hf34
  refine j_getr X fd_X1_16 h33 h36 dX1_product_37 ?_
  refine j_iload_n X dX1_product_40 5 rfl rfl ?_
  refine j_aload_n X dX1_product_41 6 rfl rfl ?_
  obtain ⟨i38, h39, hf40⟩ := bd_of hf37; clear hf37
  refine j_getr X fd_X1_16 h1 h39 dX1_product_42 ?_
  refine j_iload_n X dX1_product_45 7 rfl rfl ?_
  obtain ⟨h41, hf42⟩ := chk_of hf40; clear hf40
  refine j_zald X h41 dX1_product_46 (fun v43 ev43 => ?_)
  replace hf42 := lt_of hf42 v43 ev43
  refine j_if_ne X (tgt := 101) dX1_product_47 (by decide) (fun c45 => ?_) (fun c45 => ?_)
  · have hf46 := br_n hf42 c45; clear hf42
    refine j_iconst X (v := 1) dX1_product_101 (by decide) ?_
    refine j_goto X (tgt := 106) dX1_product_102 (by decide) ?_
    obtain ⟨h48, hf49⟩ := chk_of hf46; clear hf46
    refine j_zast X h48 (Or.inr rfl) dX1_product_106 (fun σ50 eσ50 => ?_)
    replace hf49 := lt_of hf49 σ50 eσ50
    have h52 : isO σ50 1 a2 := by rw [eσ50]; exact h1
    have h53 : isO σ50 1 a4 := by rw [eσ50]; exact h17
    have h54 : isO σ50 1 a0 := by rw [eσ50]; exact h33
    refine j_aload_n X dX1_product_107 4 rfl rfl ?_
    obtain ⟨i55, h56, hf57⟩ := bd_of hf49; clear hf49
    refine j_getr X fd_X1_7 h54 h56 dX1_product_108 ?_
    refine j_iload_n X dX1_product_111 5 rfl rfl ?_
    refine j_lload X dX1_product_112 3 rfl ?_
    refine j_lload X dX1_product_114 1 rfl ?_
    refine j_lmul X dX1_product_116 ?_
    refine j_lload X dX1_product_117 3 rfl ?_
    refine j_lload X dX1_product_119 0 rfl ?_
    refine j_lmul X dX1_product_121 ?_
    refine j_mmin_long X ml_X1_34 (Nat.le_of_ble_eq_true rfl) (Nat.le_of_ble_eq_true rfl) (Nat.le_of_ble_eq_true rfl) (Nat.le_of_ble_eq_true rfl) dX1_product_122 (fun v58 ev58 => ?_)
    replace hf57 := lt_of hf57 v58 ev58
    refine j_lload X dX1_product_125 2 rfl ?_
    refine j_lload X dX1_product_127 1 rfl ?_
    refine j_lmul X dX1_product_129 ?_
    refine j_lload X dX1_product_130 2 rfl ?_
    refine j_lload X dX1_product_132 0 rfl ?_
    refine j_lmul X dX1_product_134 ?_
    refine j_mmin_long X ml_X1_34 (Nat.le_of_ble_eq_true rfl) (Nat.le_of_ble_eq_true rfl) (Nat.le_of_ble_eq_true rfl) (Nat.le_of_ble_eq_true rfl) dX1_product_135 (fun v60 ev60 => ?_)
    replace hf57 := lt_of hf57 v60 ev60
    refine j_mmin_long X ml_X1_34 (Nat.le_of_ble_eq_true rfl) (Nat.le_of_ble_eq_true rfl) (Nat.le_of_ble_eq_true rfl) (Nat.le_of_ble_eq_true rfl) dX1_product_138 (fun v62 ev62 => ?_)
    replace hf57 := lt_of hf57 v62 ev62
    obtain ⟨h64, hf65⟩ := chk_of hf57; clear hf57
    refine j_last X h64 dX1_product_141 (fun σ66 eσ66 => ?_)
    replace hf65 := lt_of hf65 σ66 eσ66
    have h68 : isO σ66 1 a2 := by rw [eσ66]; exact h52
    have h69 : isO σ66 1 a4 := by rw [eσ66]; exact h53
    have h70 : isO σ66 1 a0 := by rw [eσ66]; exact h54
    refine j_aload_n X dX1_product_142 4 rfl rfl ?_
    obtain ⟨i71, h72, hf73⟩ := bd_of hf65; clear hf65
    refine j_getr X fd_X1_13 h70 h72 dX1_product_143 ?_
    refine j_iload_n X dX1_product_146 5 rfl rfl ?_
    refine j_lload X dX1_product_147 3 rfl ?_
    refine j_lload X dX1_product_149 1 rfl ?_
    refine j_lmul X dX1_product_151 ?_
    refine j_lload X dX1_product_152 3 rfl ?_
    refine j_lload X dX1_product_154 0 rfl ?_
    refine j_lmul X dX1_product_156 ?_
    refine j_mmax_long X ml_X1_40 (Nat.le_of_ble_eq_true rfl) (Nat.le_of_ble_eq_true rfl) (Nat.le_of_ble_eq_true rfl) (Nat.le_of_ble_eq_true rfl) dX1_product_157 (fun v74 ev74 => ?_)
    replace hf73 := lt_of hf73 v74 ev74
    refine j_lload X dX1_product_160 2 rfl ?_
    refine j_lload X dX1_product_162 1 rfl ?_
    refine j_lmul X dX1_product_164 ?_
    refine j_lload X dX1_product_165 2 rfl ?_
    refine j_lload X dX1_product_167 0 rfl ?_
    refine j_lmul X dX1_product_169 ?_
    refine j_mmax_long X ml_X1_40 (Nat.le_of_ble_eq_true rfl) (Nat.le_of_ble_eq_true rfl) (Nat.le_of_ble_eq_true rfl) (Nat.le_of_ble_eq_true rfl) dX1_product_170 (fun v76 ev76 => ?_)
    replace hf73 := lt_of hf73 v76 ev76
    refine j_mmax_long X ml_X1_40 (Nat.le_of_ble_eq_true rfl) (Nat.le_of_ble_eq_true rfl) (Nat.le_of_ble_eq_true rfl) (Nat.le_of_ble_eq_true rfl) dX1_product_173 (fun v78 ev78 => ?_)
    replace hf73 := lt_of hf73 v78 ev78
    obtain ⟨h80, hf81⟩ := chk_of hf73; clear hf73
    refine j_last X h80 dX1_product_176 (fun σ82 eσ82 => ?_)
    replace hf81 := lt_of hf81 σ82 eσ82
    have h84 : isO σ82 1 a2 := by rw [eσ82]; exact h68
    have h85 : isO σ82 1 a4 := by rw [eσ82]; exact h69
    have h86 : isO σ82 1 a0 := by rw [eσ82]; exact h70
    obtain ⟨er, es⟩ := rt_of hf81
    exact j_retv X hr hlk (Nat.le_of_ble_eq_true rfl) (Nat.le_of_ble_eq_true rfl) rfl es.symm rfl dX1_product_177
  · have hf47 := br_y hf42 c45; clear hf42
    refine j_aload X dX1_product_50 8 rfl ?_
    obtain ⟨i87, h88, hf89⟩ := bd_of hf47; clear hf47
    refine j_getr X fd_X1_16 h17 h88 dX1_product_52 ?_
    refine j_iload X dX1_product_55 9 rfl ?_
    obtain ⟨h90, hf91⟩ := chk_of hf89; clear hf89
    refine j_zald X h90 dX1_product_57 (fun v92 ev92 => ?_)
    replace hf91 := lt_of hf91 v92 ev92
    refine j_if_ne X (tgt := 101) dX1_product_58 (by decide) (fun c94 => ?_) (fun c94 => ?_)
    · have hf95 := br_n hf91 c94; clear hf91
      refine j_iconst X (v := 1) dX1_product_101 (by decide) ?_
      refine j_goto X (tgt := 106) dX1_product_102 (by decide) ?_
      obtain ⟨h97, hf98⟩ := chk_of hf95; clear hf95
      refine j_zast X h97 (Or.inr rfl) dX1_product_106 (fun σ99 eσ99 => ?_)
      replace hf98 := lt_of hf98 σ99 eσ99
      have h101 : isO σ99 1 a2 := by rw [eσ99]; exact h1
      have h102 : isO σ99 1 a4 := by rw [eσ99]; exact h17
      have h103 : isO σ99 1 a0 := by rw [eσ99]; exact h33
      refine j_aload_n X dX1_product_107 4 rfl rfl ?_
      obtain ⟨i104, h105, hf106⟩ := bd_of hf98; clear hf98
      refine j_getr X fd_X1_7 h103 h105 dX1_product_108 ?_
      refine j_iload_n X dX1_product_111 5 rfl rfl ?_
      refine j_lload X dX1_product_112 3 rfl ?_
      refine j_lload X dX1_product_114 1 rfl ?_
      refine j_lmul X dX1_product_116 ?_
      refine j_lload X dX1_product_117 3 rfl ?_
      refine j_lload X dX1_product_119 0 rfl ?_
      refine j_lmul X dX1_product_121 ?_
      refine j_mmin_long X ml_X1_34 (Nat.le_of_ble_eq_true rfl) (Nat.le_of_ble_eq_true rfl) (Nat.le_of_ble_eq_true rfl) (Nat.le_of_ble_eq_true rfl) dX1_product_122 (fun v107 ev107 => ?_)
      replace hf106 := lt_of hf106 v107 ev107
      refine j_lload X dX1_product_125 2 rfl ?_
      refine j_lload X dX1_product_127 1 rfl ?_
      refine j_lmul X dX1_product_129 ?_
      refine j_lload X dX1_product_130 2 rfl ?_
      refine j_lload X dX1_product_132 0 rfl ?_
      refine j_lmul X dX1_product_134 ?_
      refine j_mmin_long X ml_X1_34 (Nat.le_of_ble_eq_true rfl) (Nat.le_of_ble_eq_true rfl) (Nat.le_of_ble_eq_true rfl) (Nat.le_of_ble_eq_true rfl) dX1_product_135 (fun v109 ev109 => ?_)
      replace hf106 := lt_of hf106 v109 ev109
      refine j_mmin_long X ml_X1_34 (Nat.le_of_ble_eq_true rfl) (Nat.le_of_ble_eq_true rfl) (Nat.le_of_ble_eq_true rfl) (Nat.le_of_ble_eq_true rfl) dX1_product_138 (fun v111 ev111 => ?_)
      replace hf106 := lt_of hf106 v111 ev111
      obtain ⟨h113, hf114⟩ := chk_of hf106; clear hf106
      refine j_last X h113 dX1_product_141 (fun σ115 eσ115 => ?_)
      replace hf114 := lt_of hf114 σ115 eσ115
      have h117 : isO σ115 1 a2 := by rw [eσ115]; exact h101
      have h118 : isO σ115 1 a4 := by rw [eσ115]; exact h102
      have h119 : isO σ115 1 a0 := by rw [eσ115]; exact h103
      refine j_aload_n X dX1_product_142 4 rfl rfl ?_
      obtain ⟨i120, h121, hf122⟩ := bd_of hf114; clear hf114
      refine j_getr X fd_X1_13 h119 h121 dX1_product_143 ?_
      refine j_iload_n X dX1_product_146 5 rfl rfl ?_
      refine j_lload X dX1_product_147 3 rfl ?_
      refine j_lload X dX1_product_149 1 rfl ?_
      refine j_lmul X dX1_product_151 ?_
      refine j_lload X dX1_product_152 3 rfl ?_
      refine j_lload X dX1_product_154 0 rfl ?_
      refine j_lmul X dX1_product_156 ?_
      refine j_mmax_long X ml_X1_40 (Nat.le_of_ble_eq_true rfl) (Nat.le_of_ble_eq_true rfl) (Nat.le_of_ble_eq_true rfl) (Nat.le_of_ble_eq_true rfl) dX1_product_157 (fun v123 ev123 => ?_)
      replace hf122 := lt_of hf122 v123 ev123
      refine j_lload X dX1_product_160 2 rfl ?_
      refine j_lload X dX1_product_162 1 rfl ?_
      refine j_lmul X dX1_product_164 ?_
      refine j_lload X dX1_product_165 2 rfl ?_
      refine j_lload X dX1_product_167 0 rfl ?_
      refine j_lmul X dX1_product_169 ?_
      refine j_mmax_long X ml_X1_40 (Nat.le_of_ble_eq_true rfl) (Nat.le_of_ble_eq_true rfl) (Nat.le_of_ble_eq_true rfl) (Nat.le_of_ble_eq_true rfl) dX1_product_170 (fun v125 ev125 => ?_)
      replace hf122 := lt_of hf122 v125 ev125
      refine j_mmax_long X ml_X1_40 (Nat.le_of_ble_eq_true rfl) (Nat.le_of_ble_eq_true rfl) (Nat.le_of_ble_eq_true rfl) (Nat.le_of_ble_eq_true rfl) dX1_product_173 (fun v127 ev127 => ?_)
      replace hf122 := lt_of hf122 v127 ev127
      obtain ⟨h129, hf130⟩ := chk_of hf122; clear hf122
      refine j_last X h129 dX1_product_176 (fun σ131 eσ131 => ?_)
      replace hf130 := lt_of hf130 σ131 eσ131
      have h133 : isO σ131 1 a2 := by rw [eσ131]; exact h117
      have h134 : isO σ131 1 a4 := by rw [eσ131]; exact h118
      have h135 : isO σ131 1 a0 := by rw [eσ131]; exact h119
      obtain ⟨er, es⟩ := rt_of hf130
      exact j_retv X hr hlk (Nat.le_of_ble_eq_true rfl) (Nat.le_of_ble_eq_true rfl) rfl es.symm rfl dX1_product_177
    · have hf96 := br_y hf91 c94; clear hf91
      refine j_lload X dX1_product_61 3 rfl ?_
      refine j_lload X dX1_product_63 1 rfl ?_
      obtain ⟨r136, σ137, h138, hf139⟩ := bc_of hf96; clear hf96
      refine j_callS0 X [.long v8, .long v24] [.int a1, .ref (q i35)] (c_X1_productFits l D cs q v8 v24 σ _ _ h138) mk_X1_productFits ms_X1_productFits ml_X1_31 ⟨rfl, rfl⟩ ⟨Nat.le_of_ble_eq_true rfl, Nat.le_of_ble_eq_true rfl⟩ rfl (Nat.le_of_ble_eq_true rfl) ⟨Nat.le_of_ble_eq_true rfl, Nat.le_of_ble_eq_true rfl⟩ dX1_product_65 rfl (st' := [.int r136, .int a1, .ref (q i35)]) rfl ?_
      refine j_if_eq X (tgt := 101) dX1_product_68 (by decide) (fun c140 => ?_) (fun c140 => ?_)
      · have hf141 := br_y hf139 c140; clear hf139
        refine j_iconst X (v := 1) dX1_product_101 (by decide) ?_
        refine j_goto X (tgt := 106) dX1_product_102 (by decide) ?_
        obtain ⟨h143, hf144⟩ := chk_of hf141; clear hf141
        refine j_zast X h143 (Or.inr rfl) dX1_product_106 (fun σ145 eσ145 => ?_)
        replace hf144 := lt_of hf144 σ145 eσ145
        refine j_aload_n X dX1_product_107 4 rfl rfl ?_
        obtain ⟨h147, hf148⟩ := chk_of hf144; clear hf144
        obtain ⟨i149, h150, hf151⟩ := bd_of hf148; clear hf148
        refine j_getr X fd_X1_7 h147 h150 dX1_product_108 ?_
        refine j_iload_n X dX1_product_111 5 rfl rfl ?_
        refine j_lload X dX1_product_112 3 rfl ?_
        refine j_lload X dX1_product_114 1 rfl ?_
        refine j_lmul X dX1_product_116 ?_
        refine j_lload X dX1_product_117 3 rfl ?_
        refine j_lload X dX1_product_119 0 rfl ?_
        refine j_lmul X dX1_product_121 ?_
        refine j_mmin_long X ml_X1_34 (Nat.le_of_ble_eq_true rfl) (Nat.le_of_ble_eq_true rfl) (Nat.le_of_ble_eq_true rfl) (Nat.le_of_ble_eq_true rfl) dX1_product_122 (fun v152 ev152 => ?_)
        replace hf151 := lt_of hf151 v152 ev152
        refine j_lload X dX1_product_125 2 rfl ?_
        refine j_lload X dX1_product_127 1 rfl ?_
        refine j_lmul X dX1_product_129 ?_
        refine j_lload X dX1_product_130 2 rfl ?_
        refine j_lload X dX1_product_132 0 rfl ?_
        refine j_lmul X dX1_product_134 ?_
        refine j_mmin_long X ml_X1_34 (Nat.le_of_ble_eq_true rfl) (Nat.le_of_ble_eq_true rfl) (Nat.le_of_ble_eq_true rfl) (Nat.le_of_ble_eq_true rfl) dX1_product_135 (fun v154 ev154 => ?_)
        replace hf151 := lt_of hf151 v154 ev154
        refine j_mmin_long X ml_X1_34 (Nat.le_of_ble_eq_true rfl) (Nat.le_of_ble_eq_true rfl) (Nat.le_of_ble_eq_true rfl) (Nat.le_of_ble_eq_true rfl) dX1_product_138 (fun v156 ev156 => ?_)
        replace hf151 := lt_of hf151 v156 ev156
        obtain ⟨h158, hf159⟩ := chk_of hf151; clear hf151
        refine j_last X h158 dX1_product_141 (fun σ160 eσ160 => ?_)
        replace hf159 := lt_of hf159 σ160 eσ160
        have h162 : isO σ160 1 a0 := by rw [eσ160]; exact h147
        refine j_aload_n X dX1_product_142 4 rfl rfl ?_
        obtain ⟨i163, h164, hf165⟩ := bd_of hf159; clear hf159
        refine j_getr X fd_X1_13 h162 h164 dX1_product_143 ?_
        refine j_iload_n X dX1_product_146 5 rfl rfl ?_
        refine j_lload X dX1_product_147 3 rfl ?_
        refine j_lload X dX1_product_149 1 rfl ?_
        refine j_lmul X dX1_product_151 ?_
        refine j_lload X dX1_product_152 3 rfl ?_
        refine j_lload X dX1_product_154 0 rfl ?_
        refine j_lmul X dX1_product_156 ?_
        refine j_mmax_long X ml_X1_40 (Nat.le_of_ble_eq_true rfl) (Nat.le_of_ble_eq_true rfl) (Nat.le_of_ble_eq_true rfl) (Nat.le_of_ble_eq_true rfl) dX1_product_157 (fun v166 ev166 => ?_)
        replace hf165 := lt_of hf165 v166 ev166
        refine j_lload X dX1_product_160 2 rfl ?_
        refine j_lload X dX1_product_162 1 rfl ?_
        refine j_lmul X dX1_product_164 ?_
        refine j_lload X dX1_product_165 2 rfl ?_
        refine j_lload X dX1_product_167 0 rfl ?_
        refine j_lmul X dX1_product_169 ?_
        refine j_mmax_long X ml_X1_40 (Nat.le_of_ble_eq_true rfl) (Nat.le_of_ble_eq_true rfl) (Nat.le_of_ble_eq_true rfl) (Nat.le_of_ble_eq_true rfl) dX1_product_170 (fun v168 ev168 => ?_)
        replace hf165 := lt_of hf165 v168 ev168
        refine j_mmax_long X ml_X1_40 (Nat.le_of_ble_eq_true rfl) (Nat.le_of_ble_eq_true rfl) (Nat.le_of_ble_eq_true rfl) (Nat.le_of_ble_eq_true rfl) dX1_product_173 (fun v170 ev170 => ?_)
        replace hf165 := lt_of hf165 v170 ev170
        obtain ⟨h172, hf173⟩ := chk_of hf165; clear hf165
        refine j_last X h172 dX1_product_176 (fun σ174 eσ174 => ?_)
        replace hf173 := lt_of hf173 σ174 eσ174
        have h176 : isO σ174 1 a0 := by rw [eσ174]; exact h162
        obtain ⟨er, es⟩ := rt_of hf173
        exact j_retv X hr hlk (Nat.le_of_ble_eq_true rfl) (Nat.le_of_ble_eq_true rfl) rfl es.symm rfl dX1_product_177
      · have hf142 := br_n hf139 c140; clear hf139
        refine j_lload X dX1_product_71 3 rfl ?_
        refine j_lload X dX1_product_73 0 rfl ?_
        obtain ⟨r177, σ178, h179, hf180⟩ := bc_of hf142; clear hf142
        refine j_callS0 X [.long v8, .long v31] [.int a1, .ref (q i35)] (c_X1_productFits l D cs q v8 v31 σ137 _ _ h179) mk_X1_productFits ms_X1_productFits ml_X1_31 ⟨rfl, rfl⟩ ⟨Nat.le_of_ble_eq_true rfl, Nat.le_of_ble_eq_true rfl⟩ rfl (Nat.le_of_ble_eq_true rfl) ⟨Nat.le_of_ble_eq_true rfl, Nat.le_of_ble_eq_true rfl⟩ dX1_product_75 rfl (st' := [.int r177, .int a1, .ref (q i35)]) rfl ?_
        refine j_if_eq X (tgt := 101) dX1_product_78 (by decide) (fun c181 => ?_) (fun c181 => ?_)
        · have hf182 := br_y hf180 c181; clear hf180
          refine j_iconst X (v := 1) dX1_product_101 (by decide) ?_
          refine j_goto X (tgt := 106) dX1_product_102 (by decide) ?_
          obtain ⟨h184, hf185⟩ := chk_of hf182; clear hf182
          refine j_zast X h184 (Or.inr rfl) dX1_product_106 (fun σ186 eσ186 => ?_)
          replace hf185 := lt_of hf185 σ186 eσ186
          refine j_aload_n X dX1_product_107 4 rfl rfl ?_
          obtain ⟨h188, hf189⟩ := chk_of hf185; clear hf185
          obtain ⟨i190, h191, hf192⟩ := bd_of hf189; clear hf189
          refine j_getr X fd_X1_7 h188 h191 dX1_product_108 ?_
          refine j_iload_n X dX1_product_111 5 rfl rfl ?_
          refine j_lload X dX1_product_112 3 rfl ?_
          refine j_lload X dX1_product_114 1 rfl ?_
          refine j_lmul X dX1_product_116 ?_
          refine j_lload X dX1_product_117 3 rfl ?_
          refine j_lload X dX1_product_119 0 rfl ?_
          refine j_lmul X dX1_product_121 ?_
          refine j_mmin_long X ml_X1_34 (Nat.le_of_ble_eq_true rfl) (Nat.le_of_ble_eq_true rfl) (Nat.le_of_ble_eq_true rfl) (Nat.le_of_ble_eq_true rfl) dX1_product_122 (fun v193 ev193 => ?_)
          replace hf192 := lt_of hf192 v193 ev193
          refine j_lload X dX1_product_125 2 rfl ?_
          refine j_lload X dX1_product_127 1 rfl ?_
          refine j_lmul X dX1_product_129 ?_
          refine j_lload X dX1_product_130 2 rfl ?_
          refine j_lload X dX1_product_132 0 rfl ?_
          refine j_lmul X dX1_product_134 ?_
          refine j_mmin_long X ml_X1_34 (Nat.le_of_ble_eq_true rfl) (Nat.le_of_ble_eq_true rfl) (Nat.le_of_ble_eq_true rfl) (Nat.le_of_ble_eq_true rfl) dX1_product_135 (fun v195 ev195 => ?_)
          replace hf192 := lt_of hf192 v195 ev195
          refine j_mmin_long X ml_X1_34 (Nat.le_of_ble_eq_true rfl) (Nat.le_of_ble_eq_true rfl) (Nat.le_of_ble_eq_true rfl) (Nat.le_of_ble_eq_true rfl) dX1_product_138 (fun v197 ev197 => ?_)
          replace hf192 := lt_of hf192 v197 ev197
          obtain ⟨h199, hf200⟩ := chk_of hf192; clear hf192
          refine j_last X h199 dX1_product_141 (fun σ201 eσ201 => ?_)
          replace hf200 := lt_of hf200 σ201 eσ201
          have h203 : isO σ201 1 a0 := by rw [eσ201]; exact h188
          refine j_aload_n X dX1_product_142 4 rfl rfl ?_
          obtain ⟨i204, h205, hf206⟩ := bd_of hf200; clear hf200
          refine j_getr X fd_X1_13 h203 h205 dX1_product_143 ?_
          refine j_iload_n X dX1_product_146 5 rfl rfl ?_
          refine j_lload X dX1_product_147 3 rfl ?_
          refine j_lload X dX1_product_149 1 rfl ?_
          refine j_lmul X dX1_product_151 ?_
          refine j_lload X dX1_product_152 3 rfl ?_
          refine j_lload X dX1_product_154 0 rfl ?_
          refine j_lmul X dX1_product_156 ?_
          refine j_mmax_long X ml_X1_40 (Nat.le_of_ble_eq_true rfl) (Nat.le_of_ble_eq_true rfl) (Nat.le_of_ble_eq_true rfl) (Nat.le_of_ble_eq_true rfl) dX1_product_157 (fun v207 ev207 => ?_)
          replace hf206 := lt_of hf206 v207 ev207
          refine j_lload X dX1_product_160 2 rfl ?_
          refine j_lload X dX1_product_162 1 rfl ?_
          refine j_lmul X dX1_product_164 ?_
          refine j_lload X dX1_product_165 2 rfl ?_
          refine j_lload X dX1_product_167 0 rfl ?_
          refine j_lmul X dX1_product_169 ?_
          refine j_mmax_long X ml_X1_40 (Nat.le_of_ble_eq_true rfl) (Nat.le_of_ble_eq_true rfl) (Nat.le_of_ble_eq_true rfl) (Nat.le_of_ble_eq_true rfl) dX1_product_170 (fun v209 ev209 => ?_)
          replace hf206 := lt_of hf206 v209 ev209
          refine j_mmax_long X ml_X1_40 (Nat.le_of_ble_eq_true rfl) (Nat.le_of_ble_eq_true rfl) (Nat.le_of_ble_eq_true rfl) (Nat.le_of_ble_eq_true rfl) dX1_product_173 (fun v211 ev211 => ?_)
          replace hf206 := lt_of hf206 v211 ev211
          obtain ⟨h213, hf214⟩ := chk_of hf206; clear hf206
          refine j_last X h213 dX1_product_176 (fun σ215 eσ215 => ?_)
          replace hf214 := lt_of hf214 σ215 eσ215
          have h217 : isO σ215 1 a0 := by rw [eσ215]; exact h203
          obtain ⟨er, es⟩ := rt_of hf214
          exact j_retv X hr hlk (Nat.le_of_ble_eq_true rfl) (Nat.le_of_ble_eq_true rfl) rfl es.symm rfl dX1_product_177
        · have hf183 := br_n hf180 c181; clear hf180
          refine j_lload X dX1_product_81 2 rfl ?_
          refine j_lload X dX1_product_83 1 rfl ?_
          obtain ⟨r218, σ219, h220, hf221⟩ := bc_of hf183; clear hf183
          refine j_callS0 X [.long v15, .long v24] [.int a1, .ref (q i35)] (c_X1_productFits l D cs q v15 v24 σ178 _ _ h220) mk_X1_productFits ms_X1_productFits ml_X1_31 ⟨rfl, rfl⟩ ⟨Nat.le_of_ble_eq_true rfl, Nat.le_of_ble_eq_true rfl⟩ rfl (Nat.le_of_ble_eq_true rfl) ⟨Nat.le_of_ble_eq_true rfl, Nat.le_of_ble_eq_true rfl⟩ dX1_product_85 rfl (st' := [.int r218, .int a1, .ref (q i35)]) rfl ?_
          refine j_if_eq X (tgt := 101) dX1_product_88 (by decide) (fun c222 => ?_) (fun c222 => ?_)
          · have hf223 := br_y hf221 c222; clear hf221
            refine j_iconst X (v := 1) dX1_product_101 (by decide) ?_
            refine j_goto X (tgt := 106) dX1_product_102 (by decide) ?_
            obtain ⟨h225, hf226⟩ := chk_of hf223; clear hf223
            refine j_zast X h225 (Or.inr rfl) dX1_product_106 (fun σ227 eσ227 => ?_)
            replace hf226 := lt_of hf226 σ227 eσ227
            refine j_aload_n X dX1_product_107 4 rfl rfl ?_
            obtain ⟨h229, hf230⟩ := chk_of hf226; clear hf226
            obtain ⟨i231, h232, hf233⟩ := bd_of hf230; clear hf230
            refine j_getr X fd_X1_7 h229 h232 dX1_product_108 ?_
            refine j_iload_n X dX1_product_111 5 rfl rfl ?_
            refine j_lload X dX1_product_112 3 rfl ?_
            refine j_lload X dX1_product_114 1 rfl ?_
            refine j_lmul X dX1_product_116 ?_
            refine j_lload X dX1_product_117 3 rfl ?_
            refine j_lload X dX1_product_119 0 rfl ?_
            refine j_lmul X dX1_product_121 ?_
            refine j_mmin_long X ml_X1_34 (Nat.le_of_ble_eq_true rfl) (Nat.le_of_ble_eq_true rfl) (Nat.le_of_ble_eq_true rfl) (Nat.le_of_ble_eq_true rfl) dX1_product_122 (fun v234 ev234 => ?_)
            replace hf233 := lt_of hf233 v234 ev234
            refine j_lload X dX1_product_125 2 rfl ?_
            refine j_lload X dX1_product_127 1 rfl ?_
            refine j_lmul X dX1_product_129 ?_
            refine j_lload X dX1_product_130 2 rfl ?_
            refine j_lload X dX1_product_132 0 rfl ?_
            refine j_lmul X dX1_product_134 ?_
            refine j_mmin_long X ml_X1_34 (Nat.le_of_ble_eq_true rfl) (Nat.le_of_ble_eq_true rfl) (Nat.le_of_ble_eq_true rfl) (Nat.le_of_ble_eq_true rfl) dX1_product_135 (fun v236 ev236 => ?_)
            replace hf233 := lt_of hf233 v236 ev236
            refine j_mmin_long X ml_X1_34 (Nat.le_of_ble_eq_true rfl) (Nat.le_of_ble_eq_true rfl) (Nat.le_of_ble_eq_true rfl) (Nat.le_of_ble_eq_true rfl) dX1_product_138 (fun v238 ev238 => ?_)
            replace hf233 := lt_of hf233 v238 ev238
            obtain ⟨h240, hf241⟩ := chk_of hf233; clear hf233
            refine j_last X h240 dX1_product_141 (fun σ242 eσ242 => ?_)
            replace hf241 := lt_of hf241 σ242 eσ242
            have h244 : isO σ242 1 a0 := by rw [eσ242]; exact h229
            refine j_aload_n X dX1_product_142 4 rfl rfl ?_
            obtain ⟨i245, h246, hf247⟩ := bd_of hf241; clear hf241
            refine j_getr X fd_X1_13 h244 h246 dX1_product_143 ?_
            refine j_iload_n X dX1_product_146 5 rfl rfl ?_
            refine j_lload X dX1_product_147 3 rfl ?_
            refine j_lload X dX1_product_149 1 rfl ?_
            refine j_lmul X dX1_product_151 ?_
            refine j_lload X dX1_product_152 3 rfl ?_
            refine j_lload X dX1_product_154 0 rfl ?_
            refine j_lmul X dX1_product_156 ?_
            refine j_mmax_long X ml_X1_40 (Nat.le_of_ble_eq_true rfl) (Nat.le_of_ble_eq_true rfl) (Nat.le_of_ble_eq_true rfl) (Nat.le_of_ble_eq_true rfl) dX1_product_157 (fun v248 ev248 => ?_)
            replace hf247 := lt_of hf247 v248 ev248
            refine j_lload X dX1_product_160 2 rfl ?_
            refine j_lload X dX1_product_162 1 rfl ?_
            refine j_lmul X dX1_product_164 ?_
            refine j_lload X dX1_product_165 2 rfl ?_
            refine j_lload X dX1_product_167 0 rfl ?_
            refine j_lmul X dX1_product_169 ?_
            refine j_mmax_long X ml_X1_40 (Nat.le_of_ble_eq_true rfl) (Nat.le_of_ble_eq_true rfl) (Nat.le_of_ble_eq_true rfl) (Nat.le_of_ble_eq_true rfl) dX1_product_170 (fun v250 ev250 => ?_)
            replace hf247 := lt_of hf247 v250 ev250
            refine j_mmax_long X ml_X1_40 (Nat.le_of_ble_eq_true rfl) (Nat.le_of_ble_eq_true rfl) (Nat.le_of_ble_eq_true rfl) (Nat.le_of_ble_eq_true rfl) dX1_product_173 (fun v252 ev252 => ?_)
            replace hf247 := lt_of hf247 v252 ev252
            obtain ⟨h254, hf255⟩ := chk_of hf247; clear hf247
            refine j_last X h254 dX1_product_176 (fun σ256 eσ256 => ?_)
            replace hf255 := lt_of hf255 σ256 eσ256
            have h258 : isO σ256 1 a0 := by rw [eσ256]; exact h244
            obtain ⟨er, es⟩ := rt_of hf255
            exact j_retv X hr hlk (Nat.le_of_ble_eq_true rfl) (Nat.le_of_ble_eq_true rfl) rfl es.symm rfl dX1_product_177
          · have hf224 := br_n hf221 c222; clear hf221
            refine j_lload X dX1_product_91 2 rfl ?_
            refine j_lload X dX1_product_93 0 rfl ?_
            obtain ⟨r259, σ260, h261, hf262⟩ := bc_of hf224; clear hf224
            refine j_callS0 X [.long v15, .long v31] [.int a1, .ref (q i35)] (c_X1_productFits l D cs q v15 v31 σ219 _ _ h261) mk_X1_productFits ms_X1_productFits ml_X1_31 ⟨rfl, rfl⟩ ⟨Nat.le_of_ble_eq_true rfl, Nat.le_of_ble_eq_true rfl⟩ rfl (Nat.le_of_ble_eq_true rfl) ⟨Nat.le_of_ble_eq_true rfl, Nat.le_of_ble_eq_true rfl⟩ dX1_product_95 rfl (st' := [.int r259, .int a1, .ref (q i35)]) rfl ?_
            refine j_if_ne X (tgt := 105) dX1_product_98 (by decide) (fun c263 => ?_) (fun c263 => ?_)
            · have hf264 := br_n hf262 c263; clear hf262
              refine j_iconst X (v := 0) dX1_product_105 (by decide) ?_
              obtain ⟨h266, hf267⟩ := chk_of hf264; clear hf264
              refine j_zast X h266 (Or.inl rfl) dX1_product_106 (fun σ268 eσ268 => ?_)
              replace hf267 := lt_of hf267 σ268 eσ268
              refine j_aload_n X dX1_product_107 4 rfl rfl ?_
              obtain ⟨h270, hf271⟩ := chk_of hf267; clear hf267
              obtain ⟨i272, h273, hf274⟩ := bd_of hf271; clear hf271
              refine j_getr X fd_X1_7 h270 h273 dX1_product_108 ?_
              refine j_iload_n X dX1_product_111 5 rfl rfl ?_
              refine j_lload X dX1_product_112 3 rfl ?_
              refine j_lload X dX1_product_114 1 rfl ?_
              refine j_lmul X dX1_product_116 ?_
              refine j_lload X dX1_product_117 3 rfl ?_
              refine j_lload X dX1_product_119 0 rfl ?_
              refine j_lmul X dX1_product_121 ?_
              refine j_mmin_long X ml_X1_34 (Nat.le_of_ble_eq_true rfl) (Nat.le_of_ble_eq_true rfl) (Nat.le_of_ble_eq_true rfl) (Nat.le_of_ble_eq_true rfl) dX1_product_122 (fun v275 ev275 => ?_)
              replace hf274 := lt_of hf274 v275 ev275
              refine j_lload X dX1_product_125 2 rfl ?_
              refine j_lload X dX1_product_127 1 rfl ?_
              refine j_lmul X dX1_product_129 ?_
              refine j_lload X dX1_product_130 2 rfl ?_
              refine j_lload X dX1_product_132 0 rfl ?_
              refine j_lmul X dX1_product_134 ?_
              refine j_mmin_long X ml_X1_34 (Nat.le_of_ble_eq_true rfl) (Nat.le_of_ble_eq_true rfl) (Nat.le_of_ble_eq_true rfl) (Nat.le_of_ble_eq_true rfl) dX1_product_135 (fun v277 ev277 => ?_)
              replace hf274 := lt_of hf274 v277 ev277
              refine j_mmin_long X ml_X1_34 (Nat.le_of_ble_eq_true rfl) (Nat.le_of_ble_eq_true rfl) (Nat.le_of_ble_eq_true rfl) (Nat.le_of_ble_eq_true rfl) dX1_product_138 (fun v279 ev279 => ?_)
              replace hf274 := lt_of hf274 v279 ev279
              obtain ⟨h281, hf282⟩ := chk_of hf274; clear hf274
              refine j_last X h281 dX1_product_141 (fun σ283 eσ283 => ?_)
              replace hf282 := lt_of hf282 σ283 eσ283
              have h285 : isO σ283 1 a0 := by rw [eσ283]; exact h270
              refine j_aload_n X dX1_product_142 4 rfl rfl ?_
              obtain ⟨i286, h287, hf288⟩ := bd_of hf282; clear hf282
              refine j_getr X fd_X1_13 h285 h287 dX1_product_143 ?_
              refine j_iload_n X dX1_product_146 5 rfl rfl ?_
              refine j_lload X dX1_product_147 3 rfl ?_
              refine j_lload X dX1_product_149 1 rfl ?_
              refine j_lmul X dX1_product_151 ?_
              refine j_lload X dX1_product_152 3 rfl ?_
              refine j_lload X dX1_product_154 0 rfl ?_
              refine j_lmul X dX1_product_156 ?_
              refine j_mmax_long X ml_X1_40 (Nat.le_of_ble_eq_true rfl) (Nat.le_of_ble_eq_true rfl) (Nat.le_of_ble_eq_true rfl) (Nat.le_of_ble_eq_true rfl) dX1_product_157 (fun v289 ev289 => ?_)
              replace hf288 := lt_of hf288 v289 ev289
              refine j_lload X dX1_product_160 2 rfl ?_
              refine j_lload X dX1_product_162 1 rfl ?_
              refine j_lmul X dX1_product_164 ?_
              refine j_lload X dX1_product_165 2 rfl ?_
              refine j_lload X dX1_product_167 0 rfl ?_
              refine j_lmul X dX1_product_169 ?_
              refine j_mmax_long X ml_X1_40 (Nat.le_of_ble_eq_true rfl) (Nat.le_of_ble_eq_true rfl) (Nat.le_of_ble_eq_true rfl) (Nat.le_of_ble_eq_true rfl) dX1_product_170 (fun v291 ev291 => ?_)
              replace hf288 := lt_of hf288 v291 ev291
              refine j_mmax_long X ml_X1_40 (Nat.le_of_ble_eq_true rfl) (Nat.le_of_ble_eq_true rfl) (Nat.le_of_ble_eq_true rfl) (Nat.le_of_ble_eq_true rfl) dX1_product_173 (fun v293 ev293 => ?_)
              replace hf288 := lt_of hf288 v293 ev293
              obtain ⟨h295, hf296⟩ := chk_of hf288; clear hf288
              refine j_last X h295 dX1_product_176 (fun σ297 eσ297 => ?_)
              replace hf296 := lt_of hf296 σ297 eσ297
              have h299 : isO σ297 1 a0 := by rw [eσ297]; exact h285
              obtain ⟨er, es⟩ := rt_of hf296
              exact j_retv X hr hlk (Nat.le_of_ble_eq_true rfl) (Nat.le_of_ble_eq_true rfl) rfl es.symm rfl dX1_product_177
            · have hf265 := br_y hf262 c263; clear hf262
              refine j_iconst X (v := 1) dX1_product_101 (by decide) ?_
              refine j_goto X (tgt := 106) dX1_product_102 (by decide) ?_
              obtain ⟨h300, hf301⟩ := chk_of hf265; clear hf265
              refine j_zast X h300 (Or.inr rfl) dX1_product_106 (fun σ302 eσ302 => ?_)
              replace hf301 := lt_of hf301 σ302 eσ302
              refine j_aload_n X dX1_product_107 4 rfl rfl ?_
              obtain ⟨h304, hf305⟩ := chk_of hf301; clear hf301
              obtain ⟨i306, h307, hf308⟩ := bd_of hf305; clear hf305
              refine j_getr X fd_X1_7 h304 h307 dX1_product_108 ?_
              refine j_iload_n X dX1_product_111 5 rfl rfl ?_
              refine j_lload X dX1_product_112 3 rfl ?_
              refine j_lload X dX1_product_114 1 rfl ?_
              refine j_lmul X dX1_product_116 ?_
              refine j_lload X dX1_product_117 3 rfl ?_
              refine j_lload X dX1_product_119 0 rfl ?_
              refine j_lmul X dX1_product_121 ?_
              refine j_mmin_long X ml_X1_34 (Nat.le_of_ble_eq_true rfl) (Nat.le_of_ble_eq_true rfl) (Nat.le_of_ble_eq_true rfl) (Nat.le_of_ble_eq_true rfl) dX1_product_122 (fun v309 ev309 => ?_)
              replace hf308 := lt_of hf308 v309 ev309
              refine j_lload X dX1_product_125 2 rfl ?_
              refine j_lload X dX1_product_127 1 rfl ?_
              refine j_lmul X dX1_product_129 ?_
              refine j_lload X dX1_product_130 2 rfl ?_
              refine j_lload X dX1_product_132 0 rfl ?_
              refine j_lmul X dX1_product_134 ?_
              refine j_mmin_long X ml_X1_34 (Nat.le_of_ble_eq_true rfl) (Nat.le_of_ble_eq_true rfl) (Nat.le_of_ble_eq_true rfl) (Nat.le_of_ble_eq_true rfl) dX1_product_135 (fun v311 ev311 => ?_)
              replace hf308 := lt_of hf308 v311 ev311
              refine j_mmin_long X ml_X1_34 (Nat.le_of_ble_eq_true rfl) (Nat.le_of_ble_eq_true rfl) (Nat.le_of_ble_eq_true rfl) (Nat.le_of_ble_eq_true rfl) dX1_product_138 (fun v313 ev313 => ?_)
              replace hf308 := lt_of hf308 v313 ev313
              obtain ⟨h315, hf316⟩ := chk_of hf308; clear hf308
              refine j_last X h315 dX1_product_141 (fun σ317 eσ317 => ?_)
              replace hf316 := lt_of hf316 σ317 eσ317
              have h319 : isO σ317 1 a0 := by rw [eσ317]; exact h304
              refine j_aload_n X dX1_product_142 4 rfl rfl ?_
              obtain ⟨i320, h321, hf322⟩ := bd_of hf316; clear hf316
              refine j_getr X fd_X1_13 h319 h321 dX1_product_143 ?_
              refine j_iload_n X dX1_product_146 5 rfl rfl ?_
              refine j_lload X dX1_product_147 3 rfl ?_
              refine j_lload X dX1_product_149 1 rfl ?_
              refine j_lmul X dX1_product_151 ?_
              refine j_lload X dX1_product_152 3 rfl ?_
              refine j_lload X dX1_product_154 0 rfl ?_
              refine j_lmul X dX1_product_156 ?_
              refine j_mmax_long X ml_X1_40 (Nat.le_of_ble_eq_true rfl) (Nat.le_of_ble_eq_true rfl) (Nat.le_of_ble_eq_true rfl) (Nat.le_of_ble_eq_true rfl) dX1_product_157 (fun v323 ev323 => ?_)
              replace hf322 := lt_of hf322 v323 ev323
              refine j_lload X dX1_product_160 2 rfl ?_
              refine j_lload X dX1_product_162 1 rfl ?_
              refine j_lmul X dX1_product_164 ?_
              refine j_lload X dX1_product_165 2 rfl ?_
              refine j_lload X dX1_product_167 0 rfl ?_
              refine j_lmul X dX1_product_169 ?_
              refine j_mmax_long X ml_X1_40 (Nat.le_of_ble_eq_true rfl) (Nat.le_of_ble_eq_true rfl) (Nat.le_of_ble_eq_true rfl) (Nat.le_of_ble_eq_true rfl) dX1_product_170 (fun v325 ev325 => ?_)
              replace hf322 := lt_of hf322 v325 ev325
              refine j_mmax_long X ml_X1_40 (Nat.le_of_ble_eq_true rfl) (Nat.le_of_ble_eq_true rfl) (Nat.le_of_ble_eq_true rfl) (Nat.le_of_ble_eq_true rfl) dX1_product_173 (fun v327 ev327 => ?_)
              replace hf322 := lt_of hf322 v327 ev327
              obtain ⟨h329, hf330⟩ := chk_of hf322; clear hf322
              refine j_last X h329 dX1_product_176 (fun σ331 eσ331 => ?_)
              replace hf330 := lt_of hf330 σ331 eσ331
              have h333 : isO σ331 1 a0 := by rw [eσ331]; exact h319
              obtain ⟨er, es⟩ := rt_of hf330
              exact j_retv X hr hlk (Nat.le_of_ble_eq_true rfl) (Nat.le_of_ble_eq_true rfl) rfl es.symm rfl dX1_product_177
abbrev rm_X1_sumFits : Room := { frames := 0, cells := 0, slots := 0, locals := 0 }
set_option maxHeartbeats 4000000 in
set_option maxRecDepth 100000 in
theorem c_X1_sumFits (l : Launch) (D : va_G) (cs : Nat → ClassId) (q : Nat → Nat) (a0 : Int64) (a2 : Int64) (σ σ0 : HS) (r0 : Int32) (hf0 : f_X1_sumFits a0 a2 σ = some (r0, σ0)) : MT l yX1_sumFits (Cond.code yX1_sumFits cX1_sumFits 4 (some .boolean) :: lw_g) rm_X1_sumFits D cs q σ σ0 [.long a0, .long a2] (fun z => z = q) (fun _ => some (.int r0)) 0 0 := by
  unfold f_X1_sumFits at hf0
  refine MT_of (cc := cX1_sumFits) (lv0 := [(0, .long a0), (2, .long a2)]) (by decide) (Nat.le_of_ble_eq_true rfl) rfl (fun p e s m args below meth c A X hr hlk hin => ?_)
  refine j_lload_n X dX1_sumFits_0 1 rfl rfl ?_
  refine j_lconst X (v := 0) dX1_sumFits_1 (by decide) ?_
  refine j_lcmp X dX1_sumFits_2 ?_
  refine j_if_lt X (tgt := 24) dX1_sumFits_3 (by decide) (fun c1 => ?_) (fun c1 => ?_)
  · have hf2 := br_y hf0 c1; clear hf0
    refine j_lload_n X dX1_sumFits_24 0 rfl rfl ?_
    refine j_ldc2 X k_X1_22 dX1_sumFits_25 ?_
    refine j_lload_n X dX1_sumFits_28 1 rfl rfl ?_
    refine j_lsub X dX1_sumFits_29 ?_
    refine j_lcmp X dX1_sumFits_30 ?_
    refine j_if_lt X (tgt := 38) dX1_sumFits_31 (by decide) (fun c4 => ?_) (fun c4 => ?_)
    · have hf5 := br_y hf2 c4; clear hf2
      refine j_iconst X (v := 0) dX1_sumFits_38 (by decide) ?_
      obtain ⟨er, es⟩ := rt_of hf5
      subst er
      exact j_retz X hr hlk (Nat.le_of_ble_eq_true rfl) (Nat.le_of_ble_eq_true rfl) rfl es.symm rfl (Or.inl rfl) dX1_sumFits_39
    · have hf6 := br_n hf2 c4; clear hf2
      refine j_iconst X (v := 1) dX1_sumFits_34 (by decide) ?_
      refine j_goto X (tgt := 39) dX1_sumFits_35 (by decide) ?_
      obtain ⟨er, es⟩ := rt_of hf6
      subst er
      exact j_retz X hr hlk (Nat.le_of_ble_eq_true rfl) (Nat.le_of_ble_eq_true rfl) rfl es.symm rfl (Or.inr rfl) dX1_sumFits_39
  · have hf3 := br_n hf0 c1; clear hf0
    refine j_lload_n X dX1_sumFits_6 0 rfl rfl ?_
    refine j_ldc2 X k_X1_43 dX1_sumFits_7 ?_
    refine j_lload_n X dX1_sumFits_10 1 rfl rfl ?_
    refine j_lsub X dX1_sumFits_11 ?_
    refine j_lcmp X dX1_sumFits_12 ?_
    refine j_if_gt X (tgt := 20) dX1_sumFits_13 (by decide) (fun c7 => ?_) (fun c7 => ?_)
    · have hf8 := br_y hf3 c7; clear hf3
      refine j_iconst X (v := 0) dX1_sumFits_20 (by decide) ?_
      refine j_goto X (tgt := 39) dX1_sumFits_21 (by decide) ?_
      obtain ⟨er, es⟩ := rt_of hf8
      subst er
      exact j_retz X hr hlk (Nat.le_of_ble_eq_true rfl) (Nat.le_of_ble_eq_true rfl) rfl es.symm rfl (Or.inl rfl) dX1_sumFits_39
    · have hf9 := br_n hf3 c7; clear hf3
      refine j_iconst X (v := 1) dX1_sumFits_16 (by decide) ?_
      refine j_goto X (tgt := 39) dX1_sumFits_17 (by decide) ?_
      obtain ⟨er, es⟩ := rt_of hf9
      subst er
      exact j_retz X hr hlk (Nat.le_of_ble_eq_true rfl) (Nat.le_of_ble_eq_true rfl) rfl es.symm rfl (Or.inr rfl) dX1_sumFits_39
abbrev rm_X1_sum : Room := { frames := 1, cells := 0, slots := 0, locals := 64 }
set_option maxHeartbeats 4000000 in
set_option maxRecDepth 100000 in
theorem c_X1_sum (l : Launch) (D : va_G) (cs : Nat → ClassId) (q : Nat → Nat) (a0 : Nat) (a1 : Int32) (a2 : Nat) (a3 : Int32) (a4 : Nat) (a5 : Int32) (σ σ0 : HS) (r0 : Unit) (hf0 : f_X1_sum a0 a1 a2 a3 a4 a5 σ = some (r0, σ0)) : MT l yX1_sum (Cond.code yX1_sum cX1_sum 6 none :: lw_g) rm_X1_sum D cs q σ σ0 [.ref (q a0), .int a1, .ref (q a2), .int a3, .ref (q a4), .int a5] (fun z => z = q) (fun _ => none) 0 0 := by
  unfold f_X1_sum at hf0
  refine MT_of (cc := cX1_sum) (lv0 := [(0, .ref (q a0)), (1, .int a1), (2, .ref (q a2)), (3, .int a3), (4, .ref (q a4)), (5, .int a5)]) (by decide) (Nat.le_of_ble_eq_true rfl) rfl (fun p e s m args below meth c A X hr hlk hin => ?_)
  refine j_aload_n X dX1_sum_0 0 rfl rfl ?_
  obtain ⟨h1, hf2⟩ := chk_of hf0; clear hf0
  obtain ⟨i3, h4, hf5⟩ := bd_of hf2; clear hf2
  refine j_getr X fd_X1_16 h1 h4 dX1_sum_1 ?_
  refine j_iload_n X dX1_sum_4 1 rfl rfl ?_
  refine j_aload_n X dX1_sum_5 2 rfl rfl ?_
  obtain ⟨h6, hf7⟩ := chk_of hf5; clear hf5
  obtain ⟨i8, h9, hf10⟩ := bd_of hf7; clear hf7
  refine j_getr X fd_X1_16 h6 h9 dX1_sum_6 ?_
  refine j_iload_n X dX1_sum_9 3 rfl rfl ?_
  obtain ⟨h11, hf12⟩ := chk_of hf10; clear hf10
  refine j_zald X h11 dX1_sum_10 (fun v13 ev13 => ?_)
  replace hf12 := lt_of hf12 v13 ev13
  refine j_if_ne X (tgt := 65) dX1_sum_11 (by decide) (fun c15 => ?_) (fun c15 => ?_)
  · have hf16 := br_n hf12 c15; clear hf12
    refine j_iconst X (v := 1) dX1_sum_65 (by decide) ?_
    refine j_goto X (tgt := 70) dX1_sum_66 (by decide) ?_
    obtain ⟨h18, hf19⟩ := chk_of hf16; clear hf16
    refine j_zast X h18 (Or.inr rfl) dX1_sum_70 (fun σ20 eσ20 => ?_)
    replace hf19 := lt_of hf19 σ20 eσ20
    have h22 : isO σ20 1 a0 := by rw [eσ20]; exact h1
    have h23 : isO σ20 1 a2 := by rw [eσ20]; exact h6
    refine j_aload_n X dX1_sum_71 0 rfl rfl ?_
    obtain ⟨i24, h25, hf26⟩ := bd_of hf19; clear hf19
    refine j_getr X fd_X1_7 h22 h25 dX1_sum_72 ?_
    refine j_iload_n X dX1_sum_75 1 rfl rfl ?_
    refine j_aload_n X dX1_sum_76 2 rfl rfl ?_
    obtain ⟨i27, h28, hf29⟩ := bd_of hf26; clear hf26
    refine j_getr X fd_X1_7 h23 h28 dX1_sum_77 ?_
    refine j_iload_n X dX1_sum_80 3 rfl rfl ?_
    obtain ⟨h30, hf31⟩ := chk_of hf29; clear hf29
    refine j_lald X h30 dX1_sum_81 (fun v32 ev32 => ?_)
    replace hf31 := lt_of hf31 v32 ev32
    refine j_aload X dX1_sum_82 4 rfl ?_
    obtain ⟨h34, hf35⟩ := chk_of hf31; clear hf31
    obtain ⟨i36, h37, hf38⟩ := bd_of hf35; clear hf35
    refine j_getr X fd_X1_7 h34 h37 dX1_sum_84 ?_
    refine j_iload X dX1_sum_87 5 rfl ?_
    obtain ⟨h39, hf40⟩ := chk_of hf38; clear hf38
    refine j_lald X h39 dX1_sum_89 (fun v41 ev41 => ?_)
    replace hf40 := lt_of hf40 v41 ev41
    refine j_ladd X dX1_sum_90 ?_
    obtain ⟨h43, hf44⟩ := chk_of hf40; clear hf40
    refine j_last X h43 dX1_sum_91 (fun σ45 eσ45 => ?_)
    replace hf44 := lt_of hf44 σ45 eσ45
    have h47 : isO σ45 1 a0 := by rw [eσ45]; exact h22
    have h48 : isO σ45 1 a2 := by rw [eσ45]; exact h23
    have h49 : isO σ45 1 a4 := by rw [eσ45]; exact h34
    refine j_aload_n X dX1_sum_92 0 rfl rfl ?_
    obtain ⟨i50, h51, hf52⟩ := bd_of hf44; clear hf44
    refine j_getr X fd_X1_13 h47 h51 dX1_sum_93 ?_
    refine j_iload_n X dX1_sum_96 1 rfl rfl ?_
    refine j_aload_n X dX1_sum_97 2 rfl rfl ?_
    obtain ⟨i53, h54, hf55⟩ := bd_of hf52; clear hf52
    refine j_getr X fd_X1_13 h48 h54 dX1_sum_98 ?_
    refine j_iload_n X dX1_sum_101 3 rfl rfl ?_
    obtain ⟨h56, hf57⟩ := chk_of hf55; clear hf55
    refine j_lald X h56 dX1_sum_102 (fun v58 ev58 => ?_)
    replace hf57 := lt_of hf57 v58 ev58
    refine j_aload X dX1_sum_103 4 rfl ?_
    obtain ⟨i60, h61, hf62⟩ := bd_of hf57; clear hf57
    refine j_getr X fd_X1_13 h49 h61 dX1_sum_105 ?_
    refine j_iload X dX1_sum_108 5 rfl ?_
    obtain ⟨h63, hf64⟩ := chk_of hf62; clear hf62
    refine j_lald X h63 dX1_sum_110 (fun v65 ev65 => ?_)
    replace hf64 := lt_of hf64 v65 ev65
    refine j_ladd X dX1_sum_111 ?_
    obtain ⟨h67, hf68⟩ := chk_of hf64; clear hf64
    refine j_last X h67 dX1_sum_112 (fun σ69 eσ69 => ?_)
    replace hf68 := lt_of hf68 σ69 eσ69
    have h71 : isO σ69 1 a0 := by rw [eσ69]; exact h47
    have h72 : isO σ69 1 a2 := by rw [eσ69]; exact h48
    have h73 : isO σ69 1 a4 := by rw [eσ69]; exact h49
    obtain ⟨er, es⟩ := rt_of hf68
    exact j_retv X hr hlk (Nat.le_of_ble_eq_true rfl) (Nat.le_of_ble_eq_true rfl) rfl es.symm rfl dX1_sum_113
  · have hf17 := br_y hf12 c15; clear hf12
    refine j_aload X dX1_sum_14 4 rfl ?_
    obtain ⟨h74, hf75⟩ := chk_of hf17; clear hf17
    obtain ⟨i76, h77, hf78⟩ := bd_of hf75; clear hf75
    refine j_getr X fd_X1_16 h74 h77 dX1_sum_16 ?_
    refine j_iload X dX1_sum_19 5 rfl ?_
    obtain ⟨h79, hf80⟩ := chk_of hf78; clear hf78
    refine j_zald X h79 dX1_sum_21 (fun v81 ev81 => ?_)
    replace hf80 := lt_of hf80 v81 ev81
    refine j_if_ne X (tgt := 65) dX1_sum_22 (by decide) (fun c83 => ?_) (fun c83 => ?_)
    · have hf84 := br_n hf80 c83; clear hf80
      refine j_iconst X (v := 1) dX1_sum_65 (by decide) ?_
      refine j_goto X (tgt := 70) dX1_sum_66 (by decide) ?_
      obtain ⟨h86, hf87⟩ := chk_of hf84; clear hf84
      refine j_zast X h86 (Or.inr rfl) dX1_sum_70 (fun σ88 eσ88 => ?_)
      replace hf87 := lt_of hf87 σ88 eσ88
      have h90 : isO σ88 1 a0 := by rw [eσ88]; exact h1
      have h91 : isO σ88 1 a2 := by rw [eσ88]; exact h6
      have h92 : isO σ88 1 a4 := by rw [eσ88]; exact h74
      refine j_aload_n X dX1_sum_71 0 rfl rfl ?_
      obtain ⟨i93, h94, hf95⟩ := bd_of hf87; clear hf87
      refine j_getr X fd_X1_7 h90 h94 dX1_sum_72 ?_
      refine j_iload_n X dX1_sum_75 1 rfl rfl ?_
      refine j_aload_n X dX1_sum_76 2 rfl rfl ?_
      obtain ⟨i96, h97, hf98⟩ := bd_of hf95; clear hf95
      refine j_getr X fd_X1_7 h91 h97 dX1_sum_77 ?_
      refine j_iload_n X dX1_sum_80 3 rfl rfl ?_
      obtain ⟨h99, hf100⟩ := chk_of hf98; clear hf98
      refine j_lald X h99 dX1_sum_81 (fun v101 ev101 => ?_)
      replace hf100 := lt_of hf100 v101 ev101
      refine j_aload X dX1_sum_82 4 rfl ?_
      obtain ⟨i103, h104, hf105⟩ := bd_of hf100; clear hf100
      refine j_getr X fd_X1_7 h92 h104 dX1_sum_84 ?_
      refine j_iload X dX1_sum_87 5 rfl ?_
      obtain ⟨h106, hf107⟩ := chk_of hf105; clear hf105
      refine j_lald X h106 dX1_sum_89 (fun v108 ev108 => ?_)
      replace hf107 := lt_of hf107 v108 ev108
      refine j_ladd X dX1_sum_90 ?_
      obtain ⟨h110, hf111⟩ := chk_of hf107; clear hf107
      refine j_last X h110 dX1_sum_91 (fun σ112 eσ112 => ?_)
      replace hf111 := lt_of hf111 σ112 eσ112
      have h114 : isO σ112 1 a0 := by rw [eσ112]; exact h90
      have h115 : isO σ112 1 a2 := by rw [eσ112]; exact h91
      have h116 : isO σ112 1 a4 := by rw [eσ112]; exact h92
      refine j_aload_n X dX1_sum_92 0 rfl rfl ?_
      obtain ⟨i117, h118, hf119⟩ := bd_of hf111; clear hf111
      refine j_getr X fd_X1_13 h114 h118 dX1_sum_93 ?_
      refine j_iload_n X dX1_sum_96 1 rfl rfl ?_
      refine j_aload_n X dX1_sum_97 2 rfl rfl ?_
      obtain ⟨i120, h121, hf122⟩ := bd_of hf119; clear hf119
      refine j_getr X fd_X1_13 h115 h121 dX1_sum_98 ?_
      refine j_iload_n X dX1_sum_101 3 rfl rfl ?_
      obtain ⟨h123, hf124⟩ := chk_of hf122; clear hf122
      refine j_lald X h123 dX1_sum_102 (fun v125 ev125 => ?_)
      replace hf124 := lt_of hf124 v125 ev125
      refine j_aload X dX1_sum_103 4 rfl ?_
      obtain ⟨i127, h128, hf129⟩ := bd_of hf124; clear hf124
      refine j_getr X fd_X1_13 h116 h128 dX1_sum_105 ?_
      refine j_iload X dX1_sum_108 5 rfl ?_
      obtain ⟨h130, hf131⟩ := chk_of hf129; clear hf129
      refine j_lald X h130 dX1_sum_110 (fun v132 ev132 => ?_)
      replace hf131 := lt_of hf131 v132 ev132
      refine j_ladd X dX1_sum_111 ?_
      obtain ⟨h134, hf135⟩ := chk_of hf131; clear hf131
      refine j_last X h134 dX1_sum_112 (fun σ136 eσ136 => ?_)
      replace hf135 := lt_of hf135 σ136 eσ136
      have h138 : isO σ136 1 a0 := by rw [eσ136]; exact h114
      have h139 : isO σ136 1 a2 := by rw [eσ136]; exact h115
      have h140 : isO σ136 1 a4 := by rw [eσ136]; exact h116
      obtain ⟨er, es⟩ := rt_of hf135
      exact j_retv X hr hlk (Nat.le_of_ble_eq_true rfl) (Nat.le_of_ble_eq_true rfl) rfl es.symm rfl dX1_sum_113
    · have hf85 := br_y hf80 c83; clear hf80
      refine j_aload_n X dX1_sum_25 2 rfl rfl ?_
      obtain ⟨i141, h142, hf143⟩ := bd_of hf85; clear hf85
      refine j_getr X fd_X1_7 h6 h142 dX1_sum_26 ?_
      refine j_iload_n X dX1_sum_29 3 rfl rfl ?_
      obtain ⟨h144, hf145⟩ := chk_of hf143; clear hf143
      refine j_lald X h144 dX1_sum_30 (fun v146 ev146 => ?_)
      replace hf145 := lt_of hf145 v146 ev146
      refine j_aload X dX1_sum_31 4 rfl ?_
      obtain ⟨i148, h149, hf150⟩ := bd_of hf145; clear hf145
      refine j_getr X fd_X1_7 h74 h149 dX1_sum_33 ?_
      refine j_iload X dX1_sum_36 5 rfl ?_
      obtain ⟨h151, hf152⟩ := chk_of hf150; clear hf150
      refine j_lald X h151 dX1_sum_38 (fun v153 ev153 => ?_)
      replace hf152 := lt_of hf152 v153 ev153
      obtain ⟨r155, σ156, h157, hf158⟩ := bc_of hf152; clear hf152
      refine j_callS0 X [.long v146, .long v153] [.int a1, .ref (q i3)] (c_X1_sumFits l D cs q v146 v153 σ _ _ h157) mk_X1_sumFits ms_X1_sumFits ml_X1_24 ⟨rfl, rfl⟩ ⟨Nat.le_of_ble_eq_true rfl, Nat.le_of_ble_eq_true rfl⟩ rfl (Nat.le_of_ble_eq_true rfl) ⟨Nat.le_of_ble_eq_true rfl, Nat.le_of_ble_eq_true rfl⟩ dX1_sum_39 rfl (st' := [.int r155, .int a1, .ref (q i3)]) rfl ?_
      refine j_if_eq X (tgt := 65) dX1_sum_42 (by decide) (fun c159 => ?_) (fun c159 => ?_)
      · have hf160 := br_y hf158 c159; clear hf158
        refine j_iconst X (v := 1) dX1_sum_65 (by decide) ?_
        refine j_goto X (tgt := 70) dX1_sum_66 (by decide) ?_
        obtain ⟨h162, hf163⟩ := chk_of hf160; clear hf160
        refine j_zast X h162 (Or.inr rfl) dX1_sum_70 (fun σ164 eσ164 => ?_)
        replace hf163 := lt_of hf163 σ164 eσ164
        refine j_aload_n X dX1_sum_71 0 rfl rfl ?_
        obtain ⟨h166, hf167⟩ := chk_of hf163; clear hf163
        obtain ⟨i168, h169, hf170⟩ := bd_of hf167; clear hf167
        refine j_getr X fd_X1_7 h166 h169 dX1_sum_72 ?_
        refine j_iload_n X dX1_sum_75 1 rfl rfl ?_
        refine j_aload_n X dX1_sum_76 2 rfl rfl ?_
        obtain ⟨h171, hf172⟩ := chk_of hf170; clear hf170
        obtain ⟨i173, h174, hf175⟩ := bd_of hf172; clear hf172
        refine j_getr X fd_X1_7 h171 h174 dX1_sum_77 ?_
        refine j_iload_n X dX1_sum_80 3 rfl rfl ?_
        obtain ⟨h176, hf177⟩ := chk_of hf175; clear hf175
        refine j_lald X h176 dX1_sum_81 (fun v178 ev178 => ?_)
        replace hf177 := lt_of hf177 v178 ev178
        refine j_aload X dX1_sum_82 4 rfl ?_
        obtain ⟨h180, hf181⟩ := chk_of hf177; clear hf177
        obtain ⟨i182, h183, hf184⟩ := bd_of hf181; clear hf181
        refine j_getr X fd_X1_7 h180 h183 dX1_sum_84 ?_
        refine j_iload X dX1_sum_87 5 rfl ?_
        obtain ⟨h185, hf186⟩ := chk_of hf184; clear hf184
        refine j_lald X h185 dX1_sum_89 (fun v187 ev187 => ?_)
        replace hf186 := lt_of hf186 v187 ev187
        refine j_ladd X dX1_sum_90 ?_
        obtain ⟨h189, hf190⟩ := chk_of hf186; clear hf186
        refine j_last X h189 dX1_sum_91 (fun σ191 eσ191 => ?_)
        replace hf190 := lt_of hf190 σ191 eσ191
        have h193 : isO σ191 1 a0 := by rw [eσ191]; exact h166
        have h194 : isO σ191 1 a2 := by rw [eσ191]; exact h171
        have h195 : isO σ191 1 a4 := by rw [eσ191]; exact h180
        refine j_aload_n X dX1_sum_92 0 rfl rfl ?_
        obtain ⟨i196, h197, hf198⟩ := bd_of hf190; clear hf190
        refine j_getr X fd_X1_13 h193 h197 dX1_sum_93 ?_
        refine j_iload_n X dX1_sum_96 1 rfl rfl ?_
        refine j_aload_n X dX1_sum_97 2 rfl rfl ?_
        obtain ⟨i199, h200, hf201⟩ := bd_of hf198; clear hf198
        refine j_getr X fd_X1_13 h194 h200 dX1_sum_98 ?_
        refine j_iload_n X dX1_sum_101 3 rfl rfl ?_
        obtain ⟨h202, hf203⟩ := chk_of hf201; clear hf201
        refine j_lald X h202 dX1_sum_102 (fun v204 ev204 => ?_)
        replace hf203 := lt_of hf203 v204 ev204
        refine j_aload X dX1_sum_103 4 rfl ?_
        obtain ⟨i206, h207, hf208⟩ := bd_of hf203; clear hf203
        refine j_getr X fd_X1_13 h195 h207 dX1_sum_105 ?_
        refine j_iload X dX1_sum_108 5 rfl ?_
        obtain ⟨h209, hf210⟩ := chk_of hf208; clear hf208
        refine j_lald X h209 dX1_sum_110 (fun v211 ev211 => ?_)
        replace hf210 := lt_of hf210 v211 ev211
        refine j_ladd X dX1_sum_111 ?_
        obtain ⟨h213, hf214⟩ := chk_of hf210; clear hf210
        refine j_last X h213 dX1_sum_112 (fun σ215 eσ215 => ?_)
        replace hf214 := lt_of hf214 σ215 eσ215
        have h217 : isO σ215 1 a0 := by rw [eσ215]; exact h193
        have h218 : isO σ215 1 a2 := by rw [eσ215]; exact h194
        have h219 : isO σ215 1 a4 := by rw [eσ215]; exact h195
        obtain ⟨er, es⟩ := rt_of hf214
        exact j_retv X hr hlk (Nat.le_of_ble_eq_true rfl) (Nat.le_of_ble_eq_true rfl) rfl es.symm rfl dX1_sum_113
      · have hf161 := br_n hf158 c159; clear hf158
        refine j_aload_n X dX1_sum_45 2 rfl rfl ?_
        obtain ⟨h220, hf221⟩ := chk_of hf161; clear hf161
        obtain ⟨i222, h223, hf224⟩ := bd_of hf221; clear hf221
        refine j_getr X fd_X1_13 h220 h223 dX1_sum_46 ?_
        refine j_iload_n X dX1_sum_49 3 rfl rfl ?_
        obtain ⟨h225, hf226⟩ := chk_of hf224; clear hf224
        refine j_lald X h225 dX1_sum_50 (fun v227 ev227 => ?_)
        replace hf226 := lt_of hf226 v227 ev227
        refine j_aload X dX1_sum_51 4 rfl ?_
        obtain ⟨h229, hf230⟩ := chk_of hf226; clear hf226
        obtain ⟨i231, h232, hf233⟩ := bd_of hf230; clear hf230
        refine j_getr X fd_X1_13 h229 h232 dX1_sum_53 ?_
        refine j_iload X dX1_sum_56 5 rfl ?_
        obtain ⟨h234, hf235⟩ := chk_of hf233; clear hf233
        refine j_lald X h234 dX1_sum_58 (fun v236 ev236 => ?_)
        replace hf235 := lt_of hf235 v236 ev236
        obtain ⟨r238, σ239, h240, hf241⟩ := bc_of hf235; clear hf235
        refine j_callS0 X [.long v227, .long v236] [.int a1, .ref (q i3)] (c_X1_sumFits l D cs q v227 v236 σ156 _ _ h240) mk_X1_sumFits ms_X1_sumFits ml_X1_24 ⟨rfl, rfl⟩ ⟨Nat.le_of_ble_eq_true rfl, Nat.le_of_ble_eq_true rfl⟩ rfl (Nat.le_of_ble_eq_true rfl) ⟨Nat.le_of_ble_eq_true rfl, Nat.le_of_ble_eq_true rfl⟩ dX1_sum_59 rfl (st' := [.int r238, .int a1, .ref (q i3)]) rfl ?_
        refine j_if_ne X (tgt := 69) dX1_sum_62 (by decide) (fun c242 => ?_) (fun c242 => ?_)
        · have hf243 := br_n hf241 c242; clear hf241
          refine j_iconst X (v := 0) dX1_sum_69 (by decide) ?_
          obtain ⟨h245, hf246⟩ := chk_of hf243; clear hf243
          refine j_zast X h245 (Or.inl rfl) dX1_sum_70 (fun σ247 eσ247 => ?_)
          replace hf246 := lt_of hf246 σ247 eσ247
          refine j_aload_n X dX1_sum_71 0 rfl rfl ?_
          obtain ⟨h249, hf250⟩ := chk_of hf246; clear hf246
          obtain ⟨i251, h252, hf253⟩ := bd_of hf250; clear hf250
          refine j_getr X fd_X1_7 h249 h252 dX1_sum_72 ?_
          refine j_iload_n X dX1_sum_75 1 rfl rfl ?_
          refine j_aload_n X dX1_sum_76 2 rfl rfl ?_
          obtain ⟨h254, hf255⟩ := chk_of hf253; clear hf253
          obtain ⟨i256, h257, hf258⟩ := bd_of hf255; clear hf255
          refine j_getr X fd_X1_7 h254 h257 dX1_sum_77 ?_
          refine j_iload_n X dX1_sum_80 3 rfl rfl ?_
          obtain ⟨h259, hf260⟩ := chk_of hf258; clear hf258
          refine j_lald X h259 dX1_sum_81 (fun v261 ev261 => ?_)
          replace hf260 := lt_of hf260 v261 ev261
          refine j_aload X dX1_sum_82 4 rfl ?_
          obtain ⟨h263, hf264⟩ := chk_of hf260; clear hf260
          obtain ⟨i265, h266, hf267⟩ := bd_of hf264; clear hf264
          refine j_getr X fd_X1_7 h263 h266 dX1_sum_84 ?_
          refine j_iload X dX1_sum_87 5 rfl ?_
          obtain ⟨h268, hf269⟩ := chk_of hf267; clear hf267
          refine j_lald X h268 dX1_sum_89 (fun v270 ev270 => ?_)
          replace hf269 := lt_of hf269 v270 ev270
          refine j_ladd X dX1_sum_90 ?_
          obtain ⟨h272, hf273⟩ := chk_of hf269; clear hf269
          refine j_last X h272 dX1_sum_91 (fun σ274 eσ274 => ?_)
          replace hf273 := lt_of hf273 σ274 eσ274
          have h276 : isO σ274 1 a0 := by rw [eσ274]; exact h249
          have h277 : isO σ274 1 a2 := by rw [eσ274]; exact h254
          have h278 : isO σ274 1 a4 := by rw [eσ274]; exact h263
          refine j_aload_n X dX1_sum_92 0 rfl rfl ?_
          obtain ⟨i279, h280, hf281⟩ := bd_of hf273; clear hf273
          refine j_getr X fd_X1_13 h276 h280 dX1_sum_93 ?_
          refine j_iload_n X dX1_sum_96 1 rfl rfl ?_
          refine j_aload_n X dX1_sum_97 2 rfl rfl ?_
          obtain ⟨i282, h283, hf284⟩ := bd_of hf281; clear hf281
          refine j_getr X fd_X1_13 h277 h283 dX1_sum_98 ?_
          refine j_iload_n X dX1_sum_101 3 rfl rfl ?_
          obtain ⟨h285, hf286⟩ := chk_of hf284; clear hf284
          refine j_lald X h285 dX1_sum_102 (fun v287 ev287 => ?_)
          replace hf286 := lt_of hf286 v287 ev287
          refine j_aload X dX1_sum_103 4 rfl ?_
          obtain ⟨i289, h290, hf291⟩ := bd_of hf286; clear hf286
          refine j_getr X fd_X1_13 h278 h290 dX1_sum_105 ?_
          refine j_iload X dX1_sum_108 5 rfl ?_
          obtain ⟨h292, hf293⟩ := chk_of hf291; clear hf291
          refine j_lald X h292 dX1_sum_110 (fun v294 ev294 => ?_)
          replace hf293 := lt_of hf293 v294 ev294
          refine j_ladd X dX1_sum_111 ?_
          obtain ⟨h296, hf297⟩ := chk_of hf293; clear hf293
          refine j_last X h296 dX1_sum_112 (fun σ298 eσ298 => ?_)
          replace hf297 := lt_of hf297 σ298 eσ298
          have h300 : isO σ298 1 a0 := by rw [eσ298]; exact h276
          have h301 : isO σ298 1 a2 := by rw [eσ298]; exact h277
          have h302 : isO σ298 1 a4 := by rw [eσ298]; exact h278
          obtain ⟨er, es⟩ := rt_of hf297
          exact j_retv X hr hlk (Nat.le_of_ble_eq_true rfl) (Nat.le_of_ble_eq_true rfl) rfl es.symm rfl dX1_sum_113
        · have hf244 := br_y hf241 c242; clear hf241
          refine j_iconst X (v := 1) dX1_sum_65 (by decide) ?_
          refine j_goto X (tgt := 70) dX1_sum_66 (by decide) ?_
          obtain ⟨h303, hf304⟩ := chk_of hf244; clear hf244
          refine j_zast X h303 (Or.inr rfl) dX1_sum_70 (fun σ305 eσ305 => ?_)
          replace hf304 := lt_of hf304 σ305 eσ305
          refine j_aload_n X dX1_sum_71 0 rfl rfl ?_
          obtain ⟨h307, hf308⟩ := chk_of hf304; clear hf304
          obtain ⟨i309, h310, hf311⟩ := bd_of hf308; clear hf308
          refine j_getr X fd_X1_7 h307 h310 dX1_sum_72 ?_
          refine j_iload_n X dX1_sum_75 1 rfl rfl ?_
          refine j_aload_n X dX1_sum_76 2 rfl rfl ?_
          obtain ⟨h312, hf313⟩ := chk_of hf311; clear hf311
          obtain ⟨i314, h315, hf316⟩ := bd_of hf313; clear hf313
          refine j_getr X fd_X1_7 h312 h315 dX1_sum_77 ?_
          refine j_iload_n X dX1_sum_80 3 rfl rfl ?_
          obtain ⟨h317, hf318⟩ := chk_of hf316; clear hf316
          refine j_lald X h317 dX1_sum_81 (fun v319 ev319 => ?_)
          replace hf318 := lt_of hf318 v319 ev319
          refine j_aload X dX1_sum_82 4 rfl ?_
          obtain ⟨h321, hf322⟩ := chk_of hf318; clear hf318
          obtain ⟨i323, h324, hf325⟩ := bd_of hf322; clear hf322
          refine j_getr X fd_X1_7 h321 h324 dX1_sum_84 ?_
          refine j_iload X dX1_sum_87 5 rfl ?_
          obtain ⟨h326, hf327⟩ := chk_of hf325; clear hf325
          refine j_lald X h326 dX1_sum_89 (fun v328 ev328 => ?_)
          replace hf327 := lt_of hf327 v328 ev328
          refine j_ladd X dX1_sum_90 ?_
          obtain ⟨h330, hf331⟩ := chk_of hf327; clear hf327
          refine j_last X h330 dX1_sum_91 (fun σ332 eσ332 => ?_)
          replace hf331 := lt_of hf331 σ332 eσ332
          have h334 : isO σ332 1 a0 := by rw [eσ332]; exact h307
          have h335 : isO σ332 1 a2 := by rw [eσ332]; exact h312
          have h336 : isO σ332 1 a4 := by rw [eσ332]; exact h321
          refine j_aload_n X dX1_sum_92 0 rfl rfl ?_
          obtain ⟨i337, h338, hf339⟩ := bd_of hf331; clear hf331
          refine j_getr X fd_X1_13 h334 h338 dX1_sum_93 ?_
          refine j_iload_n X dX1_sum_96 1 rfl rfl ?_
          refine j_aload_n X dX1_sum_97 2 rfl rfl ?_
          obtain ⟨i340, h341, hf342⟩ := bd_of hf339; clear hf339
          refine j_getr X fd_X1_13 h335 h341 dX1_sum_98 ?_
          refine j_iload_n X dX1_sum_101 3 rfl rfl ?_
          obtain ⟨h343, hf344⟩ := chk_of hf342; clear hf342
          refine j_lald X h343 dX1_sum_102 (fun v345 ev345 => ?_)
          replace hf344 := lt_of hf344 v345 ev345
          refine j_aload X dX1_sum_103 4 rfl ?_
          obtain ⟨i347, h348, hf349⟩ := bd_of hf344; clear hf344
          refine j_getr X fd_X1_13 h336 h348 dX1_sum_105 ?_
          refine j_iload X dX1_sum_108 5 rfl ?_
          obtain ⟨h350, hf351⟩ := chk_of hf349; clear hf349
          refine j_lald X h350 dX1_sum_110 (fun v352 ev352 => ?_)
          replace hf351 := lt_of hf351 v352 ev352
          refine j_ladd X dX1_sum_111 ?_
          obtain ⟨h354, hf355⟩ := chk_of hf351; clear hf351
          refine j_last X h354 dX1_sum_112 (fun σ356 eσ356 => ?_)
          replace hf355 := lt_of hf355 σ356 eσ356
          have h358 : isO σ356 1 a0 := by rw [eσ356]; exact h334
          have h359 : isO σ356 1 a2 := by rw [eσ356]; exact h335
          have h360 : isO σ356 1 a4 := by rw [eσ356]; exact h336
          obtain ⟨er, es⟩ := rt_of hf355
          exact j_retv X hr hlk (Nat.le_of_ble_eq_true rfl) (Nat.le_of_ble_eq_true rfl) rfl es.symm rfl dX1_sum_113
