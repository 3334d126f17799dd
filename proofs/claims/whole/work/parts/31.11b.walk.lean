abbrev rm_X2_becomeLike : Room := { frames := 1, cells := 0, slots := 0, locals := 64 }
set_option maxHeartbeats 4000000 in
set_option maxRecDepth 100000 in
theorem c_X2_becomeLike (l : Launch) (D : va_G) (cs : Nat → ClassId) (q : Nat → Nat) (a0 : Nat) (a1 : Nat) (σ σ0 : HS) (r0 : Unit) (hf0 : f_X2_becomeLike a0 a1 σ = some (r0, σ0)) : MT l yX2_becomeLike (Cond.code yX2_becomeLike cX2_becomeLike 3 none :: lw_g) rm_X2_becomeLike D cs q σ σ0 [.ref (q a0), .ref (q a1)] (fun z => z = q) (fun _ => none) 0 0 := by
  unfold f_X2_becomeLike at hf0
  refine MT_of (cc := cX2_becomeLike) (lv0 := [(0, .ref (q a0)), (1, .ref (q a1))]) (by decide) (Nat.le_of_ble_eq_true rfl) rfl (fun p e s m args below meth c A X hr hlk hin => ?_)
  have L47 : ∀ (nk : Nat) (x0 : Nat) (x1 : Nat) (x2 : Int32) (τ : HS), lp_X2_becomeLike_47  nk x0 x1 x2 τ = some (r0, σ0) → J p l e rm_X2_becomeLike s m args below meth c 3 D cs A s.heap 0 0 (MQ below (hQ D cs (fun z => z = q) (fun _ => none) σ0 A) args s 0 0 A) q τ [(0, .ref (q x0)), (1, .ref (q x1)), (2, .int x2)] 47 [] := by
    intro nk
    induction nk with
    | zero => intro x0 x1 x2 τ hf0; have hf1 : (none : Option (Unit × HS)) = some (r0, σ0) := hf0; cases hf1
    | succ nk ih =>
      intro x0 x1 x2 τ hf0
      replace hf0 : lp_X2_becomeLike_47_b  (lp_X2_becomeLike_47  nk) x0 x1 x2 τ = some (r0, σ0) := hf0
      unfold lp_X2_becomeLike_47_b at hf0
      refine j_iload_n X dX2_becomeLike_47 2 rfl rfl ?_
      refine j_bipush X (v := 6) dX2_becomeLike_48 (by decide) ?_
      refine j_icmp_ge X (tgt := 71) dX2_becomeLike_50 (by decide) (fun c43 => ?_) (fun c43 => ?_)
      · have hf44 := br_y hf0 c43; clear hf0
        refine j_aload_n X dX2_becomeLike_71 0 rfl rfl ?_
        refine j_aload_n X dX2_becomeLike_72 1 rfl rfl ?_
        obtain ⟨h46, hf47⟩ := chk_of hf44; clear hf44
        refine j_geti X fd_X2_27 h46 dX2_becomeLike_73 (fun v48 ev48 => ?_)
        replace hf47 := lt_of hf47 v48 ev48
        obtain ⟨h50, hf51⟩ := chk_of hf47; clear hf47
        refine j_puti X fp_X2_27 h50 dX2_becomeLike_76 (fun σ52 eσ52 => ?_)
        replace hf51 := lt_of hf51 σ52 eσ52
        have h54 : isO σ52 2 x1 := by rw [eσ52]; exact h46
        have h55 : isO σ52 2 x0 := by rw [eσ52]; exact h50
        refine j_aload_n X dX2_becomeLike_79 1 rfl rfl ?_
        obtain ⟨i56, h57, hf58⟩ := bd_of hf51; clear hf51
        refine j_getr X fd_X2_31 h54 h57 dX2_becomeLike_80 ?_
        refine j_iconst X (v := 0) dX2_becomeLike_83 (by decide) ?_
        refine j_aload_n X dX2_becomeLike_84 0 rfl rfl ?_
        obtain ⟨i59, h60, hf61⟩ := bd_of hf58; clear hf58
        refine j_getr X fd_X2_31 h55 h60 dX2_becomeLike_85 ?_
        refine j_iconst X (v := 0) dX2_becomeLike_88 (by decide) ?_
        refine j_bipush X (v := 8) dX2_becomeLike_89 (by decide) ?_
        obtain ⟨h62, hf63⟩ := chk_of hf61; clear hf61
        refine j_copy X h62 ml_X2_49 (Nat.le_of_ble_eq_true rfl) (Nat.le_of_ble_eq_true rfl) dX2_becomeLike_91 (fun σ64 eσ64 => ?_)
        replace hf63 := lt_of hf63 σ64 eσ64
        have h66 : isO σ64 2 x1 := by rw [eσ64]; exact h54
        have h67 : isO σ64 2 x0 := by rw [eσ64]; exact h55
        refine j_aload_n X dX2_becomeLike_94 1 rfl rfl ?_
        obtain ⟨i68, h69, hf70⟩ := bd_of hf63; clear hf63
        refine j_getr X fd_X2_34 h66 h69 dX2_becomeLike_95 ?_
        refine j_iconst X (v := 0) dX2_becomeLike_98 (by decide) ?_
        refine j_aload_n X dX2_becomeLike_99 0 rfl rfl ?_
        obtain ⟨i71, h72, hf73⟩ := bd_of hf70; clear hf70
        refine j_getr X fd_X2_34 h67 h72 dX2_becomeLike_100 ?_
        refine j_iconst X (v := 0) dX2_becomeLike_103 (by decide) ?_
        refine j_bipush X (v := 8) dX2_becomeLike_104 (by decide) ?_
        obtain ⟨h74, hf75⟩ := chk_of hf73; clear hf73
        refine j_copy X h74 ml_X2_49 (Nat.le_of_ble_eq_true rfl) (Nat.le_of_ble_eq_true rfl) dX2_becomeLike_106 (fun σ76 eσ76 => ?_)
        replace hf75 := lt_of hf75 σ76 eσ76
        have h78 : isO σ76 2 x1 := by rw [eσ76]; exact h66
        have h79 : isO σ76 2 x0 := by rw [eσ76]; exact h67
        refine j_aload_n X dX2_becomeLike_109 1 rfl rfl ?_
        obtain ⟨i80, h81, hf82⟩ := bd_of hf75; clear hf75
        refine j_getr X fd_X2_37 h78 h81 dX2_becomeLike_110 ?_
        refine j_iconst X (v := 0) dX2_becomeLike_113 (by decide) ?_
        refine j_aload_n X dX2_becomeLike_114 0 rfl rfl ?_
        obtain ⟨i83, h84, hf85⟩ := bd_of hf82; clear hf82
        refine j_getr X fd_X2_37 h79 h84 dX2_becomeLike_115 ?_
        refine j_iconst X (v := 0) dX2_becomeLike_118 (by decide) ?_
        refine j_bipush X (v := 8) dX2_becomeLike_119 (by decide) ?_
        obtain ⟨h86, hf87⟩ := chk_of hf85; clear hf85
        refine j_copy X h86 ml_X2_49 (Nat.le_of_ble_eq_true rfl) (Nat.le_of_ble_eq_true rfl) dX2_becomeLike_121 (fun σ88 eσ88 => ?_)
        replace hf87 := lt_of hf87 σ88 eσ88
        have h90 : isO σ88 2 x1 := by rw [eσ88]; exact h78
        have h91 : isO σ88 2 x0 := by rw [eσ88]; exact h79
        refine j_aload_n X dX2_becomeLike_124 0 rfl rfl ?_
        refine j_aload_n X dX2_becomeLike_125 1 rfl rfl ?_
        refine j_geti X fd_X2_40 h90 dX2_becomeLike_126 (fun v92 ev92 => ?_)
        replace hf87 := lt_of hf87 v92 ev92
        refine j_puti X fp_X2_40 h91 dX2_becomeLike_129 (fun σ94 eσ94 => ?_)
        replace hf87 := lt_of hf87 σ94 eσ94
        have h96 : isO σ94 2 x1 := by rw [eσ94]; exact h90
        have h97 : isO σ94 2 x0 := by rw [eσ94]; exact h91
        obtain ⟨er, es⟩ := rt_of hf87
        exact j_retv X hr hlk (Nat.le_of_ble_eq_true rfl) (Nat.le_of_ble_eq_true rfl) rfl es.symm rfl dX2_becomeLike_132
      · have hf45 := br_n hf0 c43; clear hf0
        refine j_aload_n X dX2_becomeLike_53 0 rfl rfl ?_
        obtain ⟨h98, hf99⟩ := chk_of hf45; clear hf45
        obtain ⟨i100, h101, hf102⟩ := bd_of hf99; clear hf99
        refine j_getr X fd_X2_23 h98 h101 dX2_becomeLike_54 ?_
        refine j_iload_n X dX2_becomeLike_57 2 rfl rfl ?_
        refine j_aload_n X dX2_becomeLike_58 1 rfl rfl ?_
        obtain ⟨h103, hf104⟩ := chk_of hf102; clear hf102
        obtain ⟨i105, h106, hf107⟩ := bd_of hf104; clear hf104
        refine j_getr X fd_X2_23 h103 h106 dX2_becomeLike_59 ?_
        refine j_iload_n X dX2_becomeLike_62 2 rfl rfl ?_
        obtain ⟨h108, hf109⟩ := chk_of hf107; clear hf107
        refine j_aald X h108 dX2_becomeLike_63 (fun o110 eo110 => ?_)
        replace hf109 := lt_of hf109 o110 eo110
        obtain ⟨h112, hf113⟩ := chk_of hf109; clear hf109
        obtain ⟨h114, hf115⟩ := chk_of hf113; clear hf113
        refine j_aast X (o := o110) h112 h114 dX2_becomeLike_64 (fun σ116 eσ116 => ?_)
        replace hf115 := lt_of hf115 σ116 eσ116
        have h118 : isO σ116 2 x0 := by rw [eσ116]; exact h98
        have h119 : isO σ116 2 x1 := by rw [eσ116]; exact h103
        obtain ⟨v120, ev120⟩ : ∃ y : Int32, y = x2 + (1 : Int32) := ⟨_, rfl⟩
        replace hf115 := lt_of hf115 v120 ev120
        refine j_iinc X (v := v120) (lv' := [(2, .int v120), (0, .ref (q x0)), (1, .ref (q x1))]) dX2_becomeLike_65 2 rfl (by rw [ev120]; rfl) (by decide) rfl ?_
        refine j_goto X (tgt := 47) dX2_becomeLike_68 (by decide) ?_
        refine j_lvsub [1, 2, 0] (lv' := [(0, .ref (q x0)), (1, .ref (q x1)), (2, .int v120)]) rfl ?_
        exact ih x0 x1 v120 σ116 hf115
  refine j_aload_n X dX2_becomeLike_0 1 rfl rfl ?_
  obtain ⟨h1, hf2⟩ := chk_of hf0; clear hf0
  obtain ⟨i3, h4, hf5⟩ := bd_of hf2; clear hf2
  refine j_getr X fd_X2_9 h1 h4 dX2_becomeLike_1 ?_
  refine j_iconst X (v := 0) dX2_becomeLike_4 (by decide) ?_
  refine j_aload_n X dX2_becomeLike_5 0 rfl rfl ?_
  obtain ⟨h6, hf7⟩ := chk_of hf5; clear hf5
  obtain ⟨i8, h9, hf10⟩ := bd_of hf7; clear hf7
  refine j_getr X fd_X2_9 h6 h9 dX2_becomeLike_6 ?_
  refine j_iconst X (v := 0) dX2_becomeLike_9 (by decide) ?_
  refine j_bipush X (v := 6) dX2_becomeLike_10 (by decide) ?_
  obtain ⟨h11, hf12⟩ := chk_of hf10; clear hf10
  refine j_copy X h11 ml_X2_49 (Nat.le_of_ble_eq_true rfl) (Nat.le_of_ble_eq_true rfl) dX2_becomeLike_12 (fun σ13 eσ13 => ?_)
  replace hf12 := lt_of hf12 σ13 eσ13
  have h15 : isO σ13 2 a1 := by rw [eσ13]; exact h1
  have h16 : isO σ13 2 a0 := by rw [eσ13]; exact h6
  refine j_aload_n X dX2_becomeLike_15 1 rfl rfl ?_
  obtain ⟨i17, h18, hf19⟩ := bd_of hf12; clear hf12
  refine j_getr X fd_X2_15 h15 h18 dX2_becomeLike_16 ?_
  refine j_iconst X (v := 0) dX2_becomeLike_19 (by decide) ?_
  refine j_aload_n X dX2_becomeLike_20 0 rfl rfl ?_
  obtain ⟨i20, h21, hf22⟩ := bd_of hf19; clear hf19
  refine j_getr X fd_X2_15 h16 h21 dX2_becomeLike_21 ?_
  refine j_iconst X (v := 0) dX2_becomeLike_24 (by decide) ?_
  refine j_bipush X (v := 6) dX2_becomeLike_25 (by decide) ?_
  obtain ⟨h23, hf24⟩ := chk_of hf22; clear hf22
  refine j_copy X h23 ml_X2_49 (Nat.le_of_ble_eq_true rfl) (Nat.le_of_ble_eq_true rfl) dX2_becomeLike_27 (fun σ25 eσ25 => ?_)
  replace hf24 := lt_of hf24 σ25 eσ25
  have h27 : isO σ25 2 a1 := by rw [eσ25]; exact h15
  have h28 : isO σ25 2 a0 := by rw [eσ25]; exact h16
  refine j_aload_n X dX2_becomeLike_30 1 rfl rfl ?_
  obtain ⟨i29, h30, hf31⟩ := bd_of hf24; clear hf24
  refine j_getr X fd_X2_18 h27 h30 dX2_becomeLike_31 ?_
  refine j_iconst X (v := 0) dX2_becomeLike_34 (by decide) ?_
  refine j_aload_n X dX2_becomeLike_35 0 rfl rfl ?_
  obtain ⟨i32, h33, hf34⟩ := bd_of hf31; clear hf31
  refine j_getr X fd_X2_18 h28 h33 dX2_becomeLike_36 ?_
  refine j_iconst X (v := 0) dX2_becomeLike_39 (by decide) ?_
  refine j_bipush X (v := 6) dX2_becomeLike_40 (by decide) ?_
  obtain ⟨h35, hf36⟩ := chk_of hf34; clear hf34
  refine j_copy X h35 ml_X2_49 (Nat.le_of_ble_eq_true rfl) (Nat.le_of_ble_eq_true rfl) dX2_becomeLike_42 (fun σ37 eσ37 => ?_)
  replace hf36 := lt_of hf36 σ37 eσ37
  have h39 : isO σ37 2 a1 := by rw [eσ37]; exact h27
  have h40 : isO σ37 2 a0 := by rw [eσ37]; exact h28
  refine j_iconst X (v := 0) dX2_becomeLike_45 (by decide) ?_
  refine j_nmi (fun v41 ev41 => ?_)
  replace hf36 := lt_of hf36 v41 ev41
  refine j_istore_n X (lv' := [(2, .int v41), (0, .ref (q a0)), (1, .ref (q a1))]) dX2_becomeLike_46 rfl (by decide) rfl ?_
  refine j_lvsub [1, 2, 0] (lv' := [(0, .ref (q a0)), (1, .ref (q a1)), (2, .int v41)]) rfl ?_
  exact L47  1000 a0 a1 v41 σ37 hf36
abbrev rm_X2_costOf : Room := { frames := 0, cells := 0, slots := 0, locals := 0 }
set_option maxHeartbeats 4000000 in
set_option maxRecDepth 100000 in
theorem c_X2_costOf (l : Launch) (D : va_G) (cs : Nat → ClassId) (q : Nat → Nat) (a0 : Nat) (a1 : Int32) (σ σ0 : HS) (r0 : Int32) (hf0 : f_X2_costOf a0 a1 σ = some (r0, σ0)) : MT l yX2_costOf (Cond.code yX2_costOf cX2_costOf 4 (some .int) :: lw_g) rm_X2_costOf D cs q σ σ0 [.ref (q a0), .int a1] (fun z => z = q) (fun _ => some (.int r0)) 0 0 := by
  unfold f_X2_costOf at hf0
  refine MT_of (cc := cX2_costOf) (lv0 := [(0, .ref (q a0)), (1, .int a1)]) (by decide) (Nat.le_of_ble_eq_true rfl) rfl (fun p e s m args below meth c A X hr hlk hin => ?_)
  have L4 : ∀ (nk : Nat) (x0 : Nat) (x1 : Int32) (x2 : Int32) (x3 : Int32) (τ : HS), lp_X2_costOf_4  nk x0 x1 x2 x3 τ = some (r0, σ0) → J p l e rm_X2_costOf s m args below meth c 4 D cs A s.heap 0 0 (MQ below (hQ D cs (fun z => z = q) (fun _ => some (.int r0)) σ0 A) args s 0 0 A) q τ [(0, .ref (q x0)), (1, .int x1), (2, .int x2), (3, .int x3)] 4 [] := by
    intro nk
    induction nk with
    | zero => intro x0 x1 x2 x3 τ hf0; have hf1 : (none : Option (Int32 × HS)) = some (r0, σ0) := hf0; cases hf1
    | succ nk ih =>
      intro x0 x1 x2 x3 τ hf0
      replace hf0 : lp_X2_costOf_4_b  (lp_X2_costOf_4  nk) x0 x1 x2 x3 τ = some (r0, σ0) := hf0
      unfold lp_X2_costOf_4_b at hf0
      refine j_iload_n X dX2_costOf_4 3 rfl rfl ?_
      refine j_bipush X (v := 6) dX2_costOf_5 (by decide) ?_
      refine j_icmp_ge X (tgt := 38) dX2_costOf_7 (by decide) (fun c5 => ?_) (fun c5 => ?_)
      · have hf6 := br_y hf0 c5; clear hf0
        refine j_iload_n X dX2_costOf_38 2 rfl rfl ?_
        obtain ⟨er, es⟩ := rt_of hf6
        subst er
        exact j_reti X hr hlk (Nat.le_of_ble_eq_true rfl) (Nat.le_of_ble_eq_true rfl) rfl es.symm rfl dX2_costOf_39
      · have hf7 := br_n hf0 c5; clear hf0
        refine j_iload_n X dX2_costOf_10 2 rfl rfl ?_
        refine j_iload_n X dX2_costOf_11 1 rfl rfl ?_
        refine j_iload_n X dX2_costOf_12 3 rfl rfl ?_
        refine j_ishr X dX2_costOf_13 ?_
        refine j_iconst X (v := 1) dX2_costOf_14 (by decide) ?_
        refine j_iand X dX2_costOf_15 ?_
        refine j_iconst X (v := 1) dX2_costOf_16 (by decide) ?_
        refine j_icmp_ne X (tgt := 29) dX2_costOf_17 (by decide) (fun c8 => ?_) (fun c8 => ?_)
        · have hf9 := br_n hf7 c8; clear hf7
          refine j_iconst X (v := 0) dX2_costOf_29 (by decide) ?_
          refine j_iadd X dX2_costOf_30 ?_
          refine j_nmi (fun v11 ev11 => ?_)
          replace hf9 := lt_of hf9 v11 ev11
          refine j_istore_n X (lv' := [(2, .int v11), (0, .ref (q x0)), (1, .int x1), (3, .int x3)]) dX2_costOf_31 rfl (by decide) rfl ?_
          obtain ⟨v13, ev13⟩ : ∃ y : Int32, y = x3 + (1 : Int32) := ⟨_, rfl⟩
          replace hf9 := lt_of hf9 v13 ev13
          refine j_iinc X (v := v13) (lv' := [(3, .int v13), (2, .int v11), (0, .ref (q x0)), (1, .int x1)]) dX2_costOf_32 3 rfl (by rw [ev13]; rfl) (by decide) rfl ?_
          refine j_goto X (tgt := 4) dX2_costOf_35 (by decide) ?_
          refine j_lvsub [2, 3, 1, 0] (lv' := [(0, .ref (q x0)), (1, .int x1), (2, .int v11), (3, .int v13)]) rfl ?_
          exact ih x0 x1 v11 v13 τ hf9
        · have hf10 := br_y hf7 c8; clear hf7
          refine j_aload_n X dX2_costOf_20 0 rfl rfl ?_
          obtain ⟨h15, hf16⟩ := chk_of hf10; clear hf10
          obtain ⟨i17, h18, hf19⟩ := bd_of hf16; clear hf16
          refine j_getr X fd_X2_18 h15 h18 dX2_costOf_21 ?_
          refine j_iload_n X dX2_costOf_24 3 rfl rfl ?_
          obtain ⟨h20, hf21⟩ := chk_of hf19; clear hf19
          refine j_iald X h20 dX2_costOf_25 (fun v22 ev22 => ?_)
          replace hf21 := lt_of hf21 v22 ev22
          refine j_goto X (tgt := 30) dX2_costOf_26 (by decide) ?_
          refine j_iadd X dX2_costOf_30 ?_
          refine j_nmi (fun v24 ev24 => ?_)
          replace hf21 := lt_of hf21 v24 ev24
          refine j_istore_n X (lv' := [(2, .int v24), (0, .ref (q x0)), (1, .int x1), (3, .int x3)]) dX2_costOf_31 rfl (by decide) rfl ?_
          obtain ⟨v26, ev26⟩ : ∃ y : Int32, y = x3 + (1 : Int32) := ⟨_, rfl⟩
          replace hf21 := lt_of hf21 v26 ev26
          refine j_iinc X (v := v26) (lv' := [(3, .int v26), (2, .int v24), (0, .ref (q x0)), (1, .int x1)]) dX2_costOf_32 3 rfl (by rw [ev26]; rfl) (by decide) rfl ?_
          refine j_goto X (tgt := 4) dX2_costOf_35 (by decide) ?_
          refine j_lvsub [2, 3, 1, 0] (lv' := [(0, .ref (q x0)), (1, .int x1), (2, .int v24), (3, .int v26)]) rfl ?_
          exact ih x0 x1 v24 v26 τ hf21
  refine j_iconst X (v := 0) dX2_costOf_0 (by decide) ?_
  refine j_nmi (fun v1 ev1 => ?_)
  replace hf0 := lt_of hf0 v1 ev1
  refine j_istore_n X (lv' := [(2, .int v1), (0, .ref (q a0)), (1, .int a1)]) dX2_costOf_1 rfl (by decide) rfl ?_
  refine j_iconst X (v := 0) dX2_costOf_2 (by decide) ?_
  refine j_nmi (fun v3 ev3 => ?_)
  replace hf0 := lt_of hf0 v3 ev3
  refine j_istore_n X (lv' := [(3, .int v3), (2, .int v1), (0, .ref (q a0)), (1, .int a1)]) dX2_costOf_3 rfl (by decide) rfl ?_
  refine j_lvsub [2, 3, 1, 0] (lv' := [(0, .ref (q a0)), (1, .int a1), (2, .int v1), (3, .int v3)]) rfl ?_
  exact L4  1000 a0 a1 v1 v3 σ hf0
abbrev rm_X2_highOf : Room := { frames := 0, cells := 0, slots := 0, locals := 0 }
set_option maxHeartbeats 4000000 in
set_option maxRecDepth 100000 in
theorem c_X2_highOf (l : Launch) (D : va_G) (cs : Nat → ClassId) (q : Nat → Nat) (a0 : Nat) (a1 : Int32) (σ σ0 : HS) (r0 : Int32) (hf0 : f_X2_highOf a0 a1 σ = some (r0, σ0)) : MT l yX2_highOf (Cond.code yX2_highOf cX2_highOf 2 (some .int) :: lw_g) rm_X2_highOf D cs q σ σ0 [.ref (q a0), .int a1] (fun z => z = q) (fun _ => some (.int r0)) 0 0 := by
  unfold f_X2_highOf at hf0
  refine MT_of (cc := cX2_highOf) (lv0 := [(0, .ref (q a0)), (1, .int a1)]) (by decide) (Nat.le_of_ble_eq_true rfl) rfl (fun p e s m args below meth c A X hr hlk hin => ?_)
  refine j_aload_n X dX2_highOf_0 0 rfl rfl ?_
  obtain ⟨h1, hf2⟩ := chk_of hf0; clear hf0
  obtain ⟨i3, h4, hf5⟩ := bd_of hf2; clear hf2
  refine j_getr X fd_X2_9 h1 h4 dX2_highOf_1 ?_
  refine j_iload_n X dX2_highOf_4 1 rfl rfl ?_
  obtain ⟨h6, hf7⟩ := chk_of hf5; clear hf5
  refine j_iald X h6 dX2_highOf_5 (fun v8 ev8 => ?_)
  replace hf7 := lt_of hf7 v8 ev8
  refine j_aload_n X dX2_highOf_6 0 rfl rfl ?_
  obtain ⟨i10, h11, hf12⟩ := bd_of hf7; clear hf7
  refine j_getr X fd_X2_15 h1 h11 dX2_highOf_7 ?_
  refine j_iload_n X dX2_highOf_10 1 rfl rfl ?_
  obtain ⟨h13, hf14⟩ := chk_of hf12; clear hf12
  refine j_iald X h13 dX2_highOf_11 (fun v15 ev15 => ?_)
  replace hf14 := lt_of hf14 v15 ev15
  refine j_iadd X dX2_highOf_12 ?_
  obtain ⟨er, es⟩ := rt_of hf14
  subst er
  exact j_reti X hr hlk (Nat.le_of_ble_eq_true rfl) (Nat.le_of_ble_eq_true rfl) rfl es.symm rfl dX2_highOf_13
abbrev rm_X2_lowOf : Room := { frames := 0, cells := 0, slots := 0, locals := 0 }
set_option maxHeartbeats 4000000 in
set_option maxRecDepth 100000 in
theorem c_X2_lowOf (l : Launch) (D : va_G) (cs : Nat → ClassId) (q : Nat → Nat) (a0 : Nat) (a1 : Int32) (σ σ0 : HS) (r0 : Int32) (hf0 : f_X2_lowOf a0 a1 σ = some (r0, σ0)) : MT l yX2_lowOf (Cond.code yX2_lowOf cX2_lowOf 2 (some .int) :: lw_g) rm_X2_lowOf D cs q σ σ0 [.ref (q a0), .int a1] (fun z => z = q) (fun _ => some (.int r0)) 0 0 := by
  unfold f_X2_lowOf at hf0
  refine MT_of (cc := cX2_lowOf) (lv0 := [(0, .ref (q a0)), (1, .int a1)]) (by decide) (Nat.le_of_ble_eq_true rfl) rfl (fun p e s m args below meth c A X hr hlk hin => ?_)
  refine j_aload_n X dX2_lowOf_0 0 rfl rfl ?_
  obtain ⟨h1, hf2⟩ := chk_of hf0; clear hf0
  obtain ⟨i3, h4, hf5⟩ := bd_of hf2; clear hf2
  refine j_getr X fd_X2_9 h1 h4 dX2_lowOf_1 ?_
  refine j_iload_n X dX2_lowOf_4 1 rfl rfl ?_
  obtain ⟨h6, hf7⟩ := chk_of hf5; clear hf5
  refine j_iald X h6 dX2_lowOf_5 (fun v8 ev8 => ?_)
  replace hf7 := lt_of hf7 v8 ev8
  refine j_aload_n X dX2_lowOf_6 0 rfl rfl ?_
  obtain ⟨i10, h11, hf12⟩ := bd_of hf7; clear hf7
  refine j_getr X fd_X2_15 h1 h11 dX2_lowOf_7 ?_
  refine j_iload_n X dX2_lowOf_10 1 rfl rfl ?_
  obtain ⟨h13, hf14⟩ := chk_of hf12; clear hf12
  refine j_iald X h13 dX2_lowOf_11 (fun v15 ev15 => ?_)
  replace hf14 := lt_of hf14 v15 ev15
  refine j_isub X dX2_lowOf_12 ?_
  obtain ⟨er, es⟩ := rt_of hf14
  subst er
  exact j_reti X hr hlk (Nat.le_of_ble_eq_true rfl) (Nat.le_of_ble_eq_true rfl) rfl es.symm rfl dX2_lowOf_13
abbrev rm_X2_rowOf : Room := { frames := 0, cells := 0, slots := 0, locals := 0 }
set_option maxHeartbeats 4000000 in
set_option maxRecDepth 100000 in
theorem c_X2_rowOf (l : Launch) (D : va_G) (cs : Nat → ClassId) (q : Nat → Nat) (a0 : Nat) (a1 : Int32) (σ σ0 : HS) (r0 : (Option Nat)) (hf0 : f_X2_rowOf a0 a1 σ = some (r0, σ0)) : MT l yX2_rowOf (Cond.code yX2_rowOf cX2_rowOf 2 (some (.array .int)) :: lw_g) rm_X2_rowOf D cs q σ σ0 [.ref (q a0), .int a1] (fun z => z = q) (fun z => some (va_rf (Option.map z r0))) 0 0 := by
  unfold f_X2_rowOf at hf0
  refine MT_of (cc := cX2_rowOf) (lv0 := [(0, .ref (q a0)), (1, .int a1)]) (by decide) (Nat.le_of_ble_eq_true rfl) rfl (fun p e s m args below meth c A X hr hlk hin => ?_)
  refine j_iload_n X dX2_rowOf_0 1 rfl rfl ?_
  refine j_if_ne X (tgt := 11) dX2_rowOf_1 (by decide) (fun c1 => ?_) (fun c1 => ?_)
  · have hf2 := br_n hf0 c1; clear hf0
    refine j_iload_n X dX2_rowOf_11 1 rfl rfl ?_
    refine j_iconst X (v := 1) dX2_rowOf_12 (by decide) ?_
    refine j_icmp_ne X (tgt := 23) dX2_rowOf_13 (by decide) (fun c4 => ?_) (fun c4 => ?_)
    · have hf5 := br_n hf2 c4; clear hf2
      refine j_aload_n X dX2_rowOf_23 0 rfl rfl ?_
      obtain ⟨h7, hf8⟩ := chk_of hf5; clear hf5
      obtain ⟨i9, h10, hf11⟩ := bd_of hf8; clear hf8
      refine j_getr X fd_X2_18 h7 h10 dX2_rowOf_24 ?_
      obtain ⟨er, es⟩ := rt_of hf11
      subst er
      exact j_reta (o := Option.map q (some i9)) X hr rfl hlk (Nat.le_of_ble_eq_true rfl) (Nat.le_of_ble_eq_true rfl) rfl es.symm rfl dX2_rowOf_27
    · have hf6 := br_y hf2 c4; clear hf2
      refine j_aload_n X dX2_rowOf_16 0 rfl rfl ?_
      obtain ⟨h12, hf13⟩ := chk_of hf6; clear hf6
      obtain ⟨i14, h15, hf16⟩ := bd_of hf13; clear hf13
      refine j_getr X fd_X2_15 h12 h15 dX2_rowOf_17 ?_
      refine j_goto X (tgt := 27) dX2_rowOf_20 (by decide) ?_
      obtain ⟨er, es⟩ := rt_of hf16
      subst er
      exact j_reta (o := Option.map q (some i14)) X hr rfl hlk (Nat.le_of_ble_eq_true rfl) (Nat.le_of_ble_eq_true rfl) rfl es.symm rfl dX2_rowOf_27
  · have hf3 := br_y hf0 c1; clear hf0
    refine j_aload_n X dX2_rowOf_4 0 rfl rfl ?_
    obtain ⟨h17, hf18⟩ := chk_of hf3; clear hf3
    obtain ⟨i19, h20, hf21⟩ := bd_of hf18; clear hf18
    refine j_getr X fd_X2_9 h17 h20 dX2_rowOf_5 ?_
    refine j_goto X (tgt := 27) dX2_rowOf_8 (by decide) ?_
    obtain ⟨er, es⟩ := rt_of hf21
    subst er
    exact j_reta (o := Option.map q (some i19)) X hr rfl hlk (Nat.le_of_ble_eq_true rfl) (Nat.le_of_ble_eq_true rfl) rfl es.symm rfl dX2_rowOf_27
abbrev rm_X2_spanBehind : Room := { frames := 0, cells := 0, slots := 0, locals := 0 }
set_option maxHeartbeats 4000000 in
set_option maxRecDepth 100000 in
theorem c_X2_spanBehind (l : Launch) (D : va_G) (cs : Nat → ClassId) (q : Nat → Nat) (a0 : Nat) (a1 : Int32) (a2 : Int32) (σ σ0 : HS) (r0 : Int32) (hf0 : f_X2_spanBehind a0 a1 a2 σ = some (r0, σ0)) : MT l yX2_spanBehind (Cond.code yX2_spanBehind cX2_spanBehind 3 (some .int) :: lw_g) rm_X2_spanBehind D cs q σ σ0 [.ref (q a0), .int a1, .int a2] (fun z => z = q) (fun _ => some (.int r0)) 0 0 := by
  unfold f_X2_spanBehind at hf0
  refine MT_of (cc := cX2_spanBehind) (lv0 := [(0, .ref (q a0)), (1, .int a1), (2, .int a2)]) (by decide) (Nat.le_of_ble_eq_true rfl) rfl (fun p e s m args below meth c A X hr hlk hin => ?_)
  refine j_aload_n X dX2_spanBehind_0 0 rfl rfl ?_
  obtain ⟨h1, hf2⟩ := chk_of hf0; clear hf0
  obtain ⟨i3, h4, hf5⟩ := bd_of hf2; clear hf2
  refine j_getr X fd_X2_34 h1 h4 dX2_spanBehind_1 ?_
  refine j_iload_n X dX2_spanBehind_4 1 rfl rfl ?_
  obtain ⟨h6, hf7⟩ := chk_of hf5; clear hf5
  refine j_iald X h6 dX2_spanBehind_5 (fun v8 ev8 => ?_)
  replace hf7 := lt_of hf7 v8 ev8
  by_cases c10 : v8 = (1 : Int32)
  · have hf11 := br_y hf7 c10; clear hf7
    refine j_lookup X (off := 26) (tgt := 32) dX2_spanBehind_6 rfl (by rw [c10]; rfl) (by decide) ?_
    refine j_aload_n X dX2_spanBehind_32 0 rfl rfl ?_
    obtain ⟨i13, h14, hf15⟩ := bd_of hf11; clear hf11
    refine j_getr X fd_X2_37 h1 h14 dX2_spanBehind_33 ?_
    refine j_iload_n X dX2_spanBehind_36 1 rfl rfl ?_
    obtain ⟨h16, hf17⟩ := chk_of hf15; clear hf15
    refine j_iald X h16 dX2_spanBehind_37 (fun v18 ev18 => ?_)
    replace hf17 := lt_of hf17 v18 ev18
    obtain ⟨er, es⟩ := rt_of hf17
    subst er
    exact j_reti X hr hlk (Nat.le_of_ble_eq_true rfl) (Nat.le_of_ble_eq_true rfl) rfl es.symm rfl dX2_spanBehind_38
  · have hf12 := br_n hf7 c10; clear hf7
    by_cases c20 : v8 = (2 : Int32)
    · have hf21 := br_y hf12 c20; clear hf12
      refine j_lookup X (off := 33) (tgt := 39) dX2_spanBehind_6 rfl (by rw [c20]; rfl) (by decide) ?_
      refine j_iload_n X dX2_spanBehind_39 2 rfl rfl ?_
      refine j_aload_n X dX2_spanBehind_40 0 rfl rfl ?_
      obtain ⟨i23, h24, hf25⟩ := bd_of hf21; clear hf21
      refine j_getr X fd_X2_37 h1 h24 dX2_spanBehind_41 ?_
      refine j_iload_n X dX2_spanBehind_44 1 rfl rfl ?_
      obtain ⟨h26, hf27⟩ := chk_of hf25; clear hf25
      refine j_iald X h26 dX2_spanBehind_45 (fun v28 ev28 => ?_)
      replace hf27 := lt_of hf27 v28 ev28
      refine j_ishr X dX2_spanBehind_46 ?_
      obtain ⟨er, es⟩ := rt_of hf27
      subst er
      exact j_reti X hr hlk (Nat.le_of_ble_eq_true rfl) (Nat.le_of_ble_eq_true rfl) rfl es.symm rfl dX2_spanBehind_47
    · have hf22 := br_n hf12 c20; clear hf12
      refine j_lookup X (off := 42) (tgt := 48) dX2_spanBehind_6 rfl (by show Op.lookupswitch.offset ([(1, 26), (2, 33)] : List (Int × Int)) 42 _ = 42; rw [lv_osw c10 (show ((1 : Int32)).toInt = 1 from rfl), lv_osw c20 (show ((2 : Int32)).toInt = 2 from rfl)]; rfl) (by decide) ?_
      refine j_iload_n X dX2_spanBehind_48 2 rfl rfl ?_
      obtain ⟨er, es⟩ := rt_of hf22
      subst er
      exact j_reti X hr hlk (Nat.le_of_ble_eq_true rfl) (Nat.le_of_ble_eq_true rfl) rfl es.symm rfl dX2_spanBehind_49
abbrev rm_X3_add : Room := { frames := 0, cells := 0, slots := 0, locals := 0 }
set_option maxHeartbeats 4000000 in
set_option maxRecDepth 100000 in
theorem c_X3_add (l : Launch) (D : va_G) (cs : Nat → ClassId) (q : Nat → Nat) (a0 : Nat) (a1 : Int32) (a2 : Int32) (a3 : Int32) (σ σ0 : HS) (r0 : Int32) (hf0 : f_X3_add a0 a1 a2 a3 σ = some (r0, σ0)) : MT l yX3_add (Cond.code yX3_add cX3_add 5 (some .int) :: lw_g) rm_X3_add D cs q σ σ0 [.ref (q a0), .int a1, .int a2, .int a3] (fun z => z = q) (fun _ => some (.int r0)) 0 0 := by
  unfold f_X3_add at hf0
  refine MT_of (cc := cX3_add) (lv0 := [(0, .ref (q a0)), (1, .int a1), (2, .int a2), (3, .int a3)]) (by decide) (Nat.le_of_ble_eq_true rfl) rfl (fun p e s m args below meth c A X hr hlk hin => ?_)
  refine j_aload_n X dX3_add_0 0 rfl rfl ?_
  obtain ⟨h1, hf2⟩ := chk_of hf0; clear hf0
  refine j_geti X fd_X3_37 h1 dX3_add_1 (fun v3 ev3 => ?_)
  replace hf2 := lt_of hf2 v3 ev3
  refine j_bipush X (v := 60) dX3_add_4 (by decide) ?_
  refine j_icmp_lt X (tgt := 11) dX3_add_6 (by decide) (fun c5 => ?_) (fun c5 => ?_)
  · have hf6 := br_y hf2 c5; clear hf2
    refine j_aload_n X dX3_add_11 0 rfl rfl ?_
    refine j_geti X fd_X3_37 h1 dX3_add_12 (fun v8 ev8 => ?_)
    replace hf6 := lt_of hf6 v8 ev8
    refine j_istore X (lv' := [(4, .int v8), (0, .ref (q a0)), (1, .int a1), (2, .int a2), (3, .int a3)]) dX3_add_15 (by decide) rfl ?_
    refine j_aload_n X dX3_add_17 1 rfl rfl ?_
    refine j_dup X dX3_add_18 rfl ?_
    refine j_geti X fd_X3_37 h1 dX3_add_19 (fun v10 ev10 => ?_)
    replace hf6 := lt_of hf6 v10 ev10
    refine j_iconst X (v := 1) dX3_add_22 (by decide) ?_
    refine j_iadd X dX3_add_23 ?_
    refine j_puti X fp_X3_37 h1 dX3_add_24 (fun σ12 eσ12 => ?_)
    replace hf6 := lt_of hf6 σ12 eσ12
    have h14 : isO σ12 3 a0 := by rw [eσ12]; exact h1
    refine j_aload_n X dX3_add_27 1 rfl rfl ?_
    obtain ⟨i15, h16, hf17⟩ := bd_of hf6; clear hf6
    refine j_getr X fd_X3_22 h14 h16 dX3_add_28 ?_
    refine j_iload X dX3_add_31 0 rfl ?_
    refine j_iload_n X dX3_add_33 2 rfl rfl ?_
    obtain ⟨h18, hf19⟩ := chk_of hf17; clear hf17
    refine j_iast X h18 dX3_add_34 (fun σ20 eσ20 => ?_)
    replace hf19 := lt_of hf19 σ20 eσ20
    have h22 : isO σ20 3 a0 := by rw [eσ20]; exact h14
    refine j_aload_n X dX3_add_35 1 rfl rfl ?_
    obtain ⟨i23, h24, hf25⟩ := bd_of hf19; clear hf19
    refine j_getr X fd_X3_25 h22 h24 dX3_add_36 ?_
    refine j_iload X dX3_add_39 0 rfl ?_
    refine j_iload_n X dX3_add_41 3 rfl rfl ?_
    obtain ⟨h26, hf27⟩ := chk_of hf25; clear hf25
    refine j_iast X h26 dX3_add_42 (fun σ28 eσ28 => ?_)
    replace hf27 := lt_of hf27 σ28 eσ28
    have h30 : isO σ28 3 a0 := by rw [eσ28]; exact h22
    refine j_aload_n X dX3_add_43 1 rfl rfl ?_
    obtain ⟨i31, h32, hf33⟩ := bd_of hf27; clear hf27
    refine j_getr X fd_X3_34 h30 h32 dX3_add_44 ?_
    refine j_iload X dX3_add_47 0 rfl ?_
    refine j_iload_n X dX3_add_49 4 rfl rfl ?_
    obtain ⟨h34, hf35⟩ := chk_of hf33; clear hf33
    refine j_iast X h34 dX3_add_50 (fun σ36 eσ36 => ?_)
    replace hf35 := lt_of hf35 σ36 eσ36
    have h38 : isO σ36 3 a0 := by rw [eσ36]; exact h30
    refine j_aload_n X dX3_add_51 1 rfl rfl ?_
    obtain ⟨i39, h40, hf41⟩ := bd_of hf35; clear hf35
    refine j_getr X fd_X3_28 h38 h40 dX3_add_52 ?_
    refine j_iload X dX3_add_55 0 rfl ?_
    refine j_iload X dX3_add_57 0 rfl ?_
    obtain ⟨h42, hf43⟩ := chk_of hf41; clear hf41
    refine j_iast X h42 dX3_add_59 (fun σ44 eσ44 => ?_)
    replace hf43 := lt_of hf43 σ44 eσ44
    have h46 : isO σ44 3 a0 := by rw [eσ44]; exact h38
    refine j_aload_n X dX3_add_60 1 rfl rfl ?_
    obtain ⟨i47, h48, hf49⟩ := bd_of hf43; clear hf43
    refine j_getr X fd_X3_31 h46 h48 dX3_add_61 ?_
    refine j_iload X dX3_add_64 0 rfl ?_
    refine j_iload X dX3_add_66 0 rfl ?_
    obtain ⟨h50, hf51⟩ := chk_of hf49; clear hf49
    refine j_iast X h50 dX3_add_68 (fun σ52 eσ52 => ?_)
    replace hf51 := lt_of hf51 σ52 eσ52
    have h54 : isO σ52 3 a0 := by rw [eσ52]; exact h46
    refine j_iload X dX3_add_69 0 rfl ?_
    obtain ⟨er, es⟩ := rt_of hf51
    subst er
    exact j_reti X hr hlk (Nat.le_of_ble_eq_true rfl) (Nat.le_of_ble_eq_true rfl) rfl es.symm rfl dX3_add_71
  · have hf7 := br_n hf2 c5; clear hf2
    refine j_iconst X (v := -1) dX3_add_9 (by decide) ?_
    obtain ⟨er, es⟩ := rt_of hf7
    subst er
    exact j_reti X hr hlk (Nat.le_of_ble_eq_true rfl) (Nat.le_of_ble_eq_true rfl) rfl es.symm rfl dX3_add_10
abbrev rm_X3_append : Room := { frames := 0, cells := 0, slots := 0, locals := 0 }
set_option maxHeartbeats 4000000 in
set_option maxRecDepth 100000 in
theorem c_X3_append (l : Launch) (D : va_G) (cs : Nat → ClassId) (q : Nat → Nat) (a0 : Nat) (a1 : Int32) (σ σ0 : HS) (r0 : Int32) (hf0 : f_X3_append a0 a1 σ = some (r0, σ0)) : MT l yX3_append (Cond.code yX3_append cX3_append 2 (some .boolean) :: lw_g) rm_X3_append D cs q σ σ0 [.ref (q a0), .int a1] (fun z => z = q) (fun _ => some (.int r0)) 0 0 := by
  unfold f_X3_append at hf0
  refine MT_of (cc := cX3_append) (lv0 := [(0, .ref (q a0)), (1, .int a1)]) (by decide) (Nat.le_of_ble_eq_true rfl) rfl (fun p e s m args below meth c A X hr hlk hin => ?_)
  refine j_aload_n X dX3_append_0 0 rfl rfl ?_
  obtain ⟨h1, hf2⟩ := chk_of hf0; clear hf0
  refine j_geti X fd_X3_15 h1 dX3_append_1 (fun v3 ev3 => ?_)
  replace hf2 := lt_of hf2 v3 ev3
  refine j_bipush X (v := 60) dX3_append_4 (by decide) ?_
  refine j_icmp_lt X (tgt := 11) dX3_append_6 (by decide) (fun c5 => ?_) (fun c5 => ?_)
  · have hf6 := br_y hf2 c5; clear hf2
    refine j_aload_n X dX3_append_11 0 rfl rfl ?_
    obtain ⟨i8, h9, hf10⟩ := bd_of hf6; clear hf6
    refine j_getr X fd_X3_9 h1 h9 dX3_append_12 ?_
    refine j_aload_n X dX3_append_15 0 rfl rfl ?_
    refine j_geti X fd_X3_15 h1 dX3_append_16 (fun v11 ev11 => ?_)
    replace hf10 := lt_of hf10 v11 ev11
    refine j_iload_n X dX3_append_19 1 rfl rfl ?_
    obtain ⟨h13, hf14⟩ := chk_of hf10; clear hf10
    refine j_iast X h13 dX3_append_20 (fun σ15 eσ15 => ?_)
    replace hf14 := lt_of hf14 σ15 eσ15
    have h17 : isO σ15 3 a0 := by rw [eσ15]; exact h1
    refine j_aload_n X dX3_append_21 0 rfl rfl ?_
    refine j_dup X dX3_append_22 rfl ?_
    refine j_geti X fd_X3_15 h17 dX3_append_23 (fun v18 ev18 => ?_)
    replace hf14 := lt_of hf14 v18 ev18
    refine j_iconst X (v := 1) dX3_append_26 (by decide) ?_
    refine j_iadd X dX3_append_27 ?_
    refine j_puti X fp_X3_15 h17 dX3_append_28 (fun σ20 eσ20 => ?_)
    replace hf14 := lt_of hf14 σ20 eσ20
    have h22 : isO σ20 3 a0 := by rw [eσ20]; exact h17
    refine j_iconst X (v := 1) dX3_append_31 (by decide) ?_
    obtain ⟨er, es⟩ := rt_of hf14
    subst er
    exact j_retz X hr hlk (Nat.le_of_ble_eq_true rfl) (Nat.le_of_ble_eq_true rfl) rfl es.symm rfl (Or.inr rfl) dX3_append_32
  · have hf7 := br_n hf2 c5; clear hf2
    refine j_iconst X (v := 0) dX3_append_9 (by decide) ?_
    obtain ⟨er, es⟩ := rt_of hf7
    subst er
    exact j_retz X hr hlk (Nat.le_of_ble_eq_true rfl) (Nat.le_of_ble_eq_true rfl) rfl es.symm rfl (Or.inl rfl) dX3_append_10
abbrev rm_X3_here : Room := { frames := 0, cells := 0, slots := 0, locals := 0 }
set_option maxHeartbeats 4000000 in
set_option maxRecDepth 100000 in
theorem c_X3_here (l : Launch) (D : va_G) (cs : Nat → ClassId) (q : Nat → Nat) (a0 : Nat) (σ σ0 : HS) (r0 : Int32) (hf0 : f_X3_here a0 σ = some (r0, σ0)) : MT l yX3_here (Cond.code yX3_here cX3_here 1 (some .int) :: lw_g) rm_X3_here D cs q σ σ0 [.ref (q a0)] (fun z => z = q) (fun _ => some (.int r0)) 0 0 := by
  unfold f_X3_here at hf0
  refine MT_of (cc := cX3_here) (lv0 := [(0, .ref (q a0))]) (by decide) (Nat.le_of_ble_eq_true rfl) rfl (fun p e s m args below meth c A X hr hlk hin => ?_)
  refine j_aload_n X dX3_here_0 0 rfl rfl ?_
  obtain ⟨h1, hf2⟩ := chk_of hf0; clear hf0
  refine j_geti X fd_X3_19 h1 dX3_here_1 (fun v3 ev3 => ?_)
  replace hf2 := lt_of hf2 v3 ev3
  refine j_if_lt X (tgt := 30) dX3_here_4 (by decide) (fun c5 => ?_) (fun c5 => ?_)
  · have hf6 := br_y hf2 c5; clear hf2
    refine j_iconst X (v := 0) dX3_here_30 (by decide) ?_
    obtain ⟨er, es⟩ := rt_of hf6
    subst er
    exact j_reti X hr hlk (Nat.le_of_ble_eq_true rfl) (Nat.le_of_ble_eq_true rfl) rfl es.symm rfl dX3_here_31
  · have hf7 := br_n hf2 c5; clear hf2
    refine j_aload_n X dX3_here_7 0 rfl rfl ?_
    refine j_geti X fd_X3_19 h1 dX3_here_8 (fun v8 ev8 => ?_)
    replace hf7 := lt_of hf7 v8 ev8
    refine j_aload_n X dX3_here_11 0 rfl rfl ?_
    refine j_geti X fd_X3_15 h1 dX3_here_12 (fun v10 ev10 => ?_)
    replace hf7 := lt_of hf7 v10 ev10
    refine j_icmp_ge X (tgt := 30) dX3_here_15 (by decide) (fun c12 => ?_) (fun c12 => ?_)
    · have hf13 := br_y hf7 c12; clear hf7
      refine j_iconst X (v := 0) dX3_here_30 (by decide) ?_
      obtain ⟨er, es⟩ := rt_of hf13
      subst er
      exact j_reti X hr hlk (Nat.le_of_ble_eq_true rfl) (Nat.le_of_ble_eq_true rfl) rfl es.symm rfl dX3_here_31
    · have hf14 := br_n hf7 c12; clear hf7
      refine j_aload_n X dX3_here_18 0 rfl rfl ?_
      obtain ⟨i15, h16, hf17⟩ := bd_of hf14; clear hf14
      refine j_getr X fd_X3_9 h1 h16 dX3_here_19 ?_
      refine j_aload_n X dX3_here_22 0 rfl rfl ?_
      refine j_geti X fd_X3_19 h1 dX3_here_23 (fun v18 ev18 => ?_)
      replace hf17 := lt_of hf17 v18 ev18
      obtain ⟨h20, hf21⟩ := chk_of hf17; clear hf17
      refine j_iald X h20 dX3_here_26 (fun v22 ev22 => ?_)
      replace hf21 := lt_of hf21 v22 ev22
      refine j_goto X (tgt := 31) dX3_here_27 (by decide) ?_
      obtain ⟨er, es⟩ := rt_of hf21
      subst er
      exact j_reti X hr hlk (Nat.le_of_ble_eq_true rfl) (Nat.le_of_ble_eq_true rfl) rfl es.symm rfl dX3_here_31
abbrev rm_X3_isFigure : Room := { frames := 0, cells := 0, slots := 0, locals := 0 }
set_option maxHeartbeats 4000000 in
set_option maxRecDepth 100000 in
theorem c_X3_isFigure (l : Launch) (D : va_G) (cs : Nat → ClassId) (q : Nat → Nat) (a0 : Int32) (σ σ0 : HS) (r0 : Int32) (hf0 : f_X3_isFigure a0 σ = some (r0, σ0)) : MT l yX3_isFigure (Cond.code yX3_isFigure cX3_isFigure 1 (some .boolean) :: lw_g) rm_X3_isFigure D cs q σ σ0 [.int a0] (fun z => z = q) (fun _ => some (.int r0)) 0 0 := by
  unfold f_X3_isFigure at hf0
  refine MT_of (cc := cX3_isFigure) (lv0 := [(0, .int a0)]) (by decide) (Nat.le_of_ble_eq_true rfl) rfl (fun p e s m args below meth c A X hr hlk hin => ?_)
  refine j_iload_n X dX3_isFigure_0 0 rfl rfl ?_
  refine j_bipush X (v := 48) dX3_isFigure_1 (by decide) ?_
  refine j_icmp_lt X (tgt := 16) dX3_isFigure_3 (by decide) (fun c1 => ?_) (fun c1 => ?_)
  · have hf2 := br_y hf0 c1; clear hf0
    refine j_iconst X (v := 0) dX3_isFigure_16 (by decide) ?_
    obtain ⟨er, es⟩ := rt_of hf2
    subst er
    exact j_retz X hr hlk (Nat.le_of_ble_eq_true rfl) (Nat.le_of_ble_eq_true rfl) rfl es.symm rfl (Or.inl rfl) dX3_isFigure_17
  · have hf3 := br_n hf0 c1; clear hf0
    refine j_iload_n X dX3_isFigure_6 0 rfl rfl ?_
    refine j_bipush X (v := 57) dX3_isFigure_7 (by decide) ?_
    refine j_icmp_gt X (tgt := 16) dX3_isFigure_9 (by decide) (fun c4 => ?_) (fun c4 => ?_)
    · have hf5 := br_y hf3 c4; clear hf3
      refine j_iconst X (v := 0) dX3_isFigure_16 (by decide) ?_
      obtain ⟨er, es⟩ := rt_of hf5
      subst er
      exact j_retz X hr hlk (Nat.le_of_ble_eq_true rfl) (Nat.le_of_ble_eq_true rfl) rfl es.symm rfl (Or.inl rfl) dX3_isFigure_17
    · have hf6 := br_n hf3 c4; clear hf3
      refine j_iconst X (v := 1) dX3_isFigure_12 (by decide) ?_
      refine j_goto X (tgt := 17) dX3_isFigure_13 (by decide) ?_
      obtain ⟨er, es⟩ := rt_of hf6
      subst er
      exact j_retz X hr hlk (Nat.le_of_ble_eq_true rfl) (Nat.le_of_ble_eq_true rfl) rfl es.symm rfl (Or.inr rfl) dX3_isFigure_17
abbrev rm_X3_join : Room := { frames := 1, cells := 0, slots := 0, locals := 64 }
set_option maxHeartbeats 4000000 in
set_option maxRecDepth 100000 in
theorem c_X3_join (l : Launch) (D : va_G) (cs : Nat → ClassId) (q : Nat → Nat) (a0 : Nat) (a1 : Int32) (a2 : Int32) (a3 : Int32) (a4 : Int32) (σ σ0 : HS) (r0 : Int32) (hf0 : f_X3_join a0 a1 a2 a3 a4 σ = some (r0, σ0)) : MT l yX3_join (Cond.code yX3_join cX3_join 6 (some .int) :: lw_g) rm_X3_join D cs q σ σ0 [.ref (q a0), .int a1, .int a2, .int a3, .int a4] (fun z => z = q) (fun _ => some (.int r0)) 0 0 := by
  unfold f_X3_join at hf0
  refine MT_of (cc := cX3_join) (lv0 := [(0, .ref (q a0)), (1, .int a1), (2, .int a2), (3, .int a3), (4, .int a4)]) (by decide) (Nat.le_of_ble_eq_true rfl) rfl (fun p e s m args below meth c A X hr hlk hin => ?_)
  refine j_iload_n X dX3_join_0 3 rfl rfl ?_
  refine j_iconst X (v := -1) dX3_join_1 (by decide) ?_
  refine j_icmp_eq X (tgt := 11) dX3_join_2 (by decide) (fun c1 => ?_) (fun c1 => ?_)
  · have hf2 := br_y hf0 c1; clear hf0
    refine j_iconst X (v := -1) dX3_join_11 (by decide) ?_
    obtain ⟨er, es⟩ := rt_of hf2
    subst er
    exact j_reti X hr hlk (Nat.le_of_ble_eq_true rfl) (Nat.le_of_ble_eq_true rfl) rfl es.symm rfl dX3_join_12
  · have hf3 := br_n hf0 c1; clear hf0
    refine j_iload X dX3_join_5 4 rfl ?_
    refine j_iconst X (v := -1) dX3_join_7 (by decide) ?_
    refine j_icmp_ne X (tgt := 13) dX3_join_8 (by decide) (fun c4 => ?_) (fun c4 => ?_)
    · have hf5 := br_n hf3 c4; clear hf3
      refine j_aload_n X dX3_join_13 0 rfl rfl ?_
      refine j_iload_n X dX3_join_14 1 rfl rfl ?_
      refine j_iload_n X dX3_join_15 2 rfl rfl ?_
      refine j_iconst X (v := 0) dX3_join_16 (by decide) ?_
      obtain ⟨h7, hf8⟩ := chk_of hf5; clear hf5
      obtain ⟨r9, σ10, h11, hf12⟩ := bc_of hf8; clear hf8
      refine j_callV0 X [.int a1, .int a2, .int (0 : Int32)] [] (c_X3_add l D cs q a0 a1 a2 (0 : Int32) σ _ _ h11) mk_X3_add mv_X3_add ml_X3_63 h7 rfl (by decide) ⟨rfl, rfl⟩ ⟨Nat.le_of_ble_eq_true rfl, Nat.le_of_ble_eq_true rfl⟩ rfl (Nat.le_of_ble_eq_true rfl) ⟨Nat.le_of_ble_eq_true rfl, Nat.le_of_ble_eq_true rfl⟩ dX3_join_17 rfl (st' := [.int r9]) rfl ?_
      refine j_istore X (lv' := [(5, .int r9), (0, .ref (q a0)), (1, .int a1), (2, .int a2), (3, .int a3), (4, .int a4)]) dX3_join_20 (by decide) rfl ?_
      refine j_iload X dX3_join_22 0 rfl ?_
      refine j_iconst X (v := -1) dX3_join_24 (by decide) ?_
      refine j_icmp_eq X (tgt := 45) dX3_join_25 (by decide) (fun c13 => ?_) (fun c13 => ?_)
      · have hf14 := br_y hf12 c13; clear hf12
        refine j_iload X dX3_join_45 0 rfl ?_
        obtain ⟨er, es⟩ := rt_of hf14
        subst er
        exact j_reti X hr hlk (Nat.le_of_ble_eq_true rfl) (Nat.le_of_ble_eq_true rfl) rfl es.symm rfl dX3_join_47
      · have hf15 := br_n hf12 c13; clear hf12
        refine j_aload_n X dX3_join_28 1 rfl rfl ?_
        obtain ⟨h16, hf17⟩ := chk_of hf15; clear hf15
        obtain ⟨i18, h19, hf20⟩ := bd_of hf17; clear hf17
        refine j_getr X fd_X3_28 h16 h19 dX3_join_29 ?_
        refine j_iload X dX3_join_32 0 rfl ?_
        refine j_iload_n X dX3_join_34 4 rfl rfl ?_
        obtain ⟨h21, hf22⟩ := chk_of hf20; clear hf20
        refine j_iast X h21 dX3_join_35 (fun σ23 eσ23 => ?_)
        replace hf22 := lt_of hf22 σ23 eσ23
        have h25 : isO σ23 3 a0 := by rw [eσ23]; exact h16
        refine j_aload_n X dX3_join_36 1 rfl rfl ?_
        obtain ⟨i26, h27, hf28⟩ := bd_of hf22; clear hf22
        refine j_getr X fd_X3_31 h25 h27 dX3_join_37 ?_
        refine j_iload X dX3_join_40 0 rfl ?_
        refine j_iload X dX3_join_42 5 rfl ?_
        obtain ⟨h29, hf30⟩ := chk_of hf28; clear hf28
        refine j_iast X h29 dX3_join_44 (fun σ31 eσ31 => ?_)
        replace hf30 := lt_of hf30 σ31 eσ31
        have h33 : isO σ31 3 a0 := by rw [eσ31]; exact h25
        refine j_iload X dX3_join_45 0 rfl ?_
        obtain ⟨er, es⟩ := rt_of hf30
        subst er
        exact j_reti X hr hlk (Nat.le_of_ble_eq_true rfl) (Nat.le_of_ble_eq_true rfl) rfl es.symm rfl dX3_join_47
    · have hf6 := br_y hf3 c4; clear hf3
      refine j_iconst X (v := -1) dX3_join_11 (by decide) ?_
      obtain ⟨er, es⟩ := rt_of hf6
      subst er
      exact j_reti X hr hlk (Nat.le_of_ble_eq_true rfl) (Nat.le_of_ble_eq_true rfl) rfl es.symm rfl dX3_join_12
abbrev rm_X3_readNumber : Room := { frames := 1, cells := 0, slots := 0, locals := 64 }
set_option maxHeartbeats 4000000 in
set_option maxRecDepth 100000 in
theorem c_X3_readNumber (l : Launch) (D : va_G) (cs : Nat → ClassId) (q : Nat → Nat) (a0 : Nat) (σ σ0 : HS) (r0 : Int32) (hf0 : f_X3_readNumber a0 σ = some (r0, σ0)) : MT l yX3_readNumber (Cond.code yX3_readNumber cX3_readNumber 4 (some .int) :: lw_g) rm_X3_readNumber D cs q σ σ0 [.ref (q a0)] (fun z => z = q) (fun _ => some (.int r0)) 0 0 := by
  unfold f_X3_readNumber at hf0
  refine MT_of (cc := cX3_readNumber) (lv0 := [(0, .ref (q a0))]) (by decide) (Nat.le_of_ble_eq_true rfl) rfl (fun p e s m args below meth c A X hr hlk hin => ?_)
  have L9 : ∀ (nk : Nat) (x0 : Nat) (x1 : Int32) (x2 : Int32) (x3 : Int32) (τ : HS), lp_X3_readNumber_9  nk x0 x1 x2 x3 τ = some (r0, σ0) → J p l e rm_X3_readNumber s m args below meth c 4 D cs A s.heap 0 0 (MQ below (hQ D cs (fun z => z = q) (fun _ => some (.int r0)) σ0 A) args s 0 0 A) q τ [(0, .ref (q x0)), (1, .int x1), (2, .int x2), (3, .int x3)] 9 [] := by
    intro nk
    induction nk with
    | zero => intro x0 x1 x2 x3 τ hf0; have hf1 : (none : Option (Int32 × HS)) = some (r0, σ0) := hf0; cases hf1
    | succ nk ih =>
      intro x0 x1 x2 x3 τ hf0
      replace hf0 : lp_X3_readNumber_9_b  (lp_X3_readNumber_9  nk) x0 x1 x2 x3 τ = some (r0, σ0) := hf0
      unfold lp_X3_readNumber_9_b at hf0
      refine j_iload_n X dX3_readNumber_9 3 rfl rfl ?_
      refine j_iconst X (v := 4) dX3_readNumber_10 (by decide) ?_
      refine j_icmp_ge X (tgt := 53) dX3_readNumber_11 (by decide) (fun c9 => ?_) (fun c9 => ?_)
      · have hf10 := br_y hf0 c9; clear hf0
        refine j_aload_n X dX3_readNumber_53 0 rfl rfl ?_
        refine j_iconst X (v := 1) dX3_readNumber_54 (by decide) ?_
        refine j_iload_n X dX3_readNumber_55 1 rfl rfl ?_
        refine j_iload_n X dX3_readNumber_56 2 rfl rfl ?_
        obtain ⟨h12, hf13⟩ := chk_of hf10; clear hf10
        obtain ⟨r14, σ15, h16, hf17⟩ := bc_of hf13; clear hf13
        refine j_callV0 X [.int (1 : Int32), .int x1, .int x2] [] (c_X3_add l D cs q x0 (1 : Int32) x1 x2 τ _ _ h16) mk_X3_add mv_X3_add ml_X3_63 h12 rfl (by decide) ⟨rfl, rfl⟩ ⟨Nat.le_of_ble_eq_true rfl, Nat.le_of_ble_eq_true rfl⟩ rfl (Nat.le_of_ble_eq_true rfl) ⟨Nat.le_of_ble_eq_true rfl, Nat.le_of_ble_eq_true rfl⟩ dX3_readNumber_57 rfl (st' := [.int r14]) rfl ?_
        obtain ⟨er, es⟩ := rt_of hf17
        subst er
        exact j_reti X hr hlk (Nat.le_of_ble_eq_true rfl) (Nat.le_of_ble_eq_true rfl) rfl es.symm rfl dX3_readNumber_60
      · have hf11 := br_n hf0 c9; clear hf0
        refine j_aload_n X dX3_readNumber_14 0 rfl rfl ?_
        obtain ⟨h18, hf19⟩ := chk_of hf11; clear hf11
        obtain ⟨r20, σ21, h22, hf23⟩ := bc_of hf19; clear hf19
        refine j_callV0 X [] [] (c_X3_here l D cs q x0 τ _ _ h22) mk_X3_here mv_X3_here ml_X3_52 h18 rfl (by decide) ⟨rfl, rfl⟩ ⟨Nat.le_of_ble_eq_true rfl, Nat.le_of_ble_eq_true rfl⟩ rfl (Nat.le_of_ble_eq_true rfl) ⟨Nat.le_of_ble_eq_true rfl, Nat.le_of_ble_eq_true rfl⟩ dX3_readNumber_15 rfl (st' := [.int r20]) rfl ?_
        obtain ⟨r24, σ25, h26, hf27⟩ := bc_of hf23; clear hf23
        refine j_callS0 X [.int r20] [] (c_X3_isFigure l D cs q r20 σ21 _ _ h26) mk_X3_isFigure ms_X3_isFigure ml_X3_67 ⟨rfl, rfl⟩ ⟨Nat.le_of_ble_eq_true rfl, Nat.le_of_ble_eq_true rfl⟩ rfl (Nat.le_of_ble_eq_true rfl) ⟨Nat.le_of_ble_eq_true rfl, Nat.le_of_ble_eq_true rfl⟩ dX3_readNumber_18 rfl (st' := [.int r24]) rfl ?_
        refine j_if_eq X (tgt := 53) dX3_readNumber_21 (by decide) (fun c28 => ?_) (fun c28 => ?_)
        · have hf29 := br_y hf27 c28; clear hf27
          refine j_aload_n X dX3_readNumber_53 0 rfl rfl ?_
          refine j_iconst X (v := 1) dX3_readNumber_54 (by decide) ?_
          refine j_iload_n X dX3_readNumber_55 1 rfl rfl ?_
          refine j_iload_n X dX3_readNumber_56 2 rfl rfl ?_
          obtain ⟨h31, hf32⟩ := chk_of hf29; clear hf29
          obtain ⟨r33, σ34, h35, hf36⟩ := bc_of hf32; clear hf32
          refine j_callV0 X [.int (1 : Int32), .int x1, .int x2] [] (c_X3_add l D cs q x0 (1 : Int32) x1 x2 σ25 _ _ h35) mk_X3_add mv_X3_add ml_X3_63 h31 rfl (by decide) ⟨rfl, rfl⟩ ⟨Nat.le_of_ble_eq_true rfl, Nat.le_of_ble_eq_true rfl⟩ rfl (Nat.le_of_ble_eq_true rfl) ⟨Nat.le_of_ble_eq_true rfl, Nat.le_of_ble_eq_true rfl⟩ dX3_readNumber_57 rfl (st' := [.int r33]) rfl ?_
          obtain ⟨er, es⟩ := rt_of hf36
          subst er
          exact j_reti X hr hlk (Nat.le_of_ble_eq_true rfl) (Nat.le_of_ble_eq_true rfl) rfl es.symm rfl dX3_readNumber_60
        · have hf30 := br_n hf27 c28; clear hf27
          refine j_iload_n X dX3_readNumber_24 2 rfl rfl ?_
          refine j_bipush X (v := 10) dX3_readNumber_25 (by decide) ?_
          refine j_imul X dX3_readNumber_27 ?_
          refine j_aload_n X dX3_readNumber_28 0 rfl rfl ?_
          obtain ⟨h37, hf38⟩ := chk_of hf30; clear hf30
          obtain ⟨r39, σ40, h41, hf42⟩ := bc_of hf38; clear hf38
          refine j_callV0 X [] [.int (x2 * (10 : Int32))] (c_X3_here l D cs q x0 σ25 _ _ h41) mk_X3_here mv_X3_here ml_X3_52 h37 rfl (by decide) ⟨rfl, rfl⟩ ⟨Nat.le_of_ble_eq_true rfl, Nat.le_of_ble_eq_true rfl⟩ rfl (Nat.le_of_ble_eq_true rfl) ⟨Nat.le_of_ble_eq_true rfl, Nat.le_of_ble_eq_true rfl⟩ dX3_readNumber_29 rfl (st' := [.int r39, .int (x2 * (10 : Int32))]) rfl ?_
          refine j_iadd X dX3_readNumber_32 ?_
          refine j_bipush X (v := 48) dX3_readNumber_33 (by decide) ?_
          refine j_isub X dX3_readNumber_35 ?_
          refine j_nmi (fun v43 ev43 => ?_)
          replace hf42 := lt_of hf42 v43 ev43
          refine j_istore_n X (lv' := [(2, .int v43), (0, .ref (q x0)), (1, .int x1), (3, .int x3)]) dX3_readNumber_36 rfl (by decide) rfl ?_
          refine j_aload_n X dX3_readNumber_37 1 rfl rfl ?_
          refine j_dup X dX3_readNumber_38 rfl ?_
          obtain ⟨h45, hf46⟩ := chk_of hf42; clear hf42
          refine j_geti X fd_X3_19 h45 dX3_readNumber_39 (fun v47 ev47 => ?_)
          replace hf46 := lt_of hf46 v47 ev47
          refine j_iconst X (v := 1) dX3_readNumber_42 (by decide) ?_
          refine j_iadd X dX3_readNumber_43 ?_
          refine j_puti X fp_X3_19 h45 dX3_readNumber_44 (fun σ49 eσ49 => ?_)
          replace hf46 := lt_of hf46 σ49 eσ49
          have h51 : isO σ49 3 x0 := by rw [eσ49]; exact h45
          obtain ⟨v52, ev52⟩ : ∃ y : Int32, y = x3 + (1 : Int32) := ⟨_, rfl⟩
          replace hf46 := lt_of hf46 v52 ev52
          refine j_iinc X (v := v52) (lv' := [(3, .int v52), (2, .int v43), (0, .ref (q x0)), (1, .int x1)]) dX3_readNumber_47 3 rfl (by rw [ev52]; rfl) (by decide) rfl ?_
          refine j_goto X (tgt := 9) dX3_readNumber_50 (by decide) ?_
          refine j_lvsub [2, 3, 1, 0] (lv' := [(0, .ref (q x0)), (1, .int x1), (2, .int v43), (3, .int v52)]) rfl ?_
          exact ih x0 x1 v43 v52 σ49 hf46
  refine j_aload_n X dX3_readNumber_0 0 rfl rfl ?_
  obtain ⟨h1, hf2⟩ := chk_of hf0; clear hf0
  refine j_geti X fd_X3_19 h1 dX3_readNumber_1 (fun v3 ev3 => ?_)
  replace hf2 := lt_of hf2 v3 ev3
  refine j_istore_n X (lv' := [(1, .int v3), (0, .ref (q a0))]) dX3_readNumber_4 rfl (by decide) rfl ?_
  refine j_iconst X (v := 0) dX3_readNumber_5 (by decide) ?_
  refine j_nmi (fun v5 ev5 => ?_)
  replace hf2 := lt_of hf2 v5 ev5
  refine j_istore_n X (lv' := [(2, .int v5), (1, .int v3), (0, .ref (q a0))]) dX3_readNumber_6 rfl (by decide) rfl ?_
  refine j_iconst X (v := 0) dX3_readNumber_7 (by decide) ?_
  refine j_nmi (fun v7 ev7 => ?_)
  replace hf2 := lt_of hf2 v7 ev7
  refine j_istore_n X (lv' := [(3, .int v7), (2, .int v5), (1, .int v3), (0, .ref (q a0))]) dX3_readNumber_8 rfl (by decide) rfl ?_
  refine j_lvsub [3, 2, 1, 0] (lv' := [(0, .ref (q a0)), (1, .int v3), (2, .int v5), (3, .int v7)]) rfl ?_
  exact L9  1000 a0 v3 v5 v7 σ hf2
abbrev rg_XP (n : Nat) : Room := { frames := 2 + n, cells := 0, slots := 0, locals := 64 * (2 + n) }
set_option maxHeartbeats 4000000 in
set_option maxRecDepth 100000 in
theorem cg_XP (l : Launch) (D : va_G) (cs : Nat → ClassId) (q : Nat → Nat) : ∀ ng : Nat, (∀ (a0 : Nat) (a1 : Int32) (σ σ0 : HS) (r0 : Int32), g_XP ng 0 a0 a1 σ = some (r0, σ0) → MT l yX3_readSum (Cond.code yX3_readSum cX3_readSum 7 (some .int) :: lw_g) (rg_XP ng) D cs q σ σ0 [.ref (q a0), .int a1] (fun z => z = q) (fun _ => some (.int r0)) 0 0) ∧ (∀ (a0 : Nat) (a1 : Int32) (σ σ0 : HS) (r0 : Int32), g_XP ng 1 a0 a1 σ = some (r0, σ0) → MT l yX3_readProduct (Cond.code yX3_readProduct cX3_readProduct 6 (some .int) :: lw_g) (rg_XP ng) D cs q σ σ0 [.ref (q a0), .int a1] (fun z => z = q) (fun _ => some (.int r0)) 0 0) ∧ (∀ (a0 : Nat) (a1 : Int32) (σ σ0 : HS) (r0 : Int32), g_XP ng 2 a0 a1 σ = some (r0, σ0) → MT l yX3_readFactor (Cond.code yX3_readFactor cX3_readFactor 5 (some .int) :: lw_g) (rg_XP ng) D cs q σ σ0 [.ref (q a0), .int a1] (fun z => z = q) (fun _ => some (.int r0)) 0 0) := by
  intro ng
  induction ng with
  | zero => exact ⟨(fun _ _ _ _ _ h => (by have h9 : (none : Option (Int32 × HS)) = some _ := h; cases h9)), (fun _ _ _ _ _ h => (by have h9 : (none : Option (Int32 × HS)) = some _ := h; cases h9)), (fun _ _ _ _ _ h => (by have h9 : (none : Option (Int32 × HS)) = some _ := h; cases h9))⟩
  | succ ng ihg =>
    refine ⟨?_, ?_, ?_⟩
    · intro a0 a1 σ σ0 r0 hf0
      replace hf0 : b_X3_readSum (g_XP ng) a0 a1 σ = some (r0, σ0) := hf0
      unfold b_X3_readSum at hf0
      refine MT_of (cc := cX3_readSum) (lv0 := [(0, .ref (q a0)), (1, .int a1)]) (by decide) (Nat.le_of_ble_eq_true rfl) rfl (fun p e s m args below meth c A X hr hlk hin => ?_)
      have L8 : ∀ (nk : Nat) (x0 : Nat) (x1 : Int32) (x2 : Int32) (x3 : Int32) (τ : HS), lp_X3_readSum_8 (g_XP ng)  nk x0 x1 x2 x3 τ = some (r0, σ0) → J p l e (rg_XP (ng + 1)) s m args below meth c 7 D cs A s.heap 0 0 (MQ below (hQ D cs (fun z => z = q) (fun _ => some (.int r0)) σ0 A) args s 0 0 A) q τ [(0, .ref (q x0)), (1, .int x1), (2, .int x2), (3, .int x3)] 8 [] := by
        intro nk
        induction nk with
        | zero => intro x0 x1 x2 x3 τ hf0; have hf1 : (none : Option (Int32 × HS)) = some (r0, σ0) := hf0; cases hf1
        | succ nk ih =>
          intro x0 x1 x2 x3 τ hf0
          replace hf0 : lp_X3_readSum_8_b (g_XP ng)  (lp_X3_readSum_8 (g_XP ng)  nk) x0 x1 x2 x3 τ = some (r0, σ0) := hf0
          unfold lp_X3_readSum_8_b at hf0
          refine j_iload_n X dX3_readSum_8 3 rfl rfl ?_
          refine j_bipush X (v := 60) dX3_readSum_9 (by decide) ?_
          refine j_icmp_ge X (tgt := 92) dX3_readSum_11 (by decide) (fun c9 => ?_) (fun c9 => ?_)
          · have hf10 := br_y hf0 c9; clear hf0
            refine j_iload_n X dX3_readSum_92 2 rfl rfl ?_
            obtain ⟨er, es⟩ := rt_of hf10
            subst er
            exact j_reti X hr hlk (Nat.le_of_ble_eq_true rfl) (Nat.le_of_ble_eq_true rfl) rfl es.symm rfl dX3_readSum_93
          · have hf11 := br_n hf0 c9; clear hf0
            refine j_aload_n X dX3_readSum_14 0 rfl rfl ?_
            obtain ⟨h12, hf13⟩ := chk_of hf11; clear hf11
            obtain ⟨r14, σ15, h16, hf17⟩ := bc_of hf13; clear hf13
            refine j_callV0 X [] [] (c_X3_here l D cs q x0 τ _ _ h16) mk_X3_here mv_X3_here ml_X3_52 h12 rfl (by decide) ⟨rfl, rfl⟩ ⟨by dsimp only [rg_XP, rm_X3_here]; omega, by dsimp only [rg_XP, rm_X3_here]; omega⟩ rfl (Nat.le_of_ble_eq_true rfl) ⟨Nat.zero_le _, Nat.zero_le _⟩ dX3_readSum_15 rfl (st' := [.int r14]) rfl ?_
            refine j_istore X (lv' := [(4, .int r14), (0, .ref (q x0)), (1, .int x1), (2, .int x2), (3, .int x3)]) dX3_readSum_18 (by decide) rfl ?_
            refine j_iload_n X dX3_readSum_20 3 rfl rfl ?_
            refine j_iconst X (v := -1) dX3_readSum_21 (by decide) ?_
            refine j_icmp_eq X (tgt := 39) dX3_readSum_22 (by decide) (fun c18 => ?_) (fun c18 => ?_)
            · have hf19 := br_y hf17 c18; clear hf17
              refine j_iload_n X dX3_readSum_39 3 rfl rfl ?_
              obtain ⟨er, es⟩ := rt_of hf19
              subst er
              exact j_reti X hr hlk (Nat.le_of_ble_eq_true rfl) (Nat.le_of_ble_eq_true rfl) rfl es.symm rfl dX3_readSum_40
            · have hf20 := br_n hf17 c18; clear hf17
              refine j_iload X dX3_readSum_25 0 rfl ?_
              refine j_bipush X (v := 43) dX3_readSum_27 (by decide) ?_
              refine j_icmp_eq X (tgt := 41) dX3_readSum_29 (by decide) (fun c21 => ?_) (fun c21 => ?_)
              · have hf22 := br_y hf20 c21; clear hf20
                refine j_aload_n X dX3_readSum_41 1 rfl rfl ?_
                obtain ⟨h24, hf25⟩ := chk_of hf22; clear hf22
                refine j_geti X fd_X3_19 h24 dX3_readSum_42 (fun v26 ev26 => ?_)
                replace hf25 := lt_of hf25 v26 ev26
                refine j_istore X (lv' := [(5, .int v26), (4, .int r14), (0, .ref (q x0)), (1, .int x1), (2, .int x2), (3, .int x3)]) dX3_readSum_45 (by decide) rfl ?_
                refine j_aload_n X dX3_readSum_47 2 rfl rfl ?_
                refine j_dup X dX3_readSum_48 rfl ?_
                refine j_geti X fd_X3_19 h24 dX3_readSum_49 (fun v28 ev28 => ?_)
                replace hf25 := lt_of hf25 v28 ev28
                refine j_iconst X (v := 1) dX3_readSum_52 (by decide) ?_
                refine j_iadd X dX3_readSum_53 ?_
                refine j_puti X fp_X3_19 h24 dX3_readSum_54 (fun σ30 eσ30 => ?_)
                replace hf25 := lt_of hf25 σ30 eσ30
                have h32 : isO σ30 3 x0 := by rw [eσ30]; exact h24
                refine j_aload_n X dX3_readSum_57 2 rfl rfl ?_
                refine j_iload_n X dX3_readSum_58 3 rfl rfl ?_
                obtain ⟨r33, σ34, h35, hf36⟩ := bc_of hf25; clear hf25
                refine j_callV0 X [.int x1] [] (ihg.2.1 x0 x1 σ30 _ _ h35) mk_X3_readProduct mv_X3_readProduct ml_X3_49 h32 rfl (by decide) ⟨rfl, rfl⟩ ⟨by dsimp only [rg_XP]; omega, by dsimp only [rg_XP]; omega⟩ rfl (Nat.le_of_ble_eq_true rfl) ⟨Nat.zero_le _, Nat.zero_le _⟩ dX3_readSum_59 rfl (st' := [.int r33]) rfl ?_
                refine j_istore X (lv' := [(6, .int r33), (5, .int v26), (4, .int r14), (0, .ref (q x0)), (1, .int x1), (2, .int x2), (3, .int x3)]) dX3_readSum_62 (by decide) rfl ?_
                refine j_aload_n X dX3_readSum_64 3 rfl rfl ?_
                refine j_iload X dX3_readSum_65 2 rfl ?_
                refine j_bipush X (v := 43) dX3_readSum_67 (by decide) ?_
                refine j_icmp_ne X (tgt := 76) dX3_readSum_69 (by decide) (fun c37 => ?_) (fun c37 => ?_)
                · have hf38 := br_n hf36 c37; clear hf36
                  refine j_iconst X (v := 4) dX3_readSum_76 (by decide) ?_
                  refine j_iload X dX3_readSum_77 1 rfl ?_
                  refine j_iload_n X dX3_readSum_79 5 rfl rfl ?_
                  refine j_iload X dX3_readSum_80 0 rfl ?_
                  obtain ⟨h40, hf41⟩ := chk_of hf38; clear hf38
                  obtain ⟨r42, σ43, h44, hf45⟩ := bc_of hf41; clear hf41
                  refine j_callV0 X [.int (4 : Int32), .int v26, .int x2, .int r33] [] (c_X3_join l D cs q x0 (4 : Int32) v26 x2 r33 σ34 _ _ h44) mk_X3_join mv_X3_join ml_X3_56 h40 rfl (by decide) ⟨rfl, rfl⟩ ⟨by dsimp only [rg_XP, rm_X3_join]; omega, by dsimp only [rg_XP, rm_X3_join]; omega⟩ rfl (Nat.le_of_ble_eq_true rfl) ⟨Nat.zero_le _, Nat.zero_le _⟩ dX3_readSum_82 rfl (st' := [.int r42]) rfl ?_
                  refine j_istore_n X (lv' := [(2, .int r42), (6, .int r33), (5, .int v26), (4, .int r14), (0, .ref (q x0)), (1, .int x1), (3, .int x3)]) dX3_readSum_85 rfl (by decide) rfl ?_
                  obtain ⟨v46, ev46⟩ : ∃ y : Int32, y = x3 + (1 : Int32) := ⟨_, rfl⟩
                  replace hf45 := lt_of hf45 v46 ev46
                  refine j_iinc X (v := v46) (lv' := [(3, .int v46), (2, .int r42), (6, .int r33), (5, .int v26), (4, .int r14), (0, .ref (q x0)), (1, .int x1)]) dX3_readSum_86 6 rfl (by rw [ev46]; rfl) (by decide) rfl ?_
                  refine j_goto X (tgt := 8) dX3_readSum_89 (by decide) ?_
                  refine j_lvsub [5, 6, 1, 0] (lv' := [(0, .ref (q x0)), (1, .int x1), (2, .int r42), (3, .int v46)]) rfl ?_
                  exact ih x0 x1 r42 v46 σ43 hf45
                · have hf39 := br_y hf36 c37; clear hf36
                  refine j_iconst X (v := 3) dX3_readSum_72 (by decide) ?_
                  refine j_goto X (tgt := 77) dX3_readSum_73 (by decide) ?_
                  refine j_iload X dX3_readSum_77 1 rfl ?_
                  refine j_iload_n X dX3_readSum_79 5 rfl rfl ?_
                  refine j_iload X dX3_readSum_80 0 rfl ?_
                  obtain ⟨h48, hf49⟩ := chk_of hf39; clear hf39
                  obtain ⟨r50, σ51, h52, hf53⟩ := bc_of hf49; clear hf49
                  refine j_callV0 X [.int (3 : Int32), .int v26, .int x2, .int r33] [] (c_X3_join l D cs q x0 (3 : Int32) v26 x2 r33 σ34 _ _ h52) mk_X3_join mv_X3_join ml_X3_56 h48 rfl (by decide) ⟨rfl, rfl⟩ ⟨by dsimp only [rg_XP, rm_X3_join]; omega, by dsimp only [rg_XP, rm_X3_join]; omega⟩ rfl (Nat.le_of_ble_eq_true rfl) ⟨Nat.zero_le _, Nat.zero_le _⟩ dX3_readSum_82 rfl (st' := [.int r50]) rfl ?_
                  refine j_istore_n X (lv' := [(2, .int r50), (6, .int r33), (5, .int v26), (4, .int r14), (0, .ref (q x0)), (1, .int x1), (3, .int x3)]) dX3_readSum_85 rfl (by decide) rfl ?_
                  obtain ⟨v54, ev54⟩ : ∃ y : Int32, y = x3 + (1 : Int32) := ⟨_, rfl⟩
                  replace hf53 := lt_of hf53 v54 ev54
                  refine j_iinc X (v := v54) (lv' := [(3, .int v54), (2, .int r50), (6, .int r33), (5, .int v26), (4, .int r14), (0, .ref (q x0)), (1, .int x1)]) dX3_readSum_86 6 rfl (by rw [ev54]; rfl) (by decide) rfl ?_
                  refine j_goto X (tgt := 8) dX3_readSum_89 (by decide) ?_
                  refine j_lvsub [5, 6, 1, 0] (lv' := [(0, .ref (q x0)), (1, .int x1), (2, .int r50), (3, .int v54)]) rfl ?_
                  exact ih x0 x1 r50 v54 σ51 hf53
              · have hf23 := br_n hf20 c21; clear hf20
                refine j_iload X dX3_readSum_32 0 rfl ?_
                refine j_bipush X (v := 45) dX3_readSum_34 (by decide) ?_
                refine j_icmp_eq X (tgt := 41) dX3_readSum_36 (by decide) (fun c56 => ?_) (fun c56 => ?_)
                · have hf57 := br_y hf23 c56; clear hf23
                  refine j_aload_n X dX3_readSum_41 1 rfl rfl ?_
                  obtain ⟨h59, hf60⟩ := chk_of hf57; clear hf57
                  refine j_geti X fd_X3_19 h59 dX3_readSum_42 (fun v61 ev61 => ?_)
                  replace hf60 := lt_of hf60 v61 ev61
                  refine j_istore X (lv' := [(5, .int v61), (4, .int r14), (0, .ref (q x0)), (1, .int x1), (2, .int x2), (3, .int x3)]) dX3_readSum_45 (by decide) rfl ?_
                  refine j_aload_n X dX3_readSum_47 2 rfl rfl ?_
                  refine j_dup X dX3_readSum_48 rfl ?_
                  refine j_geti X fd_X3_19 h59 dX3_readSum_49 (fun v63 ev63 => ?_)
                  replace hf60 := lt_of hf60 v63 ev63
                  refine j_iconst X (v := 1) dX3_readSum_52 (by decide) ?_
                  refine j_iadd X dX3_readSum_53 ?_
                  refine j_puti X fp_X3_19 h59 dX3_readSum_54 (fun σ65 eσ65 => ?_)
                  replace hf60 := lt_of hf60 σ65 eσ65
                  have h67 : isO σ65 3 x0 := by rw [eσ65]; exact h59
                  refine j_aload_n X dX3_readSum_57 2 rfl rfl ?_
                  refine j_iload_n X dX3_readSum_58 3 rfl rfl ?_
                  obtain ⟨r68, σ69, h70, hf71⟩ := bc_of hf60; clear hf60
                  refine j_callV0 X [.int x1] [] (ihg.2.1 x0 x1 σ65 _ _ h70) mk_X3_readProduct mv_X3_readProduct ml_X3_49 h67 rfl (by decide) ⟨rfl, rfl⟩ ⟨by dsimp only [rg_XP]; omega, by dsimp only [rg_XP]; omega⟩ rfl (Nat.le_of_ble_eq_true rfl) ⟨Nat.zero_le _, Nat.zero_le _⟩ dX3_readSum_59 rfl (st' := [.int r68]) rfl ?_
                  refine j_istore X (lv' := [(6, .int r68), (5, .int v61), (4, .int r14), (0, .ref (q x0)), (1, .int x1), (2, .int x2), (3, .int x3)]) dX3_readSum_62 (by decide) rfl ?_
                  refine j_aload_n X dX3_readSum_64 3 rfl rfl ?_
                  refine j_iload X dX3_readSum_65 2 rfl ?_
                  refine j_bipush X (v := 43) dX3_readSum_67 (by decide) ?_
                  refine j_icmp_ne X (tgt := 76) dX3_readSum_69 (by decide) (fun c72 => ?_) (fun c72 => ?_)
                  · have hf73 := br_n hf71 c72; clear hf71
                    refine j_iconst X (v := 4) dX3_readSum_76 (by decide) ?_
                    refine j_iload X dX3_readSum_77 1 rfl ?_
                    refine j_iload_n X dX3_readSum_79 5 rfl rfl ?_
                    refine j_iload X dX3_readSum_80 0 rfl ?_
                    obtain ⟨h75, hf76⟩ := chk_of hf73; clear hf73
                    obtain ⟨r77, σ78, h79, hf80⟩ := bc_of hf76; clear hf76
                    refine j_callV0 X [.int (4 : Int32), .int v61, .int x2, .int r68] [] (c_X3_join l D cs q x0 (4 : Int32) v61 x2 r68 σ69 _ _ h79) mk_X3_join mv_X3_join ml_X3_56 h75 rfl (by decide) ⟨rfl, rfl⟩ ⟨by dsimp only [rg_XP, rm_X3_join]; omega, by dsimp only [rg_XP, rm_X3_join]; omega⟩ rfl (Nat.le_of_ble_eq_true rfl) ⟨Nat.zero_le _, Nat.zero_le _⟩ dX3_readSum_82 rfl (st' := [.int r77]) rfl ?_
                    refine j_istore_n X (lv' := [(2, .int r77), (6, .int r68), (5, .int v61), (4, .int r14), (0, .ref (q x0)), (1, .int x1), (3, .int x3)]) dX3_readSum_85 rfl (by decide) rfl ?_
                    obtain ⟨v81, ev81⟩ : ∃ y : Int32, y = x3 + (1 : Int32) := ⟨_, rfl⟩
                    replace hf80 := lt_of hf80 v81 ev81
                    refine j_iinc X (v := v81) (lv' := [(3, .int v81), (2, .int r77), (6, .int r68), (5, .int v61), (4, .int r14), (0, .ref (q x0)), (1, .int x1)]) dX3_readSum_86 6 rfl (by rw [ev81]; rfl) (by decide) rfl ?_
                    refine j_goto X (tgt := 8) dX3_readSum_89 (by decide) ?_
                    refine j_lvsub [5, 6, 1, 0] (lv' := [(0, .ref (q x0)), (1, .int x1), (2, .int r77), (3, .int v81)]) rfl ?_
                    exact ih x0 x1 r77 v81 σ78 hf80
                  · have hf74 := br_y hf71 c72; clear hf71
                    refine j_iconst X (v := 3) dX3_readSum_72 (by decide) ?_
                    refine j_goto X (tgt := 77) dX3_readSum_73 (by decide) ?_
                    refine j_iload X dX3_readSum_77 1 rfl ?_
                    refine j_iload_n X dX3_readSum_79 5 rfl rfl ?_
                    refine j_iload X dX3_readSum_80 0 rfl ?_
                    obtain ⟨h83, hf84⟩ := chk_of hf74; clear hf74
                    obtain ⟨r85, σ86, h87, hf88⟩ := bc_of hf84; clear hf84
                    refine j_callV0 X [.int (3 : Int32), .int v61, .int x2, .int r68] [] (c_X3_join l D cs q x0 (3 : Int32) v61 x2 r68 σ69 _ _ h87) mk_X3_join mv_X3_join ml_X3_56 h83 rfl (by decide) ⟨rfl, rfl⟩ ⟨by dsimp only [rg_XP, rm_X3_join]; omega, by dsimp only [rg_XP, rm_X3_join]; omega⟩ rfl (Nat.le_of_ble_eq_true rfl) ⟨Nat.zero_le _, Nat.zero_le _⟩ dX3_readSum_82 rfl (st' := [.int r85]) rfl ?_
                    refine j_istore_n X (lv' := [(2, .int r85), (6, .int r68), (5, .int v61), (4, .int r14), (0, .ref (q x0)), (1, .int x1), (3, .int x3)]) dX3_readSum_85 rfl (by decide) rfl ?_
                    obtain ⟨v89, ev89⟩ : ∃ y : Int32, y = x3 + (1 : Int32) := ⟨_, rfl⟩
                    replace hf88 := lt_of hf88 v89 ev89
                    refine j_iinc X (v := v89) (lv' := [(3, .int v89), (2, .int r85), (6, .int r68), (5, .int v61), (4, .int r14), (0, .ref (q x0)), (1, .int x1)]) dX3_readSum_86 6 rfl (by rw [ev89]; rfl) (by decide) rfl ?_
                    refine j_goto X (tgt := 8) dX3_readSum_89 (by decide) ?_
                    refine j_lvsub [5, 6, 1, 0] (lv' := [(0, .ref (q x0)), (1, .int x1), (2, .int r85), (3, .int v89)]) rfl ?_
                    exact ih x0 x1 r85 v89 σ86 hf88
                · have hf58 := br_n hf23 c56; clear hf23
                  refine j_iload_n X dX3_readSum_39 3 rfl rfl ?_
                  obtain ⟨er, es⟩ := rt_of hf58
                  subst er
                  exact j_reti X hr hlk (Nat.le_of_ble_eq_true rfl) (Nat.le_of_ble_eq_true rfl) rfl es.symm rfl dX3_readSum_40
      refine j_aload_n X dX3_readSum_0 0 rfl rfl ?_
      refine j_iload_n X dX3_readSum_1 1 rfl rfl ?_
      obtain ⟨h1, hf2⟩ := chk_of hf0; clear hf0
      obtain ⟨r3, σ4, h5, hf6⟩ := bc_of hf2; clear hf2
      refine j_callV0 X [.int a1] [] (ihg.2.1 a0 a1 σ _ _ h5) mk_X3_readProduct mv_X3_readProduct ml_X3_49 h1 rfl (by decide) ⟨rfl, rfl⟩ ⟨by dsimp only [rg_XP]; omega, by dsimp only [rg_XP]; omega⟩ rfl (Nat.le_of_ble_eq_true rfl) ⟨Nat.zero_le _, Nat.zero_le _⟩ dX3_readSum_2 rfl (st' := [.int r3]) rfl ?_
      refine j_istore_n X (lv' := [(2, .int r3), (0, .ref (q a0)), (1, .int a1)]) dX3_readSum_5 rfl (by decide) rfl ?_
      refine j_iconst X (v := 0) dX3_readSum_6 (by decide) ?_
      refine j_nmi (fun v7 ev7 => ?_)
      replace hf6 := lt_of hf6 v7 ev7
      refine j_istore_n X (lv' := [(3, .int v7), (2, .int r3), (0, .ref (q a0)), (1, .int a1)]) dX3_readSum_7 rfl (by decide) rfl ?_
      refine j_lvsub [2, 3, 1, 0] (lv' := [(0, .ref (q a0)), (1, .int a1), (2, .int r3), (3, .int v7)]) rfl ?_
      exact L8  1000 a0 a1 r3 v7 σ4 hf6
    · intro a0 a1 σ σ0 r0 hf0
      replace hf0 : b_X3_readProduct (g_XP ng) a0 a1 σ = some (r0, σ0) := hf0
      unfold b_X3_readProduct at hf0
      refine MT_of (cc := cX3_readProduct) (lv0 := [(0, .ref (q a0)), (1, .int a1)]) (by decide) (Nat.le_of_ble_eq_true rfl) rfl (fun p e s m args below meth c A X hr hlk hin => ?_)
      have L8 : ∀ (nk : Nat) (x0 : Nat) (x1 : Int32) (x2 : Int32) (x3 : Int32) (τ : HS), lp_X3_readProduct_8 (g_XP ng)  nk x0 x1 x2 x3 τ = some (r0, σ0) → J p l e (rg_XP (ng + 1)) s m args below meth c 6 D cs A s.heap 0 0 (MQ below (hQ D cs (fun z => z = q) (fun _ => some (.int r0)) σ0 A) args s 0 0 A) q τ [(0, .ref (q x0)), (1, .int x1), (2, .int x2), (3, .int x3)] 8 [] := by
        intro nk
        induction nk with
        | zero => intro x0 x1 x2 x3 τ hf0; have hf1 : (none : Option (Int32 × HS)) = some (r0, σ0) := hf0; cases hf1
        | succ nk ih =>
          intro x0 x1 x2 x3 τ hf0
          replace hf0 : lp_X3_readProduct_8_b (g_XP ng)  (lp_X3_readProduct_8 (g_XP ng)  nk) x0 x1 x2 x3 τ = some (r0, σ0) := hf0
          unfold lp_X3_readProduct_8_b at hf0
          refine j_iload_n X dX3_readProduct_8 3 rfl rfl ?_
          refine j_bipush X (v := 60) dX3_readProduct_9 (by decide) ?_
          refine j_icmp_ge X (tgt := 70) dX3_readProduct_11 (by decide) (fun c9 => ?_) (fun c9 => ?_)
          · have hf10 := br_y hf0 c9; clear hf0
            refine j_iload_n X dX3_readProduct_70 2 rfl rfl ?_
            obtain ⟨er, es⟩ := rt_of hf10
            subst er
            exact j_reti X hr hlk (Nat.le_of_ble_eq_true rfl) (Nat.le_of_ble_eq_true rfl) rfl es.symm rfl dX3_readProduct_71
          · have hf11 := br_n hf0 c9; clear hf0
            refine j_iload_n X dX3_readProduct_14 2 rfl rfl ?_
            refine j_iconst X (v := -1) dX3_readProduct_15 (by decide) ?_
            refine j_icmp_eq X (tgt := 28) dX3_readProduct_16 (by decide) (fun c12 => ?_) (fun c12 => ?_)
            · have hf13 := br_y hf11 c12; clear hf11
              refine j_iload_n X dX3_readProduct_28 2 rfl rfl ?_
              obtain ⟨er, es⟩ := rt_of hf13
              subst er
              exact j_reti X hr hlk (Nat.le_of_ble_eq_true rfl) (Nat.le_of_ble_eq_true rfl) rfl es.symm rfl dX3_readProduct_29
            · have hf14 := br_n hf11 c12; clear hf11
              refine j_aload_n X dX3_readProduct_19 0 rfl rfl ?_
              obtain ⟨h15, hf16⟩ := chk_of hf14; clear hf14
              obtain ⟨r17, σ18, h19, hf20⟩ := bc_of hf16; clear hf16
              refine j_callV0 X [] [] (c_X3_here l D cs q x0 τ _ _ h19) mk_X3_here mv_X3_here ml_X3_52 h15 rfl (by decide) ⟨rfl, rfl⟩ ⟨by dsimp only [rg_XP, rm_X3_here]; omega, by dsimp only [rg_XP, rm_X3_here]; omega⟩ rfl (Nat.le_of_ble_eq_true rfl) ⟨Nat.zero_le _, Nat.zero_le _⟩ dX3_readProduct_20 rfl (st' := [.int r17]) rfl ?_
              refine j_bipush X (v := 42) dX3_readProduct_23 (by decide) ?_
              refine j_icmp_eq X (tgt := 30) dX3_readProduct_25 (by decide) (fun c21 => ?_) (fun c21 => ?_)
              · have hf22 := br_y hf20 c21; clear hf20
                refine j_aload_n X dX3_readProduct_30 0 rfl rfl ?_
                obtain ⟨h24, hf25⟩ := chk_of hf22; clear hf22
                refine j_geti X fd_X3_19 h24 dX3_readProduct_31 (fun v26 ev26 => ?_)
                replace hf25 := lt_of hf25 v26 ev26
                refine j_istore X (lv' := [(4, .int v26), (0, .ref (q x0)), (1, .int x1), (2, .int x2), (3, .int x3)]) dX3_readProduct_34 (by decide) rfl ?_
                refine j_aload_n X dX3_readProduct_36 1 rfl rfl ?_
                refine j_dup X dX3_readProduct_37 rfl ?_
                refine j_geti X fd_X3_19 h24 dX3_readProduct_38 (fun v28 ev28 => ?_)
                replace hf25 := lt_of hf25 v28 ev28
                refine j_iconst X (v := 1) dX3_readProduct_41 (by decide) ?_
                refine j_iadd X dX3_readProduct_42 ?_
                refine j_puti X fp_X3_19 h24 dX3_readProduct_43 (fun σ30 eσ30 => ?_)
                replace hf25 := lt_of hf25 σ30 eσ30
                have h32 : isO σ30 3 x0 := by rw [eσ30]; exact h24
                refine j_aload_n X dX3_readProduct_46 1 rfl rfl ?_
                refine j_iload_n X dX3_readProduct_47 2 rfl rfl ?_
                obtain ⟨r33, σ34, h35, hf36⟩ := bc_of hf25; clear hf25
                refine j_callV0 X [.int x1] [] (ihg.2.2 x0 x1 σ30 _ _ h35) mk_X3_readFactor mv_X3_readFactor ml_X3_60 h32 rfl (by decide) ⟨rfl, rfl⟩ ⟨by dsimp only [rg_XP]; omega, by dsimp only [rg_XP]; omega⟩ rfl (Nat.le_of_ble_eq_true rfl) ⟨Nat.zero_le _, Nat.zero_le _⟩ dX3_readProduct_48 rfl (st' := [.int r33]) rfl ?_
                refine j_istore X (lv' := [(5, .int r33), (4, .int v26), (0, .ref (q x0)), (1, .int x1), (2, .int x2), (3, .int x3)]) dX3_readProduct_51 (by decide) rfl ?_
                refine j_aload_n X dX3_readProduct_53 2 rfl rfl ?_
                refine j_iconst X (v := 5) dX3_readProduct_54 (by decide) ?_
                refine j_iload X dX3_readProduct_55 1 rfl ?_
                refine j_iload_n X dX3_readProduct_57 4 rfl rfl ?_
                refine j_iload X dX3_readProduct_58 0 rfl ?_
                obtain ⟨h37, hf38⟩ := chk_of hf36; clear hf36
                obtain ⟨r39, σ40, h41, hf42⟩ := bc_of hf38; clear hf38
                refine j_callV0 X [.int (5 : Int32), .int v26, .int x2, .int r33] [] (c_X3_join l D cs q x0 (5 : Int32) v26 x2 r33 σ34 _ _ h41) mk_X3_join mv_X3_join ml_X3_56 h37 rfl (by decide) ⟨rfl, rfl⟩ ⟨by dsimp only [rg_XP, rm_X3_join]; omega, by dsimp only [rg_XP, rm_X3_join]; omega⟩ rfl (Nat.le_of_ble_eq_true rfl) ⟨Nat.zero_le _, Nat.zero_le _⟩ dX3_readProduct_60 rfl (st' := [.int r39]) rfl ?_
                refine j_istore_n X (lv' := [(2, .int r39), (5, .int r33), (4, .int v26), (0, .ref (q x0)), (1, .int x1), (3, .int x3)]) dX3_readProduct_63 rfl (by decide) rfl ?_
                obtain ⟨v43, ev43⟩ : ∃ y : Int32, y = x3 + (1 : Int32) := ⟨_, rfl⟩
                replace hf42 := lt_of hf42 v43 ev43
                refine j_iinc X (v := v43) (lv' := [(3, .int v43), (2, .int r39), (5, .int r33), (4, .int v26), (0, .ref (q x0)), (1, .int x1)]) dX3_readProduct_64 5 rfl (by rw [ev43]; rfl) (by decide) rfl ?_
                refine j_goto X (tgt := 8) dX3_readProduct_67 (by decide) ?_
                refine j_lvsub [4, 5, 1, 0] (lv' := [(0, .ref (q x0)), (1, .int x1), (2, .int r39), (3, .int v43)]) rfl ?_
                exact ih x0 x1 r39 v43 σ40 hf42
              · have hf23 := br_n hf20 c21; clear hf20
                refine j_iload_n X dX3_readProduct_28 2 rfl rfl ?_
                obtain ⟨er, es⟩ := rt_of hf23
                subst er
                exact j_reti X hr hlk (Nat.le_of_ble_eq_true rfl) (Nat.le_of_ble_eq_true rfl) rfl es.symm rfl dX3_readProduct_29
      refine j_aload_n X dX3_readProduct_0 0 rfl rfl ?_
      refine j_iload_n X dX3_readProduct_1 1 rfl rfl ?_
      obtain ⟨h1, hf2⟩ := chk_of hf0; clear hf0
      obtain ⟨r3, σ4, h5, hf6⟩ := bc_of hf2; clear hf2
      refine j_callV0 X [.int a1] [] (ihg.2.2 a0 a1 σ _ _ h5) mk_X3_readFactor mv_X3_readFactor ml_X3_60 h1 rfl (by decide) ⟨rfl, rfl⟩ ⟨by dsimp only [rg_XP]; omega, by dsimp only [rg_XP]; omega⟩ rfl (Nat.le_of_ble_eq_true rfl) ⟨Nat.zero_le _, Nat.zero_le _⟩ dX3_readProduct_2 rfl (st' := [.int r3]) rfl ?_
      refine j_istore_n X (lv' := [(2, .int r3), (0, .ref (q a0)), (1, .int a1)]) dX3_readProduct_5 rfl (by decide) rfl ?_
      refine j_iconst X (v := 0) dX3_readProduct_6 (by decide) ?_
      refine j_nmi (fun v7 ev7 => ?_)
      replace hf6 := lt_of hf6 v7 ev7
      refine j_istore_n X (lv' := [(3, .int v7), (2, .int r3), (0, .ref (q a0)), (1, .int a1)]) dX3_readProduct_7 rfl (by decide) rfl ?_
      refine j_lvsub [2, 3, 1, 0] (lv' := [(0, .ref (q a0)), (1, .int a1), (2, .int r3), (3, .int v7)]) rfl ?_
      exact L8  1000 a0 a1 r3 v7 σ4 hf6
    · intro a0 a1 σ σ0 r0 hf0
      replace hf0 : b_X3_readFactor (g_XP ng) a0 a1 σ = some (r0, σ0) := hf0
      unfold b_X3_readFactor at hf0
      refine MT_of (cc := cX3_readFactor) (lv0 := [(0, .ref (q a0)), (1, .int a1)]) (by decide) (Nat.le_of_ble_eq_true rfl) rfl (fun p e s m args below meth c A X hr hlk hin => ?_)
      refine j_aload_n X dX3_readFactor_0 0 rfl rfl ?_
      obtain ⟨h1, hf2⟩ := chk_of hf0; clear hf0
      obtain ⟨r3, σ4, h5, hf6⟩ := bc_of hf2; clear hf2
      refine j_callV0 X [] [] (c_X3_here l D cs q a0 σ _ _ h5) mk_X3_here mv_X3_here ml_X3_52 h1 rfl (by decide) ⟨rfl, rfl⟩ ⟨by dsimp only [rg_XP, rm_X3_here]; omega, by dsimp only [rg_XP, rm_X3_here]; omega⟩ rfl (Nat.le_of_ble_eq_true rfl) ⟨Nat.zero_le _, Nat.zero_le _⟩ dX3_readFactor_1 rfl (st' := [.int r3]) rfl ?_
      refine j_istore_n X (lv' := [(2, .int r3), (0, .ref (q a0)), (1, .int a1)]) dX3_readFactor_4 rfl (by decide) rfl ?_
      refine j_iload_n X dX3_readFactor_5 0 rfl rfl ?_
      refine j_bipush X (v := 97) dX3_readFactor_6 (by decide) ?_
      refine j_icmp_lt X (tgt := 43) dX3_readFactor_8 (by decide) (fun c7 => ?_) (fun c7 => ?_)
      · have hf8 := br_y hf6 c7; clear hf6
        refine j_iload_n X dX3_readFactor_43 0 rfl rfl ?_
        obtain ⟨r10, σ11, h12, hf13⟩ := bc_of hf8; clear hf8
        refine j_callS0 X [.int r3] [] (c_X3_isFigure l D cs q r3 σ4 _ _ h12) mk_X3_isFigure ms_X3_isFigure ml_X3_67 ⟨rfl, rfl⟩ ⟨by dsimp only [rg_XP, rm_X3_isFigure]; omega, by dsimp only [rg_XP, rm_X3_isFigure]; omega⟩ rfl (Nat.le_of_ble_eq_true rfl) ⟨Nat.zero_le _, Nat.zero_le _⟩ dX3_readFactor_44 rfl (st' := [.int r10]) rfl ?_
        refine j_if_eq X (tgt := 55) dX3_readFactor_47 (by decide) (fun c14 => ?_) (fun c14 => ?_)
        · have hf15 := br_y hf13 c14; clear hf13
          refine j_iload_n X dX3_readFactor_55 2 rfl rfl ?_
          refine j_bipush X (v := 6) dX3_readFactor_56 (by decide) ?_
          refine j_icmp_ge X (tgt := 73) dX3_readFactor_58 (by decide) (fun c17 => ?_) (fun c17 => ?_)
          · have hf18 := br_y hf15 c17; clear hf15
            refine j_iconst X (v := -1) dX3_readFactor_73 (by decide) ?_
            obtain ⟨er, es⟩ := rt_of hf18
            subst er
            exact j_reti X hr hlk (Nat.le_of_ble_eq_true rfl) (Nat.le_of_ble_eq_true rfl) rfl es.symm rfl dX3_readFactor_74
          · have hf19 := br_n hf15 c17; clear hf15
            refine j_iload_n X dX3_readFactor_61 0 rfl rfl ?_
            refine j_bipush X (v := 45) dX3_readFactor_62 (by decide) ?_
            refine j_icmp_eq X (tgt := 75) dX3_readFactor_64 (by decide) (fun c20 => ?_) (fun c20 => ?_)
            · have hf21 := br_y hf19 c20; clear hf19
              refine j_aload_n X dX3_readFactor_75 1 rfl rfl ?_
              obtain ⟨h23, hf24⟩ := chk_of hf21; clear hf21
              refine j_geti X fd_X3_19 h23 dX3_readFactor_76 (fun v25 ev25 => ?_)
              replace hf24 := lt_of hf24 v25 ev25
              refine j_istore_n X (lv' := [(3, .int v25), (2, .int r3), (0, .ref (q a0)), (1, .int a1)]) dX3_readFactor_79 rfl (by decide) rfl ?_
              refine j_aload_n X dX3_readFactor_80 2 rfl rfl ?_
              refine j_dup X dX3_readFactor_81 rfl ?_
              refine j_geti X fd_X3_19 h23 dX3_readFactor_82 (fun v27 ev27 => ?_)
              replace hf24 := lt_of hf24 v27 ev27
              refine j_iconst X (v := 1) dX3_readFactor_85 (by decide) ?_
              refine j_iadd X dX3_readFactor_86 ?_
              refine j_puti X fp_X3_19 h23 dX3_readFactor_87 (fun σ29 eσ29 => ?_)
              replace hf24 := lt_of hf24 σ29 eσ29
              have h31 : isO σ29 3 a0 := by rw [eσ29]; exact h23
              refine j_iload_n X dX3_readFactor_90 1 rfl rfl ?_
              refine j_bipush X (v := 45) dX3_readFactor_91 (by decide) ?_
              refine j_icmp_ne X (tgt := 116) dX3_readFactor_93 (by decide) (fun c32 => ?_) (fun c32 => ?_)
              · have hf33 := br_n hf24 c32; clear hf24
                refine j_aload_n X dX3_readFactor_116 2 rfl rfl ?_
                refine j_iload_n X dX3_readFactor_117 3 rfl rfl ?_
                refine j_iconst X (v := 1) dX3_readFactor_118 (by decide) ?_
                refine j_iadd X dX3_readFactor_119 ?_
                obtain ⟨r35, σ36, h37, hf38⟩ := bc_of hf33; clear hf33
                refine j_callV0 X [.int (a1 + (1 : Int32))] [] (ihg.1 a0 (a1 + (1 : Int32)) σ29 _ _ h37) mk_X3_readSum mv_X3_readSum ml_X3_40 h31 rfl (by decide) ⟨rfl, rfl⟩ ⟨by dsimp only [rg_XP]; omega, by dsimp only [rg_XP]; omega⟩ rfl (Nat.le_of_ble_eq_true rfl) ⟨Nat.zero_le _, Nat.zero_le _⟩ dX3_readFactor_120 rfl (st' := [.int r35]) rfl ?_
                refine j_istore X (lv' := [(4, .int r35), (3, .int v25), (2, .int r3), (0, .ref (q a0)), (1, .int a1)]) dX3_readFactor_123 (by decide) rfl ?_
                refine j_iload X dX3_readFactor_125 0 rfl ?_
                refine j_iconst X (v := -1) dX3_readFactor_127 (by decide) ?_
                refine j_icmp_eq X (tgt := 140) dX3_readFactor_128 (by decide) (fun c39 => ?_) (fun c39 => ?_)
                · have hf40 := br_y hf38 c39; clear hf38
                  refine j_iconst X (v := -1) dX3_readFactor_140 (by decide) ?_
                  obtain ⟨er, es⟩ := rt_of hf40
                  subst er
                  exact j_reti X hr hlk (Nat.le_of_ble_eq_true rfl) (Nat.le_of_ble_eq_true rfl) rfl es.symm rfl dX3_readFactor_141
                · have hf41 := br_n hf38 c39; clear hf38
                  refine j_aload_n X dX3_readFactor_131 3 rfl rfl ?_
                  obtain ⟨h42, hf43⟩ := chk_of hf41; clear hf41
                  obtain ⟨r44, σ45, h46, hf47⟩ := bc_of hf43; clear hf43
                  refine j_callV0 X [] [] (c_X3_here l D cs q a0 σ36 _ _ h46) mk_X3_here mv_X3_here ml_X3_52 h42 rfl (by decide) ⟨rfl, rfl⟩ ⟨by dsimp only [rg_XP, rm_X3_here]; omega, by dsimp only [rg_XP, rm_X3_here]; omega⟩ rfl (Nat.le_of_ble_eq_true rfl) ⟨Nat.zero_le _, Nat.zero_le _⟩ dX3_readFactor_132 rfl (st' := [.int r44]) rfl ?_
                  refine j_bipush X (v := 41) dX3_readFactor_135 (by decide) ?_
                  refine j_icmp_eq X (tgt := 142) dX3_readFactor_137 (by decide) (fun c48 => ?_) (fun c48 => ?_)
                  · have hf49 := br_y hf47 c48; clear hf47
                    refine j_aload_n X dX3_readFactor_142 3 rfl rfl ?_
                    refine j_dup X dX3_readFactor_143 rfl ?_
                    obtain ⟨h51, hf52⟩ := chk_of hf49; clear hf49
                    refine j_geti X fd_X3_19 h51 dX3_readFactor_144 (fun v53 ev53 => ?_)
                    replace hf52 := lt_of hf52 v53 ev53
                    refine j_iconst X (v := 1) dX3_readFactor_147 (by decide) ?_
                    refine j_iadd X dX3_readFactor_148 ?_
                    refine j_puti X fp_X3_19 h51 dX3_readFactor_149 (fun σ55 eσ55 => ?_)
                    replace hf52 := lt_of hf52 σ55 eσ55
                    have h57 : isO σ55 3 a0 := by rw [eσ55]; exact h51
                    refine j_iload X dX3_readFactor_152 0 rfl ?_
                    obtain ⟨er, es⟩ := rt_of hf52
                    subst er
                    exact j_reti X hr hlk (Nat.le_of_ble_eq_true rfl) (Nat.le_of_ble_eq_true rfl) rfl es.symm rfl dX3_readFactor_154
                  · have hf50 := br_n hf47 c48; clear hf47
                    refine j_iconst X (v := -1) dX3_readFactor_140 (by decide) ?_
                    obtain ⟨er, es⟩ := rt_of hf50
                    subst er
                    exact j_reti X hr hlk (Nat.le_of_ble_eq_true rfl) (Nat.le_of_ble_eq_true rfl) rfl es.symm rfl dX3_readFactor_141
              · have hf34 := br_y hf24 c32; clear hf24
                refine j_aload_n X dX3_readFactor_96 2 rfl rfl ?_
                refine j_iload_n X dX3_readFactor_97 3 rfl rfl ?_
                refine j_iconst X (v := 1) dX3_readFactor_98 (by decide) ?_
                refine j_iadd X dX3_readFactor_99 ?_
                obtain ⟨r58, σ59, h60, hf61⟩ := bc_of hf34; clear hf34
                refine j_callV0 X [.int (a1 + (1 : Int32))] [] (ihg.2.2 a0 (a1 + (1 : Int32)) σ29 _ _ h60) mk_X3_readFactor mv_X3_readFactor ml_X3_60 h31 rfl (by decide) ⟨rfl, rfl⟩ ⟨by dsimp only [rg_XP]; omega, by dsimp only [rg_XP]; omega⟩ rfl (Nat.le_of_ble_eq_true rfl) ⟨Nat.zero_le _, Nat.zero_le _⟩ dX3_readFactor_100 rfl (st' := [.int r58]) rfl ?_
                refine j_istore X (lv' := [(4, .int r58), (3, .int v25), (2, .int r3), (0, .ref (q a0)), (1, .int a1)]) dX3_readFactor_103 (by decide) rfl ?_
                refine j_aload_n X dX3_readFactor_105 3 rfl rfl ?_
                refine j_iconst X (v := 2) dX3_readFactor_106 (by decide) ?_
                refine j_iload_n X dX3_readFactor_107 1 rfl rfl ?_
                refine j_iload X dX3_readFactor_108 0 rfl ?_
                refine j_iload X dX3_readFactor_110 0 rfl ?_
                obtain ⟨h62, hf63⟩ := chk_of hf61; clear hf61
                obtain ⟨r64, σ65, h66, hf67⟩ := bc_of hf63; clear hf63
                refine j_callV0 X [.int (2 : Int32), .int v25, .int r58, .int r58] [] (c_X3_join l D cs q a0 (2 : Int32) v25 r58 r58 σ59 _ _ h66) mk_X3_join mv_X3_join ml_X3_56 h62 rfl (by decide) ⟨rfl, rfl⟩ ⟨by dsimp only [rg_XP, rm_X3_join]; omega, by dsimp only [rg_XP, rm_X3_join]; omega⟩ rfl (Nat.le_of_ble_eq_true rfl) ⟨Nat.zero_le _, Nat.zero_le _⟩ dX3_readFactor_112 rfl (st' := [.int r64]) rfl ?_
                obtain ⟨er, es⟩ := rt_of hf67
                subst er
                exact j_reti X hr hlk (Nat.le_of_ble_eq_true rfl) (Nat.le_of_ble_eq_true rfl) rfl es.symm rfl dX3_readFactor_115
            · have hf22 := br_n hf19 c20; clear hf19
              refine j_iload_n X dX3_readFactor_67 0 rfl rfl ?_
              refine j_bipush X (v := 40) dX3_readFactor_68 (by decide) ?_
              refine j_icmp_eq X (tgt := 75) dX3_readFactor_70 (by decide) (fun c68 => ?_) (fun c68 => ?_)
              · have hf69 := br_y hf22 c68; clear hf22
                refine j_aload_n X dX3_readFactor_75 1 rfl rfl ?_
                obtain ⟨h71, hf72⟩ := chk_of hf69; clear hf69
                refine j_geti X fd_X3_19 h71 dX3_readFactor_76 (fun v73 ev73 => ?_)
                replace hf72 := lt_of hf72 v73 ev73
                refine j_istore_n X (lv' := [(3, .int v73), (2, .int r3), (0, .ref (q a0)), (1, .int a1)]) dX3_readFactor_79 rfl (by decide) rfl ?_
                refine j_aload_n X dX3_readFactor_80 2 rfl rfl ?_
                refine j_dup X dX3_readFactor_81 rfl ?_
                refine j_geti X fd_X3_19 h71 dX3_readFactor_82 (fun v75 ev75 => ?_)
                replace hf72 := lt_of hf72 v75 ev75
                refine j_iconst X (v := 1) dX3_readFactor_85 (by decide) ?_
                refine j_iadd X dX3_readFactor_86 ?_
                refine j_puti X fp_X3_19 h71 dX3_readFactor_87 (fun σ77 eσ77 => ?_)
                replace hf72 := lt_of hf72 σ77 eσ77
                have h79 : isO σ77 3 a0 := by rw [eσ77]; exact h71
                refine j_iload_n X dX3_readFactor_90 1 rfl rfl ?_
                refine j_bipush X (v := 45) dX3_readFactor_91 (by decide) ?_
                refine j_icmp_ne X (tgt := 116) dX3_readFactor_93 (by decide) (fun c80 => ?_) (fun c80 => ?_)
                · have hf81 := br_n hf72 c80; clear hf72
                  refine j_aload_n X dX3_readFactor_116 2 rfl rfl ?_
                  refine j_iload_n X dX3_readFactor_117 3 rfl rfl ?_
                  refine j_iconst X (v := 1) dX3_readFactor_118 (by decide) ?_
                  refine j_iadd X dX3_readFactor_119 ?_
                  obtain ⟨r83, σ84, h85, hf86⟩ := bc_of hf81; clear hf81
                  refine j_callV0 X [.int (a1 + (1 : Int32))] [] (ihg.1 a0 (a1 + (1 : Int32)) σ77 _ _ h85) mk_X3_readSum mv_X3_readSum ml_X3_40 h79 rfl (by decide) ⟨rfl, rfl⟩ ⟨by dsimp only [rg_XP]; omega, by dsimp only [rg_XP]; omega⟩ rfl (Nat.le_of_ble_eq_true rfl) ⟨Nat.zero_le _, Nat.zero_le _⟩ dX3_readFactor_120 rfl (st' := [.int r83]) rfl ?_
                  refine j_istore X (lv' := [(4, .int r83), (3, .int v73), (2, .int r3), (0, .ref (q a0)), (1, .int a1)]) dX3_readFactor_123 (by decide) rfl ?_
                  refine j_iload X dX3_readFactor_125 0 rfl ?_
                  refine j_iconst X (v := -1) dX3_readFactor_127 (by decide) ?_
                  refine j_icmp_eq X (tgt := 140) dX3_readFactor_128 (by decide) (fun c87 => ?_) (fun c87 => ?_)
                  · have hf88 := br_y hf86 c87; clear hf86
                    refine j_iconst X (v := -1) dX3_readFactor_140 (by decide) ?_
                    obtain ⟨er, es⟩ := rt_of hf88
                    subst er
                    exact j_reti X hr hlk (Nat.le_of_ble_eq_true rfl) (Nat.le_of_ble_eq_true rfl) rfl es.symm rfl dX3_readFactor_141
                  · have hf89 := br_n hf86 c87; clear hf86
                    refine j_aload_n X dX3_readFactor_131 3 rfl rfl ?_
                    obtain ⟨h90, hf91⟩ := chk_of hf89; clear hf89
                    obtain ⟨r92, σ93, h94, hf95⟩ := bc_of hf91; clear hf91
                    refine j_callV0 X [] [] (c_X3_here l D cs q a0 σ84 _ _ h94) mk_X3_here mv_X3_here ml_X3_52 h90 rfl (by decide) ⟨rfl, rfl⟩ ⟨by dsimp only [rg_XP, rm_X3_here]; omega, by dsimp only [rg_XP, rm_X3_here]; omega⟩ rfl (Nat.le_of_ble_eq_true rfl) ⟨Nat.zero_le _, Nat.zero_le _⟩ dX3_readFactor_132 rfl (st' := [.int r92]) rfl ?_
                    refine j_bipush X (v := 41) dX3_readFactor_135 (by decide) ?_
                    refine j_icmp_eq X (tgt := 142) dX3_readFactor_137 (by decide) (fun c96 => ?_) (fun c96 => ?_)
                    · have hf97 := br_y hf95 c96; clear hf95
                      refine j_aload_n X dX3_readFactor_142 3 rfl rfl ?_
                      refine j_dup X dX3_readFactor_143 rfl ?_
                      obtain ⟨h99, hf100⟩ := chk_of hf97; clear hf97
                      refine j_geti X fd_X3_19 h99 dX3_readFactor_144 (fun v101 ev101 => ?_)
                      replace hf100 := lt_of hf100 v101 ev101
                      refine j_iconst X (v := 1) dX3_readFactor_147 (by decide) ?_
                      refine j_iadd X dX3_readFactor_148 ?_
                      refine j_puti X fp_X3_19 h99 dX3_readFactor_149 (fun σ103 eσ103 => ?_)
                      replace hf100 := lt_of hf100 σ103 eσ103
                      have h105 : isO σ103 3 a0 := by rw [eσ103]; exact h99
                      refine j_iload X dX3_readFactor_152 0 rfl ?_
                      obtain ⟨er, es⟩ := rt_of hf100
                      subst er
                      exact j_reti X hr hlk (Nat.le_of_ble_eq_true rfl) (Nat.le_of_ble_eq_true rfl) rfl es.symm rfl dX3_readFactor_154
                    · have hf98 := br_n hf95 c96; clear hf95
                      refine j_iconst X (v := -1) dX3_readFactor_140 (by decide) ?_
                      obtain ⟨er, es⟩ := rt_of hf98
                      subst er
                      exact j_reti X hr hlk (Nat.le_of_ble_eq_true rfl) (Nat.le_of_ble_eq_true rfl) rfl es.symm rfl dX3_readFactor_141
                · have hf82 := br_y hf72 c80; clear hf72
                  refine j_aload_n X dX3_readFactor_96 2 rfl rfl ?_
                  refine j_iload_n X dX3_readFactor_97 3 rfl rfl ?_
                  refine j_iconst X (v := 1) dX3_readFactor_98 (by decide) ?_
                  refine j_iadd X dX3_readFactor_99 ?_
                  obtain ⟨r106, σ107, h108, hf109⟩ := bc_of hf82; clear hf82
                  refine j_callV0 X [.int (a1 + (1 : Int32))] [] (ihg.2.2 a0 (a1 + (1 : Int32)) σ77 _ _ h108) mk_X3_readFactor mv_X3_readFactor ml_X3_60 h79 rfl (by decide) ⟨rfl, rfl⟩ ⟨by dsimp only [rg_XP]; omega, by dsimp only [rg_XP]; omega⟩ rfl (Nat.le_of_ble_eq_true rfl) ⟨Nat.zero_le _, Nat.zero_le _⟩ dX3_readFactor_100 rfl (st' := [.int r106]) rfl ?_
                  refine j_istore X (lv' := [(4, .int r106), (3, .int v73), (2, .int r3), (0, .ref (q a0)), (1, .int a1)]) dX3_readFactor_103 (by decide) rfl ?_
                  refine j_aload_n X dX3_readFactor_105 3 rfl rfl ?_
                  refine j_iconst X (v := 2) dX3_readFactor_106 (by decide) ?_
                  refine j_iload_n X dX3_readFactor_107 1 rfl rfl ?_
                  refine j_iload X dX3_readFactor_108 0 rfl ?_
                  refine j_iload X dX3_readFactor_110 0 rfl ?_
                  obtain ⟨h110, hf111⟩ := chk_of hf109; clear hf109
                  obtain ⟨r112, σ113, h114, hf115⟩ := bc_of hf111; clear hf111
                  refine j_callV0 X [.int (2 : Int32), .int v73, .int r106, .int r106] [] (c_X3_join l D cs q a0 (2 : Int32) v73 r106 r106 σ107 _ _ h114) mk_X3_join mv_X3_join ml_X3_56 h110 rfl (by decide) ⟨rfl, rfl⟩ ⟨by dsimp only [rg_XP, rm_X3_join]; omega, by dsimp only [rg_XP, rm_X3_join]; omega⟩ rfl (Nat.le_of_ble_eq_true rfl) ⟨Nat.zero_le _, Nat.zero_le _⟩ dX3_readFactor_112 rfl (st' := [.int r112]) rfl ?_
                  obtain ⟨er, es⟩ := rt_of hf115
                  subst er
                  exact j_reti X hr hlk (Nat.le_of_ble_eq_true rfl) (Nat.le_of_ble_eq_true rfl) rfl es.symm rfl dX3_readFactor_115
              · have hf70 := br_n hf22 c68; clear hf22
                refine j_iconst X (v := -1) dX3_readFactor_73 (by decide) ?_
                obtain ⟨er, es⟩ := rt_of hf70
                subst er
                exact j_reti X hr hlk (Nat.le_of_ble_eq_true rfl) (Nat.le_of_ble_eq_true rfl) rfl es.symm rfl dX3_readFactor_74
        · have hf16 := br_n hf13 c14; clear hf13
          refine j_aload_n X dX3_readFactor_50 1 rfl rfl ?_
          obtain ⟨h116, hf117⟩ := chk_of hf16; clear hf16
          obtain ⟨r118, σ119, h120, hf121⟩ := bc_of hf117; clear hf117
          refine j_callV0 X [] [] (c_X3_readNumber l D cs q a0 σ11 _ _ h120) mk_X3_readNumber mv_X3_readNumber ml_X3_71 h116 rfl (by decide) ⟨rfl, rfl⟩ ⟨by dsimp only [rg_XP, rm_X3_readNumber]; omega, by dsimp only [rg_XP, rm_X3_readNumber]; omega⟩ rfl (Nat.le_of_ble_eq_true rfl) ⟨Nat.zero_le _, Nat.zero_le _⟩ dX3_readFactor_51 rfl (st' := [.int r118]) rfl ?_
          obtain ⟨er, es⟩ := rt_of hf121
          subst er
          exact j_reti X hr hlk (Nat.le_of_ble_eq_true rfl) (Nat.le_of_ble_eq_true rfl) rfl es.symm rfl dX3_readFactor_54
      · have hf9 := br_n hf6 c7; clear hf6
        refine j_iload_n X dX3_readFactor_11 0 rfl rfl ?_
        refine j_bipush X (v := 102) dX3_readFactor_12 (by decide) ?_
        refine j_icmp_gt X (tgt := 43) dX3_readFactor_14 (by decide) (fun c122 => ?_) (fun c122 => ?_)
        · have hf123 := br_y hf9 c122; clear hf9
          refine j_iload_n X dX3_readFactor_43 0 rfl rfl ?_
          obtain ⟨r125, σ126, h127, hf128⟩ := bc_of hf123; clear hf123
          refine j_callS0 X [.int r3] [] (c_X3_isFigure l D cs q r3 σ4 _ _ h127) mk_X3_isFigure ms_X3_isFigure ml_X3_67 ⟨rfl, rfl⟩ ⟨by dsimp only [rg_XP, rm_X3_isFigure]; omega, by dsimp only [rg_XP, rm_X3_isFigure]; omega⟩ rfl (Nat.le_of_ble_eq_true rfl) ⟨Nat.zero_le _, Nat.zero_le _⟩ dX3_readFactor_44 rfl (st' := [.int r125]) rfl ?_
          refine j_if_eq X (tgt := 55) dX3_readFactor_47 (by decide) (fun c129 => ?_) (fun c129 => ?_)
          · have hf130 := br_y hf128 c129; clear hf128
            refine j_iload_n X dX3_readFactor_55 2 rfl rfl ?_
            refine j_bipush X (v := 6) dX3_readFactor_56 (by decide) ?_
            refine j_icmp_ge X (tgt := 73) dX3_readFactor_58 (by decide) (fun c132 => ?_) (fun c132 => ?_)
            · have hf133 := br_y hf130 c132; clear hf130
              refine j_iconst X (v := -1) dX3_readFactor_73 (by decide) ?_
              obtain ⟨er, es⟩ := rt_of hf133
              subst er
              exact j_reti X hr hlk (Nat.le_of_ble_eq_true rfl) (Nat.le_of_ble_eq_true rfl) rfl es.symm rfl dX3_readFactor_74
            · have hf134 := br_n hf130 c132; clear hf130
              refine j_iload_n X dX3_readFactor_61 0 rfl rfl ?_
              refine j_bipush X (v := 45) dX3_readFactor_62 (by decide) ?_
              refine j_icmp_eq X (tgt := 75) dX3_readFactor_64 (by decide) (fun c135 => ?_) (fun c135 => ?_)
              · have hf136 := br_y hf134 c135; clear hf134
                refine j_aload_n X dX3_readFactor_75 1 rfl rfl ?_
                obtain ⟨h138, hf139⟩ := chk_of hf136; clear hf136
                refine j_geti X fd_X3_19 h138 dX3_readFactor_76 (fun v140 ev140 => ?_)
                replace hf139 := lt_of hf139 v140 ev140
                refine j_istore_n X (lv' := [(3, .int v140), (2, .int r3), (0, .ref (q a0)), (1, .int a1)]) dX3_readFactor_79 rfl (by decide) rfl ?_
                refine j_aload_n X dX3_readFactor_80 2 rfl rfl ?_
                refine j_dup X dX3_readFactor_81 rfl ?_
                refine j_geti X fd_X3_19 h138 dX3_readFactor_82 (fun v142 ev142 => ?_)
                replace hf139 := lt_of hf139 v142 ev142
                refine j_iconst X (v := 1) dX3_readFactor_85 (by decide) ?_
                refine j_iadd X dX3_readFactor_86 ?_
                refine j_puti X fp_X3_19 h138 dX3_readFactor_87 (fun σ144 eσ144 => ?_)
                replace hf139 := lt_of hf139 σ144 eσ144
                have h146 : isO σ144 3 a0 := by rw [eσ144]; exact h138
                refine j_iload_n X dX3_readFactor_90 1 rfl rfl ?_
                refine j_bipush X (v := 45) dX3_readFactor_91 (by decide) ?_
                refine j_icmp_ne X (tgt := 116) dX3_readFactor_93 (by decide) (fun c147 => ?_) (fun c147 => ?_)
                · have hf148 := br_n hf139 c147; clear hf139
                  refine j_aload_n X dX3_readFactor_116 2 rfl rfl ?_
                  refine j_iload_n X dX3_readFactor_117 3 rfl rfl ?_
                  refine j_iconst X (v := 1) dX3_readFactor_118 (by decide) ?_
                  refine j_iadd X dX3_readFactor_119 ?_
                  obtain ⟨r150, σ151, h152, hf153⟩ := bc_of hf148; clear hf148
                  refine j_callV0 X [.int (a1 + (1 : Int32))] [] (ihg.1 a0 (a1 + (1 : Int32)) σ144 _ _ h152) mk_X3_readSum mv_X3_readSum ml_X3_40 h146 rfl (by decide) ⟨rfl, rfl⟩ ⟨by dsimp only [rg_XP]; omega, by dsimp only [rg_XP]; omega⟩ rfl (Nat.le_of_ble_eq_true rfl) ⟨Nat.zero_le _, Nat.zero_le _⟩ dX3_readFactor_120 rfl (st' := [.int r150]) rfl ?_
                  refine j_istore X (lv' := [(4, .int r150), (3, .int v140), (2, .int r3), (0, .ref (q a0)), (1, .int a1)]) dX3_readFactor_123 (by decide) rfl ?_
                  refine j_iload X dX3_readFactor_125 0 rfl ?_
                  refine j_iconst X (v := -1) dX3_readFactor_127 (by decide) ?_
                  refine j_icmp_eq X (tgt := 140) dX3_readFactor_128 (by decide) (fun c154 => ?_) (fun c154 => ?_)
                  · have hf155 := br_y hf153 c154; clear hf153
                    refine j_iconst X (v := -1) dX3_readFactor_140 (by decide) ?_
                    obtain ⟨er, es⟩ := rt_of hf155
                    subst er
                    exact j_reti X hr hlk (Nat.le_of_ble_eq_true rfl) (Nat.le_of_ble_eq_true rfl) rfl es.symm rfl dX3_readFactor_141
                  · have hf156 := br_n hf153 c154; clear hf153
                    refine j_aload_n X dX3_readFactor_131 3 rfl rfl ?_
                    obtain ⟨h157, hf158⟩ := chk_of hf156; clear hf156
                    obtain ⟨r159, σ160, h161, hf162⟩ := bc_of hf158; clear hf158
                    refine j_callV0 X [] [] (c_X3_here l D cs q a0 σ151 _ _ h161) mk_X3_here mv_X3_here ml_X3_52 h157 rfl (by decide) ⟨rfl, rfl⟩ ⟨by dsimp only [rg_XP, rm_X3_here]; omega, by dsimp only [rg_XP, rm_X3_here]; omega⟩ rfl (Nat.le_of_ble_eq_true rfl) ⟨Nat.zero_le _, Nat.zero_le _⟩ dX3_readFactor_132 rfl (st' := [.int r159]) rfl ?_
                    refine j_bipush X (v := 41) dX3_readFactor_135 (by decide) ?_
                    refine j_icmp_eq X (tgt := 142) dX3_readFactor_137 (by decide) (fun c163 => ?_) (fun c163 => ?_)
                    · have hf164 := br_y hf162 c163; clear hf162
                      refine j_aload_n X dX3_readFactor_142 3 rfl rfl ?_
                      refine j_dup X dX3_readFactor_143 rfl ?_
                      obtain ⟨h166, hf167⟩ := chk_of hf164; clear hf164
                      refine j_geti X fd_X3_19 h166 dX3_readFactor_144 (fun v168 ev168 => ?_)
                      replace hf167 := lt_of hf167 v168 ev168
                      refine j_iconst X (v := 1) dX3_readFactor_147 (by decide) ?_
                      refine j_iadd X dX3_readFactor_148 ?_
                      refine j_puti X fp_X3_19 h166 dX3_readFactor_149 (fun σ170 eσ170 => ?_)
                      replace hf167 := lt_of hf167 σ170 eσ170
                      have h172 : isO σ170 3 a0 := by rw [eσ170]; exact h166
                      refine j_iload X dX3_readFactor_152 0 rfl ?_
                      obtain ⟨er, es⟩ := rt_of hf167
                      subst er
                      exact j_reti X hr hlk (Nat.le_of_ble_eq_true rfl) (Nat.le_of_ble_eq_true rfl) rfl es.symm rfl dX3_readFactor_154
                    · have hf165 := br_n hf162 c163; clear hf162
                      refine j_iconst X (v := -1) dX3_readFactor_140 (by decide) ?_
                      obtain ⟨er, es⟩ := rt_of hf165
                      subst er
                      exact j_reti X hr hlk (Nat.le_of_ble_eq_true rfl) (Nat.le_of_ble_eq_true rfl) rfl es.symm rfl dX3_readFactor_141
                · have hf149 := br_y hf139 c147; clear hf139
                  refine j_aload_n X dX3_readFactor_96 2 rfl rfl ?_
                  refine j_iload_n X dX3_readFactor_97 3 rfl rfl ?_
                  refine j_iconst X (v := 1) dX3_readFactor_98 (by decide) ?_
                  refine j_iadd X dX3_readFactor_99 ?_
                  obtain ⟨r173, σ174, h175, hf176⟩ := bc_of hf149; clear hf149
                  refine j_callV0 X [.int (a1 + (1 : Int32))] [] (ihg.2.2 a0 (a1 + (1 : Int32)) σ144 _ _ h175) mk_X3_readFactor mv_X3_readFactor ml_X3_60 h146 rfl (by decide) ⟨rfl, rfl⟩ ⟨by dsimp only [rg_XP]; omega, by dsimp only [rg_XP]; omega⟩ rfl (Nat.le_of_ble_eq_true rfl) ⟨Nat.zero_le _, Nat.zero_le _⟩ dX3_readFactor_100 rfl (st' := [.int r173]) rfl ?_
                  refine j_istore X (lv' := [(4, .int r173), (3, .int v140), (2, .int r3), (0, .ref (q a0)), (1, .int a1)]) dX3_readFactor_103 (by decide) rfl ?_
                  refine j_aload_n X dX3_readFactor_105 3 rfl rfl ?_
                  refine j_iconst X (v := 2) dX3_readFactor_106 (by decide) ?_
                  refine j_iload_n X dX3_readFactor_107 1 rfl rfl ?_
                  refine j_iload X dX3_readFactor_108 0 rfl ?_
                  refine j_iload X dX3_readFactor_110 0 rfl ?_
                  obtain ⟨h177, hf178⟩ := chk_of hf176; clear hf176
                  obtain ⟨r179, σ180, h181, hf182⟩ := bc_of hf178; clear hf178
                  refine j_callV0 X [.int (2 : Int32), .int v140, .int r173, .int r173] [] (c_X3_join l D cs q a0 (2 : Int32) v140 r173 r173 σ174 _ _ h181) mk_X3_join mv_X3_join ml_X3_56 h177 rfl (by decide) ⟨rfl, rfl⟩ ⟨by dsimp only [rg_XP, rm_X3_join]; omega, by dsimp only [rg_XP, rm_X3_join]; omega⟩ rfl (Nat.le_of_ble_eq_true rfl) ⟨Nat.zero_le _, Nat.zero_le _⟩ dX3_readFactor_112 rfl (st' := [.int r179]) rfl ?_
                  obtain ⟨er, es⟩ := rt_of hf182
                  subst er
                  exact j_reti X hr hlk (Nat.le_of_ble_eq_true rfl) (Nat.le_of_ble_eq_true rfl) rfl es.symm rfl dX3_readFactor_115
              · have hf137 := br_n hf134 c135; clear hf134
                refine j_iload_n X dX3_readFactor_67 0 rfl rfl ?_
                refine j_bipush X (v := 40) dX3_readFactor_68 (by decide) ?_
                refine j_icmp_eq X (tgt := 75) dX3_readFactor_70 (by decide) (fun c183 => ?_) (fun c183 => ?_)
                · have hf184 := br_y hf137 c183; clear hf137
                  refine j_aload_n X dX3_readFactor_75 1 rfl rfl ?_
                  obtain ⟨h186, hf187⟩ := chk_of hf184; clear hf184
                  refine j_geti X fd_X3_19 h186 dX3_readFactor_76 (fun v188 ev188 => ?_)
                  replace hf187 := lt_of hf187 v188 ev188
                  refine j_istore_n X (lv' := [(3, .int v188), (2, .int r3), (0, .ref (q a0)), (1, .int a1)]) dX3_readFactor_79 rfl (by decide) rfl ?_
                  refine j_aload_n X dX3_readFactor_80 2 rfl rfl ?_
                  refine j_dup X dX3_readFactor_81 rfl ?_
                  refine j_geti X fd_X3_19 h186 dX3_readFactor_82 (fun v190 ev190 => ?_)
                  replace hf187 := lt_of hf187 v190 ev190
                  refine j_iconst X (v := 1) dX3_readFactor_85 (by decide) ?_
                  refine j_iadd X dX3_readFactor_86 ?_
                  refine j_puti X fp_X3_19 h186 dX3_readFactor_87 (fun σ192 eσ192 => ?_)
                  replace hf187 := lt_of hf187 σ192 eσ192
                  have h194 : isO σ192 3 a0 := by rw [eσ192]; exact h186
                  refine j_iload_n X dX3_readFactor_90 1 rfl rfl ?_
                  refine j_bipush X (v := 45) dX3_readFactor_91 (by decide) ?_
                  refine j_icmp_ne X (tgt := 116) dX3_readFactor_93 (by decide) (fun c195 => ?_) (fun c195 => ?_)
                  · have hf196 := br_n hf187 c195; clear hf187
                    refine j_aload_n X dX3_readFactor_116 2 rfl rfl ?_
                    refine j_iload_n X dX3_readFactor_117 3 rfl rfl ?_
                    refine j_iconst X (v := 1) dX3_readFactor_118 (by decide) ?_
                    refine j_iadd X dX3_readFactor_119 ?_
                    obtain ⟨r198, σ199, h200, hf201⟩ := bc_of hf196; clear hf196
                    refine j_callV0 X [.int (a1 + (1 : Int32))] [] (ihg.1 a0 (a1 + (1 : Int32)) σ192 _ _ h200) mk_X3_readSum mv_X3_readSum ml_X3_40 h194 rfl (by decide) ⟨rfl, rfl⟩ ⟨by dsimp only [rg_XP]; omega, by dsimp only [rg_XP]; omega⟩ rfl (Nat.le_of_ble_eq_true rfl) ⟨Nat.zero_le _, Nat.zero_le _⟩ dX3_readFactor_120 rfl (st' := [.int r198]) rfl ?_
                    refine j_istore X (lv' := [(4, .int r198), (3, .int v188), (2, .int r3), (0, .ref (q a0)), (1, .int a1)]) dX3_readFactor_123 (by decide) rfl ?_
                    refine j_iload X dX3_readFactor_125 0 rfl ?_
                    refine j_iconst X (v := -1) dX3_readFactor_127 (by decide) ?_
                    refine j_icmp_eq X (tgt := 140) dX3_readFactor_128 (by decide) (fun c202 => ?_) (fun c202 => ?_)
                    · have hf203 := br_y hf201 c202; clear hf201
                      refine j_iconst X (v := -1) dX3_readFactor_140 (by decide) ?_
                      obtain ⟨er, es⟩ := rt_of hf203
                      subst er
                      exact j_reti X hr hlk (Nat.le_of_ble_eq_true rfl) (Nat.le_of_ble_eq_true rfl) rfl es.symm rfl dX3_readFactor_141
                    · have hf204 := br_n hf201 c202; clear hf201
                      refine j_aload_n X dX3_readFactor_131 3 rfl rfl ?_
                      obtain ⟨h205, hf206⟩ := chk_of hf204; clear hf204
                      obtain ⟨r207, σ208, h209, hf210⟩ := bc_of hf206; clear hf206
                      refine j_callV0 X [] [] (c_X3_here l D cs q a0 σ199 _ _ h209) mk_X3_here mv_X3_here ml_X3_52 h205 rfl (by decide) ⟨rfl, rfl⟩ ⟨by dsimp only [rg_XP, rm_X3_here]; omega, by dsimp only [rg_XP, rm_X3_here]; omega⟩ rfl (Nat.le_of_ble_eq_true rfl) ⟨Nat.zero_le _, Nat.zero_le _⟩ dX3_readFactor_132 rfl (st' := [.int r207]) rfl ?_
                      refine j_bipush X (v := 41) dX3_readFactor_135 (by decide) ?_
                      refine j_icmp_eq X (tgt := 142) dX3_readFactor_137 (by decide) (fun c211 => ?_) (fun c211 => ?_)
                      · have hf212 := br_y hf210 c211; clear hf210
                        refine j_aload_n X dX3_readFactor_142 3 rfl rfl ?_
                        refine j_dup X dX3_readFactor_143 rfl ?_
                        obtain ⟨h214, hf215⟩ := chk_of hf212; clear hf212
                        refine j_geti X fd_X3_19 h214 dX3_readFactor_144 (fun v216 ev216 => ?_)
                        replace hf215 := lt_of hf215 v216 ev216
                        refine j_iconst X (v := 1) dX3_readFactor_147 (by decide) ?_
                        refine j_iadd X dX3_readFactor_148 ?_
                        refine j_puti X fp_X3_19 h214 dX3_readFactor_149 (fun σ218 eσ218 => ?_)
                        replace hf215 := lt_of hf215 σ218 eσ218
                        have h220 : isO σ218 3 a0 := by rw [eσ218]; exact h214
                        refine j_iload X dX3_readFactor_152 0 rfl ?_
                        obtain ⟨er, es⟩ := rt_of hf215
                        subst er
                        exact j_reti X hr hlk (Nat.le_of_ble_eq_true rfl) (Nat.le_of_ble_eq_true rfl) rfl es.symm rfl dX3_readFactor_154
                      · have hf213 := br_n hf210 c211; clear hf210
                        refine j_iconst X (v := -1) dX3_readFactor_140 (by decide) ?_
                        obtain ⟨er, es⟩ := rt_of hf213
                        subst er
                        exact j_reti X hr hlk (Nat.le_of_ble_eq_true rfl) (Nat.le_of_ble_eq_true rfl) rfl es.symm rfl dX3_readFactor_141
                  · have hf197 := br_y hf187 c195; clear hf187
                    refine j_aload_n X dX3_readFactor_96 2 rfl rfl ?_
                    refine j_iload_n X dX3_readFactor_97 3 rfl rfl ?_
                    refine j_iconst X (v := 1) dX3_readFactor_98 (by decide) ?_
                    refine j_iadd X dX3_readFactor_99 ?_
                    obtain ⟨r221, σ222, h223, hf224⟩ := bc_of hf197; clear hf197
                    refine j_callV0 X [.int (a1 + (1 : Int32))] [] (ihg.2.2 a0 (a1 + (1 : Int32)) σ192 _ _ h223) mk_X3_readFactor mv_X3_readFactor ml_X3_60 h194 rfl (by decide) ⟨rfl, rfl⟩ ⟨by dsimp only [rg_XP]; omega, by dsimp only [rg_XP]; omega⟩ rfl (Nat.le_of_ble_eq_true rfl) ⟨Nat.zero_le _, Nat.zero_le _⟩ dX3_readFactor_100 rfl (st' := [.int r221]) rfl ?_
                    refine j_istore X (lv' := [(4, .int r221), (3, .int v188), (2, .int r3), (0, .ref (q a0)), (1, .int a1)]) dX3_readFactor_103 (by decide) rfl ?_
                    refine j_aload_n X dX3_readFactor_105 3 rfl rfl ?_
                    refine j_iconst X (v := 2) dX3_readFactor_106 (by decide) ?_
                    refine j_iload_n X dX3_readFactor_107 1 rfl rfl ?_
                    refine j_iload X dX3_readFactor_108 0 rfl ?_
                    refine j_iload X dX3_readFactor_110 0 rfl ?_
                    obtain ⟨h225, hf226⟩ := chk_of hf224; clear hf224
                    obtain ⟨r227, σ228, h229, hf230⟩ := bc_of hf226; clear hf226
                    refine j_callV0 X [.int (2 : Int32), .int v188, .int r221, .int r221] [] (c_X3_join l D cs q a0 (2 : Int32) v188 r221 r221 σ222 _ _ h229) mk_X3_join mv_X3_join ml_X3_56 h225 rfl (by decide) ⟨rfl, rfl⟩ ⟨by dsimp only [rg_XP, rm_X3_join]; omega, by dsimp only [rg_XP, rm_X3_join]; omega⟩ rfl (Nat.le_of_ble_eq_true rfl) ⟨Nat.zero_le _, Nat.zero_le _⟩ dX3_readFactor_112 rfl (st' := [.int r227]) rfl ?_
                    obtain ⟨er, es⟩ := rt_of hf230
                    subst er
                    exact j_reti X hr hlk (Nat.le_of_ble_eq_true rfl) (Nat.le_of_ble_eq_true rfl) rfl es.symm rfl dX3_readFactor_115
                · have hf185 := br_n hf137 c183; clear hf137
                  refine j_iconst X (v := -1) dX3_readFactor_73 (by decide) ?_
                  obtain ⟨er, es⟩ := rt_of hf185
                  subst er
                  exact j_reti X hr hlk (Nat.le_of_ble_eq_true rfl) (Nat.le_of_ble_eq_true rfl) rfl es.symm rfl dX3_readFactor_74
          · have hf131 := br_n hf128 c129; clear hf128
            refine j_aload_n X dX3_readFactor_50 1 rfl rfl ?_
            obtain ⟨h231, hf232⟩ := chk_of hf131; clear hf131
            obtain ⟨r233, σ234, h235, hf236⟩ := bc_of hf232; clear hf232
            refine j_callV0 X [] [] (c_X3_readNumber l D cs q a0 σ126 _ _ h235) mk_X3_readNumber mv_X3_readNumber ml_X3_71 h231 rfl (by decide) ⟨rfl, rfl⟩ ⟨by dsimp only [rg_XP, rm_X3_readNumber]; omega, by dsimp only [rg_XP, rm_X3_readNumber]; omega⟩ rfl (Nat.le_of_ble_eq_true rfl) ⟨Nat.zero_le _, Nat.zero_le _⟩ dX3_readFactor_51 rfl (st' := [.int r233]) rfl ?_
            obtain ⟨er, es⟩ := rt_of hf236
            subst er
            exact j_reti X hr hlk (Nat.le_of_ble_eq_true rfl) (Nat.le_of_ble_eq_true rfl) rfl es.symm rfl dX3_readFactor_54
        · have hf124 := br_n hf9 c122; clear hf9
          refine j_aload_n X dX3_readFactor_17 1 rfl rfl ?_
          refine j_dup X dX3_readFactor_18 rfl ?_
          obtain ⟨h237, hf238⟩ := chk_of hf124; clear hf124
          refine j_geti X fd_X3_19 h237 dX3_readFactor_19 (fun v239 ev239 => ?_)
          replace hf238 := lt_of hf238 v239 ev239
          refine j_iconst X (v := 1) dX3_readFactor_22 (by decide) ?_
          refine j_iadd X dX3_readFactor_23 ?_
          refine j_puti X fp_X3_19 h237 dX3_readFactor_24 (fun σ241 eσ241 => ?_)
          replace hf238 := lt_of hf238 σ241 eσ241
          have h243 : isO σ241 3 a0 := by rw [eσ241]; exact h237
          refine j_aload_n X dX3_readFactor_27 1 rfl rfl ?_
          refine j_iconst X (v := 0) dX3_readFactor_28 (by decide) ?_
          refine j_aload_n X dX3_readFactor_29 1 rfl rfl ?_
          refine j_geti X fd_X3_19 h243 dX3_readFactor_30 (fun v244 ev244 => ?_)
          replace hf238 := lt_of hf238 v244 ev244
          refine j_iconst X (v := 1) dX3_readFactor_33 (by decide) ?_
          refine j_isub X dX3_readFactor_34 ?_
          refine j_iload_n X dX3_readFactor_35 0 rfl rfl ?_
          refine j_bipush X (v := 97) dX3_readFactor_36 (by decide) ?_
          refine j_isub X dX3_readFactor_38 ?_
          obtain ⟨r246, σ247, h248, hf249⟩ := bc_of hf238; clear hf238
          refine j_callV0 X [.int (0 : Int32), .int (v244 - (1 : Int32)), .int (r3 - (97 : Int32))] [] (c_X3_add l D cs q a0 (0 : Int32) (v244 - (1 : Int32)) (r3 - (97 : Int32)) σ241 _ _ h248) mk_X3_add mv_X3_add ml_X3_63 h243 rfl (by decide) ⟨rfl, rfl⟩ ⟨by dsimp only [rg_XP, rm_X3_add]; omega, by dsimp only [rg_XP, rm_X3_add]; omega⟩ rfl (Nat.le_of_ble_eq_true rfl) ⟨Nat.zero_le _, Nat.zero_le _⟩ dX3_readFactor_39 rfl (st' := [.int r246]) rfl ?_
          obtain ⟨er, es⟩ := rt_of hf249
          subst er
          exact j_reti X hr hlk (Nat.le_of_ble_eq_true rfl) (Nat.le_of_ble_eq_true rfl) rfl es.symm rfl dX3_readFactor_42
abbrev rm_X3_readSum : Room := rg_XP 40
theorem c_X3_readSum (l : Launch) (D : va_G) (cs : Nat → ClassId) (q : Nat → Nat) (a0 : Nat) (a1 : Int32) (σ σ0 : HS) (r0 : Int32) (hf0 : f_X3_readSum a0 a1 σ = some (r0, σ0)) : MT l yX3_readSum (Cond.code yX3_readSum cX3_readSum 7 (some .int) :: lw_g) rm_X3_readSum D cs q σ σ0 [.ref (q a0), .int a1] (fun z => z = q) (fun _ => some (.int r0)) 0 0 := (cg_XP l D cs q 40).1 a0 a1 σ σ0 r0 hf0
abbrev rm_X3_readProduct : Room := rg_XP 40
theorem c_X3_readProduct (l : Launch) (D : va_G) (cs : Nat → ClassId) (q : Nat → Nat) (a0 : Nat) (a1 : Int32) (σ σ0 : HS) (r0 : Int32) (hf0 : f_X3_readProduct a0 a1 σ = some (r0, σ0)) : MT l yX3_readProduct (Cond.code yX3_readProduct cX3_readProduct 6 (some .int) :: lw_g) rm_X3_readProduct D cs q σ σ0 [.ref (q a0), .int a1] (fun z => z = q) (fun _ => some (.int r0)) 0 0 := (cg_XP l D cs q 40).2.1 a0 a1 σ σ0 r0 hf0
abbrev rm_X3_readFactor : Room := rg_XP 40
theorem c_X3_readFactor (l : Launch) (D : va_G) (cs : Nat → ClassId) (q : Nat → Nat) (a0 : Nat) (a1 : Int32) (σ σ0 : HS) (r0 : Int32) (hf0 : f_X3_readFactor a0 a1 σ = some (r0, σ0)) : MT l yX3_readFactor (Cond.code yX3_readFactor cX3_readFactor 5 (some .int) :: lw_g) rm_X3_readFactor D cs q σ σ0 [.ref (q a0), .int a1] (fun z => z = q) (fun _ => some (.int r0)) 0 0 := (cg_XP l D cs q 40).2.2 a0 a1 σ σ0 r0 hf0
