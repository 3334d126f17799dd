abbrev rm_X6_init : Room := { frames := 1, cells := 30, slots := 5000, locals := 64 }
set_option maxHeartbeats 4000000 in
set_option maxRecDepth 100000 in
theorem c_X6_init (l : Launch) (D : va_G) (cs : Nat → ClassId) (q : Nat → Nat) (a0 : Nat) (σ σ0 : HS) (r0 : Unit) (hf0 : f_X6_init a0 σ = some (r0, σ0)) : MT l yX6_init (Cond.code yX6_init cX6_init 2 none :: lw_g) rm_X6_init D cs q σ σ0 [.ref (q a0)] (fun q1 => (∀ j : Nat, j < hN σ → q1 j = q j) ∧ hN σ ≤ hN σ0) (fun _ => none) 30 5000 := by
  unfold f_X6_init at hf0
  refine MT_of (cc := cX6_init) (lv0 := [(0, .ref (q a0))]) (by decide) (Nat.le_of_ble_eq_true rfl) rfl (fun p e s m args below meth c A X hr hlk hin => ?_)
  have L245 : ∀ (q1 : Nat → Nat) (hq1 : ∀ j : Nat, j < hN σ → q1 j = q j), ∀ (nk : Nat) (x0 : Nat) (x1 : Int32) (τ : HS) (hm : hN σ ≤ hN τ), lp_X6_init_245  nk x0 x1 τ = some (r0, σ0) → J p l e rm_X6_init s m args below meth c 2 D cs A s.heap (((((((((((((((((((((((((((0 + 1) + 1) + 1) + 1) + 1) + 1) + 1) + 1) + 1) + 1) + 1) + 1) + 1) + 1) + 1) + 1) + 1) + 1) + 1) + 1) + 1) + 1) + 1) + 1) + 1) + 1) + 1) (((((((((((((((((((((((((((0 + 18) + 18) + 420) + 420) + 420) + 420) + 7) + 360) + 360) + 360) + 360) + 6) + 60) + 6) + 6) + 60) + 60) + 60) + 60) + 60) + 60) + 6) + 24) + 24) + 18) + 4) + 32) (MQ below (hQ D cs (fun q1 => (∀ j : Nat, j < hN σ → q1 j = q j) ∧ hN σ ≤ hN σ0) (fun _ => none) σ0 A) args s 30 5000 A) q1 τ [(0, .ref (q1 x0)), (1, .int x1)] 245 [] := by
    intro q1 hq1
    intro nk
    induction nk with
    | zero => intro x0 x1 τ hm hf0; have hf1 : (none : Option (Unit × HS)) = some (r0, σ0) := hf0; cases hf1
    | succ nk ih =>
      intro x0 x1 τ hm hf0
      replace hf0 : lp_X6_init_245_b  (lp_X6_init_245  nk) x0 x1 τ = some (r0, σ0) := hf0
      unfold lp_X6_init_245_b at hf0
      refine j_iload_n X dX6_init_245 1 rfl rfl ?_
      refine j_bipush X (v := 6) dX6_init_246 (by decide) ?_
      refine j_icmp_ge X (tgt := 268) dX6_init_248 (by decide) (fun c385 => ?_) (fun c385 => ?_)
      · have hf386 := br_y hf0 c385; clear hf0
        obtain ⟨er, es⟩ := rt_of hf386
        exact j_retv X hr hlk (Nat.le_of_ble_eq_true rfl) (Nat.le_of_ble_eq_true rfl) ⟨(fun j hj => by rw [hq1 j (by omega)]), by rw [es]; omega⟩ es.symm rfl dX6_init_268
      · have hf387 := br_n hf0 c385; clear hf0
        refine j_aload_n X dX6_init_251 0 rfl rfl ?_
        obtain ⟨h388, hf389⟩ := chk_of hf387; clear hf387
        obtain ⟨i390, h391, hf392⟩ := bd_of hf389; clear hf389
        refine j_getr X fd_X6_11 h388 h391 dX6_init_252 ?_
        refine j_iconst X (v := 3) dX6_init_255 (by decide) ?_
        refine j_iload_n X dX6_init_256 1 rfl rfl ?_
        refine j_imul X dX6_init_257 ?_
        refine j_iconst X (v := 2) dX6_init_258 (by decide) ?_
        refine j_iadd X dX6_init_259 ?_
        refine j_iconst X (v := 1) dX6_init_260 (by decide) ?_
        obtain ⟨h393, hf394⟩ := chk_of hf392; clear hf392
        refine j_iast X h393 dX6_init_261 (fun σ395 eσ395 => ?_)
        replace hf394 := lt_of hf394 σ395 eσ395
        have m398 : hN τ ≤ hN σ395 := by rw [eσ395]; exact Nat.le_refl _
        have h397 : isO σ395 6 x0 := by rw [eσ395]; exact h388
        obtain ⟨v399, ev399⟩ : ∃ y : Int32, y = x1 + (1 : Int32) := ⟨_, rfl⟩
        replace hf394 := lt_of hf394 v399 ev399
        refine j_iinc X (v := v399) (lv' := [(1, .int v399), (0, .ref (q1 x0))]) dX6_init_262 1 rfl (by rw [ev399]; rfl) (by decide) rfl ?_
        refine j_goto X (tgt := 245) dX6_init_265 (by decide) ?_
        refine j_lvsub [1, 0] (lv' := [(0, .ref (q1 x0)), (1, .int v399)]) rfl ?_
        exact ih x0 v399 σ395 (by omega) hf394
  refine j_aload_n X dX6_init_0 0 rfl rfl ?_
  refine j_objInit X ml_X6_3 (Nat.le_of_ble_eq_true rfl) (Nat.le_of_ble_eq_true rfl) dX6_init_1 ?_
  refine j_aload_n X dX6_init_4 0 rfl rfl ?_
  refine j_bipush X (v := 18) dX6_init_5 (by decide) ?_
  obtain ⟨h1, hf2⟩ := chk_of hf0; clear hf0
  refine j_newai X (b := 18) (by decide) (by decide) ⟨Nat.le_of_ble_eq_true rfl, Nat.le_of_ble_eq_true rfl⟩ dX6_init_7 (fun q3 σ4 n5 hq3 eσ4 en5 => ?_)
  replace hf2 := lt_of hf2 n5 en5
  replace hf2 := lt_of hf2 σ4 eσ4
  have m6 : hN σ4 = hN σ + 1 := by rw [eσ4]; rfl
  rw [← hq3 a0 h1]
  have h7 : isO σ4 10 n5 := isO_nw0 eσ4 en5
  obtain ⟨h8, hf9⟩ := chk_of hf2; clear hf2
  obtain ⟨h11, hf12⟩ := chk_of hf9; clear hf9
  refine j_putrF X fp_X6_11 h8 h11 rfl (hin rfl) rfl dX6_init_9 (fun σ10 eσ10 => ?_)
  replace hf12 := lt_of hf12 σ10 eσ10
  have m16 : hN σ4 ≤ hN σ10 := by rw [eσ10]; exact Nat.le_refl _
  have h14 : isO σ10 10 n5 := by rw [eσ10]; exact h7
  have h15 : isO σ10 6 a0 := by rw [eσ10]; exact h8
  refine j_aload_n X dX6_init_12 0 rfl rfl ?_
  refine j_bipush X (v := 18) dX6_init_13 (by decide) ?_
  refine j_newai X (b := 18) (by decide) (by decide) ⟨Nat.le_of_ble_eq_true rfl, Nat.le_of_ble_eq_true rfl⟩ dX6_init_15 (fun q17 σ18 n19 hq17 eσ18 en19 => ?_)
  replace hf12 := lt_of hf12 n19 en19
  replace hf12 := lt_of hf12 σ18 eσ18
  have m20 : hN σ18 = hN σ10 + 1 := by rw [eσ18]; rfl
  rw [← hq17 a0 h15.1]
  have h21 : isO σ18 6 a0 := isO_nw eσ18 h15
  have h22 : isO σ18 10 n19 := isO_nw0 eσ18 en19
  obtain ⟨h24, hf25⟩ := chk_of hf12; clear hf12
  refine j_putrF X fp_X6_15 h21 h24 rfl (hin rfl) rfl dX6_init_17 (fun σ23 eσ23 => ?_)
  replace hf25 := lt_of hf25 σ23 eσ23
  have m29 : hN σ18 ≤ hN σ23 := by rw [eσ23]; exact Nat.le_refl _
  have h27 : isO σ23 6 a0 := by rw [eσ23]; exact h21
  have h28 : isO σ23 10 n19 := by rw [eσ23]; exact h22
  refine j_aload_n X dX6_init_20 0 rfl rfl ?_
  refine j_sipush X (v := 420) dX6_init_21 (by decide) ?_
  refine j_newai X (b := 420) (by decide) (by decide) ⟨Nat.le_of_ble_eq_true rfl, Nat.le_of_ble_eq_true rfl⟩ dX6_init_24 (fun q30 σ31 n32 hq30 eσ31 en32 => ?_)
  replace hf25 := lt_of hf25 n32 en32
  replace hf25 := lt_of hf25 σ31 eσ31
  have m33 : hN σ31 = hN σ23 + 1 := by rw [eσ31]; rfl
  rw [← hq30 a0 h27.1]
  have h34 : isO σ31 6 a0 := isO_nw eσ31 h27
  have h35 : isO σ31 10 n32 := isO_nw0 eσ31 en32
  obtain ⟨h37, hf38⟩ := chk_of hf25; clear hf25
  refine j_putrF X fp_X6_18 h34 h37 rfl (hin rfl) rfl dX6_init_26 (fun σ36 eσ36 => ?_)
  replace hf38 := lt_of hf38 σ36 eσ36
  have m42 : hN σ31 ≤ hN σ36 := by rw [eσ36]; exact Nat.le_refl _
  have h40 : isO σ36 6 a0 := by rw [eσ36]; exact h34
  have h41 : isO σ36 10 n32 := by rw [eσ36]; exact h35
  refine j_aload_n X dX6_init_29 0 rfl rfl ?_
  refine j_sipush X (v := 420) dX6_init_30 (by decide) ?_
  refine j_newai X (b := 420) (by decide) (by decide) ⟨Nat.le_of_ble_eq_true rfl, Nat.le_of_ble_eq_true rfl⟩ dX6_init_33 (fun q43 σ44 n45 hq43 eσ44 en45 => ?_)
  replace hf38 := lt_of hf38 n45 en45
  replace hf38 := lt_of hf38 σ44 eσ44
  have m46 : hN σ44 = hN σ36 + 1 := by rw [eσ44]; rfl
  rw [← hq43 a0 h40.1]
  have h47 : isO σ44 6 a0 := isO_nw eσ44 h40
  have h48 : isO σ44 10 n45 := isO_nw0 eσ44 en45
  obtain ⟨h50, hf51⟩ := chk_of hf38; clear hf38
  refine j_putrF X fp_X6_21 h47 h50 rfl (hin rfl) rfl dX6_init_35 (fun σ49 eσ49 => ?_)
  replace hf51 := lt_of hf51 σ49 eσ49
  have m55 : hN σ44 ≤ hN σ49 := by rw [eσ49]; exact Nat.le_refl _
  have h53 : isO σ49 6 a0 := by rw [eσ49]; exact h47
  have h54 : isO σ49 10 n45 := by rw [eσ49]; exact h48
  refine j_aload_n X dX6_init_38 0 rfl rfl ?_
  refine j_sipush X (v := 420) dX6_init_39 (by decide) ?_
  refine j_newai X (b := 420) (by decide) (by decide) ⟨Nat.le_of_ble_eq_true rfl, Nat.le_of_ble_eq_true rfl⟩ dX6_init_42 (fun q56 σ57 n58 hq56 eσ57 en58 => ?_)
  replace hf51 := lt_of hf51 n58 en58
  replace hf51 := lt_of hf51 σ57 eσ57
  have m59 : hN σ57 = hN σ49 + 1 := by rw [eσ57]; rfl
  rw [← hq56 a0 h53.1]
  have h60 : isO σ57 6 a0 := isO_nw eσ57 h53
  have h61 : isO σ57 10 n58 := isO_nw0 eσ57 en58
  obtain ⟨h63, hf64⟩ := chk_of hf51; clear hf51
  refine j_putrF X fp_X6_24 h60 h63 rfl (hin rfl) rfl dX6_init_44 (fun σ62 eσ62 => ?_)
  replace hf64 := lt_of hf64 σ62 eσ62
  have m68 : hN σ57 ≤ hN σ62 := by rw [eσ62]; exact Nat.le_refl _
  have h66 : isO σ62 6 a0 := by rw [eσ62]; exact h60
  have h67 : isO σ62 10 n58 := by rw [eσ62]; exact h61
  refine j_aload_n X dX6_init_47 0 rfl rfl ?_
  refine j_sipush X (v := 420) dX6_init_48 (by decide) ?_
  refine j_newai X (b := 420) (by decide) (by decide) ⟨Nat.le_of_ble_eq_true rfl, Nat.le_of_ble_eq_true rfl⟩ dX6_init_51 (fun q69 σ70 n71 hq69 eσ70 en71 => ?_)
  replace hf64 := lt_of hf64 n71 en71
  replace hf64 := lt_of hf64 σ70 eσ70
  have m72 : hN σ70 = hN σ62 + 1 := by rw [eσ70]; rfl
  rw [← hq69 a0 h66.1]
  have h73 : isO σ70 6 a0 := isO_nw eσ70 h66
  have h74 : isO σ70 10 n71 := isO_nw0 eσ70 en71
  obtain ⟨h76, hf77⟩ := chk_of hf64; clear hf64
  refine j_putrF X fp_X6_27 h73 h76 rfl (hin rfl) rfl dX6_init_53 (fun σ75 eσ75 => ?_)
  replace hf77 := lt_of hf77 σ75 eσ75
  have m81 : hN σ70 ≤ hN σ75 := by rw [eσ75]; exact Nat.le_refl _
  have h79 : isO σ75 6 a0 := by rw [eσ75]; exact h73
  have h80 : isO σ75 10 n71 := by rw [eσ75]; exact h74
  refine j_aload_n X dX6_init_56 0 rfl rfl ?_
  refine j_bipush X (v := 7) dX6_init_57 (by decide) ?_
  refine j_newai X (b := 7) (by decide) (by decide) ⟨Nat.le_of_ble_eq_true rfl, Nat.le_of_ble_eq_true rfl⟩ dX6_init_59 (fun q82 σ83 n84 hq82 eσ83 en84 => ?_)
  replace hf77 := lt_of hf77 n84 en84
  replace hf77 := lt_of hf77 σ83 eσ83
  have m85 : hN σ83 = hN σ75 + 1 := by rw [eσ83]; rfl
  rw [← hq82 a0 h79.1]
  have h86 : isO σ83 6 a0 := isO_nw eσ83 h79
  have h87 : isO σ83 10 n84 := isO_nw0 eσ83 en84
  obtain ⟨h89, hf90⟩ := chk_of hf77; clear hf77
  refine j_putrF X fp_X6_30 h86 h89 rfl (hin rfl) rfl dX6_init_61 (fun σ88 eσ88 => ?_)
  replace hf90 := lt_of hf90 σ88 eσ88
  have m94 : hN σ83 ≤ hN σ88 := by rw [eσ88]; exact Nat.le_refl _
  have h92 : isO σ88 6 a0 := by rw [eσ88]; exact h86
  have h93 : isO σ88 10 n84 := by rw [eσ88]; exact h87
  refine j_aload_n X dX6_init_64 0 rfl rfl ?_
  refine j_sipush X (v := 360) dX6_init_65 (by decide) ?_
  refine j_newai X (b := 360) (by decide) (by decide) ⟨Nat.le_of_ble_eq_true rfl, Nat.le_of_ble_eq_true rfl⟩ dX6_init_68 (fun q95 σ96 n97 hq95 eσ96 en97 => ?_)
  replace hf90 := lt_of hf90 n97 en97
  replace hf90 := lt_of hf90 σ96 eσ96
  have m98 : hN σ96 = hN σ88 + 1 := by rw [eσ96]; rfl
  rw [← hq95 a0 h92.1]
  have h99 : isO σ96 6 a0 := isO_nw eσ96 h92
  have h100 : isO σ96 10 n97 := isO_nw0 eσ96 en97
  obtain ⟨h102, hf103⟩ := chk_of hf90; clear hf90
  refine j_putrF X fp_X6_33 h99 h102 rfl (hin rfl) rfl dX6_init_70 (fun σ101 eσ101 => ?_)
  replace hf103 := lt_of hf103 σ101 eσ101
  have m107 : hN σ96 ≤ hN σ101 := by rw [eσ101]; exact Nat.le_refl _
  have h105 : isO σ101 6 a0 := by rw [eσ101]; exact h99
  have h106 : isO σ101 10 n97 := by rw [eσ101]; exact h100
  refine j_aload_n X dX6_init_73 0 rfl rfl ?_
  refine j_sipush X (v := 360) dX6_init_74 (by decide) ?_
  refine j_newai X (b := 360) (by decide) (by decide) ⟨Nat.le_of_ble_eq_true rfl, Nat.le_of_ble_eq_true rfl⟩ dX6_init_77 (fun q108 σ109 n110 hq108 eσ109 en110 => ?_)
  replace hf103 := lt_of hf103 n110 en110
  replace hf103 := lt_of hf103 σ109 eσ109
  have m111 : hN σ109 = hN σ101 + 1 := by rw [eσ109]; rfl
  rw [← hq108 a0 h105.1]
  have h112 : isO σ109 6 a0 := isO_nw eσ109 h105
  have h113 : isO σ109 10 n110 := isO_nw0 eσ109 en110
  obtain ⟨h115, hf116⟩ := chk_of hf103; clear hf103
  refine j_putrF X fp_X6_36 h112 h115 rfl (hin rfl) rfl dX6_init_79 (fun σ114 eσ114 => ?_)
  replace hf116 := lt_of hf116 σ114 eσ114
  have m120 : hN σ109 ≤ hN σ114 := by rw [eσ114]; exact Nat.le_refl _
  have h118 : isO σ114 6 a0 := by rw [eσ114]; exact h112
  have h119 : isO σ114 10 n110 := by rw [eσ114]; exact h113
  refine j_aload_n X dX6_init_82 0 rfl rfl ?_
  refine j_sipush X (v := 360) dX6_init_83 (by decide) ?_
  refine j_newai X (b := 360) (by decide) (by decide) ⟨Nat.le_of_ble_eq_true rfl, Nat.le_of_ble_eq_true rfl⟩ dX6_init_86 (fun q121 σ122 n123 hq121 eσ122 en123 => ?_)
  replace hf116 := lt_of hf116 n123 en123
  replace hf116 := lt_of hf116 σ122 eσ122
  have m124 : hN σ122 = hN σ114 + 1 := by rw [eσ122]; rfl
  rw [← hq121 a0 h118.1]
  have h125 : isO σ122 6 a0 := isO_nw eσ122 h118
  have h126 : isO σ122 10 n123 := isO_nw0 eσ122 en123
  obtain ⟨h128, hf129⟩ := chk_of hf116; clear hf116
  refine j_putrF X fp_X6_39 h125 h128 rfl (hin rfl) rfl dX6_init_88 (fun σ127 eσ127 => ?_)
  replace hf129 := lt_of hf129 σ127 eσ127
  have m133 : hN σ122 ≤ hN σ127 := by rw [eσ127]; exact Nat.le_refl _
  have h131 : isO σ127 6 a0 := by rw [eσ127]; exact h125
  have h132 : isO σ127 10 n123 := by rw [eσ127]; exact h126
  refine j_aload_n X dX6_init_91 0 rfl rfl ?_
  refine j_sipush X (v := 360) dX6_init_92 (by decide) ?_
  refine j_newai X (b := 360) (by decide) (by decide) ⟨Nat.le_of_ble_eq_true rfl, Nat.le_of_ble_eq_true rfl⟩ dX6_init_95 (fun q134 σ135 n136 hq134 eσ135 en136 => ?_)
  replace hf129 := lt_of hf129 n136 en136
  replace hf129 := lt_of hf129 σ135 eσ135
  have m137 : hN σ135 = hN σ127 + 1 := by rw [eσ135]; rfl
  rw [← hq134 a0 h131.1]
  have h138 : isO σ135 6 a0 := isO_nw eσ135 h131
  have h139 : isO σ135 10 n136 := isO_nw0 eσ135 en136
  obtain ⟨h141, hf142⟩ := chk_of hf129; clear hf129
  refine j_putrF X fp_X6_42 h138 h141 rfl (hin rfl) rfl dX6_init_97 (fun σ140 eσ140 => ?_)
  replace hf142 := lt_of hf142 σ140 eσ140
  have m146 : hN σ135 ≤ hN σ140 := by rw [eσ140]; exact Nat.le_refl _
  have h144 : isO σ140 6 a0 := by rw [eσ140]; exact h138
  have h145 : isO σ140 10 n136 := by rw [eσ140]; exact h139
  refine j_aload_n X dX6_init_100 0 rfl rfl ?_
  refine j_bipush X (v := 6) dX6_init_101 (by decide) ?_
  refine j_newai X (b := 6) (by decide) (by decide) ⟨Nat.le_of_ble_eq_true rfl, Nat.le_of_ble_eq_true rfl⟩ dX6_init_103 (fun q147 σ148 n149 hq147 eσ148 en149 => ?_)
  replace hf142 := lt_of hf142 n149 en149
  replace hf142 := lt_of hf142 σ148 eσ148
  have m150 : hN σ148 = hN σ140 + 1 := by rw [eσ148]; rfl
  rw [← hq147 a0 h144.1]
  have h151 : isO σ148 6 a0 := isO_nw eσ148 h144
  have h152 : isO σ148 10 n149 := isO_nw0 eσ148 en149
  obtain ⟨h154, hf155⟩ := chk_of hf142; clear hf142
  refine j_putrF X fp_X6_45 h151 h154 rfl (hin rfl) rfl dX6_init_105 (fun σ153 eσ153 => ?_)
  replace hf155 := lt_of hf155 σ153 eσ153
  have m159 : hN σ148 ≤ hN σ153 := by rw [eσ153]; exact Nat.le_refl _
  have h157 : isO σ153 6 a0 := by rw [eσ153]; exact h151
  have h158 : isO σ153 10 n149 := by rw [eσ153]; exact h152
  refine j_aload_n X dX6_init_108 0 rfl rfl ?_
  refine j_bipush X (v := 60) dX6_init_109 (by decide) ?_
  refine j_newai X (b := 60) (by decide) (by decide) ⟨Nat.le_of_ble_eq_true rfl, Nat.le_of_ble_eq_true rfl⟩ dX6_init_111 (fun q160 σ161 n162 hq160 eσ161 en162 => ?_)
  replace hf155 := lt_of hf155 n162 en162
  replace hf155 := lt_of hf155 σ161 eσ161
  have m163 : hN σ161 = hN σ153 + 1 := by rw [eσ161]; rfl
  rw [← hq160 a0 h157.1]
  have h164 : isO σ161 6 a0 := isO_nw eσ161 h157
  have h165 : isO σ161 10 n162 := isO_nw0 eσ161 en162
  obtain ⟨h167, hf168⟩ := chk_of hf155; clear hf155
  refine j_putrF X fp_X6_48 h164 h167 rfl (hin rfl) rfl dX6_init_113 (fun σ166 eσ166 => ?_)
  replace hf168 := lt_of hf168 σ166 eσ166
  have m172 : hN σ161 ≤ hN σ166 := by rw [eσ166]; exact Nat.le_refl _
  have h170 : isO σ166 6 a0 := by rw [eσ166]; exact h164
  have h171 : isO σ166 10 n162 := by rw [eσ166]; exact h165
  refine j_aload_n X dX6_init_116 0 rfl rfl ?_
  refine j_bipush X (v := 6) dX6_init_117 (by decide) ?_
  refine j_newai X (b := 6) (by decide) (by decide) ⟨Nat.le_of_ble_eq_true rfl, Nat.le_of_ble_eq_true rfl⟩ dX6_init_119 (fun q173 σ174 n175 hq173 eσ174 en175 => ?_)
  replace hf168 := lt_of hf168 n175 en175
  replace hf168 := lt_of hf168 σ174 eσ174
  have m176 : hN σ174 = hN σ166 + 1 := by rw [eσ174]; rfl
  rw [← hq173 a0 h170.1]
  have h177 : isO σ174 6 a0 := isO_nw eσ174 h170
  have h178 : isO σ174 10 n175 := isO_nw0 eσ174 en175
  obtain ⟨h180, hf181⟩ := chk_of hf168; clear hf168
  refine j_putrF X fp_X6_51 h177 h180 rfl (hin rfl) rfl dX6_init_121 (fun σ179 eσ179 => ?_)
  replace hf181 := lt_of hf181 σ179 eσ179
  have m185 : hN σ174 ≤ hN σ179 := by rw [eσ179]; exact Nat.le_refl _
  have h183 : isO σ179 6 a0 := by rw [eσ179]; exact h177
  have h184 : isO σ179 10 n175 := by rw [eσ179]; exact h178
  refine j_aload_n X dX6_init_124 0 rfl rfl ?_
  refine j_bipush X (v := 6) dX6_init_125 (by decide) ?_
  refine j_newai X (b := 6) (by decide) (by decide) ⟨Nat.le_of_ble_eq_true rfl, Nat.le_of_ble_eq_true rfl⟩ dX6_init_127 (fun q186 σ187 n188 hq186 eσ187 en188 => ?_)
  replace hf181 := lt_of hf181 n188 en188
  replace hf181 := lt_of hf181 σ187 eσ187
  have m189 : hN σ187 = hN σ179 + 1 := by rw [eσ187]; rfl
  rw [← hq186 a0 h183.1]
  have h190 : isO σ187 6 a0 := isO_nw eσ187 h183
  have h191 : isO σ187 10 n188 := isO_nw0 eσ187 en188
  obtain ⟨h193, hf194⟩ := chk_of hf181; clear hf181
  refine j_putrF X fp_X6_54 h190 h193 rfl (hin rfl) rfl dX6_init_129 (fun σ192 eσ192 => ?_)
  replace hf194 := lt_of hf194 σ192 eσ192
  have m198 : hN σ187 ≤ hN σ192 := by rw [eσ192]; exact Nat.le_refl _
  have h196 : isO σ192 6 a0 := by rw [eσ192]; exact h190
  have h197 : isO σ192 10 n188 := by rw [eσ192]; exact h191
  refine j_aload_n X dX6_init_132 0 rfl rfl ?_
  refine j_bipush X (v := 60) dX6_init_133 (by decide) ?_
  refine j_newal X (b := 60) (by decide) (by decide) ⟨Nat.le_of_ble_eq_true rfl, Nat.le_of_ble_eq_true rfl⟩ dX6_init_135 (fun q199 σ200 n201 hq199 eσ200 en201 => ?_)
  replace hf194 := lt_of hf194 n201 en201
  replace hf194 := lt_of hf194 σ200 eσ200
  have m202 : hN σ200 = hN σ192 + 1 := by rw [eσ200]; rfl
  rw [← hq199 a0 h196.1]
  have h203 : isO σ200 6 a0 := isO_nw eσ200 h196
  have h204 : isO σ200 12 n201 := isO_nw0 eσ200 en201
  obtain ⟨h206, hf207⟩ := chk_of hf194; clear hf194
  refine j_putrF X fp_X6_57 h203 h206 rfl (hin rfl) rfl dX6_init_137 (fun σ205 eσ205 => ?_)
  replace hf207 := lt_of hf207 σ205 eσ205
  have m211 : hN σ200 ≤ hN σ205 := by rw [eσ205]; exact Nat.le_refl _
  have h209 : isO σ205 6 a0 := by rw [eσ205]; exact h203
  have h210 : isO σ205 12 n201 := by rw [eσ205]; exact h204
  refine j_aload_n X dX6_init_140 0 rfl rfl ?_
  refine j_bipush X (v := 60) dX6_init_141 (by decide) ?_
  refine j_newal X (b := 60) (by decide) (by decide) ⟨Nat.le_of_ble_eq_true rfl, Nat.le_of_ble_eq_true rfl⟩ dX6_init_143 (fun q212 σ213 n214 hq212 eσ213 en214 => ?_)
  replace hf207 := lt_of hf207 n214 en214
  replace hf207 := lt_of hf207 σ213 eσ213
  have m215 : hN σ213 = hN σ205 + 1 := by rw [eσ213]; rfl
  rw [← hq212 a0 h209.1]
  have h216 : isO σ213 6 a0 := isO_nw eσ213 h209
  have h217 : isO σ213 12 n214 := isO_nw0 eσ213 en214
  obtain ⟨h219, hf220⟩ := chk_of hf207; clear hf207
  refine j_putrF X fp_X6_61 h216 h219 rfl (hin rfl) rfl dX6_init_145 (fun σ218 eσ218 => ?_)
  replace hf220 := lt_of hf220 σ218 eσ218
  have m224 : hN σ213 ≤ hN σ218 := by rw [eσ218]; exact Nat.le_refl _
  have h222 : isO σ218 6 a0 := by rw [eσ218]; exact h216
  have h223 : isO σ218 12 n214 := by rw [eσ218]; exact h217
  refine j_aload_n X dX6_init_148 0 rfl rfl ?_
  refine j_bipush X (v := 60) dX6_init_149 (by decide) ?_
  refine j_newaz X (b := 60) (by decide) (by decide) ⟨Nat.le_of_ble_eq_true rfl, Nat.le_of_ble_eq_true rfl⟩ dX6_init_151 (fun q225 σ226 n227 hq225 eσ226 en227 => ?_)
  replace hf220 := lt_of hf220 n227 en227
  replace hf220 := lt_of hf220 σ226 eσ226
  have m228 : hN σ226 = hN σ218 + 1 := by rw [eσ226]; rfl
  rw [← hq225 a0 h222.1]
  have h229 : isO σ226 6 a0 := isO_nw eσ226 h222
  have h230 : isO σ226 11 n227 := isO_nw0 eσ226 en227
  obtain ⟨h232, hf233⟩ := chk_of hf220; clear hf220
  refine j_putrF X fp_X6_64 h229 h232 rfl (hin rfl) rfl dX6_init_153 (fun σ231 eσ231 => ?_)
  replace hf233 := lt_of hf233 σ231 eσ231
  have m237 : hN σ226 ≤ hN σ231 := by rw [eσ231]; exact Nat.le_refl _
  have h235 : isO σ231 6 a0 := by rw [eσ231]; exact h229
  have h236 : isO σ231 11 n227 := by rw [eσ231]; exact h230
  refine j_aload_n X dX6_init_156 0 rfl rfl ?_
  refine j_bipush X (v := 60) dX6_init_157 (by decide) ?_
  refine j_newai X (b := 60) (by decide) (by decide) ⟨Nat.le_of_ble_eq_true rfl, Nat.le_of_ble_eq_true rfl⟩ dX6_init_159 (fun q238 σ239 n240 hq238 eσ239 en240 => ?_)
  replace hf233 := lt_of hf233 n240 en240
  replace hf233 := lt_of hf233 σ239 eσ239
  have m241 : hN σ239 = hN σ231 + 1 := by rw [eσ239]; rfl
  rw [← hq238 a0 h235.1]
  have h242 : isO σ239 6 a0 := isO_nw eσ239 h235
  have h243 : isO σ239 10 n240 := isO_nw0 eσ239 en240
  obtain ⟨h245, hf246⟩ := chk_of hf233; clear hf233
  refine j_putrF X fp_X6_68 h242 h245 rfl (hin rfl) rfl dX6_init_161 (fun σ244 eσ244 => ?_)
  replace hf246 := lt_of hf246 σ244 eσ244
  have m250 : hN σ239 ≤ hN σ244 := by rw [eσ244]; exact Nat.le_refl _
  have h248 : isO σ244 6 a0 := by rw [eσ244]; exact h242
  have h249 : isO σ244 10 n240 := by rw [eσ244]; exact h243
  refine j_aload_n X dX6_init_164 0 rfl rfl ?_
  refine j_bipush X (v := 60) dX6_init_165 (by decide) ?_
  refine j_newal X (b := 60) (by decide) (by decide) ⟨Nat.le_of_ble_eq_true rfl, Nat.le_of_ble_eq_true rfl⟩ dX6_init_167 (fun q251 σ252 n253 hq251 eσ252 en253 => ?_)
  replace hf246 := lt_of hf246 n253 en253
  replace hf246 := lt_of hf246 σ252 eσ252
  have m254 : hN σ252 = hN σ244 + 1 := by rw [eσ252]; rfl
  rw [← hq251 a0 h248.1]
  have h255 : isO σ252 6 a0 := isO_nw eσ252 h248
  have h256 : isO σ252 12 n253 := isO_nw0 eσ252 en253
  obtain ⟨h258, hf259⟩ := chk_of hf246; clear hf246
  refine j_putrF X fp_X6_71 h255 h258 rfl (hin rfl) rfl dX6_init_169 (fun σ257 eσ257 => ?_)
  replace hf259 := lt_of hf259 σ257 eσ257
  have m263 : hN σ252 ≤ hN σ257 := by rw [eσ257]; exact Nat.le_refl _
  have h261 : isO σ257 6 a0 := by rw [eσ257]; exact h255
  have h262 : isO σ257 12 n253 := by rw [eσ257]; exact h256
  refine j_aload_n X dX6_init_172 0 rfl rfl ?_
  refine j_bipush X (v := 60) dX6_init_173 (by decide) ?_
  refine j_newal X (b := 60) (by decide) (by decide) ⟨Nat.le_of_ble_eq_true rfl, Nat.le_of_ble_eq_true rfl⟩ dX6_init_175 (fun q264 σ265 n266 hq264 eσ265 en266 => ?_)
  replace hf259 := lt_of hf259 n266 en266
  replace hf259 := lt_of hf259 σ265 eσ265
  have m267 : hN σ265 = hN σ257 + 1 := by rw [eσ265]; rfl
  rw [← hq264 a0 h261.1]
  have h268 : isO σ265 6 a0 := isO_nw eσ265 h261
  have h269 : isO σ265 12 n266 := isO_nw0 eσ265 en266
  obtain ⟨h271, hf272⟩ := chk_of hf259; clear hf259
  refine j_putrF X fp_X6_74 h268 h271 rfl (hin rfl) rfl dX6_init_177 (fun σ270 eσ270 => ?_)
  replace hf272 := lt_of hf272 σ270 eσ270
  have m276 : hN σ265 ≤ hN σ270 := by rw [eσ270]; exact Nat.le_refl _
  have h274 : isO σ270 6 a0 := by rw [eσ270]; exact h268
  have h275 : isO σ270 12 n266 := by rw [eσ270]; exact h269
  refine j_aload_n X dX6_init_180 0 rfl rfl ?_
  refine j_bipush X (v := 6) dX6_init_181 (by decide) ?_
  refine j_newai X (b := 6) (by decide) (by decide) ⟨Nat.le_of_ble_eq_true rfl, Nat.le_of_ble_eq_true rfl⟩ dX6_init_183 (fun q277 σ278 n279 hq277 eσ278 en279 => ?_)
  replace hf272 := lt_of hf272 n279 en279
  replace hf272 := lt_of hf272 σ278 eσ278
  have m280 : hN σ278 = hN σ270 + 1 := by rw [eσ278]; rfl
  rw [← hq277 a0 h274.1]
  have h281 : isO σ278 6 a0 := isO_nw eσ278 h274
  have h282 : isO σ278 10 n279 := isO_nw0 eσ278 en279
  obtain ⟨h284, hf285⟩ := chk_of hf272; clear hf272
  refine j_putrF X fp_X6_77 h281 h284 rfl (hin rfl) rfl dX6_init_185 (fun σ283 eσ283 => ?_)
  replace hf285 := lt_of hf285 σ283 eσ283
  have m289 : hN σ278 ≤ hN σ283 := by rw [eσ283]; exact Nat.le_refl _
  have h287 : isO σ283 6 a0 := by rw [eσ283]; exact h281
  have h288 : isO σ283 10 n279 := by rw [eσ283]; exact h282
  refine j_aload_n X dX6_init_188 0 rfl rfl ?_
  refine j_bipush X (v := 24) dX6_init_189 (by decide) ?_
  refine j_newai X (b := 24) (by decide) (by decide) ⟨Nat.le_of_ble_eq_true rfl, Nat.le_of_ble_eq_true rfl⟩ dX6_init_191 (fun q290 σ291 n292 hq290 eσ291 en292 => ?_)
  replace hf285 := lt_of hf285 n292 en292
  replace hf285 := lt_of hf285 σ291 eσ291
  have m293 : hN σ291 = hN σ283 + 1 := by rw [eσ291]; rfl
  rw [← hq290 a0 h287.1]
  have h294 : isO σ291 6 a0 := isO_nw eσ291 h287
  have h295 : isO σ291 10 n292 := isO_nw0 eσ291 en292
  obtain ⟨h297, hf298⟩ := chk_of hf285; clear hf285
  refine j_putrF X fp_X6_80 h294 h297 rfl (hin rfl) rfl dX6_init_193 (fun σ296 eσ296 => ?_)
  replace hf298 := lt_of hf298 σ296 eσ296
  have m302 : hN σ291 ≤ hN σ296 := by rw [eσ296]; exact Nat.le_refl _
  have h300 : isO σ296 6 a0 := by rw [eσ296]; exact h294
  have h301 : isO σ296 10 n292 := by rw [eσ296]; exact h295
  refine j_aload_n X dX6_init_196 0 rfl rfl ?_
  refine j_bipush X (v := 24) dX6_init_197 (by decide) ?_
  refine j_newai X (b := 24) (by decide) (by decide) ⟨Nat.le_of_ble_eq_true rfl, Nat.le_of_ble_eq_true rfl⟩ dX6_init_199 (fun q303 σ304 n305 hq303 eσ304 en305 => ?_)
  replace hf298 := lt_of hf298 n305 en305
  replace hf298 := lt_of hf298 σ304 eσ304
  have m306 : hN σ304 = hN σ296 + 1 := by rw [eσ304]; rfl
  rw [← hq303 a0 h300.1]
  have h307 : isO σ304 6 a0 := isO_nw eσ304 h300
  have h308 : isO σ304 10 n305 := isO_nw0 eσ304 en305
  obtain ⟨h310, hf311⟩ := chk_of hf298; clear hf298
  refine j_putrF X fp_X6_83 h307 h310 rfl (hin rfl) rfl dX6_init_201 (fun σ309 eσ309 => ?_)
  replace hf311 := lt_of hf311 σ309 eσ309
  have m315 : hN σ304 ≤ hN σ309 := by rw [eσ309]; exact Nat.le_refl _
  have h313 : isO σ309 6 a0 := by rw [eσ309]; exact h307
  have h314 : isO σ309 10 n305 := by rw [eσ309]; exact h308
  refine j_aload_n X dX6_init_204 0 rfl rfl ?_
  refine j_bipush X (v := 18) dX6_init_205 (by decide) ?_
  refine j_newai X (b := 18) (by decide) (by decide) ⟨Nat.le_of_ble_eq_true rfl, Nat.le_of_ble_eq_true rfl⟩ dX6_init_207 (fun q316 σ317 n318 hq316 eσ317 en318 => ?_)
  replace hf311 := lt_of hf311 n318 en318
  replace hf311 := lt_of hf311 σ317 eσ317
  have m319 : hN σ317 = hN σ309 + 1 := by rw [eσ317]; rfl
  rw [← hq316 a0 h313.1]
  have h320 : isO σ317 6 a0 := isO_nw eσ317 h313
  have h321 : isO σ317 10 n318 := isO_nw0 eσ317 en318
  obtain ⟨h323, hf324⟩ := chk_of hf311; clear hf311
  refine j_putrF X fp_X6_86 h320 h323 rfl (hin rfl) rfl dX6_init_209 (fun σ322 eσ322 => ?_)
  replace hf324 := lt_of hf324 σ322 eσ322
  have m328 : hN σ317 ≤ hN σ322 := by rw [eσ322]; exact Nat.le_refl _
  have h326 : isO σ322 6 a0 := by rw [eσ322]; exact h320
  have h327 : isO σ322 10 n318 := by rw [eσ322]; exact h321
  refine j_aload_n X dX6_init_212 0 rfl rfl ?_
  refine j_iconst X (v := 4) dX6_init_213 (by decide) ?_
  refine j_newai X (b := 4) (by decide) (by decide) ⟨Nat.le_of_ble_eq_true rfl, Nat.le_of_ble_eq_true rfl⟩ dX6_init_214 (fun q329 σ330 n331 hq329 eσ330 en331 => ?_)
  replace hf324 := lt_of hf324 n331 en331
  replace hf324 := lt_of hf324 σ330 eσ330
  have m332 : hN σ330 = hN σ322 + 1 := by rw [eσ330]; rfl
  rw [← hq329 a0 h326.1]
  have h333 : isO σ330 6 a0 := isO_nw eσ330 h326
  have h334 : isO σ330 10 n331 := isO_nw0 eσ330 en331
  refine j_dup X dX6_init_216 rfl ?_
  refine j_iconst X (v := 0) dX6_init_217 (by decide) ?_
  refine j_iconst X (v := -1) dX6_init_218 (by decide) ?_
  obtain ⟨h335, hf336⟩ := chk_of hf324; clear hf324
  refine j_iast X h335 dX6_init_219 (fun σ337 eσ337 => ?_)
  replace hf336 := lt_of hf336 σ337 eσ337
  have m341 : hN σ330 ≤ hN σ337 := by rw [eσ337]; exact Nat.le_refl _
  have h339 : isO σ337 6 a0 := by rw [eσ337]; exact h333
  have h340 : isO σ337 10 n331 := by rw [eσ337]; exact h334
  refine j_dup X dX6_init_220 rfl ?_
  refine j_iconst X (v := 1) dX6_init_221 (by decide) ?_
  refine j_iconst X (v := -1) dX6_init_222 (by decide) ?_
  obtain ⟨h342, hf343⟩ := chk_of hf336; clear hf336
  refine j_iast X h342 dX6_init_223 (fun σ344 eσ344 => ?_)
  replace hf343 := lt_of hf343 σ344 eσ344
  have m348 : hN σ337 ≤ hN σ344 := by rw [eσ344]; exact Nat.le_refl _
  have h346 : isO σ344 6 a0 := by rw [eσ344]; exact h339
  have h347 : isO σ344 10 n331 := by rw [eσ344]; exact h340
  refine j_dup X dX6_init_224 rfl ?_
  refine j_iconst X (v := 2) dX6_init_225 (by decide) ?_
  refine j_iconst X (v := -1) dX6_init_226 (by decide) ?_
  obtain ⟨h349, hf350⟩ := chk_of hf343; clear hf343
  refine j_iast X h349 dX6_init_227 (fun σ351 eσ351 => ?_)
  replace hf350 := lt_of hf350 σ351 eσ351
  have m355 : hN σ344 ≤ hN σ351 := by rw [eσ351]; exact Nat.le_refl _
  have h353 : isO σ351 6 a0 := by rw [eσ351]; exact h346
  have h354 : isO σ351 10 n331 := by rw [eσ351]; exact h347
  refine j_dup X dX6_init_228 rfl ?_
  refine j_iconst X (v := 3) dX6_init_229 (by decide) ?_
  refine j_iconst X (v := -1) dX6_init_230 (by decide) ?_
  obtain ⟨h356, hf357⟩ := chk_of hf350; clear hf350
  refine j_iast X h356 dX6_init_231 (fun σ358 eσ358 => ?_)
  replace hf357 := lt_of hf357 σ358 eσ358
  have m362 : hN σ351 ≤ hN σ358 := by rw [eσ358]; exact Nat.le_refl _
  have h360 : isO σ358 6 a0 := by rw [eσ358]; exact h353
  have h361 : isO σ358 10 n331 := by rw [eσ358]; exact h354
  obtain ⟨h364, hf365⟩ := chk_of hf357; clear hf357
  refine j_putrF X fp_X6_89 h360 h364 rfl (hin rfl) rfl dX6_init_232 (fun σ363 eσ363 => ?_)
  replace hf365 := lt_of hf365 σ363 eσ363
  have m369 : hN σ358 ≤ hN σ363 := by rw [eσ363]; exact Nat.le_refl _
  have h367 : isO σ363 6 a0 := by rw [eσ363]; exact h360
  have h368 : isO σ363 10 n331 := by rw [eσ363]; exact h361
  refine j_aload_n X dX6_init_235 0 rfl rfl ?_
  refine j_bipush X (v := 32) dX6_init_236 (by decide) ?_
  refine j_newal X (b := 32) (by decide) (by decide) ⟨Nat.le_of_ble_eq_true rfl, Nat.le_of_ble_eq_true rfl⟩ dX6_init_238 (fun q370 σ371 n372 hq370 eσ371 en372 => ?_)
  replace hf365 := lt_of hf365 n372 en372
  replace hf365 := lt_of hf365 σ371 eσ371
  have m373 : hN σ371 = hN σ363 + 1 := by rw [eσ371]; rfl
  rw [← hq370 a0 h367.1]
  have h374 : isO σ371 6 a0 := isO_nw eσ371 h367
  have h375 : isO σ371 12 n372 := isO_nw0 eσ371 en372
  obtain ⟨h377, hf378⟩ := chk_of hf365; clear hf365
  refine j_putrF X fp_X6_92 h374 h377 rfl (hin rfl) rfl dX6_init_240 (fun σ376 eσ376 => ?_)
  replace hf378 := lt_of hf378 σ376 eσ376
  have m382 : hN σ371 ≤ hN σ376 := by rw [eσ376]; exact Nat.le_refl _
  have h380 : isO σ376 6 a0 := by rw [eσ376]; exact h374
  have h381 : isO σ376 12 n372 := by rw [eσ376]; exact h375
  refine j_iconst X (v := 0) dX6_init_243 (by decide) ?_
  refine j_nmi (fun v383 ev383 => ?_)
  replace hf378 := lt_of hf378 v383 ev383
  refine j_istore_n X (lv' := [(1, .int v383), (0, .ref (q370 a0))]) dX6_init_244 rfl (by decide) rfl ?_
  refine j_lvsub [1, 0] (lv' := [(0, .ref (q370 a0)), (1, .int v383)]) rfl ?_
  exact L245 q370 (fun j hj => by rw [hq370 j (by omega), hq329 j (by omega), hq316 j (by omega), hq303 j (by omega), hq290 j (by omega), hq277 j (by omega), hq264 j (by omega), hq251 j (by omega), hq238 j (by omega), hq225 j (by omega), hq212 j (by omega), hq199 j (by omega), hq186 j (by omega), hq173 j (by omega), hq160 j (by omega), hq147 j (by omega), hq134 j (by omega), hq121 j (by omega), hq108 j (by omega), hq95 j (by omega), hq82 j (by omega), hq69 j (by omega), hq56 j (by omega), hq43 j (by omega), hq30 j (by omega), hq17 j (by omega), hq3 j (by omega)])  1000 a0 v383 σ376 (by omega) hf378
