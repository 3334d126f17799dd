abbrev rm_X5_init : Room := { frames := 3, cells := 48, slots := 1400, locals := 192 }
set_option maxHeartbeats 4000000 in
set_option maxRecDepth 100000 in
theorem c_X5_init (l : Launch) (D : va_G) (cs : Nat → ClassId) (q : Nat → Nat) (a0 : Nat) (σ σ0 : HS) (r0 : Unit) (hf0 : f_X5_init a0 σ = some (r0, σ0)) : MT l yX5_init (Cond.code yX5_init cX5_init 1 none :: lw_g) rm_X5_init D cs q σ σ0 [.ref (q a0)] (fun q1 => (∀ j : Nat, j < hN σ → q1 j = q j) ∧ hN σ ≤ hN σ0) (fun _ => none) 48 1400 := by
  unfold f_X5_init at hf0
  refine MT_of (cc := cX5_init) (lv0 := [(0, .ref (q a0))]) (by decide) (Nat.le_of_ble_eq_true rfl) rfl (fun p e s m args below meth c A X hr hlk hin => ?_)
  refine j_aload_n X dX5_init_0 0 rfl rfl ?_
  refine j_objInit X ml_X5_5 (Nat.le_of_ble_eq_true rfl) (Nat.le_of_ble_eq_true rfl) dX5_init_1 ?_
  refine j_aload_n X dX5_init_4 0 rfl rfl ?_
  obtain ⟨h1, hf2⟩ := chk_of hf0; clear hf0
  refine j_new X nf_X5_11 ⟨Nat.le_of_ble_eq_true rfl, Nat.le_of_ble_eq_true rfl⟩ dX5_init_5 (fun q3 σ4 n5 hq3 eσ4 en5 => ?_)
  replace hf2 := lt_of hf2 n5 en5
  replace hf2 := lt_of hf2 σ4 eσ4
  have m6 : hN σ4 = hN σ + 1 := by rw [eσ4]; rfl
  rw [← hq3 a0 h1]
  have h7 : isO σ4 2 n5 := isO_nw0 eσ4 en5
  refine j_dup X dX5_init_8 rfl ?_
  obtain ⟨h12, hf13⟩ := chk_of hf2; clear hf2
  obtain ⟨r8, σ9, h10, hf11⟩ := bc_of hf13; clear hf13
  refine j_callI X (As := []) (rest := [.ref (q3 n5), .ref (q3 a0)]) (c_X2_init l D cs q3 n5 σ4 _ _ h10) mk_X2_init mv_X2_init ml_X5_13 ⟨rfl, rfl⟩ ⟨Nat.le_of_ble_eq_true rfl, Nat.le_of_ble_eq_true rfl⟩ rfl (Nat.le_of_ble_eq_true rfl) ⟨Nat.le_of_ble_eq_true rfl, Nat.le_of_ble_eq_true rfl⟩ dX5_init_9 rfl (fun z => [.ref (q3 n5), .ref (q3 a0)]) (fun _ => rfl) (fun q14 hq14 => ?_)
  obtain ⟨hq14, m15⟩ := hq14
  rw [← hq14 a0 h12, ← hq14 n5 h7.1]
  obtain ⟨h16, hf17⟩ := chk_of hf11; clear hf11
  obtain ⟨h19, hf20⟩ := chk_of hf17; clear hf17
  refine j_putrF X fp_X5_14 h16 h19 rfl (hin rfl) rfl dX5_init_12 (fun σ18 eσ18 => ?_)
  replace hf20 := lt_of hf20 σ18 eσ18
  have m23 : hN σ9 ≤ hN σ18 := by rw [eσ18]; exact Nat.le_refl _
  have h22 : isO σ18 5 a0 := by rw [eσ18]; exact h16
  refine j_aload_n X dX5_init_15 0 rfl rfl ?_
  refine j_new X nf_X5_11 ⟨Nat.le_of_ble_eq_true rfl, Nat.le_of_ble_eq_true rfl⟩ dX5_init_16 (fun q24 σ25 n26 hq24 eσ25 en26 => ?_)
  replace hf20 := lt_of hf20 n26 en26
  replace hf20 := lt_of hf20 σ25 eσ25
  have m27 : hN σ25 = hN σ18 + 1 := by rw [eσ25]; rfl
  rw [← hq24 a0 h22.1]
  have h28 : isO σ25 5 a0 := isO_nw eσ25 h22
  have h29 : isO σ25 2 n26 := isO_nw0 eσ25 en26
  refine j_dup X dX5_init_19 rfl ?_
  obtain ⟨r30, σ31, h32, hf33⟩ := bc_of hf20; clear hf20
  refine j_callI X (As := []) (rest := [.ref (q24 n26), .ref (q24 a0)]) (c_X2_init l D cs q24 n26 σ25 _ _ h32) mk_X2_init mv_X2_init ml_X5_13 ⟨rfl, rfl⟩ ⟨Nat.le_of_ble_eq_true rfl, Nat.le_of_ble_eq_true rfl⟩ rfl (Nat.le_of_ble_eq_true rfl) ⟨Nat.le_of_ble_eq_true rfl, Nat.le_of_ble_eq_true rfl⟩ dX5_init_20 rfl (fun z => [.ref (q24 n26), .ref (q24 a0)]) (fun _ => rfl) (fun q34 hq34 => ?_)
  obtain ⟨hq34, m35⟩ := hq34
  rw [← hq34 a0 h28.1, ← hq34 n26 h29.1]
  obtain ⟨h36, hf37⟩ := chk_of hf33; clear hf33
  obtain ⟨h39, hf40⟩ := chk_of hf37; clear hf37
  refine j_putrF X fp_X5_18 h36 h39 rfl (hin rfl) rfl dX5_init_23 (fun σ38 eσ38 => ?_)
  replace hf40 := lt_of hf40 σ38 eσ38
  have m43 : hN σ31 ≤ hN σ38 := by rw [eσ38]; exact Nat.le_refl _
  have h42 : isO σ38 5 a0 := by rw [eσ38]; exact h36
  refine j_aload_n X dX5_init_26 0 rfl rfl ?_
  refine j_iconst X (v := 0) dX5_init_27 (by decide) ?_
  refine j_putz X fp_X5_21 h42 (Or.inl rfl) dX5_init_28 (fun σ44 eσ44 => ?_)
  replace hf40 := lt_of hf40 σ44 eσ44
  have m47 : hN σ38 ≤ hN σ44 := by rw [eσ44]; exact Nat.le_refl _
  have h46 : isO σ44 5 a0 := by rw [eσ44]; exact h42
  refine j_aload_n X dX5_init_31 0 rfl rfl ?_
  refine j_new X nf_X5_25 ⟨Nat.le_of_ble_eq_true rfl, Nat.le_of_ble_eq_true rfl⟩ dX5_init_32 (fun q48 σ49 n50 hq48 eσ49 en50 => ?_)
  replace hf40 := lt_of hf40 n50 en50
  replace hf40 := lt_of hf40 σ49 eσ49
  have m51 : hN σ49 = hN σ44 + 1 := by rw [eσ49]; rfl
  rw [← hq48 a0 h46.1]
  have h52 : isO σ49 5 a0 := isO_nw eσ49 h46
  have h53 : isO σ49 3 n50 := isO_nw0 eσ49 en50
  refine j_dup X dX5_init_35 rfl ?_
  obtain ⟨r54, σ55, h56, hf57⟩ := bc_of hf40; clear hf40
  refine j_callIN2 X (As := []) (rest := [.ref (q48 n50), .ref (q48 a0)]) (c_X3_init l D cs q48 n50 σ49 _ _ h56) mk_X3_init mv_X3_init mn_X5_27 ⟨rfl, rfl⟩ ⟨Nat.le_of_ble_eq_true rfl, Nat.le_of_ble_eq_true rfl⟩ rfl (Nat.le_of_ble_eq_true rfl) ⟨Nat.le_of_ble_eq_true rfl, Nat.le_of_ble_eq_true rfl⟩ dX5_init_36 rfl (fun z => [.ref (q48 n50), .ref (q48 a0)]) (fun _ => rfl) (fun q58 hq58 => ?_)
  obtain ⟨hq58, m59⟩ := hq58
  rw [← hq58 a0 h52.1, ← hq58 n50 h53.1]
  obtain ⟨h60, hf61⟩ := chk_of hf57; clear hf57
  obtain ⟨h63, hf64⟩ := chk_of hf61; clear hf61
  refine j_putrF X fp_X5_28 h60 h63 rfl (hin rfl) rfl dX5_init_39 (fun σ62 eσ62 => ?_)
  replace hf64 := lt_of hf64 σ62 eσ62
  have m67 : hN σ55 ≤ hN σ62 := by rw [eσ62]; exact Nat.le_refl _
  have h66 : isO σ62 5 a0 := by rw [eσ62]; exact h60
  refine j_aload_n X dX5_init_42 0 rfl rfl ?_
  refine j_new X nf_X5_32 ⟨Nat.le_of_ble_eq_true rfl, Nat.le_of_ble_eq_true rfl⟩ dX5_init_43 (fun q68 σ69 n70 hq68 eσ69 en70 => ?_)
  replace hf64 := lt_of hf64 n70 en70
  replace hf64 := lt_of hf64 σ69 eσ69
  have m71 : hN σ69 = hN σ62 + 1 := by rw [eσ69]; rfl
  rw [← hq68 a0 h66.1]
  have h72 : isO σ69 5 a0 := isO_nw eσ69 h66
  have h73 : isO σ69 4 n70 := isO_nw0 eσ69 en70
  refine j_dup X dX5_init_46 rfl ?_
  obtain ⟨r74, σ75, h76, hf77⟩ := bc_of hf64; clear hf64
  refine j_callIN2 X (As := []) (rest := [.ref (q68 n70), .ref (q68 a0)]) (c_X4_init l D cs q68 n70 σ69 _ _ h76) mk_X4_init mv_X4_init mn_X5_34 ⟨rfl, rfl⟩ ⟨Nat.le_of_ble_eq_true rfl, Nat.le_of_ble_eq_true rfl⟩ rfl (Nat.le_of_ble_eq_true rfl) ⟨Nat.le_of_ble_eq_true rfl, Nat.le_of_ble_eq_true rfl⟩ dX5_init_47 rfl (fun z => [.ref (q68 n70), .ref (q68 a0)]) (fun _ => rfl) (fun q78 hq78 => ?_)
  obtain ⟨hq78, m79⟩ := hq78
  rw [← hq78 a0 h72.1, ← hq78 n70 h73.1]
  obtain ⟨h80, hf81⟩ := chk_of hf77; clear hf77
  obtain ⟨h83, hf84⟩ := chk_of hf81; clear hf81
  refine j_putrF X fp_X5_35 h80 h83 rfl (hin rfl) rfl dX5_init_50 (fun σ82 eσ82 => ?_)
  replace hf84 := lt_of hf84 σ82 eσ82
  have m87 : hN σ75 ≤ hN σ82 := by rw [eσ82]; exact Nat.le_refl _
  have h86 : isO σ82 5 a0 := by rw [eσ82]; exact h80
  refine j_aload_n X dX5_init_53 0 rfl rfl ?_
  refine j_iconst X (v := 4) dX5_init_54 (by decide) ?_
  refine j_bipush X (v := 8) dX5_init_55 (by decide) ?_
  refine j_mna X cl_X5_39 ⟨Nat.le_of_ble_eq_true rfl, Nat.le_of_ble_eq_true rfl⟩ dX5_init_57 (fun q88 σ89 n90 hq88 eσ89 en90 => ?_)
  replace hf84 := lt_of hf84 n90 en90
  replace hf84 := lt_of hf84 σ89 eσ89
  have m91 : hN σ89 = hN σ82 + 5 := by rw [eσ89]; rfl
  rw [← hq88 a0 h86.1]
  have h92 : isO σ89 5 a0 := isO_nwM eσ89 h86
  have h93 : isO σ89 14 n90 := isO_nwM0 eσ89 en90
  obtain ⟨h95, hf96⟩ := chk_of hf84; clear hf84
  refine j_putrF X fp_X5_41 h92 h95 rfl (hin rfl) rfl dX5_init_61 (fun σ94 eσ94 => ?_)
  replace hf96 := lt_of hf96 σ94 eσ94
  have m100 : hN σ89 ≤ hN σ94 := by rw [eσ94]; exact Nat.le_refl _
  have h98 : isO σ94 5 a0 := by rw [eσ94]; exact h92
  have h99 : isO σ94 14 n90 := by rw [eσ94]; exact h93
  refine j_aload_n X dX5_init_64 0 rfl rfl ?_
  refine j_iconst X (v := 4) dX5_init_65 (by decide) ?_
  refine j_newai X (b := 4) (by decide) (by decide) ⟨Nat.le_of_ble_eq_true rfl, Nat.le_of_ble_eq_true rfl⟩ dX5_init_66 (fun q101 σ102 n103 hq101 eσ102 en103 => ?_)
  replace hf96 := lt_of hf96 n103 en103
  replace hf96 := lt_of hf96 σ102 eσ102
  have m104 : hN σ102 = hN σ94 + 1 := by rw [eσ102]; rfl
  rw [← hq101 a0 h98.1]
  have h105 : isO σ102 5 a0 := isO_nw eσ102 h98
  have h106 : isO σ102 10 n103 := isO_nw0 eσ102 en103
  obtain ⟨h108, hf109⟩ := chk_of hf96; clear hf96
  refine j_putrF X fp_X5_44 h105 h108 rfl (hin rfl) rfl dX5_init_68 (fun σ107 eσ107 => ?_)
  replace hf109 := lt_of hf109 σ107 eσ107
  have m113 : hN σ102 ≤ hN σ107 := by rw [eσ107]; exact Nat.le_refl _
  have h111 : isO σ107 5 a0 := by rw [eσ107]; exact h105
  have h112 : isO σ107 10 n103 := by rw [eσ107]; exact h106
  refine j_aload_n X dX5_init_71 0 rfl rfl ?_
  refine j_bipush X (v := 60) dX5_init_72 (by decide) ?_
  refine j_newai X (b := 60) (by decide) (by decide) ⟨Nat.le_of_ble_eq_true rfl, Nat.le_of_ble_eq_true rfl⟩ dX5_init_74 (fun q114 σ115 n116 hq114 eσ115 en116 => ?_)
  replace hf109 := lt_of hf109 n116 en116
  replace hf109 := lt_of hf109 σ115 eσ115
  have m117 : hN σ115 = hN σ107 + 1 := by rw [eσ115]; rfl
  rw [← hq114 a0 h111.1]
  have h118 : isO σ115 5 a0 := isO_nw eσ115 h111
  have h119 : isO σ115 10 n116 := isO_nw0 eσ115 en116
  obtain ⟨h121, hf122⟩ := chk_of hf109; clear hf109
  refine j_putrF X fp_X5_48 h118 h121 rfl (hin rfl) rfl dX5_init_76 (fun σ120 eσ120 => ?_)
  replace hf122 := lt_of hf122 σ120 eσ120
  have m126 : hN σ115 ≤ hN σ120 := by rw [eσ120]; exact Nat.le_refl _
  have h124 : isO σ120 5 a0 := by rw [eσ120]; exact h118
  have h125 : isO σ120 10 n116 := by rw [eσ120]; exact h119
  refine j_aload_n X dX5_init_79 0 rfl rfl ?_
  refine j_iconst X (v := 0) dX5_init_80 (by decide) ?_
  refine j_puti X fp_X5_51 h124 dX5_init_81 (fun σ127 eσ127 => ?_)
  replace hf122 := lt_of hf122 σ127 eσ127
  have m130 : hN σ120 ≤ hN σ127 := by rw [eσ127]; exact Nat.le_refl _
  have h129 : isO σ127 5 a0 := by rw [eσ127]; exact h124
  refine j_aload_n X dX5_init_84 0 rfl rfl ?_
  obtain ⟨i131, h132, hf133⟩ := bd_of hf122; clear hf122
  refine j_getr X fd_X5_44 h129 h132 dX5_init_85 ?_
  refine j_bipush X (v := -11) dX5_init_88 (by decide) ?_
  obtain ⟨r134, σ135, h136, hf137⟩ := bc_of hf133; clear hf133
  refine j_callS0 X [.ref (q114 i131), .int (-11 : Int32)] [] (c_J7_fill_53178 l D cs q114 i131 (-11 : Int32) σ127 _ _ h136) mk_J7_fill_53178 ms_J7_fill_53178 ml_X5_55 ⟨rfl, rfl⟩ ⟨Nat.le_of_ble_eq_true rfl, Nat.le_of_ble_eq_true rfl⟩ rfl (Nat.le_of_ble_eq_true rfl) ⟨Nat.le_of_ble_eq_true rfl, Nat.le_of_ble_eq_true rfl⟩ dX5_init_90 rfl (st' := []) rfl ?_
  obtain ⟨h138, hf139⟩ := chk_of hf137; clear hf137
  obtain ⟨er, es⟩ := rt_of hf139
  exact j_retv X hr hlk (Nat.le_of_ble_eq_true rfl) (Nat.le_of_ble_eq_true rfl) ⟨(fun j hj => by rw [hq114 j (by omega), hq101 j (by omega), hq88 j (by omega), hq78 j (by omega), hq68 j (by omega), hq58 j (by omega), hq48 j (by omega), hq34 j (by omega), hq24 j (by omega), hq14 j (by omega), hq3 j (by omega)]), by rw [es]; omega⟩ es.symm rfl dX5_init_93
